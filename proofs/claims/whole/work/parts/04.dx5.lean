set_option maxRecDepth 20000 in
theorem ggX5_init_X4_init : GoodIn wsX5_init wsX4_init := goodIn_r _ [24, 25, 2, 3, 26, 27, 28, 29, 30, 31, 32, 33, 34, 35, 36, 37, 58, 59, 60, 61, 62, 63, 64, 65] (by decide +kernel) (by decide +kernel)
set_option maxRecDepth 20000 in
theorem gX5_init_X4_init_n11 : GoodIn wsX5_init (wsX4_init) := ggX5_init_X4_init
set_option maxRecDepth 20000 in
theorem ggX5_init_X2_init : GoodIn wsX5_init wsX2_init := goodIn_r _ [39, 40, 2, 3, 26, 41, 42, 43, 74, 75, 76, 77] (by decide +kernel) (by decide +kernel)
set_option maxRecDepth 20000 in
theorem gX5_init_X2_init_n18 : GoodIn wsX5_init (wsX2_init) := ggX5_init_X2_init
set_option maxRecDepth 20000 in
theorem ggX5_init_X0_init : GoodIn wsX5_init wsX0_init := goodIn_r _ [45, 46, 2, 3, 26, 47, 48, 49, 50, 51, 35, 36, 37, 78, 79, 80, 81, 82, 83] (by decide +kernel) (by decide +kernel)
set_option maxRecDepth 20000 in
theorem gX5_init_X0_init_n35 : GoodIn wsX5_init (wsX0_init) := ggX5_init_X0_init
set_option maxRecDepth 20000 in
theorem ggX5_init_X1_init : GoodIn wsX5_init wsX1_init := goodIn_r _ [53, 54, 2, 3, 26, 55, 56, 57, 84, 85, 86, 87, 88, 89, 90, 91, 92, 93] (by decide +kernel) (by decide +kernel)
set_option maxRecDepth 20000 in
theorem gX5_init_X1_init_n38 : GoodIn wsX5_init (wsX1_init) := ggX5_init_X1_init
theorem dX5_init_0 : decode cX5_init 0 = .ok (.aload_n 0, 1) := by decide +kernel
theorem dX5_init_1 : decode cX5_init 1 = .ok (.invokespecial 3, 3) := by decide +kernel
theorem dX5_init_4 : decode cX5_init 4 = .ok (.aload_n 0, 1) := by decide +kernel
theorem dX5_init_5 : decode cX5_init 5 = .ok (.new 9, 3) := by decide +kernel
theorem dX5_init_8 : decode cX5_init 8 = .ok (.dup, 1) := by decide +kernel
theorem dX5_init_9 : decode cX5_init 9 = .ok (.invokespecial 11, 3) := by decide +kernel
theorem dX5_init_12 : decode cX5_init 12 = .ok (.putfield 12, 3) := by decide +kernel
theorem dX5_init_15 : decode cX5_init 15 = .ok (.aload_n 0, 1) := by decide +kernel
theorem dX5_init_16 : decode cX5_init 16 = .ok (.new 16, 3) := by decide +kernel
theorem dX5_init_19 : decode cX5_init 19 = .ok (.dup, 1) := by decide +kernel
theorem dX5_init_20 : decode cX5_init 20 = .ok (.invokespecial 18, 3) := by decide +kernel
theorem dX5_init_23 : decode cX5_init 23 = .ok (.putfield 19, 3) := by decide +kernel
theorem dX5_init_26 : decode cX5_init 26 = .ok (.aload_n 0, 1) := by decide +kernel
theorem dX5_init_27 : decode cX5_init 27 = .ok (.bipush 8, 2) := by decide +kernel
theorem dX5_init_29 : decode cX5_init 29 = .ok (.anewarray 23, 3) := by decide +kernel
theorem dX5_init_32 : decode cX5_init 32 = .ok (.putfield 25, 3) := by decide +kernel
theorem dX5_init_35 : decode cX5_init 35 = .ok (.aload_n 0, 1) := by decide +kernel
theorem dX5_init_36 : decode cX5_init 36 = .ok (.bipush 6, 2) := by decide +kernel
theorem dX5_init_38 : decode cX5_init 38 = .ok (.anewarray 29, 3) := by decide +kernel
theorem dX5_init_41 : decode cX5_init 41 = .ok (.putfield 31, 3) := by decide +kernel
theorem dX5_init_44 : decode cX5_init 44 = .ok (.iconst 0, 1) := by decide +kernel
theorem dX5_init_45 : decode cX5_init 45 = .ok (.istore_n 1, 1) := by decide +kernel
theorem dX5_init_46 : decode cX5_init 46 = .ok (.iload_n 1, 1) := by decide +kernel
theorem dX5_init_47 : decode cX5_init 47 = .ok (.bipush 6, 2) := by decide +kernel
theorem dX5_init_49 : decode cX5_init 49 = .ok (.if_icmp .ge 22, 3) := by decide +kernel
theorem dX5_init_52 : decode cX5_init 52 = .ok (.aload_n 0, 1) := by decide +kernel
theorem dX5_init_53 : decode cX5_init 53 = .ok (.getfield 31, 3) := by decide +kernel
theorem dX5_init_56 : decode cX5_init 56 = .ok (.iload_n 1, 1) := by decide +kernel
theorem dX5_init_57 : decode cX5_init 57 = .ok (.new 29, 3) := by decide +kernel
theorem dX5_init_60 : decode cX5_init 60 = .ok (.dup, 1) := by decide +kernel
theorem dX5_init_61 : decode cX5_init 61 = .ok (.invokespecial 35, 3) := by decide +kernel
theorem dX5_init_64 : decode cX5_init 64 = .ok (.aastore, 1) := by decide +kernel
theorem dX5_init_65 : decode cX5_init 65 = .ok (.iinc 1 1, 3) := by decide +kernel
theorem dX5_init_68 : decode cX5_init 68 = .ok (.goto (-22), 3) := by decide +kernel
theorem dX5_init_71 : decode cX5_init 71 = .ok (.aload_n 0, 1) := by decide +kernel
theorem dX5_init_72 : decode cX5_init 72 = .ok (.new 36, 3) := by decide +kernel
theorem dX5_init_75 : decode cX5_init 75 = .ok (.dup, 1) := by decide +kernel
theorem dX5_init_76 : decode cX5_init 76 = .ok (.invokespecial 38, 3) := by decide +kernel
theorem dX5_init_79 : decode cX5_init 79 = .ok (.putfield 39, 3) := by decide +kernel
theorem dX5_init_82 : decode cX5_init 82 = .ok (.aload_n 0, 1) := by decide +kernel
theorem dX5_init_83 : decode cX5_init 83 = .ok (.sipush 9999, 3) := by decide +kernel
theorem dX5_init_86 : decode cX5_init 86 = .ok (.putfield 43, 3) := by decide +kernel
theorem dX5_init_89 : decode cX5_init 89 = .ok (.return_, 1) := by decide +kernel
set_option maxRecDepth 20000 in
theorem ggX5_file_X5_isWithin : GoodIn wsX5_file wsX5_isWithin := goodIn_r _ [5] (by decide +kernel) (by decide +kernel)
set_option maxRecDepth 20000 in
theorem gX5_file_X5_isWithin : GoodIn wsX5_file (va_wsS RX5 47 yX5_isWithin wsX5_isWithin) := goodIn_app (goodIn_of _ (by decide +kernel)) ggX5_file_X5_isWithin
set_option maxRecDepth 20000 in
theorem ggX5_file_X4_addFile : GoodIn wsX5_file wsX4_addFile := goodIn_r _ [9, 10, 11, 20, 21, 22, 23, 24, 25, 26, 27] (by decide +kernel) (by decide +kernel)
set_option maxRecDepth 20000 in
theorem gX5_file_X4_addFile_n51 : GoodIn wsX5_file (wsX4_addFile) := ggX5_file_X4_addFile
theorem dX5_file_0 : decode cX5_file 0 = .ok (.iload_n 1, 1) := by decide +kernel
theorem dX5_file_1 : decode cX5_file 1 = .ok (.iconst 1, 1) := by decide +kernel
theorem dX5_file_2 : decode cX5_file 2 = .ok (.sipush 500, 3) := by decide +kernel
theorem dX5_file_5 : decode cX5_file 5 = .ok (.invokestatic 47, 3) := by decide +kernel
theorem dX5_file_8 : decode cX5_file 8 = .ok (.ifCond .ne 5, 3) := by decide +kernel
theorem dX5_file_11 : decode cX5_file 11 = .ok (.iconst (-1), 1) := by decide +kernel
theorem dX5_file_12 : decode cX5_file 12 = .ok (.ireturn, 1) := by decide +kernel
theorem dX5_file_13 : decode cX5_file 13 = .ok (.aload_n 0, 1) := by decide +kernel
theorem dX5_file_14 : decode cX5_file 14 = .ok (.getfield 12, 3) := by decide +kernel
theorem dX5_file_17 : decode cX5_file 17 = .ok (.iload_n 1, 1) := by decide +kernel
theorem dX5_file_18 : decode cX5_file 18 = .ok (.invokevirtual 51, 3) := by decide +kernel
theorem dX5_file_21 : decode cX5_file 21 = .ok (.ireturn, 1) := by decide +kernel
set_option maxRecDepth 20000 in
theorem ggX5_put_X4_addPut : GoodIn wsX5_put wsX4_addPut := goodIn_r _ [6, 7, 8, 9, 10, 11, 12, 13, 4, 14, 15, 16, 17, 18, 19, 20, 21, 22, 23, 24, 25, 26, 27, 28, 29, 30, 31, 32, 33, 34, 35, 36, 37, 38, 39, 40, 41, 42, 43, 44, 45, 46, 47, 48, 49, 50, 59, 60, 61, 62, 63, 64, 65, 66] (by decide +kernel) (by decide +kernel)
set_option maxRecDepth 20000 in
theorem gX5_put_X4_addPut_n58 : GoodIn wsX5_put (wsX4_addPut) := ggX5_put_X4_addPut
theorem dX5_put_0 : decode cX5_put 0 = .ok (.aload_n 0, 1) := by decide +kernel
theorem dX5_put_1 : decode cX5_put 1 = .ok (.getfield 12, 3) := by decide +kernel
theorem dX5_put_4 : decode cX5_put 4 = .ok (.iload_n 1, 1) := by decide +kernel
theorem dX5_put_5 : decode cX5_put 5 = .ok (.iload_n 2, 1) := by decide +kernel
theorem dX5_put_6 : decode cX5_put 6 = .ok (.aload_n 0, 1) := by decide +kernel
theorem dX5_put_7 : decode cX5_put 7 = .ok (.getfield 55, 3) := by decide +kernel
theorem dX5_put_10 : decode cX5_put 10 = .ok (.invokevirtual 58, 3) := by decide +kernel
theorem dX5_put_13 : decode cX5_put 13 = .ok (.ireturn, 1) := by decide +kernel
set_option maxRecDepth 20000 in
theorem ggX5_yank_X4_addYank : GoodIn wsX5_yank wsX4_addYank := goodIn_r _ [6, 7, 8, 9, 10, 11, 12, 4, 13, 14, 15, 16, 17, 18, 19, 20, 21, 22, 23, 24, 25, 26, 27, 28, 29, 30, 31, 32, 33, 34, 35, 36, 37, 38, 39, 40, 41, 42, 43, 44, 45, 46, 47, 56, 57, 58, 59, 60, 61, 62, 63] (by decide +kernel) (by decide +kernel)
set_option maxRecDepth 20000 in
theorem gX5_yank_X4_addYank_n62 : GoodIn wsX5_yank (wsX4_addYank) := ggX5_yank_X4_addYank
theorem dX5_yank_0 : decode cX5_yank 0 = .ok (.aload_n 0, 1) := by decide +kernel
theorem dX5_yank_1 : decode cX5_yank 1 = .ok (.getfield 12, 3) := by decide +kernel
theorem dX5_yank_4 : decode cX5_yank 4 = .ok (.iload_n 1, 1) := by decide +kernel
theorem dX5_yank_5 : decode cX5_yank 5 = .ok (.aload_n 0, 1) := by decide +kernel
theorem dX5_yank_6 : decode cX5_yank 6 = .ok (.getfield 55, 3) := by decide +kernel
theorem dX5_yank_9 : decode cX5_yank 9 = .ok (.invokevirtual 62, 3) := by decide +kernel
theorem dX5_yank_12 : decode cX5_yank 12 = .ok (.ireturn, 1) := by decide +kernel
set_option maxRecDepth 20000 in
theorem ggX5_names_X4_namedBy : GoodIn wsX5_names wsX4_namedBy := goodIn_r _ [5, 6, 7, 8, 9, 3, 10, 11, 12, 13, 14, 23, 24, 25, 26, 27, 28, 29, 30] (by decide +kernel) (by decide +kernel)
set_option maxRecDepth 20000 in
theorem gX5_names_X4_namedBy_n66 : GoodIn wsX5_names (wsX4_namedBy) := ggX5_names_X4_namedBy
theorem dX5_names_0 : decode cX5_names 0 = .ok (.aload_n 0, 1) := by decide +kernel
theorem dX5_names_1 : decode cX5_names 1 = .ok (.getfield 12, 3) := by decide +kernel
theorem dX5_names_4 : decode cX5_names 4 = .ok (.iload_n 1, 1) := by decide +kernel
theorem dX5_names_5 : decode cX5_names 5 = .ok (.iload_n 2, 1) := by decide +kernel
theorem dX5_names_6 : decode cX5_names 6 = .ok (.invokevirtual 66, 3) := by decide +kernel
theorem dX5_names_9 : decode cX5_names 9 = .ok (.ireturn, 1) := by decide +kernel
set_option maxRecDepth 20000 in
theorem ggX5_state_X4_hasState : GoodIn wsX5_state wsX4_hasState := goodIn_r _ [6, 7, 47, 48, 49, 50, 51, 52, 53, 54] (by decide +kernel) (by decide +kernel)
set_option maxRecDepth 20000 in
theorem gX5_state_X4_hasState_n69 : GoodIn wsX5_state (wsX4_hasState) := ggX5_state_X4_hasState
set_option maxRecDepth 20000 in
theorem ggX5_state_X4_tickOf : GoodIn wsX5_state wsX4_tickOf := goodIn_r _ [10, 11, 12, 3, 5, 4, 6, 7, 47, 48, 49, 50, 51, 52, 53, 54] (by decide +kernel) (by decide +kernel)
set_option maxRecDepth 20000 in
theorem gX5_state_X4_tickOf_n73 : GoodIn wsX5_state (wsX4_tickOf) := ggX5_state_X4_tickOf
set_option maxRecDepth 20000 in
theorem ggX5_state_X4_ageOf : GoodIn wsX5_state wsX4_ageOf := goodIn_r _ [15, 11, 12, 3, 5, 4, 6, 7, 47, 48, 49, 50, 51, 52, 53, 54] (by decide +kernel) (by decide +kernel)
set_option maxRecDepth 20000 in
theorem gX5_state_X4_ageOf_n76 : GoodIn wsX5_state (wsX4_ageOf) := ggX5_state_X4_ageOf
set_option maxRecDepth 20000 in
theorem ggX5_state_X4_packagesNamedIn : GoodIn wsX5_state wsX4_packagesNamedIn := goodIn_r _ [18, 19, 20, 21, 4, 22, 23, 12, 3, 5, 6, 7, 24, 25, 26, 47, 48, 49, 50, 51, 52, 53, 54] (by decide +kernel) (by decide +kernel)
set_option maxRecDepth 20000 in
theorem gX5_state_X4_packagesNamedIn_n79 : GoodIn wsX5_state (wsX4_packagesNamedIn) := ggX5_state_X4_packagesNamedIn
set_option maxRecDepth 20000 in
theorem ggX5_state_X4_filesOf : GoodIn wsX5_state wsX4_filesOf := goodIn_r _ [29, 30, 12, 3, 5, 4, 6, 7, 47, 48, 49, 50, 51, 52, 53, 54] (by decide +kernel) (by decide +kernel)
set_option maxRecDepth 20000 in
theorem gX5_state_X4_filesOf_n82 : GoodIn wsX5_state (wsX4_filesOf) := ggX5_state_X4_filesOf
set_option maxRecDepth 20000 in
theorem ggX5_state_X4_bytesOf : GoodIn wsX5_state wsX4_bytesOf := goodIn_r _ [33, 34, 35, 36, 25, 37, 38, 24, 26, 47, 48, 49, 50, 51, 52, 53, 54] (by decide +kernel) (by decide +kernel)
set_option maxRecDepth 20000 in
theorem gX5_state_X4_bytesOf_n86 : GoodIn wsX5_state (wsX4_bytesOf) := ggX5_state_X4_bytesOf
theorem dX5_state_0 : decode cX5_state 0 = .ok (.aload_n 0, 1) := by decide +kernel
theorem dX5_state_1 : decode cX5_state 1 = .ok (.getfield 12, 3) := by decide +kernel
theorem dX5_state_4 : decode cX5_state 4 = .ok (.iload_n 1, 1) := by decide +kernel
theorem dX5_state_5 : decode cX5_state 5 = .ok (.invokevirtual 69, 3) := by decide +kernel
theorem dX5_state_8 : decode cX5_state 8 = .ok (.ifCond .ne 5, 3) := by decide +kernel
theorem dX5_state_11 : decode cX5_state 11 = .ok (.iconst (-1), 1) := by decide +kernel
theorem dX5_state_12 : decode cX5_state 12 = .ok (.ireturn, 1) := by decide +kernel
theorem dX5_state_13 : decode cX5_state 13 = .ok (.iload_n 2, 1) := by decide +kernel
theorem dX5_state_14 : decode cX5_state 14 = .ok (.tableswitch 77 0 3 #[30, 39, 52, 61], 30) := by decide +kernel
theorem dX5_state_44 : decode cX5_state 44 = .ok (.aload_n 0, 1) := by decide +kernel
theorem dX5_state_45 : decode cX5_state 45 = .ok (.getfield 12, 3) := by decide +kernel
theorem dX5_state_48 : decode cX5_state 48 = .ok (.iload_n 1, 1) := by decide +kernel
theorem dX5_state_49 : decode cX5_state 49 = .ok (.invokevirtual 73, 3) := by decide +kernel
theorem dX5_state_52 : decode cX5_state 52 = .ok (.ireturn, 1) := by decide +kernel
theorem dX5_state_53 : decode cX5_state 53 = .ok (.aload_n 0, 1) := by decide +kernel
theorem dX5_state_54 : decode cX5_state 54 = .ok (.getfield 12, 3) := by decide +kernel
theorem dX5_state_57 : decode cX5_state 57 = .ok (.iload_n 1, 1) := by decide +kernel
theorem dX5_state_58 : decode cX5_state 58 = .ok (.aload_n 0, 1) := by decide +kernel
theorem dX5_state_59 : decode cX5_state 59 = .ok (.getfield 55, 3) := by decide +kernel
theorem dX5_state_62 : decode cX5_state 62 = .ok (.invokevirtual 76, 3) := by decide +kernel
theorem dX5_state_65 : decode cX5_state 65 = .ok (.ireturn, 1) := by decide +kernel
theorem dX5_state_66 : decode cX5_state 66 = .ok (.aload_n 0, 1) := by decide +kernel
theorem dX5_state_67 : decode cX5_state 67 = .ok (.getfield 12, 3) := by decide +kernel
theorem dX5_state_70 : decode cX5_state 70 = .ok (.iload_n 1, 1) := by decide +kernel
theorem dX5_state_71 : decode cX5_state 71 = .ok (.invokevirtual 79, 3) := by decide +kernel
theorem dX5_state_74 : decode cX5_state 74 = .ok (.ireturn, 1) := by decide +kernel
theorem dX5_state_75 : decode cX5_state 75 = .ok (.aload_n 0, 1) := by decide +kernel
theorem dX5_state_76 : decode cX5_state 76 = .ok (.getfield 12, 3) := by decide +kernel
theorem dX5_state_79 : decode cX5_state 79 = .ok (.aload_n 0, 1) := by decide +kernel
theorem dX5_state_80 : decode cX5_state 80 = .ok (.getfield 12, 3) := by decide +kernel
theorem dX5_state_83 : decode cX5_state 83 = .ok (.iload_n 1, 1) := by decide +kernel
theorem dX5_state_84 : decode cX5_state 84 = .ok (.invokevirtual 82, 3) := by decide +kernel
theorem dX5_state_87 : decode cX5_state 87 = .ok (.invokevirtual 86, 3) := by decide +kernel
theorem dX5_state_90 : decode cX5_state 90 = .ok (.ireturn, 1) := by decide +kernel
theorem dX5_state_91 : decode cX5_state 91 = .ok (.iconst (-1), 1) := by decide +kernel
theorem dX5_state_92 : decode cX5_state 92 = .ok (.ireturn, 1) := by decide +kernel
set_option maxRecDepth 20000 in
theorem ggX5_mirror_X5_isWithin : GoodIn wsX5_mirror wsX5_isWithin := goodIn_r _ [9] (by decide +kernel) (by decide +kernel)
set_option maxRecDepth 20000 in
theorem gX5_mirror_X5_isWithin : GoodIn wsX5_mirror (va_wsS RX5 47 yX5_isWithin wsX5_isWithin) := goodIn_app (goodIn_of _ (by decide +kernel)) ggX5_mirror_X5_isWithin
set_option maxRecDepth 20000 in
theorem ggX5_mirror_X3_init : GoodIn wsX5_mirror wsX3_init := goodIn_r _ [11, 12, 13, 14, 15, 16, 17, 18, 19, 20, 21, 22, 23, 24, 33, 34, 35, 36, 37, 38, 39, 40, 41, 42] (by decide +kernel) (by decide +kernel)
set_option maxRecDepth 20000 in
theorem gX5_mirror_X3_init_n93 : GoodIn wsX5_mirror (wsX3_init) := ggX5_mirror_X3_init
theorem dX5_mirror_0 : decode cX5_mirror 0 = .ok (.aload_n 0, 1) := by decide +kernel
theorem dX5_mirror_1 : decode cX5_mirror 1 = .ok (.getfield 90, 3) := by decide +kernel
theorem dX5_mirror_4 : decode cX5_mirror 4 = .ok (.bipush 8, 2) := by decide +kernel
theorem dX5_mirror_6 : decode cX5_mirror 6 = .ok (.if_icmp .ge 17, 3) := by decide +kernel
theorem dX5_mirror_9 : decode cX5_mirror 9 = .ok (.iload_n 1, 1) := by decide +kernel
theorem dX5_mirror_10 : decode cX5_mirror 10 = .ok (.iconst (-1), 1) := by decide +kernel
theorem dX5_mirror_11 : decode cX5_mirror 11 = .ok (.aload_n 0, 1) := by decide +kernel
theorem dX5_mirror_12 : decode cX5_mirror 12 = .ok (.getfield 90, 3) := by decide +kernel
theorem dX5_mirror_15 : decode cX5_mirror 15 = .ok (.iconst 1, 1) := by decide +kernel
theorem dX5_mirror_16 : decode cX5_mirror 16 = .ok (.isub, 1) := by decide +kernel
theorem dX5_mirror_17 : decode cX5_mirror 17 = .ok (.invokestatic 47, 3) := by decide +kernel
theorem dX5_mirror_20 : decode cX5_mirror 20 = .ok (.ifCond .ne 5, 3) := by decide +kernel
theorem dX5_mirror_23 : decode cX5_mirror 23 = .ok (.iconst (-1), 1) := by decide +kernel
theorem dX5_mirror_24 : decode cX5_mirror 24 = .ok (.ireturn, 1) := by decide +kernel
theorem dX5_mirror_25 : decode cX5_mirror 25 = .ok (.iload_n 2, 1) := by decide +kernel
theorem dX5_mirror_26 : decode cX5_mirror 26 = .ok (.iconst 1, 1) := by decide +kernel
theorem dX5_mirror_27 : decode cX5_mirror 27 = .ok (.sipush 1000, 3) := by decide +kernel
theorem dX5_mirror_30 : decode cX5_mirror 30 = .ok (.invokestatic 47, 3) := by decide +kernel
theorem dX5_mirror_33 : decode cX5_mirror 33 = .ok (.ifCond .eq 12, 3) := by decide +kernel
theorem dX5_mirror_36 : decode cX5_mirror 36 = .ok (.iload_n 3, 1) := by decide +kernel
theorem dX5_mirror_37 : decode cX5_mirror 37 = .ok (.iconst 0, 1) := by decide +kernel
theorem dX5_mirror_38 : decode cX5_mirror 38 = .ok (.iconst 3, 1) := by decide +kernel
theorem dX5_mirror_39 : decode cX5_mirror 39 = .ok (.invokestatic 47, 3) := by decide +kernel
theorem dX5_mirror_42 : decode cX5_mirror 42 = .ok (.ifCond .ne 5, 3) := by decide +kernel
theorem dX5_mirror_45 : decode cX5_mirror 45 = .ok (.iconst (-1), 1) := by decide +kernel
theorem dX5_mirror_46 : decode cX5_mirror 46 = .ok (.ireturn, 1) := by decide +kernel
theorem dX5_mirror_47 : decode cX5_mirror 47 = .ok (.aload_n 0, 1) := by decide +kernel
theorem dX5_mirror_48 : decode cX5_mirror 48 = .ok (.getfield 25, 3) := by decide +kernel
theorem dX5_mirror_51 : decode cX5_mirror 51 = .ok (.aload_n 0, 1) := by decide +kernel
theorem dX5_mirror_52 : decode cX5_mirror 52 = .ok (.getfield 90, 3) := by decide +kernel
theorem dX5_mirror_55 : decode cX5_mirror 55 = .ok (.new 23, 3) := by decide +kernel
theorem dX5_mirror_58 : decode cX5_mirror 58 = .ok (.dup, 1) := by decide +kernel
theorem dX5_mirror_59 : decode cX5_mirror 59 = .ok (.iload_n 1, 1) := by decide +kernel
theorem dX5_mirror_60 : decode cX5_mirror 60 = .ok (.iload_n 2, 1) := by decide +kernel
theorem dX5_mirror_61 : decode cX5_mirror 61 = .ok (.iload_n 3, 1) := by decide +kernel
theorem dX5_mirror_62 : decode cX5_mirror 62 = .ok (.invokespecial 93, 3) := by decide +kernel
theorem dX5_mirror_65 : decode cX5_mirror 65 = .ok (.aastore, 1) := by decide +kernel
theorem dX5_mirror_66 : decode cX5_mirror 66 = .ok (.aload_n 0, 1) := by decide +kernel
theorem dX5_mirror_67 : decode cX5_mirror 67 = .ok (.dup, 1) := by decide +kernel
theorem dX5_mirror_68 : decode cX5_mirror 68 = .ok (.getfield 90, 3) := by decide +kernel
theorem dX5_mirror_71 : decode cX5_mirror 71 = .ok (.iconst 1, 1) := by decide +kernel
theorem dX5_mirror_72 : decode cX5_mirror 72 = .ok (.iadd, 1) := by decide +kernel
theorem dX5_mirror_73 : decode cX5_mirror 73 = .ok (.putfield 90, 3) := by decide +kernel
theorem dX5_mirror_76 : decode cX5_mirror 76 = .ok (.aload_n 0, 1) := by decide +kernel
theorem dX5_mirror_77 : decode cX5_mirror 77 = .ok (.getfield 90, 3) := by decide +kernel
theorem dX5_mirror_80 : decode cX5_mirror 80 = .ok (.iconst 1, 1) := by decide +kernel
theorem dX5_mirror_81 : decode cX5_mirror 81 = .ok (.isub, 1) := by decide +kernel
theorem dX5_mirror_82 : decode cX5_mirror 82 = .ok (.ireturn, 1) := by decide +kernel
set_option maxRecDepth 20000 in
theorem ggX5_speed_X5_mirrorAt : GoodIn wsX5_speed wsX5_mirrorAt := goodIn_r _ [5, 6, 7, 8, 9, 4, 10, 21, 22, 23, 24, 25, 26, 27, 28] (by decide +kernel) (by decide +kernel)
set_option maxRecDepth 20000 in
theorem gX5_speed_X5_mirrorAt : GoodIn wsX5_speed (wsV RX5 96 RX5 yX5_mirrorAt wsX5_mirrorAt) := goodIn_app (goodIn_of _ (by decide +kernel)) ggX5_speed_X5_mirrorAt
set_option maxRecDepth 20000 in
theorem ggX5_speed_X5_isWithin : GoodIn wsX5_speed wsX5_isWithin := goodIn_r _ [10] (by decide +kernel) (by decide +kernel)
set_option maxRecDepth 20000 in
theorem gX5_speed_X5_isWithin : GoodIn wsX5_speed (va_wsS RX5 47 yX5_isWithin wsX5_isWithin) := goodIn_app (goodIn_of _ (by decide +kernel)) ggX5_speed_X5_isWithin
theorem dX5_speed_0 : decode cX5_speed 0 = .ok (.aload_n 0, 1) := by decide +kernel
theorem dX5_speed_1 : decode cX5_speed 1 = .ok (.iload_n 1, 1) := by decide +kernel
theorem dX5_speed_2 : decode cX5_speed 2 = .ok (.invokevirtual 96, 3) := by decide +kernel
theorem dX5_speed_5 : decode cX5_speed 5 = .ok (.astore_n 3, 1) := by decide +kernel
theorem dX5_speed_6 : decode cX5_speed 6 = .ok (.aload_n 3, 1) := by decide +kernel
theorem dX5_speed_7 : decode cX5_speed 7 = .ok (.ifnull 14, 3) := by decide +kernel
theorem dX5_speed_10 : decode cX5_speed 10 = .ok (.iload_n 2, 1) := by decide +kernel
theorem dX5_speed_11 : decode cX5_speed 11 = .ok (.iconst 1, 1) := by decide +kernel
theorem dX5_speed_12 : decode cX5_speed 12 = .ok (.sipush 1000, 3) := by decide +kernel
theorem dX5_speed_15 : decode cX5_speed 15 = .ok (.invokestatic 47, 3) := by decide +kernel
theorem dX5_speed_18 : decode cX5_speed 18 = .ok (.ifCond .ne 5, 3) := by decide +kernel
theorem dX5_speed_21 : decode cX5_speed 21 = .ok (.iconst (-1), 1) := by decide +kernel
theorem dX5_speed_22 : decode cX5_speed 22 = .ok (.ireturn, 1) := by decide +kernel
theorem dX5_speed_23 : decode cX5_speed 23 = .ok (.aload_n 3, 1) := by decide +kernel
theorem dX5_speed_24 : decode cX5_speed 24 = .ok (.getfield 100, 3) := by decide +kernel
theorem dX5_speed_27 : decode cX5_speed 27 = .ok (.istore 4, 2) := by decide +kernel
theorem dX5_speed_29 : decode cX5_speed 29 = .ok (.aload_n 3, 1) := by decide +kernel
theorem dX5_speed_30 : decode cX5_speed 30 = .ok (.iload_n 2, 1) := by decide +kernel
theorem dX5_speed_31 : decode cX5_speed 31 = .ok (.putfield 100, 3) := by decide +kernel
theorem dX5_speed_34 : decode cX5_speed 34 = .ok (.iload 4, 2) := by decide +kernel
theorem dX5_speed_36 : decode cX5_speed 36 = .ok (.ireturn, 1) := by decide +kernel
set_option maxRecDepth 20000 in
theorem ggX5_fall_X5_mirrorAt : GoodIn wsX5_fall wsX5_mirrorAt := goodIn_r _ [7, 8, 9, 10, 11, 6, 12, 21, 22, 23, 24, 25, 26, 27, 28] (by decide +kernel) (by decide +kernel)
set_option maxRecDepth 20000 in
theorem gX5_fall_X5_mirrorAt : GoodIn wsX5_fall (wsV RX5 96 RX5 yX5_mirrorAt wsX5_mirrorAt) := goodIn_app (goodIn_of _ (by decide +kernel)) ggX5_fall_X5_mirrorAt
set_option maxRecDepth 20000 in
theorem ggX5_fall_X5_isWithin : GoodIn wsX5_fall wsX5_isWithin := goodIn_r _ [12] (by decide +kernel) (by decide +kernel)
set_option maxRecDepth 20000 in
theorem gX5_fall_X5_isWithin : GoodIn wsX5_fall (va_wsS RX5 47 yX5_isWithin wsX5_isWithin) := goodIn_app (goodIn_of _ (by decide +kernel)) ggX5_fall_X5_isWithin
set_option maxRecDepth 20000 in
theorem ggX5_fall_X2_add : GoodIn wsX5_fall wsX2_add := goodIn_r _ [16, 17, 18, 19, 20, 29, 30, 31, 32] (by decide +kernel) (by decide +kernel)
set_option maxRecDepth 20000 in
theorem gX5_fall_X2_add_n103 : GoodIn wsX5_fall (wsX2_add) := ggX5_fall_X2_add
theorem dX5_fall_0 : decode cX5_fall 0 = .ok (.aload_n 0, 1) := by decide +kernel
theorem dX5_fall_1 : decode cX5_fall 1 = .ok (.iload_n 1, 1) := by decide +kernel
theorem dX5_fall_2 : decode cX5_fall 2 = .ok (.invokevirtual 96, 3) := by decide +kernel
theorem dX5_fall_5 : decode cX5_fall 5 = .ok (.ifnull 28, 3) := by decide +kernel
theorem dX5_fall_8 : decode cX5_fall 8 = .ok (.iload_n 2, 1) := by decide +kernel
theorem dX5_fall_9 : decode cX5_fall 9 = .ok (.aload_n 0, 1) := by decide +kernel
theorem dX5_fall_10 : decode cX5_fall 10 = .ok (.getfield 55, 3) := by decide +kernel
theorem dX5_fall_13 : decode cX5_fall 13 = .ok (.sipush 9999, 3) := by decide +kernel
theorem dX5_fall_16 : decode cX5_fall 16 = .ok (.invokestatic 47, 3) := by decide +kernel
theorem dX5_fall_19 : decode cX5_fall 19 = .ok (.ifCond .eq 14, 3) := by decide +kernel
theorem dX5_fall_22 : decode cX5_fall 22 = .ok (.iload_n 3, 1) := by decide +kernel
theorem dX5_fall_23 : decode cX5_fall 23 = .ok (.iload_n 2, 1) := by decide +kernel
theorem dX5_fall_24 : decode cX5_fall 24 = .ok (.sipush 9999, 3) := by decide +kernel
theorem dX5_fall_27 : decode cX5_fall 27 = .ok (.invokestatic 47, 3) := by decide +kernel
theorem dX5_fall_30 : decode cX5_fall 30 = .ok (.ifCond .ne 5, 3) := by decide +kernel
theorem dX5_fall_33 : decode cX5_fall 33 = .ok (.iconst (-1), 1) := by decide +kernel
theorem dX5_fall_34 : decode cX5_fall 34 = .ok (.ireturn, 1) := by decide +kernel
theorem dX5_fall_35 : decode cX5_fall 35 = .ok (.aload_n 0, 1) := by decide +kernel
theorem dX5_fall_36 : decode cX5_fall 36 = .ok (.getfield 19, 3) := by decide +kernel
theorem dX5_fall_39 : decode cX5_fall 39 = .ok (.iload_n 1, 1) := by decide +kernel
theorem dX5_fall_40 : decode cX5_fall 40 = .ok (.iload_n 2, 1) := by decide +kernel
theorem dX5_fall_41 : decode cX5_fall 41 = .ok (.iload_n 3, 1) := by decide +kernel
theorem dX5_fall_42 : decode cX5_fall 42 = .ok (.invokevirtual 103, 3) := by decide +kernel
theorem dX5_fall_45 : decode cX5_fall 45 = .ok (.ireturn, 1) := by decide +kernel
set_option maxRecDepth 20000 in
theorem ggX5_lies_X5_mirrorAt : GoodIn wsX5_lies wsX5_mirrorAt := goodIn_r _ [5, 6, 7, 8, 9, 4, 10, 21, 22, 23, 24, 25, 26, 27, 28] (by decide +kernel) (by decide +kernel)
set_option maxRecDepth 20000 in
theorem gX5_lies_X5_mirrorAt : GoodIn wsX5_lies (wsV RX5 96 RX5 yX5_mirrorAt wsX5_mirrorAt) := goodIn_app (goodIn_of _ (by decide +kernel)) ggX5_lies_X5_mirrorAt
theorem dX5_lies_0 : decode cX5_lies 0 = .ok (.aload_n 0, 1) := by decide +kernel
theorem dX5_lies_1 : decode cX5_lies 1 = .ok (.iload_n 1, 1) := by decide +kernel
theorem dX5_lies_2 : decode cX5_lies 2 = .ok (.invokevirtual 96, 3) := by decide +kernel
theorem dX5_lies_5 : decode cX5_lies 5 = .ok (.astore_n 3, 1) := by decide +kernel
theorem dX5_lies_6 : decode cX5_lies 6 = .ok (.aload_n 3, 1) := by decide +kernel
theorem dX5_lies_7 : decode cX5_lies 7 = .ok (.ifnull 11, 3) := by decide +kernel
theorem dX5_lies_10 : decode cX5_lies 10 = .ok (.aload_n 3, 1) := by decide +kernel
theorem dX5_lies_11 : decode cX5_lies 11 = .ok (.getfield 106, 3) := by decide +kernel
theorem dX5_lies_14 : decode cX5_lies 14 = .ok (.iload_n 2, 1) := by decide +kernel
theorem dX5_lies_15 : decode cX5_lies 15 = .ok (.if_icmp .ne 5, 3) := by decide +kernel
theorem dX5_lies_18 : decode cX5_lies 18 = .ok (.iconst 0, 1) := by decide +kernel
theorem dX5_lies_19 : decode cX5_lies 19 = .ok (.ireturn, 1) := by decide +kernel
theorem dX5_lies_20 : decode cX5_lies 20 = .ok (.aload_n 3, 1) := by decide +kernel
theorem dX5_lies_21 : decode cX5_lies 21 = .ok (.iload_n 2, 1) := by decide +kernel
theorem dX5_lies_22 : decode cX5_lies 22 = .ok (.putfield 106, 3) := by decide +kernel
theorem dX5_lies_25 : decode cX5_lies 25 = .ok (.iconst 1, 1) := by decide +kernel
theorem dX5_lies_26 : decode cX5_lies 26 = .ok (.ireturn, 1) := by decide +kernel
set_option maxRecDepth 20000 in
theorem ggX5_pass_X5_isWithin : GoodIn wsX5_pass wsX5_isWithin := goodIn_r _ [5] (by decide +kernel) (by decide +kernel)
set_option maxRecDepth 20000 in
theorem gX5_pass_X5_isWithin : GoodIn wsX5_pass (va_wsS RX5 47 yX5_isWithin wsX5_isWithin) := goodIn_app (goodIn_of _ (by decide +kernel)) ggX5_pass_X5_isWithin
set_option maxRecDepth 20000 in
theorem ggX5_pass_X5_stepAll : GoodIn wsX5_pass wsX5_stepAll := goodIn_r _ [9, 10, 1, 11, 12, 13, 14, 15, 16, 17, 18, 19, 20, 3, 4, 5, 21, 22, 23, 24, 25, 2, 26, 27, 28, 29, 30, 31, 32, 33, 34, 35, 36, 37, 38, 39, 40, 41, 42, 43, 44, 45, 46, 47, 48, 49, 50, 51, 52, 53, 54, 55, 56, 57, 58, 59, 60, 61, 62, 63, 64, 65, 66, 67, 68, 69, 70, 71, 72, 73, 74, 75, 76, 77, 78, 79, 80, 81, 82, 83, 84, 85, 86, 87, 88, 89, 90, 91, 92, 93, 94, 95, 96, 97, 98, 99, 100, 101, 102, 103, 104, 105, 106, 107, 108, 109, 110, 111, 112, 113, 114, 115, 116, 117, 118, 119, 120, 121, 122, 123, 124, 125, 126, 127, 128, 129, 130, 131] (by decide +kernel) (by decide +kernel)
set_option maxRecDepth 20000 in
theorem gX5_pass_X5_stepAll : GoodIn wsX5_pass (wsV RX5 110 RX5 yX5_stepAll wsX5_stepAll) := goodIn_app (goodIn_of _ (by decide +kernel)) ggX5_pass_X5_stepAll
theorem dX5_pass_0 : decode cX5_pass 0 = .ok (.iload_n 1, 1) := by decide +kernel
theorem dX5_pass_1 : decode cX5_pass 1 = .ok (.iconst 1, 1) := by decide +kernel
theorem dX5_pass_2 : decode cX5_pass 2 = .ok (.sipush 500, 3) := by decide +kernel
theorem dX5_pass_5 : decode cX5_pass 5 = .ok (.invokestatic 47, 3) := by decide +kernel
theorem dX5_pass_8 : decode cX5_pass 8 = .ok (.ifCond .eq 15, 3) := by decide +kernel
theorem dX5_pass_11 : decode cX5_pass 11 = .ok (.iload_n 1, 1) := by decide +kernel
theorem dX5_pass_12 : decode cX5_pass 12 = .ok (.sipush 9999, 3) := by decide +kernel
theorem dX5_pass_15 : decode cX5_pass 15 = .ok (.aload_n 0, 1) := by decide +kernel
theorem dX5_pass_16 : decode cX5_pass 16 = .ok (.getfield 55, 3) := by decide +kernel
theorem dX5_pass_19 : decode cX5_pass 19 = .ok (.isub, 1) := by decide +kernel
theorem dX5_pass_20 : decode cX5_pass 20 = .ok (.if_icmp .le 5, 3) := by decide +kernel
theorem dX5_pass_23 : decode cX5_pass 23 = .ok (.iconst (-1), 1) := by decide +kernel
theorem dX5_pass_24 : decode cX5_pass 24 = .ok (.ireturn, 1) := by decide +kernel
theorem dX5_pass_25 : decode cX5_pass 25 = .ok (.iconst 0, 1) := by decide +kernel
theorem dX5_pass_26 : decode cX5_pass 26 = .ok (.istore_n 2, 1) := by decide +kernel
theorem dX5_pass_27 : decode cX5_pass 27 = .ok (.iload_n 2, 1) := by decide +kernel
theorem dX5_pass_28 : decode cX5_pass 28 = .ok (.iload_n 1, 1) := by decide +kernel
theorem dX5_pass_29 : decode cX5_pass 29 = .ok (.if_icmp .ge 23, 3) := by decide +kernel
theorem dX5_pass_32 : decode cX5_pass 32 = .ok (.aload_n 0, 1) := by decide +kernel
theorem dX5_pass_33 : decode cX5_pass 33 = .ok (.invokevirtual 110, 3) := by decide +kernel
theorem dX5_pass_36 : decode cX5_pass 36 = .ok (.aload_n 0, 1) := by decide +kernel
theorem dX5_pass_37 : decode cX5_pass 37 = .ok (.dup, 1) := by decide +kernel
theorem dX5_pass_38 : decode cX5_pass 38 = .ok (.getfield 55, 3) := by decide +kernel
theorem dX5_pass_41 : decode cX5_pass 41 = .ok (.iconst 1, 1) := by decide +kernel
theorem dX5_pass_42 : decode cX5_pass 42 = .ok (.iadd, 1) := by decide +kernel
theorem dX5_pass_43 : decode cX5_pass 43 = .ok (.putfield 55, 3) := by decide +kernel
theorem dX5_pass_46 : decode cX5_pass 46 = .ok (.iinc 2 1, 3) := by decide +kernel
theorem dX5_pass_49 : decode cX5_pass 49 = .ok (.goto (-22), 3) := by decide +kernel
theorem dX5_pass_52 : decode cX5_pass 52 = .ok (.aload_n 0, 1) := by decide +kernel
theorem dX5_pass_53 : decode cX5_pass 53 = .ok (.getfield 55, 3) := by decide +kernel
theorem dX5_pass_56 : decode cX5_pass 56 = .ok (.ireturn, 1) := by decide +kernel
set_option maxRecDepth 20000 in
theorem ggX5_about_X5_mirrorAt : GoodIn wsX5_about wsX5_mirrorAt := goodIn_r _ [8, 9, 10, 11, 12, 7, 13, 71, 72, 73, 74, 75, 76, 77, 78] (by decide +kernel) (by decide +kernel)
set_option maxRecDepth 20000 in
theorem gX5_about_X5_mirrorAt : GoodIn wsX5_about (wsV RX5 96 RX5 yX5_mirrorAt wsX5_mirrorAt) := goodIn_app (goodIn_of _ (by decide +kernel)) ggX5_about_X5_mirrorAt
set_option maxRecDepth 20000 in
theorem ggX5_about_J13_bitCount_95d88 : GoodIn wsX5_about wsJ13_bitCount_95d88 := goodIn_r _ [17, 18, 19, 20] (by decide +kernel) (by decide +kernel)
set_option maxRecDepth 20000 in
theorem gX5_about_J13_bitCount_95d88 : GoodIn wsX5_about (va_wsS RX5 123 yJ13_bitCount_95d88 wsJ13_bitCount_95d88) := goodIn_app (goodIn_of _ (by decide +kernel)) ggX5_about_J13_bitCount_95d88
set_option maxRecDepth 20000 in
theorem ggX5_about_X4_bytesOf : GoodIn wsX5_about wsX4_bytesOf := goodIn_r _ [24, 25, 26, 27, 7, 28, 11, 12, 13, 79, 80, 81, 82, 83, 84, 85, 86] (by decide +kernel) (by decide +kernel)
set_option maxRecDepth 20000 in
theorem gX5_about_X4_bytesOf_n86 : GoodIn wsX5_about (wsX4_bytesOf) := ggX5_about_X4_bytesOf
set_option maxRecDepth 20000 in
theorem ggX5_about_X2_downAt : GoodIn wsX5_about wsX2_downAt := goodIn_r _ [32, 33, 34, 35, 36, 12, 7, 13, 87, 88, 89, 90] (by decide +kernel) (by decide +kernel)
set_option maxRecDepth 20000 in
theorem gX5_about_X2_downAt_n134 : GoodIn wsX5_about (wsX2_downAt) := ggX5_about_X2_downAt
set_option maxRecDepth 20000 in
theorem ggX5_about_X5_isIn : GoodIn wsX5_about wsX5_isIn := goodIn_r _ [39, 11, 12, 7, 13] (by decide +kernel) (by decide +kernel)
set_option maxRecDepth 20000 in
theorem gX5_about_X5_isIn : GoodIn wsX5_about (va_wsS RX5 137 yX5_isIn wsX5_isIn) := goodIn_app (goodIn_of _ (by decide +kernel)) ggX5_about_X5_isIn
set_option maxRecDepth 20000 in
theorem ggX5_about_X3_bytesWanted : GoodIn wsX5_about wsX3_bytesWanted := goodIn_r _ [43, 44, 45, 46, 47, 48, 41, 49, 50, 51, 52, 22, 53, 54, 55, 56, 57, 58, 59, 60, 21, 23, 24, 25, 26, 27, 7, 28, 11, 12, 13, 61, 62, 63, 64, 65, 66, 67, 68, 69, 70, 79, 80, 81, 82, 83, 84, 85, 86] (by decide +kernel) (by decide +kernel)
set_option maxRecDepth 20000 in
theorem gX5_about_X3_bytesWanted_n141 : GoodIn wsX5_about (wsX3_bytesWanted) := ggX5_about_X3_bytesWanted
theorem dX5_about_0 : decode cX5_about 0 = .ok (.aload_n 0, 1) := by decide +kernel
theorem dX5_about_1 : decode cX5_about 1 = .ok (.iload_n 1, 1) := by decide +kernel
theorem dX5_about_2 : decode cX5_about 2 = .ok (.invokevirtual 96, 3) := by decide +kernel
theorem dX5_about_5 : decode cX5_about 5 = .ok (.astore_n 3, 1) := by decide +kernel
theorem dX5_about_6 : decode cX5_about 6 = .ok (.aload_n 3, 1) := by decide +kernel
theorem dX5_about_7 : decode cX5_about 7 = .ok (.ifnonnull 5, 3) := by decide +kernel
theorem dX5_about_10 : decode cX5_about 10 = .ok (.iconst (-1), 1) := by decide +kernel
theorem dX5_about_11 : decode cX5_about 11 = .ok (.ireturn, 1) := by decide +kernel
theorem dX5_about_12 : decode cX5_about 12 = .ok (.iload_n 2, 1) := by decide +kernel
theorem dX5_about_13 : decode cX5_about 13 = .ok (.tableswitch 137 0 8 #[51, 56, 61, 69, 81, 86, 91, 115, 128], 51) := by decide +kernel
theorem dX5_about_64 : decode cX5_about 64 = .ok (.aload_n 3, 1) := by decide +kernel
theorem dX5_about_65 : decode cX5_about 65 = .ok (.getfield 113, 3) := by decide +kernel
theorem dX5_about_68 : decode cX5_about 68 = .ok (.ireturn, 1) := by decide +kernel
theorem dX5_about_69 : decode cX5_about 69 = .ok (.aload_n 3, 1) := by decide +kernel
theorem dX5_about_70 : decode cX5_about 70 = .ok (.getfield 116, 3) := by decide +kernel
theorem dX5_about_73 : decode cX5_about 73 = .ok (.ireturn, 1) := by decide +kernel
theorem dX5_about_74 : decode cX5_about 74 = .ok (.aload_n 3, 1) := by decide +kernel
theorem dX5_about_75 : decode cX5_about 75 = .ok (.getfield 119, 3) := by decide +kernel
theorem dX5_about_78 : decode cX5_about 78 = .ok (.invokestatic 123, 3) := by decide +kernel
theorem dX5_about_81 : decode cX5_about 81 = .ok (.ireturn, 1) := by decide +kernel
theorem dX5_about_82 : decode cX5_about 82 = .ok (.aload_n 0, 1) := by decide +kernel
theorem dX5_about_83 : decode cX5_about 83 = .ok (.getfield 12, 3) := by decide +kernel
theorem dX5_about_86 : decode cX5_about 86 = .ok (.aload_n 3, 1) := by decide +kernel
theorem dX5_about_87 : decode cX5_about 87 = .ok (.getfield 119, 3) := by decide +kernel
theorem dX5_about_90 : decode cX5_about 90 = .ok (.invokevirtual 86, 3) := by decide +kernel
theorem dX5_about_93 : decode cX5_about 93 = .ok (.ireturn, 1) := by decide +kernel
theorem dX5_about_94 : decode cX5_about 94 = .ok (.aload_n 3, 1) := by decide +kernel
theorem dX5_about_95 : decode cX5_about 95 = .ok (.getfield 128, 3) := by decide +kernel
theorem dX5_about_98 : decode cX5_about 98 = .ok (.ireturn, 1) := by decide +kernel
theorem dX5_about_99 : decode cX5_about 99 = .ok (.aload_n 3, 1) := by decide +kernel
theorem dX5_about_100 : decode cX5_about 100 = .ok (.getfield 131, 3) := by decide +kernel
theorem dX5_about_103 : decode cX5_about 103 = .ok (.ireturn, 1) := by decide +kernel
theorem dX5_about_104 : decode cX5_about 104 = .ok (.aload_n 0, 1) := by decide +kernel
theorem dX5_about_105 : decode cX5_about 105 = .ok (.getfield 19, 3) := by decide +kernel
theorem dX5_about_108 : decode cX5_about 108 = .ok (.aload_n 0, 1) := by decide +kernel
theorem dX5_about_109 : decode cX5_about 109 = .ok (.getfield 55, 3) := by decide +kernel
theorem dX5_about_112 : decode cX5_about 112 = .ok (.invokevirtual 134, 3) := by decide +kernel
theorem dX5_about_115 : decode cX5_about 115 = .ok (.iload_n 1, 1) := by decide +kernel
theorem dX5_about_116 : decode cX5_about 116 = .ok (.invokestatic 137, 3) := by decide +kernel
theorem dX5_about_119 : decode cX5_about 119 = .ok (.ifCond .eq 7, 3) := by decide +kernel
theorem dX5_about_122 : decode cX5_about 122 = .ok (.iconst 1, 1) := by decide +kernel
theorem dX5_about_123 : decode cX5_about 123 = .ok (.goto 4, 3) := by decide +kernel
theorem dX5_about_126 : decode cX5_about 126 = .ok (.iconst 0, 1) := by decide +kernel
theorem dX5_about_127 : decode cX5_about 127 = .ok (.ireturn, 1) := by decide +kernel
theorem dX5_about_128 : decode cX5_about 128 = .ok (.aload_n 3, 1) := by decide +kernel
theorem dX5_about_129 : decode cX5_about 129 = .ok (.getfield 106, 3) := by decide +kernel
theorem dX5_about_132 : decode cX5_about 132 = .ok (.ifCond .eq 7, 3) := by decide +kernel
theorem dX5_about_135 : decode cX5_about 135 = .ok (.iconst 1, 1) := by decide +kernel
theorem dX5_about_136 : decode cX5_about 136 = .ok (.goto 4, 3) := by decide +kernel
theorem dX5_about_139 : decode cX5_about 139 = .ok (.iconst 0, 1) := by decide +kernel
theorem dX5_about_140 : decode cX5_about 140 = .ok (.ireturn, 1) := by decide +kernel
theorem dX5_about_141 : decode cX5_about 141 = .ok (.aload_n 3, 1) := by decide +kernel
theorem dX5_about_142 : decode cX5_about 142 = .ok (.aload_n 0, 1) := by decide +kernel
theorem dX5_about_143 : decode cX5_about 143 = .ok (.getfield 12, 3) := by decide +kernel
theorem dX5_about_146 : decode cX5_about 146 = .ok (.invokevirtual 141, 3) := by decide +kernel
theorem dX5_about_149 : decode cX5_about 149 = .ok (.ireturn, 1) := by decide +kernel
theorem dX5_about_150 : decode cX5_about 150 = .ok (.iconst (-1), 1) := by decide +kernel
theorem dX5_about_151 : decode cX5_about 151 = .ok (.ireturn, 1) := by decide +kernel
set_option maxRecDepth 20000 in
theorem ggX5_has_X5_mirrorAt : GoodIn wsX5_has wsX5_mirrorAt := goodIn_r _ [6, 7, 8, 9, 10, 5, 11, 24, 25, 26, 27, 28, 29, 30, 31] (by decide +kernel) (by decide +kernel)
set_option maxRecDepth 20000 in
theorem gX5_has_X5_mirrorAt : GoodIn wsX5_has (wsV RX5 96 RX5 yX5_mirrorAt wsX5_mirrorAt) := goodIn_app (goodIn_of _ (by decide +kernel)) ggX5_has_X5_mirrorAt
set_option maxRecDepth 20000 in
theorem ggX5_has_X4_hasFile : GoodIn wsX5_has wsX4_hasFile := goodIn_r _ [15, 16, 32, 33, 34, 35, 36, 37, 38, 39] (by decide +kernel) (by decide +kernel)
set_option maxRecDepth 20000 in
theorem gX5_has_X4_hasFile_n145 : GoodIn wsX5_has (wsX4_hasFile) := ggX5_has_X4_hasFile
set_option maxRecDepth 20000 in
theorem ggX5_has_X3_holds : GoodIn wsX5_has wsX3_holds := goodIn_r _ [20, 21, 22, 5, 23, 9, 10, 11, 40, 41, 42, 43, 44, 45, 46, 47, 48, 49] (by decide +kernel) (by decide +kernel)
set_option maxRecDepth 20000 in
theorem gX5_has_X3_holds_n148 : GoodIn wsX5_has (wsX3_holds) := ggX5_has_X3_holds
theorem dX5_has_0 : decode cX5_has 0 = .ok (.aload_n 0, 1) := by decide +kernel
theorem dX5_has_1 : decode cX5_has 1 = .ok (.iload_n 1, 1) := by decide +kernel
theorem dX5_has_2 : decode cX5_has 2 = .ok (.invokevirtual 96, 3) := by decide +kernel
theorem dX5_has_5 : decode cX5_has 5 = .ok (.astore_n 3, 1) := by decide +kernel
theorem dX5_has_6 : decode cX5_has 6 = .ok (.aload_n 3, 1) := by decide +kernel
theorem dX5_has_7 : decode cX5_has 7 = .ok (.ifnull 14, 3) := by decide +kernel
theorem dX5_has_10 : decode cX5_has 10 = .ok (.aload_n 0, 1) := by decide +kernel
theorem dX5_has_11 : decode cX5_has 11 = .ok (.getfield 12, 3) := by decide +kernel
theorem dX5_has_14 : decode cX5_has 14 = .ok (.iload_n 2, 1) := by decide +kernel
theorem dX5_has_15 : decode cX5_has 15 = .ok (.invokevirtual 145, 3) := by decide +kernel
theorem dX5_has_18 : decode cX5_has 18 = .ok (.ifCond .ne 5, 3) := by decide +kernel
theorem dX5_has_21 : decode cX5_has 21 = .ok (.iconst (-1), 1) := by decide +kernel
theorem dX5_has_22 : decode cX5_has 22 = .ok (.ireturn, 1) := by decide +kernel
theorem dX5_has_23 : decode cX5_has 23 = .ok (.aload_n 3, 1) := by decide +kernel
theorem dX5_has_24 : decode cX5_has 24 = .ok (.iload_n 2, 1) := by decide +kernel
theorem dX5_has_25 : decode cX5_has 25 = .ok (.invokevirtual 148, 3) := by decide +kernel
theorem dX5_has_28 : decode cX5_has 28 = .ok (.ifCond .eq 7, 3) := by decide +kernel
theorem dX5_has_31 : decode cX5_has 31 = .ok (.iconst 1, 1) := by decide +kernel
theorem dX5_has_32 : decode cX5_has 32 = .ok (.goto 4, 3) := by decide +kernel
theorem dX5_has_35 : decode cX5_has 35 = .ok (.iconst 0, 1) := by decide +kernel
theorem dX5_has_36 : decode cX5_has 36 = .ok (.ireturn, 1) := by decide +kernel
set_option maxRecDepth 20000 in
theorem ggX5_cost_X5_askerAt : GoodIn wsX5_cost wsX5_askerAt := goodIn_r _ [5, 6, 7, 8, 4, 9, 24, 25, 26, 27, 28, 29, 30, 31] (by decide +kernel) (by decide +kernel)
set_option maxRecDepth 20000 in
theorem gX5_cost_X5_askerAt : GoodIn wsX5_cost (wsV RX5 151 RX5 yX5_askerAt wsX5_askerAt) := goodIn_app (goodIn_of _ (by decide +kernel)) ggX5_cost_X5_askerAt
set_option maxRecDepth 20000 in
theorem ggX5_cost_X5_mirrorAt : GoodIn wsX5_cost wsX5_mirrorAt := goodIn_r _ [13, 14, 15, 7, 8, 4, 9, 24, 25, 26, 27, 28, 29, 30, 31] (by decide +kernel) (by decide +kernel)
set_option maxRecDepth 20000 in
theorem gX5_cost_X5_mirrorAt : GoodIn wsX5_cost (wsV RX5 96 RX5 yX5_mirrorAt wsX5_mirrorAt) := goodIn_app (goodIn_of _ (by decide +kernel)) ggX5_cost_X5_mirrorAt
set_option maxRecDepth 20000 in
theorem ggX5_cost_X5_isWithin : GoodIn wsX5_cost wsX5_isWithin := goodIn_r _ [9] (by decide +kernel) (by decide +kernel)
set_option maxRecDepth 20000 in
theorem gX5_cost_X5_isWithin : GoodIn wsX5_cost (va_wsS RX5 47 yX5_isWithin wsX5_isWithin) := goodIn_app (goodIn_of _ (by decide +kernel)) ggX5_cost_X5_isWithin
set_option maxRecDepth 20000 in
theorem ggX5_cost_X0_costOf : GoodIn wsX5_cost wsX0_costOf := goodIn_r _ [19, 20, 8, 4, 9, 32, 33, 34, 35, 36, 37] (by decide +kernel) (by decide +kernel)
set_option maxRecDepth 20000 in
theorem gX5_cost_X0_costOf_n155 : GoodIn wsX5_cost (wsX0_costOf) := ggX5_cost_X0_costOf
set_option maxRecDepth 20000 in
theorem ggX5_cost_X0_setCost : GoodIn wsX5_cost wsX0_setCost := goodIn_r _ [23, 20, 8, 4, 9, 32, 33, 34, 35, 36, 37] (by decide +kernel) (by decide +kernel)
set_option maxRecDepth 20000 in
theorem gX5_cost_X0_setCost_n158 : GoodIn wsX5_cost (wsX0_setCost) := ggX5_cost_X0_setCost
theorem dX5_cost_0 : decode cX5_cost 0 = .ok (.aload_n 0, 1) := by decide +kernel
theorem dX5_cost_1 : decode cX5_cost 1 = .ok (.iload_n 1, 1) := by decide +kernel
theorem dX5_cost_2 : decode cX5_cost 2 = .ok (.invokevirtual 151, 3) := by decide +kernel
theorem dX5_cost_5 : decode cX5_cost 5 = .ok (.astore 4, 2) := by decide +kernel
theorem dX5_cost_7 : decode cX5_cost 7 = .ok (.aload 4, 2) := by decide +kernel
theorem dX5_cost_9 : decode cX5_cost 9 = .ok (.ifnull 21, 3) := by decide +kernel
theorem dX5_cost_12 : decode cX5_cost 12 = .ok (.aload_n 0, 1) := by decide +kernel
theorem dX5_cost_13 : decode cX5_cost 13 = .ok (.iload_n 2, 1) := by decide +kernel
theorem dX5_cost_14 : decode cX5_cost 14 = .ok (.invokevirtual 96, 3) := by decide +kernel
theorem dX5_cost_17 : decode cX5_cost 17 = .ok (.ifnull 13, 3) := by decide +kernel
theorem dX5_cost_20 : decode cX5_cost 20 = .ok (.iload_n 3, 1) := by decide +kernel
theorem dX5_cost_21 : decode cX5_cost 21 = .ok (.iconst (-1), 1) := by decide +kernel
theorem dX5_cost_22 : decode cX5_cost 22 = .ok (.bipush 100, 2) := by decide +kernel
theorem dX5_cost_24 : decode cX5_cost 24 = .ok (.invokestatic 47, 3) := by decide +kernel
theorem dX5_cost_27 : decode cX5_cost 27 = .ok (.ifCond .ne 6, 3) := by decide +kernel
theorem dX5_cost_30 : decode cX5_cost 30 = .ok (.bipush (-2), 2) := by decide +kernel
theorem dX5_cost_32 : decode cX5_cost 32 = .ok (.ireturn, 1) := by decide +kernel
theorem dX5_cost_33 : decode cX5_cost 33 = .ok (.aload 4, 2) := by decide +kernel
theorem dX5_cost_35 : decode cX5_cost 35 = .ok (.iload_n 2, 1) := by decide +kernel
theorem dX5_cost_36 : decode cX5_cost 36 = .ok (.invokevirtual 155, 3) := by decide +kernel
theorem dX5_cost_39 : decode cX5_cost 39 = .ok (.istore 5, 2) := by decide +kernel
theorem dX5_cost_41 : decode cX5_cost 41 = .ok (.aload 4, 2) := by decide +kernel
theorem dX5_cost_43 : decode cX5_cost 43 = .ok (.iload_n 2, 1) := by decide +kernel
theorem dX5_cost_44 : decode cX5_cost 44 = .ok (.iload_n 3, 1) := by decide +kernel
theorem dX5_cost_45 : decode cX5_cost 45 = .ok (.invokevirtual 158, 3) := by decide +kernel
theorem dX5_cost_48 : decode cX5_cost 48 = .ok (.iload 5, 2) := by decide +kernel
theorem dX5_cost_50 : decode cX5_cost 50 = .ok (.ireturn, 1) := by decide +kernel
set_option maxRecDepth 20000 in
theorem ggX5_bears_X5_askerAt : GoodIn wsX5_bears wsX5_askerAt := goodIn_r _ [5, 6, 7, 8, 4, 9, 16, 17, 18, 19, 20, 21, 22, 23] (by decide +kernel) (by decide +kernel)
set_option maxRecDepth 20000 in
theorem gX5_bears_X5_askerAt : GoodIn wsX5_bears (wsV RX5 151 RX5 yX5_askerAt wsX5_askerAt) := goodIn_app (goodIn_of _ (by decide +kernel)) ggX5_bears_X5_askerAt
set_option maxRecDepth 20000 in
theorem ggX5_bears_X5_isWithin : GoodIn wsX5_bears wsX5_isWithin := goodIn_r _ [9] (by decide +kernel) (by decide +kernel)
set_option maxRecDepth 20000 in
theorem gX5_bears_X5_isWithin : GoodIn wsX5_bears (va_wsS RX5 47 yX5_isWithin wsX5_isWithin) := goodIn_app (goodIn_of _ (by decide +kernel)) ggX5_bears_X5_isWithin
theorem dX5_bears_0 : decode cX5_bears 0 = .ok (.aload_n 0, 1) := by decide +kernel
theorem dX5_bears_1 : decode cX5_bears 1 = .ok (.iload_n 1, 1) := by decide +kernel
theorem dX5_bears_2 : decode cX5_bears 2 = .ok (.invokevirtual 151, 3) := by decide +kernel
theorem dX5_bears_5 : decode cX5_bears 5 = .ok (.astore_n 3, 1) := by decide +kernel
theorem dX5_bears_6 : decode cX5_bears 6 = .ok (.aload_n 3, 1) := by decide +kernel
theorem dX5_bears_7 : decode cX5_bears 7 = .ok (.ifnull 14, 3) := by decide +kernel
theorem dX5_bears_10 : decode cX5_bears 10 = .ok (.iload_n 2, 1) := by decide +kernel
theorem dX5_bears_11 : decode cX5_bears 11 = .ok (.iconst 0, 1) := by decide +kernel
theorem dX5_bears_12 : decode cX5_bears 12 = .ok (.sipush 9999, 3) := by decide +kernel
theorem dX5_bears_15 : decode cX5_bears 15 = .ok (.invokestatic 47, 3) := by decide +kernel
theorem dX5_bears_18 : decode cX5_bears 18 = .ok (.ifCond .ne 5, 3) := by decide +kernel
theorem dX5_bears_21 : decode cX5_bears 21 = .ok (.iconst (-1), 1) := by decide +kernel
theorem dX5_bears_22 : decode cX5_bears 22 = .ok (.ireturn, 1) := by decide +kernel
theorem dX5_bears_23 : decode cX5_bears 23 = .ok (.aload_n 3, 1) := by decide +kernel
theorem dX5_bears_24 : decode cX5_bears 24 = .ok (.getfield 162, 3) := by decide +kernel
theorem dX5_bears_27 : decode cX5_bears 27 = .ok (.istore 4, 2) := by decide +kernel
theorem dX5_bears_29 : decode cX5_bears 29 = .ok (.aload_n 3, 1) := by decide +kernel
theorem dX5_bears_30 : decode cX5_bears 30 = .ok (.iload_n 2, 1) := by decide +kernel
theorem dX5_bears_31 : decode cX5_bears 31 = .ok (.putfield 162, 3) := by decide +kernel
theorem dX5_bears_34 : decode cX5_bears 34 = .ok (.iload 4, 2) := by decide +kernel
theorem dX5_bears_36 : decode cX5_bears 36 = .ok (.ireturn, 1) := by decide +kernel
set_option maxRecDepth 20000 in
theorem ggX5_grace_X5_isWithin : GoodIn wsX5_grace wsX5_isWithin := goodIn_r _ [5] (by decide +kernel) (by decide +kernel)
set_option maxRecDepth 20000 in
theorem gX5_grace_X5_isWithin : GoodIn wsX5_grace (va_wsS RX5 47 yX5_isWithin wsX5_isWithin) := goodIn_app (goodIn_of _ (by decide +kernel)) ggX5_grace_X5_isWithin
theorem dX5_grace_0 : decode cX5_grace 0 = .ok (.iload_n 1, 1) := by decide +kernel
theorem dX5_grace_1 : decode cX5_grace 1 = .ok (.iconst 0, 1) := by decide +kernel
theorem dX5_grace_2 : decode cX5_grace 2 = .ok (.sipush 9999, 3) := by decide +kernel
theorem dX5_grace_5 : decode cX5_grace 5 = .ok (.invokestatic 47, 3) := by decide +kernel
theorem dX5_grace_8 : decode cX5_grace 8 = .ok (.ifCond .ne 5, 3) := by decide +kernel
theorem dX5_grace_11 : decode cX5_grace 11 = .ok (.iconst (-1), 1) := by decide +kernel
theorem dX5_grace_12 : decode cX5_grace 12 = .ok (.ireturn, 1) := by decide +kernel
theorem dX5_grace_13 : decode cX5_grace 13 = .ok (.aload_n 0, 1) := by decide +kernel
theorem dX5_grace_14 : decode cX5_grace 14 = .ok (.getfield 43, 3) := by decide +kernel
theorem dX5_grace_17 : decode cX5_grace 17 = .ok (.istore_n 2, 1) := by decide +kernel
theorem dX5_grace_18 : decode cX5_grace 18 = .ok (.aload_n 0, 1) := by decide +kernel
theorem dX5_grace_19 : decode cX5_grace 19 = .ok (.iload_n 1, 1) := by decide +kernel
theorem dX5_grace_20 : decode cX5_grace 20 = .ok (.putfield 43, 3) := by decide +kernel
theorem dX5_grace_23 : decode cX5_grace 23 = .ok (.iload_n 2, 1) := by decide +kernel
theorem dX5_grace_24 : decode cX5_grace 24 = .ok (.ireturn, 1) := by decide +kernel
set_option maxRecDepth 20000 in
theorem ggX5_forgives_X5_askerAt : GoodIn wsX5_forgives wsX5_askerAt := goodIn_r _ [5, 6, 7, 8, 4, 9, 23, 24, 25, 26, 27, 28, 29, 30] (by decide +kernel) (by decide +kernel)
set_option maxRecDepth 20000 in
theorem gX5_forgives_X5_askerAt : GoodIn wsX5_forgives (wsV RX5 151 RX5 yX5_askerAt wsX5_askerAt) := goodIn_app (goodIn_of _ (by decide +kernel)) ggX5_forgives_X5_askerAt
set_option maxRecDepth 20000 in
theorem ggX5_forgives_J6_bitCount_0f7a4 : GoodIn wsX5_forgives wsJ6_bitCount_0f7a4 := goodIn_r _ [13, 14, 15, 16] (by decide +kernel) (by decide +kernel)
set_option maxRecDepth 20000 in
theorem gX5_forgives_J6_bitCount_0f7a4 : GoodIn wsX5_forgives (va_wsS RX5 168 yJ6_bitCount_0f7a4 wsJ6_bitCount_0f7a4) := goodIn_app (goodIn_of _ (by decide +kernel)) ggX5_forgives_J6_bitCount_0f7a4
theorem dX5_forgives_0 : decode cX5_forgives 0 = .ok (.aload_n 0, 1) := by decide +kernel
theorem dX5_forgives_1 : decode cX5_forgives 1 = .ok (.iload_n 1, 1) := by decide +kernel
theorem dX5_forgives_2 : decode cX5_forgives 2 = .ok (.invokevirtual 151, 3) := by decide +kernel
theorem dX5_forgives_5 : decode cX5_forgives 5 = .ok (.astore_n 2, 1) := by decide +kernel
theorem dX5_forgives_6 : decode cX5_forgives 6 = .ok (.aload_n 2, 1) := by decide +kernel
theorem dX5_forgives_7 : decode cX5_forgives 7 = .ok (.ifnonnull 5, 3) := by decide +kernel
theorem dX5_forgives_10 : decode cX5_forgives 10 = .ok (.iconst (-1), 1) := by decide +kernel
theorem dX5_forgives_11 : decode cX5_forgives 11 = .ok (.ireturn, 1) := by decide +kernel
theorem dX5_forgives_12 : decode cX5_forgives 12 = .ok (.aload_n 2, 1) := by decide +kernel
theorem dX5_forgives_13 : decode cX5_forgives 13 = .ok (.getfield 165, 3) := by decide +kernel
theorem dX5_forgives_16 : decode cX5_forgives 16 = .ok (.invokestatic 168, 3) := by decide +kernel
theorem dX5_forgives_19 : decode cX5_forgives 19 = .ok (.istore_n 3, 1) := by decide +kernel
theorem dX5_forgives_20 : decode cX5_forgives 20 = .ok (.aload_n 2, 1) := by decide +kernel
theorem dX5_forgives_21 : decode cX5_forgives 21 = .ok (.iconst 0, 1) := by decide +kernel
theorem dX5_forgives_22 : decode cX5_forgives 22 = .ok (.putfield 165, 3) := by decide +kernel
theorem dX5_forgives_25 : decode cX5_forgives 25 = .ok (.iload_n 3, 1) := by decide +kernel
theorem dX5_forgives_26 : decode cX5_forgives 26 = .ok (.ireturn, 1) := by decide +kernel
set_option maxRecDepth 20000 in
theorem ggX5_ask_X5_askerAt : GoodIn wsX5_ask wsX5_askerAt := goodIn_r _ [8, 9, 10, 11, 7, 12, 162, 163, 164, 165, 166, 167, 168, 169] (by decide +kernel) (by decide +kernel)
set_option maxRecDepth 20000 in
theorem gX5_ask_X5_askerAt : GoodIn wsX5_ask (wsV RX5 151 RX5 yX5_askerAt wsX5_askerAt) := goodIn_app (goodIn_of _ (by decide +kernel)) ggX5_ask_X5_askerAt
set_option maxRecDepth 20000 in
theorem ggX5_ask_X5_isWithin : GoodIn wsX5_ask wsX5_isWithin := goodIn_r _ [12] (by decide +kernel) (by decide +kernel)
set_option maxRecDepth 20000 in
theorem gX5_ask_X5_isWithin : GoodIn wsX5_ask (va_wsS RX5 47 yX5_isWithin wsX5_isWithin) := goodIn_app (goodIn_of _ (by decide +kernel)) ggX5_ask_X5_isWithin
set_option maxRecDepth 20000 in
theorem ggX5_ask_X2_downAt : GoodIn wsX5_ask wsX2_downAt := goodIn_r _ [16, 17, 18, 19, 20, 11, 7, 12, 180, 181, 182, 183] (by decide +kernel) (by decide +kernel)
set_option maxRecDepth 20000 in
theorem gX5_ask_X2_downAt_n134 : GoodIn wsX5_ask (wsX2_downAt) := ggX5_ask_X2_downAt
set_option maxRecDepth 20000 in
theorem ggX5_ask_X1_begin : GoodIn wsX5_ask wsX1_begin := goodIn_r _ [24, 25, 26, 27, 28, 29, 30, 31, 170, 171, 172, 173, 174, 175, 176, 177, 178, 179] (by decide +kernel) (by decide +kernel)
set_option maxRecDepth 20000 in
theorem gX5_ask_X1_begin_n175 : GoodIn wsX5_ask (wsX1_begin) := ggX5_ask_X1_begin
set_option maxRecDepth 20000 in
theorem ggX5_ask_X0_lineUp : GoodIn wsX5_ask wsX0_lineUp := goodIn_r _ [35, 36, 37, 38, 39, 40, 33, 41, 42, 43, 7, 44, 10, 11, 12, 45, 46, 47, 48, 49, 156, 157, 158, 159, 160, 161] (by decide +kernel) (by decide +kernel)
set_option maxRecDepth 20000 in
theorem gX5_ask_X0_lineUp_n178 : GoodIn wsX5_ask (wsX0_lineUp) := ggX5_ask_X0_lineUp
set_option maxRecDepth 20000 in
theorem ggX5_ask_X5_carryOut : GoodIn wsX5_ask wsX5_carryOut := goodIn_r _ [53, 3, 54, 55, 56, 7, 57, 58, 33, 59, 60, 36, 49, 11, 12, 61, 62, 63, 64, 65, 66, 10, 39, 40, 41, 42, 43, 44, 67, 68, 69, 37, 70, 22, 71, 72, 27, 28, 73, 74, 75, 76, 77, 78, 79, 80, 81, 2, 82, 83, 84, 85, 86, 87, 88, 89, 90, 91, 92, 93, 94, 95, 96, 97, 98, 99, 100, 101, 102, 103, 104, 105, 106, 107, 108, 109, 110, 111, 112, 113, 114, 115, 116, 117, 118, 119, 120, 121, 122, 123, 124, 125, 126, 127, 128, 129, 29, 130, 131, 132, 162, 163, 164, 165, 166, 167, 168, 169, 170, 171, 172, 173, 174, 175, 176, 177, 178, 179, 156, 157, 158, 159, 160, 161, 184, 185, 186, 187, 188, 189, 190, 191, 192, 193, 194, 195, 196, 197, 198, 199, 200, 201] (by decide +kernel) (by decide +kernel)
set_option maxRecDepth 20000 in
theorem gX5_ask_X5_carryOut : GoodIn wsX5_ask (wsV RX5 181 RX5 yX5_carryOut wsX5_carryOut) := goodIn_app (goodIn_of _ (by decide +kernel)) ggX5_ask_X5_carryOut
set_option maxRecDepth 20000 in
theorem ggX5_ask_X5_foresee : GoodIn wsX5_ask wsX5_foresee := goodIn_r _ [136, 81, 3, 137, 138, 139, 7, 140, 65, 141, 142, 143, 144, 61, 62, 63, 64, 66, 10, 11, 12, 145, 146, 147, 67, 33, 68, 69, 37, 73, 43, 44, 77, 78, 79, 80, 2, 82, 83, 84, 85, 86, 87, 88, 89, 90, 91, 92, 93, 94, 95, 96, 97, 98, 99, 100, 101, 102, 103, 104, 105, 148, 149, 150, 151, 110, 111, 112, 113, 152, 153, 154, 155, 122, 123, 124, 125, 126, 162, 163, 164, 165, 166, 167, 168, 169, 170, 171, 172, 173, 174, 175, 176, 177, 178, 179, 184, 185, 186, 187, 188, 189, 190, 191, 192, 193, 156, 157, 158, 159, 160, 161, 194, 195, 196, 197, 198, 199, 200, 201] (by decide +kernel) (by decide +kernel)
set_option maxRecDepth 20000 in
theorem gX5_ask_X5_foresee : GoodIn wsX5_ask (wsV RX5 185 RX5 yX5_foresee wsX5_foresee) := goodIn_app (goodIn_of _ (by decide +kernel)) ggX5_ask_X5_foresee
theorem dX5_ask_0 : decode cX5_ask 0 = .ok (.aload_n 0, 1) := by decide +kernel
theorem dX5_ask_1 : decode cX5_ask 1 = .ok (.iload_n 1, 1) := by decide +kernel
theorem dX5_ask_2 : decode cX5_ask 2 = .ok (.invokevirtual 151, 3) := by decide +kernel
theorem dX5_ask_5 : decode cX5_ask 5 = .ok (.astore_n 3, 1) := by decide +kernel
theorem dX5_ask_6 : decode cX5_ask 6 = .ok (.aload_n 3, 1) := by decide +kernel
theorem dX5_ask_7 : decode cX5_ask 7 = .ok (.ifnull 14, 3) := by decide +kernel
theorem dX5_ask_10 : decode cX5_ask 10 = .ok (.iload_n 2, 1) := by decide +kernel
theorem dX5_ask_11 : decode cX5_ask 11 = .ok (.iconst 1, 1) := by decide +kernel
theorem dX5_ask_12 : decode cX5_ask 12 = .ok (.sipush 4095, 3) := by decide +kernel
theorem dX5_ask_15 : decode cX5_ask 15 = .ok (.invokestatic 47, 3) := by decide +kernel
theorem dX5_ask_18 : decode cX5_ask 18 = .ok (.ifCond .ne 5, 3) := by decide +kernel
theorem dX5_ask_21 : decode cX5_ask 21 = .ok (.iconst (-1), 1) := by decide +kernel
theorem dX5_ask_22 : decode cX5_ask 22 = .ok (.ireturn, 1) := by decide +kernel
theorem dX5_ask_23 : decode cX5_ask 23 = .ok (.aload_n 3, 1) := by decide +kernel
theorem dX5_ask_24 : decode cX5_ask 24 = .ok (.getfield 172, 3) := by decide +kernel
theorem dX5_ask_27 : decode cX5_ask 27 = .ok (.istore 4, 2) := by decide +kernel
theorem dX5_ask_29 : decode cX5_ask 29 = .ok (.aload_n 0, 1) := by decide +kernel
theorem dX5_ask_30 : decode cX5_ask 30 = .ok (.getfield 19, 3) := by decide +kernel
theorem dX5_ask_33 : decode cX5_ask 33 = .ok (.aload_n 0, 1) := by decide +kernel
theorem dX5_ask_34 : decode cX5_ask 34 = .ok (.getfield 55, 3) := by decide +kernel
theorem dX5_ask_37 : decode cX5_ask 37 = .ok (.invokevirtual 134, 3) := by decide +kernel
theorem dX5_ask_40 : decode cX5_ask 40 = .ok (.istore 5, 2) := by decide +kernel
theorem dX5_ask_42 : decode cX5_ask 42 = .ok (.aload_n 0, 1) := by decide +kernel
theorem dX5_ask_43 : decode cX5_ask 43 = .ok (.getfield 39, 3) := by decide +kernel
theorem dX5_ask_46 : decode cX5_ask 46 = .ok (.invokevirtual 175, 3) := by decide +kernel
theorem dX5_ask_49 : decode cX5_ask 49 = .ok (.aload_n 3, 1) := by decide +kernel
theorem dX5_ask_50 : decode cX5_ask 50 = .ok (.invokevirtual 178, 3) := by decide +kernel
theorem dX5_ask_53 : decode cX5_ask 53 = .ok (.aload_n 0, 1) := by decide +kernel
theorem dX5_ask_54 : decode cX5_ask 54 = .ok (.aload_n 3, 1) := by decide +kernel
theorem dX5_ask_55 : decode cX5_ask 55 = .ok (.iload_n 2, 1) := by decide +kernel
theorem dX5_ask_56 : decode cX5_ask 56 = .ok (.iload 5, 2) := by decide +kernel
theorem dX5_ask_58 : decode cX5_ask 58 = .ok (.invokevirtual 181, 3) := by decide +kernel
theorem dX5_ask_61 : decode cX5_ask 61 = .ok (.istore 6, 2) := by decide +kernel
theorem dX5_ask_63 : decode cX5_ask 63 = .ok (.iload 6, 2) := by decide +kernel
theorem dX5_ask_65 : decode cX5_ask 65 = .ok (.ifCond .ne 20, 3) := by decide +kernel
theorem dX5_ask_68 : decode cX5_ask 68 = .ok (.aload_n 0, 1) := by decide +kernel
theorem dX5_ask_69 : decode cX5_ask 69 = .ok (.getfield 39, 3) := by decide +kernel
theorem dX5_ask_72 : decode cX5_ask 72 = .ok (.aload_n 0, 1) := by decide +kernel
theorem dX5_ask_73 : decode cX5_ask 73 = .ok (.aload_n 3, 1) := by decide +kernel
theorem dX5_ask_74 : decode cX5_ask 74 = .ok (.iload_n 2, 1) := by decide +kernel
theorem dX5_ask_75 : decode cX5_ask 75 = .ok (.iload 4, 2) := by decide +kernel
theorem dX5_ask_77 : decode cX5_ask 77 = .ok (.iload 5, 2) := by decide +kernel
theorem dX5_ask_79 : decode cX5_ask 79 = .ok (.invokevirtual 185, 3) := by decide +kernel
theorem dX5_ask_82 : decode cX5_ask 82 = .ok (.putfield 189, 3) := by decide +kernel
theorem dX5_ask_85 : decode cX5_ask 85 = .ok (.iload 6, 2) := by decide +kernel
theorem dX5_ask_87 : decode cX5_ask 87 = .ok (.ireturn, 1) := by decide +kernel
theorem dX5_asked_0 : decode cX5_asked 0 = .ok (.aload_n 0, 1) := by decide +kernel
theorem dX5_asked_1 : decode cX5_asked 1 = .ok (.getfield 39, 3) := by decide +kernel
theorem dX5_asked_4 : decode cX5_asked 4 = .ok (.getfield 192, 3) := by decide +kernel
theorem dX5_asked_7 : decode cX5_asked 7 = .ok (.ifCond .ne 5, 3) := by decide +kernel
theorem dX5_asked_10 : decode cX5_asked 10 = .ok (.iconst (-1), 1) := by decide +kernel
theorem dX5_asked_11 : decode cX5_asked 11 = .ok (.ireturn, 1) := by decide +kernel
theorem dX5_asked_12 : decode cX5_asked 12 = .ok (.iload_n 1, 1) := by decide +kernel
theorem dX5_asked_13 : decode cX5_asked 13 = .ok (.tableswitch 87 0 5 #[39, 47, 55, 63, 71, 79], 39) := by decide +kernel
theorem dX5_asked_52 : decode cX5_asked 52 = .ok (.aload_n 0, 1) := by decide +kernel
theorem dX5_asked_53 : decode cX5_asked 53 = .ok (.getfield 39, 3) := by decide +kernel
theorem dX5_asked_56 : decode cX5_asked 56 = .ok (.getfield 195, 3) := by decide +kernel
theorem dX5_asked_59 : decode cX5_asked 59 = .ok (.ireturn, 1) := by decide +kernel
theorem dX5_asked_60 : decode cX5_asked 60 = .ok (.aload_n 0, 1) := by decide +kernel
theorem dX5_asked_61 : decode cX5_asked 61 = .ok (.getfield 39, 3) := by decide +kernel
theorem dX5_asked_64 : decode cX5_asked 64 = .ok (.getfield 196, 3) := by decide +kernel
theorem dX5_asked_67 : decode cX5_asked 67 = .ok (.ireturn, 1) := by decide +kernel
theorem dX5_asked_68 : decode cX5_asked 68 = .ok (.aload_n 0, 1) := by decide +kernel
theorem dX5_asked_69 : decode cX5_asked 69 = .ok (.getfield 39, 3) := by decide +kernel
theorem dX5_asked_72 : decode cX5_asked 72 = .ok (.getfield 199, 3) := by decide +kernel
theorem dX5_asked_75 : decode cX5_asked 75 = .ok (.ireturn, 1) := by decide +kernel
theorem dX5_asked_76 : decode cX5_asked 76 = .ok (.aload_n 0, 1) := by decide +kernel
theorem dX5_asked_77 : decode cX5_asked 77 = .ok (.getfield 39, 3) := by decide +kernel
theorem dX5_asked_80 : decode cX5_asked 80 = .ok (.getfield 202, 3) := by decide +kernel
theorem dX5_asked_83 : decode cX5_asked 83 = .ok (.ireturn, 1) := by decide +kernel
theorem dX5_asked_84 : decode cX5_asked 84 = .ok (.aload_n 0, 1) := by decide +kernel
theorem dX5_asked_85 : decode cX5_asked 85 = .ok (.getfield 39, 3) := by decide +kernel
theorem dX5_asked_88 : decode cX5_asked 88 = .ok (.getfield 205, 3) := by decide +kernel
theorem dX5_asked_91 : decode cX5_asked 91 = .ok (.ireturn, 1) := by decide +kernel
theorem dX5_asked_92 : decode cX5_asked 92 = .ok (.aload_n 0, 1) := by decide +kernel
theorem dX5_asked_93 : decode cX5_asked 93 = .ok (.getfield 39, 3) := by decide +kernel
theorem dX5_asked_96 : decode cX5_asked 96 = .ok (.getfield 189, 3) := by decide +kernel
theorem dX5_asked_99 : decode cX5_asked 99 = .ok (.ireturn, 1) := by decide +kernel
theorem dX5_asked_100 : decode cX5_asked 100 = .ok (.iconst (-1), 1) := by decide +kernel
theorem dX5_asked_101 : decode cX5_asked 101 = .ok (.ireturn, 1) := by decide +kernel
set_option maxRecDepth 20000 in
theorem ggX5_got_X1_gotten : GoodIn wsX5_got wsX1_gotten := goodIn_r _ [5, 6, 7, 8, 9, 10, 11, 12, 21, 22, 23, 24, 25, 26, 27, 28, 29, 30] (by decide +kernel) (by decide +kernel)
set_option maxRecDepth 20000 in
theorem gX5_got_X1_gotten_n208 : GoodIn wsX5_got (wsX1_gotten) := ggX5_got_X1_gotten
theorem dX5_got_0 : decode cX5_got 0 = .ok (.aload_n 0, 1) := by decide +kernel
theorem dX5_got_1 : decode cX5_got 1 = .ok (.getfield 39, 3) := by decide +kernel
theorem dX5_got_4 : decode cX5_got 4 = .ok (.iload_n 1, 1) := by decide +kernel
theorem dX5_got_5 : decode cX5_got 5 = .ok (.iload_n 2, 1) := by decide +kernel
theorem dX5_got_6 : decode cX5_got 6 = .ok (.invokevirtual 208, 3) := by decide +kernel
theorem dX5_got_9 : decode cX5_got 9 = .ok (.ireturn, 1) := by decide +kernel
set_option maxRecDepth 20000 in
theorem ggX5_asker_X5_askerAt : GoodIn wsX5_asker wsX5_askerAt := goodIn_r _ [5, 6, 7, 8, 4, 9, 16, 17, 18, 19, 20, 21, 22, 23] (by decide +kernel) (by decide +kernel)
set_option maxRecDepth 20000 in
theorem gX5_asker_X5_askerAt : GoodIn wsX5_asker (wsV RX5 151 RX5 yX5_askerAt wsX5_askerAt) := goodIn_app (goodIn_of _ (by decide +kernel)) ggX5_asker_X5_askerAt
theorem dX5_asker_0 : decode cX5_asker 0 = .ok (.aload_n 0, 1) := by decide +kernel
theorem dX5_asker_1 : decode cX5_asker 1 = .ok (.iload_n 1, 1) := by decide +kernel
theorem dX5_asker_2 : decode cX5_asker 2 = .ok (.invokevirtual 151, 3) := by decide +kernel
theorem dX5_asker_5 : decode cX5_asker 5 = .ok (.astore_n 3, 1) := by decide +kernel
theorem dX5_asker_6 : decode cX5_asker 6 = .ok (.aload_n 3, 1) := by decide +kernel
theorem dX5_asker_7 : decode cX5_asker 7 = .ok (.ifnonnull 5, 3) := by decide +kernel
theorem dX5_asker_10 : decode cX5_asker 10 = .ok (.iconst (-1), 1) := by decide +kernel
theorem dX5_asker_11 : decode cX5_asker 11 = .ok (.ireturn, 1) := by decide +kernel
theorem dX5_asker_12 : decode cX5_asker 12 = .ok (.iload_n 2, 1) := by decide +kernel
theorem dX5_asker_13 : decode cX5_asker 13 = .ok (.tableswitch 42 0 2 #[27, 32, 37], 27) := by decide +kernel
theorem dX5_asker_40 : decode cX5_asker 40 = .ok (.aload_n 3, 1) := by decide +kernel
theorem dX5_asker_41 : decode cX5_asker 41 = .ok (.getfield 172, 3) := by decide +kernel
theorem dX5_asker_44 : decode cX5_asker 44 = .ok (.ireturn, 1) := by decide +kernel
theorem dX5_asker_45 : decode cX5_asker 45 = .ok (.aload_n 3, 1) := by decide +kernel
theorem dX5_asker_46 : decode cX5_asker 46 = .ok (.getfield 162, 3) := by decide +kernel
theorem dX5_asker_49 : decode cX5_asker 49 = .ok (.ireturn, 1) := by decide +kernel
theorem dX5_asker_50 : decode cX5_asker 50 = .ok (.aload_n 3, 1) := by decide +kernel
theorem dX5_asker_51 : decode cX5_asker 51 = .ok (.getfield 165, 3) := by decide +kernel
theorem dX5_asker_54 : decode cX5_asker 54 = .ok (.ireturn, 1) := by decide +kernel
theorem dX5_asker_55 : decode cX5_asker 55 = .ok (.iconst (-1), 1) := by decide +kernel
theorem dX5_asker_56 : decode cX5_asker 56 = .ok (.ireturn, 1) := by decide +kernel
set_option maxRecDepth 20000 in
theorem ggX5_count_J13_bitCount_95d88 : GoodIn wsX5_count wsJ13_bitCount_95d88 := goodIn_r _ [9, 10, 11, 12] (by decide +kernel) (by decide +kernel)
set_option maxRecDepth 20000 in
theorem gX5_count_J13_bitCount_95d88 : GoodIn wsX5_count (va_wsS RX5 123 yJ13_bitCount_95d88 wsJ13_bitCount_95d88) := goodIn_app (goodIn_of _ (by decide +kernel)) ggX5_count_J13_bitCount_95d88
theorem dX5_count_0 : decode cX5_count 0 = .ok (.iload_n 1, 1) := by decide +kernel
theorem dX5_count_1 : decode cX5_count 1 = .ok (.tableswitch 93 0 6 #[43, 48, 56, 64, 69, 77, 82], 43) := by decide +kernel
theorem dX5_count_44 : decode cX5_count 44 = .ok (.aload_n 0, 1) := by decide +kernel
theorem dX5_count_45 : decode cX5_count 45 = .ok (.getfield 55, 3) := by decide +kernel
theorem dX5_count_48 : decode cX5_count 48 = .ok (.ireturn, 1) := by decide +kernel
theorem dX5_count_49 : decode cX5_count 49 = .ok (.aload_n 0, 1) := by decide +kernel
theorem dX5_count_50 : decode cX5_count 50 = .ok (.getfield 12, 3) := by decide +kernel
theorem dX5_count_53 : decode cX5_count 53 = .ok (.getfield 211, 3) := by decide +kernel
theorem dX5_count_56 : decode cX5_count 56 = .ok (.ireturn, 1) := by decide +kernel
theorem dX5_count_57 : decode cX5_count 57 = .ok (.aload_n 0, 1) := by decide +kernel
theorem dX5_count_58 : decode cX5_count 58 = .ok (.getfield 12, 3) := by decide +kernel
theorem dX5_count_61 : decode cX5_count 61 = .ok (.getfield 214, 3) := by decide +kernel
theorem dX5_count_64 : decode cX5_count 64 = .ok (.ireturn, 1) := by decide +kernel
theorem dX5_count_65 : decode cX5_count 65 = .ok (.aload_n 0, 1) := by decide +kernel
theorem dX5_count_66 : decode cX5_count 66 = .ok (.getfield 90, 3) := by decide +kernel
theorem dX5_count_69 : decode cX5_count 69 = .ok (.ireturn, 1) := by decide +kernel
theorem dX5_count_70 : decode cX5_count 70 = .ok (.aload_n 0, 1) := by decide +kernel
theorem dX5_count_71 : decode cX5_count 71 = .ok (.getfield 19, 3) := by decide +kernel
theorem dX5_count_74 : decode cX5_count 74 = .ok (.getfield 217, 3) := by decide +kernel
theorem dX5_count_77 : decode cX5_count 77 = .ok (.ireturn, 1) := by decide +kernel
theorem dX5_count_78 : decode cX5_count 78 = .ok (.aload_n 0, 1) := by decide +kernel
theorem dX5_count_79 : decode cX5_count 79 = .ok (.getfield 43, 3) := by decide +kernel
theorem dX5_count_82 : decode cX5_count 82 = .ok (.ireturn, 1) := by decide +kernel
theorem dX5_count_83 : decode cX5_count 83 = .ok (.aload_n 0, 1) := by decide +kernel
theorem dX5_count_84 : decode cX5_count 84 = .ok (.getfield 12, 3) := by decide +kernel
theorem dX5_count_87 : decode cX5_count 87 = .ok (.getfield 220, 3) := by decide +kernel
theorem dX5_count_90 : decode cX5_count 90 = .ok (.invokestatic 123, 3) := by decide +kernel
theorem dX5_count_93 : decode cX5_count 93 = .ok (.ireturn, 1) := by decide +kernel
theorem dX5_count_94 : decode cX5_count 94 = .ok (.iconst (-1), 1) := by decide +kernel
theorem dX5_count_95 : decode cX5_count 95 = .ok (.ireturn, 1) := by decide +kernel
theorem dX5_isWithin_0 : decode cX5_isWithin 0 = .ok (.iload_n 0, 1) := by decide +kernel
theorem dX5_isWithin_1 : decode cX5_isWithin 1 = .ok (.iload_n 1, 1) := by decide +kernel
theorem dX5_isWithin_2 : decode cX5_isWithin 2 = .ok (.if_icmp .lt 12, 3) := by decide +kernel
theorem dX5_isWithin_5 : decode cX5_isWithin 5 = .ok (.iload_n 0, 1) := by decide +kernel
theorem dX5_isWithin_6 : decode cX5_isWithin 6 = .ok (.iload_n 2, 1) := by decide +kernel
theorem dX5_isWithin_7 : decode cX5_isWithin 7 = .ok (.if_icmp .gt 7, 3) := by decide +kernel
theorem dX5_isWithin_10 : decode cX5_isWithin 10 = .ok (.iconst 1, 1) := by decide +kernel
theorem dX5_isWithin_11 : decode cX5_isWithin 11 = .ok (.goto 4, 3) := by decide +kernel
theorem dX5_isWithin_14 : decode cX5_isWithin 14 = .ok (.iconst 0, 1) := by decide +kernel
theorem dX5_isWithin_15 : decode cX5_isWithin 15 = .ok (.ireturn, 1) := by decide +kernel
set_option maxRecDepth 20000 in
theorem ggX5_isIn_X5_isWithin : GoodIn wsX5_isIn wsX5_isWithin := goodIn_r _ [4] (by decide +kernel) (by decide +kernel)
set_option maxRecDepth 20000 in
theorem gX5_isIn_X5_isWithin : GoodIn wsX5_isIn (va_wsS RX5 47 yX5_isWithin wsX5_isWithin) := goodIn_app (goodIn_of _ (by decide +kernel)) ggX5_isIn_X5_isWithin
theorem dX5_isIn_0 : decode cX5_isIn 0 = .ok (.iload_n 1, 1) := by decide +kernel
theorem dX5_isIn_1 : decode cX5_isIn 1 = .ok (.iconst 0, 1) := by decide +kernel
theorem dX5_isIn_2 : decode cX5_isIn 2 = .ok (.bipush 31, 2) := by decide +kernel
theorem dX5_isIn_4 : decode cX5_isIn 4 = .ok (.invokestatic 47, 3) := by decide +kernel
theorem dX5_isIn_7 : decode cX5_isIn 7 = .ok (.ifCond .eq 15, 3) := by decide +kernel
theorem dX5_isIn_10 : decode cX5_isIn 10 = .ok (.iload_n 0, 1) := by decide +kernel
theorem dX5_isIn_11 : decode cX5_isIn 11 = .ok (.iconst 1, 1) := by decide +kernel
theorem dX5_isIn_12 : decode cX5_isIn 12 = .ok (.iload_n 1, 1) := by decide +kernel
theorem dX5_isIn_13 : decode cX5_isIn 13 = .ok (.ishl, 1) := by decide +kernel
theorem dX5_isIn_14 : decode cX5_isIn 14 = .ok (.iand, 1) := by decide +kernel
theorem dX5_isIn_15 : decode cX5_isIn 15 = .ok (.ifCond .eq 7, 3) := by decide +kernel
theorem dX5_isIn_18 : decode cX5_isIn 18 = .ok (.iconst 1, 1) := by decide +kernel
theorem dX5_isIn_19 : decode cX5_isIn 19 = .ok (.goto 4, 3) := by decide +kernel
theorem dX5_isIn_22 : decode cX5_isIn 22 = .ok (.iconst 0, 1) := by decide +kernel
theorem dX5_isIn_23 : decode cX5_isIn 23 = .ok (.ireturn, 1) := by decide +kernel
set_option maxRecDepth 20000 in
theorem ggX5_bitOf_X5_isWithin : GoodIn wsX5_bitOf wsX5_isWithin := goodIn_r _ [4] (by decide +kernel) (by decide +kernel)
set_option maxRecDepth 20000 in
theorem gX5_bitOf_X5_isWithin : GoodIn wsX5_bitOf (va_wsS RX5 47 yX5_isWithin wsX5_isWithin) := goodIn_app (goodIn_of _ (by decide +kernel)) ggX5_bitOf_X5_isWithin
theorem dX5_bitOf_0 : decode cX5_bitOf 0 = .ok (.iload_n 0, 1) := by decide +kernel
theorem dX5_bitOf_1 : decode cX5_bitOf 1 = .ok (.iconst 0, 1) := by decide +kernel
theorem dX5_bitOf_2 : decode cX5_bitOf 2 = .ok (.bipush 59, 2) := by decide +kernel
theorem dX5_bitOf_4 : decode cX5_bitOf 4 = .ok (.invokestatic 47, 3) := by decide +kernel
theorem dX5_bitOf_7 : decode cX5_bitOf 7 = .ok (.ifCond .eq 9, 3) := by decide +kernel
theorem dX5_bitOf_10 : decode cX5_bitOf 10 = .ok (.lconst 1, 1) := by decide +kernel
theorem dX5_bitOf_11 : decode cX5_bitOf 11 = .ok (.iload_n 0, 1) := by decide +kernel
theorem dX5_bitOf_12 : decode cX5_bitOf 12 = .ok (.lshl, 1) := by decide +kernel
theorem dX5_bitOf_13 : decode cX5_bitOf 13 = .ok (.goto 4, 3) := by decide +kernel
theorem dX5_bitOf_16 : decode cX5_bitOf 16 = .ok (.lconst 0, 1) := by decide +kernel
theorem dX5_bitOf_17 : decode cX5_bitOf 17 = .ok (.lreturn, 1) := by decide +kernel
set_option maxRecDepth 20000 in
theorem ggX5_leastOf_J13_bitCount_95d88 : GoodIn wsX5_leastOf wsJ13_bitCount_95d88 := goodIn_r _ [4, 5, 6, 7] (by decide +kernel) (by decide +kernel)
set_option maxRecDepth 20000 in
theorem gX5_leastOf_J13_bitCount_95d88 : GoodIn wsX5_leastOf (va_wsS RX5 123 yJ13_bitCount_95d88 wsJ13_bitCount_95d88) := goodIn_app (goodIn_of _ (by decide +kernel)) ggX5_leastOf_J13_bitCount_95d88
theorem dX5_leastOf_0 : decode cX5_leastOf 0 = .ok (.lload_n 0, 1) := by decide +kernel
theorem dX5_leastOf_1 : decode cX5_leastOf 1 = .ok (.lload_n 0, 1) := by decide +kernel
theorem dX5_leastOf_2 : decode cX5_leastOf 2 = .ok (.lneg, 1) := by decide +kernel
theorem dX5_leastOf_3 : decode cX5_leastOf 3 = .ok (.land, 1) := by decide +kernel
theorem dX5_leastOf_4 : decode cX5_leastOf 4 = .ok (.lconst 1, 1) := by decide +kernel
theorem dX5_leastOf_5 : decode cX5_leastOf 5 = .ok (.lsub, 1) := by decide +kernel
theorem dX5_leastOf_6 : decode cX5_leastOf 6 = .ok (.invokestatic 123, 3) := by decide +kernel
theorem dX5_leastOf_9 : decode cX5_leastOf 9 = .ok (.ireturn, 1) := by decide +kernel
set_option maxRecDepth 20000 in
theorem ggX5_mirrorAt_X5_isWithin : GoodIn wsX5_mirrorAt wsX5_isWithin := goodIn_r _ [6] (by decide +kernel) (by decide +kernel)
set_option maxRecDepth 20000 in
theorem gX5_mirrorAt_X5_isWithin : GoodIn wsX5_mirrorAt (va_wsS RX5 47 yX5_isWithin wsX5_isWithin) := goodIn_app (goodIn_of _ (by decide +kernel)) ggX5_mirrorAt_X5_isWithin
theorem dX5_mirrorAt_0 : decode cX5_mirrorAt 0 = .ok (.iload_n 1, 1) := by decide +kernel
theorem dX5_mirrorAt_1 : decode cX5_mirrorAt 1 = .ok (.iconst 0, 1) := by decide +kernel
theorem dX5_mirrorAt_2 : decode cX5_mirrorAt 2 = .ok (.aload_n 0, 1) := by decide +kernel
theorem dX5_mirrorAt_3 : decode cX5_mirrorAt 3 = .ok (.getfield 90, 3) := by decide +kernel
theorem dX5_mirrorAt_6 : decode cX5_mirrorAt 6 = .ok (.iconst 1, 1) := by decide +kernel
theorem dX5_mirrorAt_7 : decode cX5_mirrorAt 7 = .ok (.isub, 1) := by decide +kernel
theorem dX5_mirrorAt_8 : decode cX5_mirrorAt 8 = .ok (.invokestatic 47, 3) := by decide +kernel
theorem dX5_mirrorAt_11 : decode cX5_mirrorAt 11 = .ok (.ifCond .eq 12, 3) := by decide +kernel
theorem dX5_mirrorAt_14 : decode cX5_mirrorAt 14 = .ok (.aload_n 0, 1) := by decide +kernel
theorem dX5_mirrorAt_15 : decode cX5_mirrorAt 15 = .ok (.getfield 25, 3) := by decide +kernel
theorem dX5_mirrorAt_18 : decode cX5_mirrorAt 18 = .ok (.iload_n 1, 1) := by decide +kernel
theorem dX5_mirrorAt_19 : decode cX5_mirrorAt 19 = .ok (.aaload, 1) := by decide +kernel
theorem dX5_mirrorAt_20 : decode cX5_mirrorAt 20 = .ok (.goto 4, 3) := by decide +kernel
theorem dX5_mirrorAt_23 : decode cX5_mirrorAt 23 = .ok (.aconst_null, 1) := by decide +kernel
theorem dX5_mirrorAt_24 : decode cX5_mirrorAt 24 = .ok (.areturn, 1) := by decide +kernel
set_option maxRecDepth 20000 in
theorem ggX5_askerAt_X5_isWithin : GoodIn wsX5_askerAt wsX5_isWithin := goodIn_r _ [5] (by decide +kernel) (by decide +kernel)
set_option maxRecDepth 20000 in
theorem gX5_askerAt_X5_isWithin : GoodIn wsX5_askerAt (va_wsS RX5 47 yX5_isWithin wsX5_isWithin) := goodIn_app (goodIn_of _ (by decide +kernel)) ggX5_askerAt_X5_isWithin
theorem dX5_askerAt_0 : decode cX5_askerAt 0 = .ok (.iload_n 1, 1) := by decide +kernel
theorem dX5_askerAt_1 : decode cX5_askerAt 1 = .ok (.iconst 0, 1) := by decide +kernel
theorem dX5_askerAt_2 : decode cX5_askerAt 2 = .ok (.iconst 5, 1) := by decide +kernel
theorem dX5_askerAt_3 : decode cX5_askerAt 3 = .ok (.invokestatic 47, 3) := by decide +kernel
theorem dX5_askerAt_6 : decode cX5_askerAt 6 = .ok (.ifCond .eq 12, 3) := by decide +kernel
theorem dX5_askerAt_9 : decode cX5_askerAt 9 = .ok (.aload_n 0, 1) := by decide +kernel
theorem dX5_askerAt_10 : decode cX5_askerAt 10 = .ok (.getfield 31, 3) := by decide +kernel
theorem dX5_askerAt_13 : decode cX5_askerAt 13 = .ok (.iload_n 1, 1) := by decide +kernel
theorem dX5_askerAt_14 : decode cX5_askerAt 14 = .ok (.aaload, 1) := by decide +kernel
theorem dX5_askerAt_15 : decode cX5_askerAt 15 = .ok (.goto 4, 3) := by decide +kernel
theorem dX5_askerAt_18 : decode cX5_askerAt 18 = .ok (.aconst_null, 1) := by decide +kernel
theorem dX5_askerAt_19 : decode cX5_askerAt 19 = .ok (.areturn, 1) := by decide +kernel
set_option maxRecDepth 20000 in
theorem ggX5_stepAll_X2_downAt : GoodIn wsX5_stepAll wsX2_downAt := goodIn_r _ [8, 9, 10, 11, 12, 13, 14, 15, 116, 117, 118, 119] (by decide +kernel) (by decide +kernel)
set_option maxRecDepth 20000 in
theorem gX5_stepAll_X2_downAt_n134 : GoodIn wsX5_stepAll (wsX2_downAt) := ggX5_stepAll_X2_downAt
set_option maxRecDepth 20000 in
theorem ggX5_stepAll_X5_mirrorAt : GoodIn wsX5_stepAll wsX5_mirrorAt := goodIn_r _ [19, 3, 20, 21, 13, 14, 15, 98, 99, 100, 101, 102, 103, 104, 105] (by decide +kernel) (by decide +kernel)
set_option maxRecDepth 20000 in
theorem gX5_stepAll_X5_mirrorAt : GoodIn wsX5_stepAll (wsV RX5 96 RX5 yX5_mirrorAt wsX5_mirrorAt) := goodIn_app (goodIn_of _ (by decide +kernel)) ggX5_stepAll_X5_mirrorAt
set_option maxRecDepth 20000 in
theorem ggX5_stepAll_X5_isIn : GoodIn wsX5_stepAll wsX5_isIn := goodIn_r _ [24, 21, 13, 14, 15] (by decide +kernel) (by decide +kernel)
set_option maxRecDepth 20000 in
theorem gX5_stepAll_X5_isIn : GoodIn wsX5_stepAll (va_wsS RX5 137 yX5_isIn wsX5_isIn) := goodIn_app (goodIn_of _ (by decide +kernel)) ggX5_stepAll_X5_isIn
set_option maxRecDepth 20000 in
theorem ggX5_stepAll_X4_latestState : GoodIn wsX5_stepAll wsX4_latestState := goodIn_r _ [28, 29, 120, 121, 122, 123, 124, 125, 126, 127] (by decide +kernel) (by decide +kernel)
set_option maxRecDepth 20000 in
theorem gX5_stepAll_X4_latestState_n226 : GoodIn wsX5_stepAll (wsX4_latestState) := ggX5_stepAll_X4_latestState
set_option maxRecDepth 20000 in
theorem ggX5_stepAll_X4_allFiles : GoodIn wsX5_stepAll wsX4_allFiles := goodIn_r _ [32, 33, 120, 121, 122, 123, 124, 125, 126, 127] (by decide +kernel) (by decide +kernel)
set_option maxRecDepth 20000 in
theorem gX5_stepAll_X4_allFiles_n230 : GoodIn wsX5_stepAll (wsX4_allFiles) := ggX5_stepAll_X4_allFiles
set_option maxRecDepth 20000 in
theorem ggX5_stepAll_X3_step : GoodIn wsX5_stepAll wsX3_step := goodIn_r _ [37, 38, 39, 40, 41, 42, 35, 43, 44, 45, 46, 47, 48, 49, 50, 51, 52, 26, 53, 54, 55, 56, 57, 58, 59, 29, 60, 14, 61, 62, 63, 64, 65, 66, 67, 68, 69, 70, 21, 13, 15, 71, 72, 73, 74, 75, 76, 77, 78, 33, 79, 80, 81, 82, 83, 84, 85, 86, 87, 88, 89, 90, 91, 92, 93, 94, 95, 96, 97, 106, 107, 108, 109, 110, 111, 112, 113, 114, 115, 120, 121, 122, 123, 124, 125, 126, 127] (by decide +kernel) (by decide +kernel)
set_option maxRecDepth 20000 in
theorem gX5_stepAll_X3_step_n234 : GoodIn wsX5_stepAll (wsX3_step) := ggX5_stepAll_X3_step
theorem dX5_stepAll_0 : decode cX5_stepAll 0 = .ok (.aload_n 0, 1) := by decide +kernel
theorem dX5_stepAll_1 : decode cX5_stepAll 1 = .ok (.getfield 19, 3) := by decide +kernel
theorem dX5_stepAll_4 : decode cX5_stepAll 4 = .ok (.aload_n 0, 1) := by decide +kernel
theorem dX5_stepAll_5 : decode cX5_stepAll 5 = .ok (.getfield 55, 3) := by decide +kernel
theorem dX5_stepAll_8 : decode cX5_stepAll 8 = .ok (.invokevirtual 134, 3) := by decide +kernel
theorem dX5_stepAll_11 : decode cX5_stepAll 11 = .ok (.istore_n 1, 1) := by decide +kernel
theorem dX5_stepAll_12 : decode cX5_stepAll 12 = .ok (.iconst 0, 1) := by decide +kernel
theorem dX5_stepAll_13 : decode cX5_stepAll 13 = .ok (.istore_n 2, 1) := by decide +kernel
theorem dX5_stepAll_14 : decode cX5_stepAll 14 = .ok (.iload_n 2, 1) := by decide +kernel
theorem dX5_stepAll_15 : decode cX5_stepAll 15 = .ok (.aload_n 0, 1) := by decide +kernel
theorem dX5_stepAll_16 : decode cX5_stepAll 16 = .ok (.getfield 90, 3) := by decide +kernel
theorem dX5_stepAll_19 : decode cX5_stepAll 19 = .ok (.if_icmp .ge 107, 3) := by decide +kernel
theorem dX5_stepAll_22 : decode cX5_stepAll 22 = .ok (.aload_n 0, 1) := by decide +kernel
theorem dX5_stepAll_23 : decode cX5_stepAll 23 = .ok (.iload_n 2, 1) := by decide +kernel
theorem dX5_stepAll_24 : decode cX5_stepAll 24 = .ok (.invokevirtual 96, 3) := by decide +kernel
theorem dX5_stepAll_27 : decode cX5_stepAll 27 = .ok (.astore_n 3, 1) := by decide +kernel
theorem dX5_stepAll_28 : decode cX5_stepAll 28 = .ok (.aload_n 3, 1) := by decide +kernel
theorem dX5_stepAll_29 : decode cX5_stepAll 29 = .ok (.ifnonnull 6, 3) := by decide +kernel
theorem dX5_stepAll_32 : decode cX5_stepAll 32 = .ok (.goto 88, 3) := by decide +kernel
theorem dX5_stepAll_35 : decode cX5_stepAll 35 = .ok (.aload_n 0, 1) := by decide +kernel
theorem dX5_stepAll_36 : decode cX5_stepAll 36 = .ok (.aload_n 3, 1) := by decide +kernel
theorem dX5_stepAll_37 : decode cX5_stepAll 37 = .ok (.getfield 223, 3) := by decide +kernel
theorem dX5_stepAll_40 : decode cX5_stepAll 40 = .ok (.invokevirtual 96, 3) := by decide +kernel
theorem dX5_stepAll_43 : decode cX5_stepAll 43 = .ok (.astore 4, 2) := by decide +kernel
theorem dX5_stepAll_45 : decode cX5_stepAll 45 = .ok (.iload_n 1, 1) := by decide +kernel
theorem dX5_stepAll_46 : decode cX5_stepAll 46 = .ok (.iload_n 2, 1) := by decide +kernel
theorem dX5_stepAll_47 : decode cX5_stepAll 47 = .ok (.invokestatic 137, 3) := by decide +kernel
theorem dX5_stepAll_50 : decode cX5_stepAll 50 = .ok (.ifCond .eq 11, 3) := by decide +kernel
theorem dX5_stepAll_53 : decode cX5_stepAll 53 = .ok (.aload_n 3, 1) := by decide +kernel
theorem dX5_stepAll_54 : decode cX5_stepAll 54 = .ok (.iconst 0, 1) := by decide +kernel
theorem dX5_stepAll_55 : decode cX5_stepAll 55 = .ok (.putfield 128, 3) := by decide +kernel
theorem dX5_stepAll_58 : decode cX5_stepAll 58 = .ok (.goto 62, 3) := by decide +kernel
theorem dX5_stepAll_61 : decode cX5_stepAll 61 = .ok (.aload 4, 2) := by decide +kernel
theorem dX5_stepAll_63 : decode cX5_stepAll 63 = .ok (.ifnonnull 28, 3) := by decide +kernel
theorem dX5_stepAll_66 : decode cX5_stepAll 66 = .ok (.aload_n 3, 1) := by decide +kernel
theorem dX5_stepAll_67 : decode cX5_stepAll 67 = .ok (.aload_n 0, 1) := by decide +kernel
theorem dX5_stepAll_68 : decode cX5_stepAll 68 = .ok (.getfield 12, 3) := by decide +kernel
theorem dX5_stepAll_71 : decode cX5_stepAll 71 = .ok (.aload_n 0, 1) := by decide +kernel
theorem dX5_stepAll_72 : decode cX5_stepAll 72 = .ok (.getfield 12, 3) := by decide +kernel
theorem dX5_stepAll_75 : decode cX5_stepAll 75 = .ok (.invokevirtual 226, 3) := by decide +kernel
theorem dX5_stepAll_78 : decode cX5_stepAll 78 = .ok (.aload_n 0, 1) := by decide +kernel
theorem dX5_stepAll_79 : decode cX5_stepAll 79 = .ok (.getfield 12, 3) := by decide +kernel
theorem dX5_stepAll_82 : decode cX5_stepAll 82 = .ok (.invokevirtual 230, 3) := by decide +kernel
theorem dX5_stepAll_85 : decode cX5_stepAll 85 = .ok (.invokevirtual 234, 3) := by decide +kernel
theorem dX5_stepAll_88 : decode cX5_stepAll 88 = .ok (.goto 32, 3) := by decide +kernel
theorem dX5_stepAll_91 : decode cX5_stepAll 91 = .ok (.iload_n 1, 1) := by decide +kernel
theorem dX5_stepAll_92 : decode cX5_stepAll 92 = .ok (.aload_n 3, 1) := by decide +kernel
theorem dX5_stepAll_93 : decode cX5_stepAll 93 = .ok (.getfield 223, 3) := by decide +kernel
theorem dX5_stepAll_96 : decode cX5_stepAll 96 = .ok (.invokestatic 137, 3) := by decide +kernel
theorem dX5_stepAll_99 : decode cX5_stepAll 99 = .ok (.ifCond .ne 21, 3) := by decide +kernel
theorem dX5_stepAll_102 : decode cX5_stepAll 102 = .ok (.aload_n 3, 1) := by decide +kernel
theorem dX5_stepAll_103 : decode cX5_stepAll 103 = .ok (.aload_n 0, 1) := by decide +kernel
theorem dX5_stepAll_104 : decode cX5_stepAll 104 = .ok (.getfield 12, 3) := by decide +kernel
theorem dX5_stepAll_107 : decode cX5_stepAll 107 = .ok (.aload 4, 2) := by decide +kernel
theorem dX5_stepAll_109 : decode cX5_stepAll 109 = .ok (.getfield 113, 3) := by decide +kernel
theorem dX5_stepAll_112 : decode cX5_stepAll 112 = .ok (.aload 4, 2) := by decide +kernel
theorem dX5_stepAll_114 : decode cX5_stepAll 114 = .ok (.getfield 119, 3) := by decide +kernel
theorem dX5_stepAll_117 : decode cX5_stepAll 117 = .ok (.invokevirtual 234, 3) := by decide +kernel
theorem dX5_stepAll_120 : decode cX5_stepAll 120 = .ok (.iinc 2 1, 3) := by decide +kernel
theorem dX5_stepAll_123 : decode cX5_stepAll 123 = .ok (.goto (-109), 3) := by decide +kernel
theorem dX5_stepAll_126 : decode cX5_stepAll 126 = .ok (.return_, 1) := by decide +kernel
set_option maxRecDepth 20000 in
theorem ggX5_carryOut_X5_findIndex : GoodIn wsX5_carryOut wsX5_findIndex := goodIn_r _ [6, 1, 7, 8, 9, 10, 11, 12, 13, 5, 14, 15, 16, 17, 18, 19, 20, 21, 22, 23, 24, 25, 26, 27, 28, 29, 30, 31, 32, 33, 34, 35, 36, 37, 38, 39, 40, 41, 42, 43, 44, 45, 46, 47, 48, 49, 50, 51, 52, 53, 54, 55, 56, 57, 58, 59, 60, 61, 62, 63, 64, 65, 66, 67, 68, 69, 70, 71, 118, 119, 120, 121, 122, 123, 100, 101, 102, 103, 104, 105, 106, 107, 124, 125, 126, 127, 128, 129, 130, 131, 132, 133, 108, 109, 110, 111, 112, 113, 114, 115, 116, 117, 134, 135, 136, 137, 138, 139, 140, 141] (by decide +kernel) (by decide +kernel)
set_option maxRecDepth 20000 in
theorem gX5_carryOut_X5_findIndex : GoodIn wsX5_carryOut (wsV RX5 238 RX5 yX5_findIndex wsX5_findIndex) := goodIn_app (goodIn_of _ (by decide +kernel)) ggX5_carryOut_X5_findIndex
set_option maxRecDepth 20000 in
theorem ggX5_carryOut_X5_firstNotNamed : GoodIn wsX5_carryOut wsX5_firstNotNamed := goodIn_r _ [75, 46, 38, 26, 5, 27, 21, 13, 14, 76, 50, 77, 78, 79, 54, 55, 56, 57, 58, 100, 101, 102, 103, 104, 105, 106, 107, 134, 135, 136, 137, 138, 139, 140, 141] (by decide +kernel) (by decide +kernel)
set_option maxRecDepth 20000 in
theorem gX5_carryOut_X5_firstNotNamed : GoodIn wsX5_carryOut (wsV RX5 242 RX5 yX5_firstNotNamed wsX5_firstNotNamed) := goodIn_app (goodIn_of _ (by decide +kernel)) ggX5_carryOut_X5_firstNotNamed
set_option maxRecDepth 20000 in
theorem ggX5_carryOut_X5_getFiles : GoodIn wsX5_carryOut wsX5_getFiles := goodIn_r _ [83, 46, 1, 38, 26, 5, 27, 21, 13, 14, 76, 50, 77, 78, 79, 54, 55, 56, 57, 58, 84, 85, 86, 87, 7, 8, 9, 10, 11, 12, 15, 16, 17, 18, 19, 20, 22, 23, 24, 25, 28, 29, 30, 31, 32, 33, 34, 35, 36, 37, 88, 89, 90, 91, 92, 70, 71, 39, 40, 41, 93, 94, 95, 96, 97, 98, 99, 100, 101, 102, 103, 104, 105, 106, 107, 108, 109, 110, 111, 112, 113, 114, 115, 116, 117, 134, 135, 136, 137, 138, 139, 140, 141, 118, 119, 120, 121, 122, 123, 124, 125, 126, 127, 128, 129, 130, 131, 132, 133] (by decide +kernel) (by decide +kernel)
set_option maxRecDepth 20000 in
theorem gX5_carryOut_X5_getFiles : GoodIn wsX5_carryOut (wsV RX5 245 RX5 yX5_getFiles wsX5_getFiles) := goodIn_app (goodIn_of _ (by decide +kernel)) ggX5_carryOut_X5_getFiles
theorem dX5_carryOut_0 : decode cX5_carryOut 0 = .ok (.aload_n 0, 1) := by decide +kernel
theorem dX5_carryOut_1 : decode cX5_carryOut 1 = .ok (.getfield 39, 3) := by decide +kernel
theorem dX5_carryOut_4 : decode cX5_carryOut 4 = .ok (.aload_n 0, 1) := by decide +kernel
theorem dX5_carryOut_5 : decode cX5_carryOut 5 = .ok (.aload_n 1, 1) := by decide +kernel
theorem dX5_carryOut_6 : decode cX5_carryOut 6 = .ok (.iload_n 3, 1) := by decide +kernel
theorem dX5_carryOut_7 : decode cX5_carryOut 7 = .ok (.invokevirtual 238, 3) := by decide +kernel
theorem dX5_carryOut_10 : decode cX5_carryOut 10 = .ok (.putfield 195, 3) := by decide +kernel
theorem dX5_carryOut_13 : decode cX5_carryOut 13 = .ok (.aload_n 0, 1) := by decide +kernel
theorem dX5_carryOut_14 : decode cX5_carryOut 14 = .ok (.getfield 39, 3) := by decide +kernel
theorem dX5_carryOut_17 : decode cX5_carryOut 17 = .ok (.getfield 195, 3) := by decide +kernel
theorem dX5_carryOut_20 : decode cX5_carryOut 20 = .ok (.iconst (-1), 1) := by decide +kernel
theorem dX5_carryOut_21 : decode cX5_carryOut 21 = .ok (.if_icmp .ne 5, 3) := by decide +kernel
theorem dX5_carryOut_24 : decode cX5_carryOut 24 = .ok (.iconst 1, 1) := by decide +kernel
theorem dX5_carryOut_25 : decode cX5_carryOut 25 = .ok (.ireturn, 1) := by decide +kernel
theorem dX5_carryOut_26 : decode cX5_carryOut 26 = .ok (.aload_n 1, 1) := by decide +kernel
theorem dX5_carryOut_27 : decode cX5_carryOut 27 = .ok (.aload_n 0, 1) := by decide +kernel
theorem dX5_carryOut_28 : decode cX5_carryOut 28 = .ok (.getfield 39, 3) := by decide +kernel
theorem dX5_carryOut_31 : decode cX5_carryOut 31 = .ok (.getfield 195, 3) := by decide +kernel
theorem dX5_carryOut_34 : decode cX5_carryOut 34 = .ok (.putfield 172, 3) := by decide +kernel
theorem dX5_carryOut_37 : decode cX5_carryOut 37 = .ok (.aload_n 0, 1) := by decide +kernel
theorem dX5_carryOut_38 : decode cX5_carryOut 38 = .ok (.getfield 39, 3) := by decide +kernel
theorem dX5_carryOut_41 : decode cX5_carryOut 41 = .ok (.aload_n 0, 1) := by decide +kernel
theorem dX5_carryOut_42 : decode cX5_carryOut 42 = .ok (.aload_n 0, 1) := by decide +kernel
theorem dX5_carryOut_43 : decode cX5_carryOut 43 = .ok (.getfield 39, 3) := by decide +kernel
theorem dX5_carryOut_46 : decode cX5_carryOut 46 = .ok (.getfield 195, 3) := by decide +kernel
theorem dX5_carryOut_49 : decode cX5_carryOut 49 = .ok (.iload_n 2, 1) := by decide +kernel
theorem dX5_carryOut_50 : decode cX5_carryOut 50 = .ok (.invokevirtual 242, 3) := by decide +kernel
theorem dX5_carryOut_53 : decode cX5_carryOut 53 = .ok (.putfield 205, 3) := by decide +kernel
theorem dX5_carryOut_56 : decode cX5_carryOut 56 = .ok (.aload_n 0, 1) := by decide +kernel
theorem dX5_carryOut_57 : decode cX5_carryOut 57 = .ok (.getfield 39, 3) := by decide +kernel
theorem dX5_carryOut_60 : decode cX5_carryOut 60 = .ok (.getfield 205, 3) := by decide +kernel
theorem dX5_carryOut_63 : decode cX5_carryOut 63 = .ok (.iconst (-1), 1) := by decide +kernel
theorem dX5_carryOut_64 : decode cX5_carryOut 64 = .ok (.if_icmp .eq 5, 3) := by decide +kernel
theorem dX5_carryOut_67 : decode cX5_carryOut 67 = .ok (.iconst 2, 1) := by decide +kernel
theorem dX5_carryOut_68 : decode cX5_carryOut 68 = .ok (.ireturn, 1) := by decide +kernel
theorem dX5_carryOut_69 : decode cX5_carryOut 69 = .ok (.aload_n 0, 1) := by decide +kernel
theorem dX5_carryOut_70 : decode cX5_carryOut 70 = .ok (.getfield 39, 3) := by decide +kernel
theorem dX5_carryOut_73 : decode cX5_carryOut 73 = .ok (.aload_n 0, 1) := by decide +kernel
theorem dX5_carryOut_74 : decode cX5_carryOut 74 = .ok (.aload_n 1, 1) := by decide +kernel
theorem dX5_carryOut_75 : decode cX5_carryOut 75 = .ok (.iload_n 2, 1) := by decide +kernel
theorem dX5_carryOut_76 : decode cX5_carryOut 76 = .ok (.iload_n 3, 1) := by decide +kernel
theorem dX5_carryOut_77 : decode cX5_carryOut 77 = .ok (.invokevirtual 245, 3) := by decide +kernel
theorem dX5_carryOut_80 : decode cX5_carryOut 80 = .ok (.putfield 205, 3) := by decide +kernel
theorem dX5_carryOut_83 : decode cX5_carryOut 83 = .ok (.aload_n 0, 1) := by decide +kernel
theorem dX5_carryOut_84 : decode cX5_carryOut 84 = .ok (.getfield 39, 3) := by decide +kernel
theorem dX5_carryOut_87 : decode cX5_carryOut 87 = .ok (.getfield 205, 3) := by decide +kernel
theorem dX5_carryOut_90 : decode cX5_carryOut 90 = .ok (.iconst (-1), 1) := by decide +kernel
theorem dX5_carryOut_91 : decode cX5_carryOut 91 = .ok (.if_icmp .ne 7, 3) := by decide +kernel
theorem dX5_carryOut_94 : decode cX5_carryOut 94 = .ok (.iconst 0, 1) := by decide +kernel
theorem dX5_carryOut_95 : decode cX5_carryOut 95 = .ok (.goto 4, 3) := by decide +kernel
theorem dX5_carryOut_98 : decode cX5_carryOut 98 = .ok (.iconst 3, 1) := by decide +kernel
theorem dX5_carryOut_99 : decode cX5_carryOut 99 = .ok (.ireturn, 1) := by decide +kernel
set_option maxRecDepth 20000 in
theorem ggX5_findIndex_X0_inLine : GoodIn wsX5_findIndex wsX0_inLine := goodIn_r _ [5, 6, 7, 8, 9, 10, 68, 69, 70, 71, 72, 73] (by decide +kernel) (by decide +kernel)
set_option maxRecDepth 20000 in
theorem gX5_findIndex_X0_inLine_n251 : GoodIn wsX5_findIndex (wsX0_inLine) := ggX5_findIndex_X0_inLine
set_option maxRecDepth 20000 in
theorem ggX5_findIndex_X5_mirrorAt : GoodIn wsX5_findIndex wsX5_mirrorAt := goodIn_r _ [14, 15, 16, 17, 8, 9, 10, 74, 75, 76, 77, 78, 79, 80, 81] (by decide +kernel) (by decide +kernel)
set_option maxRecDepth 20000 in
theorem gX5_findIndex_X5_mirrorAt : GoodIn wsX5_findIndex (wsV RX5 96 RX5 yX5_mirrorAt wsX5_mirrorAt) := goodIn_app (goodIn_of _ (by decide +kernel)) ggX5_findIndex_X5_mirrorAt
set_option maxRecDepth 20000 in
theorem ggX5_findIndex_X0_knowsAsBad : GoodIn wsX5_findIndex wsX0_knowsAsBad := goodIn_r _ [20, 21, 22, 9, 23, 17, 8, 10, 68, 69, 70, 71, 72, 73] (by decide +kernel) (by decide +kernel)
set_option maxRecDepth 20000 in
theorem gX5_findIndex_X0_knowsAsBad_n254 : GoodIn wsX5_findIndex (wsX0_knowsAsBad) := ggX5_findIndex_X0_knowsAsBad
set_option maxRecDepth 20000 in
theorem ggX5_findIndex_X0_costOf : GoodIn wsX5_findIndex wsX0_costOf := goodIn_r _ [26, 27, 8, 9, 10, 68, 69, 70, 71, 72, 73] (by decide +kernel) (by decide +kernel)
set_option maxRecDepth 20000 in
theorem gX5_findIndex_X0_costOf_n155 : GoodIn wsX5_findIndex (wsX0_costOf) := ggX5_findIndex_X0_costOf
set_option maxRecDepth 20000 in
theorem ggX5_findIndex_X1_spend : GoodIn wsX5_findIndex wsX1_spend := goodIn_r _ [31, 32, 33, 92, 93, 94, 95, 96, 97, 98, 99, 100, 101] (by decide +kernel) (by decide +kernel)
set_option maxRecDepth 20000 in
theorem gX5_findIndex_X1_spend_n257 : GoodIn wsX5_findIndex (wsX1_spend) := ggX5_findIndex_X1_spend
set_option maxRecDepth 20000 in
theorem ggX5_findIndex_X5_isIn : GoodIn wsX5_findIndex wsX5_isIn := goodIn_r _ [23, 17, 8, 9, 10] (by decide +kernel) (by decide +kernel)
set_option maxRecDepth 20000 in
theorem gX5_findIndex_X5_isIn : GoodIn wsX5_findIndex (va_wsS RX5 137 yX5_isIn wsX5_isIn) := goodIn_app (goodIn_of _ (by decide +kernel)) ggX5_findIndex_X5_isIn
set_option maxRecDepth 20000 in
theorem ggX5_findIndex_X0_markBad : GoodIn wsX5_findIndex wsX0_markBad := goodIn_r _ [37, 21, 8, 9, 10, 68, 69, 70, 71, 72, 73] (by decide +kernel) (by decide +kernel)
set_option maxRecDepth 20000 in
theorem gX5_findIndex_X0_markBad_n261 : GoodIn wsX5_findIndex (wsX0_markBad) := ggX5_findIndex_X0_markBad
set_option maxRecDepth 20000 in
theorem ggX5_findIndex_X5_suits : GoodIn wsX5_findIndex wsX5_suits := goodIn_r _ [41, 42, 43, 44, 45, 46, 47, 48, 49, 50, 51, 52, 53, 54, 55, 56, 57, 58, 59, 60, 61, 62, 63, 64, 65, 66, 9, 67, 17, 8, 10, 74, 75, 76, 77, 78, 79, 80, 81, 102, 103, 104, 105, 106, 107, 108, 109] (by decide +kernel) (by decide +kernel)
set_option maxRecDepth 20000 in
theorem gX5_findIndex_X5_suits : GoodIn wsX5_findIndex (wsV RX5 264 RX5 yX5_suits wsX5_suits) := goodIn_app (goodIn_of _ (by decide +kernel)) ggX5_findIndex_X5_suits
theorem dX5_findIndex_0 : decode cX5_findIndex 0 = .ok (.iconst 0, 1) := by decide +kernel
theorem dX5_findIndex_1 : decode cX5_findIndex 1 = .ok (.istore_n 3, 1) := by decide +kernel
theorem dX5_findIndex_2 : decode cX5_findIndex 2 = .ok (.iload_n 3, 1) := by decide +kernel
theorem dX5_findIndex_3 : decode cX5_findIndex 3 = .ok (.aload_n 1, 1) := by decide +kernel
theorem dX5_findIndex_4 : decode cX5_findIndex 4 = .ok (.getfield 248, 3) := by decide +kernel
theorem dX5_findIndex_7 : decode cX5_findIndex 7 = .ok (.if_icmp .ge 109, 3) := by decide +kernel
theorem dX5_findIndex_10 : decode cX5_findIndex 10 = .ok (.aload_n 1, 1) := by decide +kernel
theorem dX5_findIndex_11 : decode cX5_findIndex 11 = .ok (.iload_n 3, 1) := by decide +kernel
theorem dX5_findIndex_12 : decode cX5_findIndex 12 = .ok (.invokevirtual 251, 3) := by decide +kernel
theorem dX5_findIndex_15 : decode cX5_findIndex 15 = .ok (.istore 4, 2) := by decide +kernel
theorem dX5_findIndex_17 : decode cX5_findIndex 17 = .ok (.aload_n 0, 1) := by decide +kernel
theorem dX5_findIndex_18 : decode cX5_findIndex 18 = .ok (.iload 4, 2) := by decide +kernel
theorem dX5_findIndex_20 : decode cX5_findIndex 20 = .ok (.invokevirtual 96, 3) := by decide +kernel
theorem dX5_findIndex_23 : decode cX5_findIndex 23 = .ok (.astore 5, 2) := by decide +kernel
theorem dX5_findIndex_25 : decode cX5_findIndex 25 = .ok (.aload 5, 2) := by decide +kernel
theorem dX5_findIndex_27 : decode cX5_findIndex 27 = .ok (.ifnull 83, 3) := by decide +kernel
theorem dX5_findIndex_30 : decode cX5_findIndex 30 = .ok (.aload_n 1, 1) := by decide +kernel
theorem dX5_findIndex_31 : decode cX5_findIndex 31 = .ok (.iload 4, 2) := by decide +kernel
theorem dX5_findIndex_33 : decode cX5_findIndex 33 = .ok (.invokevirtual 254, 3) := by decide +kernel
theorem dX5_findIndex_36 : decode cX5_findIndex 36 = .ok (.ifCond .eq 6, 3) := by decide +kernel
theorem dX5_findIndex_39 : decode cX5_findIndex 39 = .ok (.goto 71, 3) := by decide +kernel
theorem dX5_findIndex_42 : decode cX5_findIndex 42 = .ok (.aload_n 0, 1) := by decide +kernel
theorem dX5_findIndex_43 : decode cX5_findIndex 43 = .ok (.getfield 39, 3) := by decide +kernel
theorem dX5_findIndex_46 : decode cX5_findIndex 46 = .ok (.aload_n 1, 1) := by decide +kernel
theorem dX5_findIndex_47 : decode cX5_findIndex 47 = .ok (.iload 4, 2) := by decide +kernel
theorem dX5_findIndex_49 : decode cX5_findIndex 49 = .ok (.invokevirtual 155, 3) := by decide +kernel
theorem dX5_findIndex_52 : decode cX5_findIndex 52 = .ok (.invokevirtual 257, 3) := by decide +kernel
theorem dX5_findIndex_55 : decode cX5_findIndex 55 = .ok (.iload_n 2, 1) := by decide +kernel
theorem dX5_findIndex_56 : decode cX5_findIndex 56 = .ok (.iload 4, 2) := by decide +kernel
theorem dX5_findIndex_58 : decode cX5_findIndex 58 = .ok (.invokestatic 137, 3) := by decide +kernel
theorem dX5_findIndex_61 : decode cX5_findIndex 61 = .ok (.ifCond .eq 6, 3) := by decide +kernel
theorem dX5_findIndex_64 : decode cX5_findIndex 64 = .ok (.goto 46, 3) := by decide +kernel
theorem dX5_findIndex_67 : decode cX5_findIndex 67 = .ok (.aload 5, 2) := by decide +kernel
theorem dX5_findIndex_69 : decode cX5_findIndex 69 = .ok (.getfield 106, 3) := by decide +kernel
theorem dX5_findIndex_72 : decode cX5_findIndex 72 = .ok (.ifCond .eq 12, 3) := by decide +kernel
theorem dX5_findIndex_75 : decode cX5_findIndex 75 = .ok (.aload_n 1, 1) := by decide +kernel
theorem dX5_findIndex_76 : decode cX5_findIndex 76 = .ok (.iload 4, 2) := by decide +kernel
theorem dX5_findIndex_78 : decode cX5_findIndex 78 = .ok (.invokevirtual 261, 3) := by decide +kernel
theorem dX5_findIndex_81 : decode cX5_findIndex 81 = .ok (.goto 29, 3) := by decide +kernel
theorem dX5_findIndex_84 : decode cX5_findIndex 84 = .ok (.aload_n 0, 1) := by decide +kernel
theorem dX5_findIndex_85 : decode cX5_findIndex 85 = .ok (.aload 5, 2) := by decide +kernel
theorem dX5_findIndex_87 : decode cX5_findIndex 87 = .ok (.getfield 113, 3) := by decide +kernel
theorem dX5_findIndex_90 : decode cX5_findIndex 90 = .ok (.aload_n 1, 1) := by decide +kernel
theorem dX5_findIndex_91 : decode cX5_findIndex 91 = .ok (.getfield 162, 3) := by decide +kernel
theorem dX5_findIndex_94 : decode cX5_findIndex 94 = .ok (.aload_n 1, 1) := by decide +kernel
theorem dX5_findIndex_95 : decode cX5_findIndex 95 = .ok (.getfield 172, 3) := by decide +kernel
theorem dX5_findIndex_98 : decode cX5_findIndex 98 = .ok (.invokevirtual 264, 3) := by decide +kernel
theorem dX5_findIndex_101 : decode cX5_findIndex 101 = .ok (.ifCond .eq 9, 3) := by decide +kernel
theorem dX5_findIndex_104 : decode cX5_findIndex 104 = .ok (.aload 5, 2) := by decide +kernel
theorem dX5_findIndex_106 : decode cX5_findIndex 106 = .ok (.getfield 113, 3) := by decide +kernel
theorem dX5_findIndex_109 : decode cX5_findIndex 109 = .ok (.ireturn, 1) := by decide +kernel
theorem dX5_findIndex_110 : decode cX5_findIndex 110 = .ok (.iinc 3 1, 3) := by decide +kernel
theorem dX5_findIndex_113 : decode cX5_findIndex 113 = .ok (.goto (-111), 3) := by decide +kernel
theorem dX5_findIndex_116 : decode cX5_findIndex 116 = .ok (.iconst (-1), 1) := by decide +kernel
theorem dX5_findIndex_117 : decode cX5_findIndex 117 = .ok (.ireturn, 1) := by decide +kernel
set_option maxRecDepth 20000 in
theorem ggX5_suits_X4_ageOf : GoodIn wsX5_suits wsX4_ageOf := goodIn_r _ [7, 8, 9, 10, 11, 5, 12, 13, 39, 40, 41, 42, 43, 44, 45, 46] (by decide +kernel) (by decide +kernel)
set_option maxRecDepth 20000 in
theorem gX5_suits_X4_ageOf_n76 : GoodIn wsX5_suits (wsX4_ageOf) := ggX5_suits_X4_ageOf
set_option maxRecDepth 20000 in
theorem ggX5_suits_X4_namesLongYanked : GoodIn wsX5_suits wsX4_namesLongYanked := goodIn_r _ [16, 17, 18, 19, 20, 21, 22, 5, 23, 24, 9, 10, 11, 12, 13, 25, 26, 27, 28, 29, 30, 39, 40, 41, 42, 43, 44, 45, 46] (by decide +kernel) (by decide +kernel)
set_option maxRecDepth 20000 in
theorem gX5_suits_X4_namesLongYanked_n267 : GoodIn wsX5_suits (wsX4_namesLongYanked) := ggX5_suits_X4_namesLongYanked
theorem dX5_suits_0 : decode cX5_suits 0 = .ok (.iload_n 1, 1) := by decide +kernel
theorem dX5_suits_1 : decode cX5_suits 1 = .ok (.iload_n 3, 1) := by decide +kernel
theorem dX5_suits_2 : decode cX5_suits 2 = .ok (.if_icmp .lt 42, 3) := by decide +kernel
theorem dX5_suits_5 : decode cX5_suits 5 = .ok (.aload_n 0, 1) := by decide +kernel
theorem dX5_suits_6 : decode cX5_suits 6 = .ok (.getfield 12, 3) := by decide +kernel
theorem dX5_suits_9 : decode cX5_suits 9 = .ok (.iload_n 1, 1) := by decide +kernel
theorem dX5_suits_10 : decode cX5_suits 10 = .ok (.aload_n 0, 1) := by decide +kernel
theorem dX5_suits_11 : decode cX5_suits 11 = .ok (.getfield 55, 3) := by decide +kernel
theorem dX5_suits_14 : decode cX5_suits 14 = .ok (.invokevirtual 76, 3) := by decide +kernel
theorem dX5_suits_17 : decode cX5_suits 17 = .ok (.iload_n 2, 1) := by decide +kernel
theorem dX5_suits_18 : decode cX5_suits 18 = .ok (.if_icmp .gt 26, 3) := by decide +kernel
theorem dX5_suits_21 : decode cX5_suits 21 = .ok (.aload_n 0, 1) := by decide +kernel
theorem dX5_suits_22 : decode cX5_suits 22 = .ok (.getfield 12, 3) := by decide +kernel
theorem dX5_suits_25 : decode cX5_suits 25 = .ok (.iload_n 1, 1) := by decide +kernel
theorem dX5_suits_26 : decode cX5_suits 26 = .ok (.aload_n 0, 1) := by decide +kernel
theorem dX5_suits_27 : decode cX5_suits 27 = .ok (.getfield 55, 3) := by decide +kernel
theorem dX5_suits_30 : decode cX5_suits 30 = .ok (.aload_n 0, 1) := by decide +kernel
theorem dX5_suits_31 : decode cX5_suits 31 = .ok (.getfield 43, 3) := by decide +kernel
theorem dX5_suits_34 : decode cX5_suits 34 = .ok (.invokevirtual 267, 3) := by decide +kernel
theorem dX5_suits_37 : decode cX5_suits 37 = .ok (.ifCond .ne 7, 3) := by decide +kernel
theorem dX5_suits_40 : decode cX5_suits 40 = .ok (.iconst 1, 1) := by decide +kernel
theorem dX5_suits_41 : decode cX5_suits 41 = .ok (.goto 4, 3) := by decide +kernel
theorem dX5_suits_44 : decode cX5_suits 44 = .ok (.iconst 0, 1) := by decide +kernel
theorem dX5_suits_45 : decode cX5_suits 45 = .ok (.ireturn, 1) := by decide +kernel
set_option maxRecDepth 20000 in
theorem ggX5_firstNotNamed_X5_isIn : GoodIn wsX5_firstNotNamed wsX5_isIn := goodIn_r _ [5, 6, 7, 4, 8] (by decide +kernel) (by decide +kernel)
set_option maxRecDepth 20000 in
theorem gX5_firstNotNamed_X5_isIn : GoodIn wsX5_firstNotNamed (va_wsS RX5 137 yX5_isIn wsX5_isIn) := goodIn_app (goodIn_of _ (by decide +kernel)) ggX5_firstNotNamed_X5_isIn
set_option maxRecDepth 20000 in
theorem ggX5_firstNotNamed_X4_namedBy : GoodIn wsX5_firstNotNamed wsX4_namedBy := goodIn_r _ [12, 13, 14, 15, 16, 10, 17, 18, 7, 4, 8, 27, 28, 29, 30, 31, 32, 33, 34] (by decide +kernel) (by decide +kernel)
set_option maxRecDepth 20000 in
theorem gX5_firstNotNamed_X4_namedBy_n66 : GoodIn wsX5_firstNotNamed (wsX4_namedBy) := ggX5_firstNotNamed_X4_namedBy
theorem dX5_firstNotNamed_0 : decode cX5_firstNotNamed 0 = .ok (.iconst 0, 1) := by decide +kernel
theorem dX5_firstNotNamed_1 : decode cX5_firstNotNamed 1 = .ok (.istore_n 3, 1) := by decide +kernel
theorem dX5_firstNotNamed_2 : decode cX5_firstNotNamed 2 = .ok (.iload_n 3, 1) := by decide +kernel
theorem dX5_firstNotNamed_3 : decode cX5_firstNotNamed 3 = .ok (.bipush 12, 2) := by decide +kernel
theorem dX5_firstNotNamed_5 : decode cX5_firstNotNamed 5 = .ok (.if_icmp .ge 32, 3) := by decide +kernel
theorem dX5_firstNotNamed_8 : decode cX5_firstNotNamed 8 = .ok (.iload_n 2, 1) := by decide +kernel
theorem dX5_firstNotNamed_9 : decode cX5_firstNotNamed 9 = .ok (.iload_n 3, 1) := by decide +kernel
theorem dX5_firstNotNamed_10 : decode cX5_firstNotNamed 10 = .ok (.invokestatic 137, 3) := by decide +kernel
theorem dX5_firstNotNamed_13 : decode cX5_firstNotNamed 13 = .ok (.ifCond .eq 18, 3) := by decide +kernel
theorem dX5_firstNotNamed_16 : decode cX5_firstNotNamed 16 = .ok (.aload_n 0, 1) := by decide +kernel
theorem dX5_firstNotNamed_17 : decode cX5_firstNotNamed 17 = .ok (.getfield 12, 3) := by decide +kernel
theorem dX5_firstNotNamed_20 : decode cX5_firstNotNamed 20 = .ok (.iload_n 1, 1) := by decide +kernel
theorem dX5_firstNotNamed_21 : decode cX5_firstNotNamed 21 = .ok (.iload_n 3, 1) := by decide +kernel
theorem dX5_firstNotNamed_22 : decode cX5_firstNotNamed 22 = .ok (.invokevirtual 66, 3) := by decide +kernel
theorem dX5_firstNotNamed_25 : decode cX5_firstNotNamed 25 = .ok (.iconst (-1), 1) := by decide +kernel
theorem dX5_firstNotNamed_26 : decode cX5_firstNotNamed 26 = .ok (.if_icmp .ne 5, 3) := by decide +kernel
theorem dX5_firstNotNamed_29 : decode cX5_firstNotNamed 29 = .ok (.iload_n 3, 1) := by decide +kernel
theorem dX5_firstNotNamed_30 : decode cX5_firstNotNamed 30 = .ok (.ireturn, 1) := by decide +kernel
theorem dX5_firstNotNamed_31 : decode cX5_firstNotNamed 31 = .ok (.iinc 3 1, 3) := by decide +kernel
theorem dX5_firstNotNamed_34 : decode cX5_firstNotNamed 34 = .ok (.goto (-32), 3) := by decide +kernel
theorem dX5_firstNotNamed_37 : decode cX5_firstNotNamed 37 = .ok (.iconst (-1), 1) := by decide +kernel
theorem dX5_firstNotNamed_38 : decode cX5_firstNotNamed 38 = .ok (.ireturn, 1) := by decide +kernel
set_option maxRecDepth 20000 in
theorem ggX5_getFiles_X5_isIn : GoodIn wsX5_getFiles wsX5_isIn := goodIn_r _ [6, 7, 8, 5, 9] (by decide +kernel) (by decide +kernel)
set_option maxRecDepth 20000 in
theorem gX5_getFiles_X5_isIn : GoodIn wsX5_getFiles (va_wsS RX5 137 yX5_isIn wsX5_isIn) := goodIn_app (goodIn_of _ (by decide +kernel)) ggX5_getFiles_X5_isIn
set_option maxRecDepth 20000 in
theorem ggX5_getFiles_X4_namedBy : GoodIn wsX5_getFiles wsX4_namedBy := goodIn_r _ [13, 14, 15, 16, 17, 11, 18, 19, 8, 5, 9, 85, 86, 87, 88, 89, 90, 91, 92] (by decide +kernel) (by decide +kernel)
set_option maxRecDepth 20000 in
theorem gX5_getFiles_X4_namedBy_n66 : GoodIn wsX5_getFiles (wsX4_namedBy) := ggX5_getFiles_X4_namedBy
set_option maxRecDepth 20000 in
theorem ggX5_getFiles_X5_findGiver : GoodIn wsX5_getFiles wsX5_findGiver := goodIn_r _ [23, 2, 24, 25, 26, 27, 28, 29, 8, 5, 9, 30, 31, 32, 33, 34, 35, 7, 36, 37, 38, 39, 4, 6, 40, 41, 42, 43, 44, 45, 46, 47, 48, 49, 3, 50, 51, 52, 53, 54, 55, 56, 57, 58, 59, 93, 94, 95, 96, 97, 98, 67, 68, 69, 70, 71, 72, 73, 74, 99, 100, 101, 102, 103, 104, 105, 106, 107, 108, 75, 76, 77, 78, 79, 80, 81, 82, 83, 84] (by decide +kernel) (by decide +kernel)
set_option maxRecDepth 20000 in
theorem gX5_getFiles_X5_findGiver : GoodIn wsX5_getFiles (wsV RX5 270 RX5 yX5_findGiver wsX5_findGiver) := goodIn_app (goodIn_of _ (by decide +kernel)) ggX5_getFiles_X5_findGiver
set_option maxRecDepth 20000 in
theorem ggX5_getFiles_X1_keepGot : GoodIn wsX5_getFiles wsX1_keepGot := goodIn_r _ [62, 63, 64, 65, 66, 75, 76, 77, 78, 79, 80, 81, 82, 83, 84] (by decide +kernel) (by decide +kernel)
set_option maxRecDepth 20000 in
theorem gX5_getFiles_X1_keepGot_n273 : GoodIn wsX5_getFiles (wsX1_keepGot) := ggX5_getFiles_X1_keepGot
theorem dX5_getFiles_0 : decode cX5_getFiles 0 = .ok (.iconst 0, 1) := by decide +kernel
theorem dX5_getFiles_1 : decode cX5_getFiles 1 = .ok (.istore 4, 2) := by decide +kernel
theorem dX5_getFiles_3 : decode cX5_getFiles 3 = .ok (.iload 4, 2) := by decide +kernel
theorem dX5_getFiles_5 : decode cX5_getFiles 5 = .ok (.bipush 12, 2) := by decide +kernel
theorem dX5_getFiles_7 : decode cX5_getFiles 7 = .ok (.if_icmp .ge 71, 3) := by decide +kernel
theorem dX5_getFiles_10 : decode cX5_getFiles 10 = .ok (.iload_n 2, 1) := by decide +kernel
theorem dX5_getFiles_11 : decode cX5_getFiles 11 = .ok (.iload 4, 2) := by decide +kernel
theorem dX5_getFiles_13 : decode cX5_getFiles 13 = .ok (.invokestatic 137, 3) := by decide +kernel
theorem dX5_getFiles_16 : decode cX5_getFiles 16 = .ok (.ifCond .ne 6, 3) := by decide +kernel
theorem dX5_getFiles_19 : decode cX5_getFiles 19 = .ok (.goto 53, 3) := by decide +kernel
theorem dX5_getFiles_22 : decode cX5_getFiles 22 = .ok (.aload_n 0, 1) := by decide +kernel
theorem dX5_getFiles_23 : decode cX5_getFiles 23 = .ok (.getfield 12, 3) := by decide +kernel
theorem dX5_getFiles_26 : decode cX5_getFiles 26 = .ok (.aload_n 0, 1) := by decide +kernel
theorem dX5_getFiles_27 : decode cX5_getFiles 27 = .ok (.getfield 39, 3) := by decide +kernel
theorem dX5_getFiles_30 : decode cX5_getFiles 30 = .ok (.getfield 195, 3) := by decide +kernel
theorem dX5_getFiles_33 : decode cX5_getFiles 33 = .ok (.iload 4, 2) := by decide +kernel
theorem dX5_getFiles_35 : decode cX5_getFiles 35 = .ok (.invokevirtual 66, 3) := by decide +kernel
theorem dX5_getFiles_38 : decode cX5_getFiles 38 = .ok (.istore 5, 2) := by decide +kernel
theorem dX5_getFiles_40 : decode cX5_getFiles 40 = .ok (.aload_n 0, 1) := by decide +kernel
theorem dX5_getFiles_41 : decode cX5_getFiles 41 = .ok (.aload_n 1, 1) := by decide +kernel
theorem dX5_getFiles_42 : decode cX5_getFiles 42 = .ok (.iload 5, 2) := by decide +kernel
theorem dX5_getFiles_44 : decode cX5_getFiles 44 = .ok (.iload_n 3, 1) := by decide +kernel
theorem dX5_getFiles_45 : decode cX5_getFiles 45 = .ok (.invokevirtual 270, 3) := by decide +kernel
theorem dX5_getFiles_48 : decode cX5_getFiles 48 = .ok (.istore 6, 2) := by decide +kernel
theorem dX5_getFiles_50 : decode cX5_getFiles 50 = .ok (.iload 6, 2) := by decide +kernel
theorem dX5_getFiles_52 : decode cX5_getFiles 52 = .ok (.iconst (-1), 1) := by decide +kernel
theorem dX5_getFiles_53 : decode cX5_getFiles 53 = .ok (.if_icmp .ne 6, 3) := by decide +kernel
theorem dX5_getFiles_56 : decode cX5_getFiles 56 = .ok (.iload 4, 2) := by decide +kernel
theorem dX5_getFiles_58 : decode cX5_getFiles 58 = .ok (.ireturn, 1) := by decide +kernel
theorem dX5_getFiles_59 : decode cX5_getFiles 59 = .ok (.aload_n 0, 1) := by decide +kernel
theorem dX5_getFiles_60 : decode cX5_getFiles 60 = .ok (.getfield 39, 3) := by decide +kernel
theorem dX5_getFiles_63 : decode cX5_getFiles 63 = .ok (.iload 5, 2) := by decide +kernel
theorem dX5_getFiles_65 : decode cX5_getFiles 65 = .ok (.iload 4, 2) := by decide +kernel
theorem dX5_getFiles_67 : decode cX5_getFiles 67 = .ok (.iload 6, 2) := by decide +kernel
theorem dX5_getFiles_69 : decode cX5_getFiles 69 = .ok (.invokevirtual 273, 3) := by decide +kernel
theorem dX5_getFiles_72 : decode cX5_getFiles 72 = .ok (.iinc 4 1, 3) := by decide +kernel
theorem dX5_getFiles_75 : decode cX5_getFiles 75 = .ok (.goto (-72), 3) := by decide +kernel
theorem dX5_getFiles_78 : decode cX5_getFiles 78 = .ok (.iconst (-1), 1) := by decide +kernel
theorem dX5_getFiles_79 : decode cX5_getFiles 79 = .ok (.ireturn, 1) := by decide +kernel
set_option maxRecDepth 20000 in
theorem ggX5_findGiver_X0_inLine : GoodIn wsX5_findGiver wsX0_inLine := goodIn_r _ [5, 6, 7, 8, 9, 10, 45, 46, 47, 48, 49, 50] (by decide +kernel) (by decide +kernel)
set_option maxRecDepth 20000 in
theorem gX5_findGiver_X0_inLine_n251 : GoodIn wsX5_findGiver (wsX0_inLine) := ggX5_findGiver_X0_inLine
set_option maxRecDepth 20000 in
theorem ggX5_findGiver_X5_mirrorAt : GoodIn wsX5_findGiver wsX5_mirrorAt := goodIn_r _ [14, 15, 16, 17, 8, 9, 10, 51, 52, 53, 54, 55, 56, 57, 58] (by decide +kernel) (by decide +kernel)
set_option maxRecDepth 20000 in
theorem gX5_findGiver_X5_mirrorAt : GoodIn wsX5_findGiver (wsV RX5 96 RX5 yX5_mirrorAt wsX5_mirrorAt) := goodIn_app (goodIn_of _ (by decide +kernel)) ggX5_findGiver_X5_mirrorAt
set_option maxRecDepth 20000 in
theorem ggX5_findGiver_X0_knowsAsBad : GoodIn wsX5_findGiver wsX0_knowsAsBad := goodIn_r _ [20, 21, 22, 9, 23, 17, 8, 10, 45, 46, 47, 48, 49, 50] (by decide +kernel) (by decide +kernel)
set_option maxRecDepth 20000 in
theorem gX5_findGiver_X0_knowsAsBad_n254 : GoodIn wsX5_findGiver (wsX0_knowsAsBad) := ggX5_findGiver_X0_knowsAsBad
set_option maxRecDepth 20000 in
theorem ggX5_findGiver_X0_costOf : GoodIn wsX5_findGiver wsX0_costOf := goodIn_r _ [26, 27, 8, 9, 10, 45, 46, 47, 48, 49, 50] (by decide +kernel) (by decide +kernel)
set_option maxRecDepth 20000 in
theorem gX5_findGiver_X0_costOf_n155 : GoodIn wsX5_findGiver (wsX0_costOf) := ggX5_findGiver_X0_costOf
set_option maxRecDepth 20000 in
theorem ggX5_findGiver_X1_spend : GoodIn wsX5_findGiver wsX1_spend := goodIn_r _ [31, 32, 33, 69, 70, 71, 72, 73, 74, 75, 76, 77, 78] (by decide +kernel) (by decide +kernel)
set_option maxRecDepth 20000 in
theorem gX5_findGiver_X1_spend_n257 : GoodIn wsX5_findGiver (wsX1_spend) := ggX5_findGiver_X1_spend
set_option maxRecDepth 20000 in
theorem ggX5_findGiver_X5_isIn : GoodIn wsX5_findGiver wsX5_isIn := goodIn_r _ [23, 17, 8, 9, 10] (by decide +kernel) (by decide +kernel)
set_option maxRecDepth 20000 in
theorem gX5_findGiver_X5_isIn : GoodIn wsX5_findGiver (va_wsS RX5 137 yX5_isIn wsX5_isIn) := goodIn_app (goodIn_of _ (by decide +kernel)) ggX5_findGiver_X5_isIn
set_option maxRecDepth 20000 in
theorem ggX5_findGiver_X3_holds : GoodIn wsX5_findGiver wsX3_holds := goodIn_r _ [38, 39, 40, 9, 41, 17, 8, 10, 59, 60, 61, 62, 63, 64, 65, 66, 67, 68] (by decide +kernel) (by decide +kernel)
set_option maxRecDepth 20000 in
theorem gX5_findGiver_X3_holds_n148 : GoodIn wsX5_findGiver (wsX3_holds) := ggX5_findGiver_X3_holds
set_option maxRecDepth 20000 in
theorem ggX5_findGiver_X0_markBad : GoodIn wsX5_findGiver wsX0_markBad := goodIn_r _ [44, 21, 8, 9, 10, 45, 46, 47, 48, 49, 50] (by decide +kernel) (by decide +kernel)
set_option maxRecDepth 20000 in
theorem gX5_findGiver_X0_markBad_n261 : GoodIn wsX5_findGiver (wsX0_markBad) := ggX5_findGiver_X0_markBad
theorem dX5_findGiver_0 : decode cX5_findGiver 0 = .ok (.iconst 0, 1) := by decide +kernel
theorem dX5_findGiver_1 : decode cX5_findGiver 1 = .ok (.istore 4, 2) := by decide +kernel
theorem dX5_findGiver_3 : decode cX5_findGiver 3 = .ok (.iload 4, 2) := by decide +kernel
theorem dX5_findGiver_5 : decode cX5_findGiver 5 = .ok (.aload_n 1, 1) := by decide +kernel
theorem dX5_findGiver_6 : decode cX5_findGiver 6 = .ok (.getfield 248, 3) := by decide +kernel
theorem dX5_findGiver_9 : decode cX5_findGiver 9 = .ok (.if_icmp .ge 93, 3) := by decide +kernel
theorem dX5_findGiver_12 : decode cX5_findGiver 12 = .ok (.aload_n 1, 1) := by decide +kernel
theorem dX5_findGiver_13 : decode cX5_findGiver 13 = .ok (.iload 4, 2) := by decide +kernel
theorem dX5_findGiver_15 : decode cX5_findGiver 15 = .ok (.invokevirtual 251, 3) := by decide +kernel
theorem dX5_findGiver_18 : decode cX5_findGiver 18 = .ok (.istore 5, 2) := by decide +kernel
theorem dX5_findGiver_20 : decode cX5_findGiver 20 = .ok (.aload_n 0, 1) := by decide +kernel
theorem dX5_findGiver_21 : decode cX5_findGiver 21 = .ok (.iload 5, 2) := by decide +kernel
theorem dX5_findGiver_23 : decode cX5_findGiver 23 = .ok (.invokevirtual 96, 3) := by decide +kernel
theorem dX5_findGiver_26 : decode cX5_findGiver 26 = .ok (.astore 6, 2) := by decide +kernel
theorem dX5_findGiver_28 : decode cX5_findGiver 28 = .ok (.aload 6, 2) := by decide +kernel
theorem dX5_findGiver_30 : decode cX5_findGiver 30 = .ok (.ifnull 66, 3) := by decide +kernel
theorem dX5_findGiver_33 : decode cX5_findGiver 33 = .ok (.aload_n 1, 1) := by decide +kernel
theorem dX5_findGiver_34 : decode cX5_findGiver 34 = .ok (.iload 5, 2) := by decide +kernel
theorem dX5_findGiver_36 : decode cX5_findGiver 36 = .ok (.invokevirtual 254, 3) := by decide +kernel
theorem dX5_findGiver_39 : decode cX5_findGiver 39 = .ok (.ifCond .eq 6, 3) := by decide +kernel
theorem dX5_findGiver_42 : decode cX5_findGiver 42 = .ok (.goto 54, 3) := by decide +kernel
theorem dX5_findGiver_45 : decode cX5_findGiver 45 = .ok (.aload_n 0, 1) := by decide +kernel
theorem dX5_findGiver_46 : decode cX5_findGiver 46 = .ok (.getfield 39, 3) := by decide +kernel
theorem dX5_findGiver_49 : decode cX5_findGiver 49 = .ok (.aload_n 1, 1) := by decide +kernel
theorem dX5_findGiver_50 : decode cX5_findGiver 50 = .ok (.iload 5, 2) := by decide +kernel
theorem dX5_findGiver_52 : decode cX5_findGiver 52 = .ok (.invokevirtual 155, 3) := by decide +kernel
theorem dX5_findGiver_55 : decode cX5_findGiver 55 = .ok (.invokevirtual 257, 3) := by decide +kernel
theorem dX5_findGiver_58 : decode cX5_findGiver 58 = .ok (.iload_n 3, 1) := by decide +kernel
theorem dX5_findGiver_59 : decode cX5_findGiver 59 = .ok (.iload 5, 2) := by decide +kernel
theorem dX5_findGiver_61 : decode cX5_findGiver 61 = .ok (.invokestatic 137, 3) := by decide +kernel
theorem dX5_findGiver_64 : decode cX5_findGiver 64 = .ok (.ifCond .ne 32, 3) := by decide +kernel
theorem dX5_findGiver_67 : decode cX5_findGiver 67 = .ok (.aload 6, 2) := by decide +kernel
theorem dX5_findGiver_69 : decode cX5_findGiver 69 = .ok (.iload_n 2, 1) := by decide +kernel
theorem dX5_findGiver_70 : decode cX5_findGiver 70 = .ok (.invokevirtual 148, 3) := by decide +kernel
theorem dX5_findGiver_73 : decode cX5_findGiver 73 = .ok (.ifCond .ne 6, 3) := by decide +kernel
theorem dX5_findGiver_76 : decode cX5_findGiver 76 = .ok (.goto 20, 3) := by decide +kernel
theorem dX5_findGiver_79 : decode cX5_findGiver 79 = .ok (.aload 6, 2) := by decide +kernel
theorem dX5_findGiver_81 : decode cX5_findGiver 81 = .ok (.getfield 106, 3) := by decide +kernel
theorem dX5_findGiver_84 : decode cX5_findGiver 84 = .ok (.ifCond .ne 6, 3) := by decide +kernel
theorem dX5_findGiver_87 : decode cX5_findGiver 87 = .ok (.iload 5, 2) := by decide +kernel
theorem dX5_findGiver_89 : decode cX5_findGiver 89 = .ok (.ireturn, 1) := by decide +kernel
theorem dX5_findGiver_90 : decode cX5_findGiver 90 = .ok (.aload_n 1, 1) := by decide +kernel
theorem dX5_findGiver_91 : decode cX5_findGiver 91 = .ok (.iload 5, 2) := by decide +kernel
theorem dX5_findGiver_93 : decode cX5_findGiver 93 = .ok (.invokevirtual 261, 3) := by decide +kernel
theorem dX5_findGiver_96 : decode cX5_findGiver 96 = .ok (.iinc 4 1, 3) := by decide +kernel
theorem dX5_findGiver_99 : decode cX5_findGiver 99 = .ok (.goto (-96), 3) := by decide +kernel
theorem dX5_findGiver_102 : decode cX5_findGiver 102 = .ok (.iconst (-1), 1) := by decide +kernel
theorem dX5_findGiver_103 : decode cX5_findGiver 103 = .ok (.ireturn, 1) := by decide +kernel
set_option maxRecDepth 20000 in
theorem ggX5_foresee_X5_leastForIndex : GoodIn wsX5_foresee wsX5_leastForIndex := goodIn_r _ [7, 8, 1, 2, 9, 10, 11, 12, 13, 14, 15, 6, 16, 17, 18, 19, 20, 21, 22, 23, 24, 25, 26, 27, 28, 29, 30, 31, 32, 33, 34, 35, 36, 37, 38, 39, 40, 41, 42, 43, 44, 45, 46, 47, 48, 49, 50, 51, 52, 53, 54, 55, 56, 57, 58, 59, 60, 61, 62, 63, 64, 65, 66, 67, 68, 78, 79, 80, 81, 82, 83, 84, 85, 96, 97, 98, 99, 100, 101, 102, 103, 104, 105, 106, 107, 108, 109, 110, 111, 86, 87, 88, 89, 90, 91, 92, 93, 94, 95, 112, 113, 114, 115, 116, 117, 118, 119] (by decide +kernel) (by decide +kernel)
set_option maxRecDepth 20000 in
theorem gX5_foresee_X5_leastForIndex : GoodIn wsX5_foresee (wsV RX5 276 RX5 yX5_leastForIndex wsX5_leastForIndex) := goodIn_app (goodIn_of _ (by decide +kernel)) ggX5_foresee_X5_leastForIndex
set_option maxRecDepth 20000 in
theorem ggX5_foresee_X5_isIn : GoodIn wsX5_foresee wsX5_isIn := goodIn_r _ [31, 18, 19, 6, 20] (by decide +kernel) (by decide +kernel)
set_option maxRecDepth 20000 in
theorem gX5_foresee_X5_isIn : GoodIn wsX5_foresee (va_wsS RX5 137 yX5_isIn wsX5_isIn) := goodIn_app (goodIn_of _ (by decide +kernel)) ggX5_foresee_X5_isIn
set_option maxRecDepth 20000 in
theorem ggX5_foresee_X4_namedBy : GoodIn wsX5_foresee wsX4_namedBy := goodIn_r _ [67, 68, 43, 44, 45, 39, 46, 47, 19, 6, 20, 112, 113, 114, 115, 116, 117, 118, 119] (by decide +kernel) (by decide +kernel)
set_option maxRecDepth 20000 in
theorem gX5_foresee_X4_namedBy_n66 : GoodIn wsX5_foresee (wsX4_namedBy) := ggX5_foresee_X4_namedBy
set_option maxRecDepth 20000 in
theorem ggX5_foresee_X5_leastForFile : GoodIn wsX5_foresee wsX5_leastForFile := goodIn_r _ [72, 8, 9, 10, 11, 12, 13, 14, 15, 6, 16, 17, 18, 19, 20, 21, 22, 23, 24, 25, 26, 27, 28, 29, 30, 31, 73, 74, 75, 76, 77, 59, 60, 78, 79, 80, 81, 82, 83, 84, 85, 96, 97, 98, 99, 100, 101, 102, 103, 104, 105, 106, 107, 108, 109, 110, 111] (by decide +kernel) (by decide +kernel)
set_option maxRecDepth 20000 in
theorem gX5_foresee_X5_leastForFile : GoodIn wsX5_foresee (wsV RX5 279 RX5 yX5_leastForFile wsX5_leastForFile) := goodIn_app (goodIn_of _ (by decide +kernel)) ggX5_foresee_X5_leastForFile
theorem dX5_foresee_0 : decode cX5_foresee 0 = .ok (.aload_n 0, 1) := by decide +kernel
theorem dX5_foresee_1 : decode cX5_foresee 1 = .ok (.aload_n 1, 1) := by decide +kernel
theorem dX5_foresee_2 : decode cX5_foresee 2 = .ok (.iload_n 2, 1) := by decide +kernel
theorem dX5_foresee_3 : decode cX5_foresee 3 = .ok (.iload_n 3, 1) := by decide +kernel
theorem dX5_foresee_4 : decode cX5_foresee 4 = .ok (.iload 4, 2) := by decide +kernel
theorem dX5_foresee_6 : decode cX5_foresee 6 = .ok (.invokevirtual 276, 3) := by decide +kernel
theorem dX5_foresee_9 : decode cX5_foresee 9 = .ok (.istore 5, 2) := by decide +kernel
theorem dX5_foresee_11 : decode cX5_foresee 11 = .ok (.iconst 0, 1) := by decide +kernel
theorem dX5_foresee_12 : decode cX5_foresee 12 = .ok (.istore 6, 2) := by decide +kernel
theorem dX5_foresee_14 : decode cX5_foresee 14 = .ok (.iload 6, 2) := by decide +kernel
theorem dX5_foresee_16 : decode cX5_foresee 16 = .ok (.bipush 12, 2) := by decide +kernel
theorem dX5_foresee_18 : decode cX5_foresee 18 = .ok (.if_icmp .ge 46, 3) := by decide +kernel
theorem dX5_foresee_21 : decode cX5_foresee 21 = .ok (.iload_n 2, 1) := by decide +kernel
theorem dX5_foresee_22 : decode cX5_foresee 22 = .ok (.iload 6, 2) := by decide +kernel
theorem dX5_foresee_24 : decode cX5_foresee 24 = .ok (.invokestatic 137, 3) := by decide +kernel
theorem dX5_foresee_27 : decode cX5_foresee 27 = .ok (.ifCond .eq 31, 3) := by decide +kernel
theorem dX5_foresee_30 : decode cX5_foresee 30 = .ok (.iload 5, 2) := by decide +kernel
theorem dX5_foresee_32 : decode cX5_foresee 32 = .ok (.aload_n 0, 1) := by decide +kernel
theorem dX5_foresee_33 : decode cX5_foresee 33 = .ok (.aload_n 1, 1) := by decide +kernel
theorem dX5_foresee_34 : decode cX5_foresee 34 = .ok (.aload_n 0, 1) := by decide +kernel
theorem dX5_foresee_35 : decode cX5_foresee 35 = .ok (.getfield 12, 3) := by decide +kernel
theorem dX5_foresee_38 : decode cX5_foresee 38 = .ok (.aload_n 0, 1) := by decide +kernel
theorem dX5_foresee_39 : decode cX5_foresee 39 = .ok (.getfield 39, 3) := by decide +kernel
theorem dX5_foresee_42 : decode cX5_foresee 42 = .ok (.getfield 195, 3) := by decide +kernel
theorem dX5_foresee_45 : decode cX5_foresee 45 = .ok (.iload 6, 2) := by decide +kernel
theorem dX5_foresee_47 : decode cX5_foresee 47 = .ok (.invokevirtual 66, 3) := by decide +kernel
theorem dX5_foresee_50 : decode cX5_foresee 50 = .ok (.iload 4, 2) := by decide +kernel
theorem dX5_foresee_52 : decode cX5_foresee 52 = .ok (.invokevirtual 279, 3) := by decide +kernel
theorem dX5_foresee_55 : decode cX5_foresee 55 = .ok (.iadd, 1) := by decide +kernel
theorem dX5_foresee_56 : decode cX5_foresee 56 = .ok (.istore 5, 2) := by decide +kernel
theorem dX5_foresee_58 : decode cX5_foresee 58 = .ok (.iinc 6 1, 3) := by decide +kernel
theorem dX5_foresee_61 : decode cX5_foresee 61 = .ok (.goto (-47), 3) := by decide +kernel
theorem dX5_foresee_64 : decode cX5_foresee 64 = .ok (.iload 5, 2) := by decide +kernel
theorem dX5_foresee_66 : decode cX5_foresee 66 = .ok (.ireturn, 1) := by decide +kernel
set_option maxRecDepth 20000 in
theorem ggX5_leastForIndex_X5_mirrorAt : GoodIn wsX5_leastForIndex wsX5_mirrorAt := goodIn_r _ [12, 1, 13, 14, 15, 11, 16, 65, 66, 67, 68, 69, 70, 71, 72] (by decide +kernel) (by decide +kernel)
set_option maxRecDepth 20000 in
theorem gX5_leastForIndex_X5_mirrorAt : GoodIn wsX5_leastForIndex (wsV RX5 96 RX5 yX5_mirrorAt wsX5_mirrorAt) := goodIn_app (goodIn_of _ (by decide +kernel)) ggX5_leastForIndex_X5_mirrorAt
set_option maxRecDepth 20000 in
theorem ggX5_leastForIndex_X5_wouldAnswer : GoodIn wsX5_leastForIndex wsX5_wouldAnswer := goodIn_r _ [19, 20, 21, 22, 23, 24, 15, 11, 16, 25, 26, 27, 14, 73, 74, 75, 76, 77, 78, 79, 80, 81, 82, 83, 84, 85, 86, 87, 88] (by decide +kernel) (by decide +kernel)
set_option maxRecDepth 20000 in
theorem gX5_leastForIndex_X5_wouldAnswer : GoodIn wsX5_leastForIndex (va_wsS RX5 282 yX5_wouldAnswer wsX5_wouldAnswer) := goodIn_app (goodIn_of _ (by decide +kernel)) ggX5_leastForIndex_X5_wouldAnswer
set_option maxRecDepth 20000 in
theorem ggX5_leastForIndex_X5_suits : GoodIn wsX5_leastForIndex wsX5_suits := goodIn_r _ [31, 2, 32, 33, 34, 35, 36, 37, 38, 39, 40, 41, 42, 43, 44, 45, 46, 47, 48, 49, 50, 51, 52, 53, 54, 55, 11, 56, 14, 15, 16, 65, 66, 67, 68, 69, 70, 71, 72, 99, 100, 101, 102, 103, 104, 105, 106] (by decide +kernel) (by decide +kernel)
set_option maxRecDepth 20000 in
theorem gX5_leastForIndex_X5_suits : GoodIn wsX5_leastForIndex (wsV RX5 264 RX5 yX5_suits wsX5_suits) := goodIn_app (goodIn_of _ (by decide +kernel)) ggX5_leastForIndex_X5_suits
set_option maxRecDepth 20000 in
theorem ggX5_leastForIndex_X4_namesAlike : GoodIn wsX5_leastForIndex wsX4_namesAlike := goodIn_r _ [59, 26, 11, 27, 14, 15, 16, 60, 61, 62, 35, 63, 64, 39, 40, 41, 42, 43, 99, 100, 101, 102, 103, 104, 105, 106] (by decide +kernel) (by decide +kernel)
set_option maxRecDepth 20000 in
theorem gX5_leastForIndex_X4_namesAlike_n286 : GoodIn wsX5_leastForIndex (wsX4_namesAlike) := ggX5_leastForIndex_X4_namesAlike
set_option maxRecDepth 20000 in
theorem ggX5_leastForIndex_X0_costOf : GoodIn wsX5_leastForIndex wsX0_costOf := goodIn_r _ [23, 24, 15, 11, 16, 83, 84, 85, 86, 87, 88] (by decide +kernel) (by decide +kernel)
set_option maxRecDepth 20000 in
theorem gX5_leastForIndex_X0_costOf_n155 : GoodIn wsX5_leastForIndex (wsX0_costOf) := ggX5_leastForIndex_X0_costOf
theorem dX5_leastForIndex_0 : decode cX5_leastForIndex 0 = .ok (.bipush 100, 2) := by decide +kernel
theorem dX5_leastForIndex_2 : decode cX5_leastForIndex 2 = .ok (.istore 5, 2) := by decide +kernel
theorem dX5_leastForIndex_4 : decode cX5_leastForIndex 4 = .ok (.iconst 0, 1) := by decide +kernel
theorem dX5_leastForIndex_5 : decode cX5_leastForIndex 5 = .ok (.istore 6, 2) := by decide +kernel
theorem dX5_leastForIndex_7 : decode cX5_leastForIndex 7 = .ok (.iload 6, 2) := by decide +kernel
theorem dX5_leastForIndex_9 : decode cX5_leastForIndex 9 = .ok (.aload_n 0, 1) := by decide +kernel
theorem dX5_leastForIndex_10 : decode cX5_leastForIndex 10 = .ok (.getfield 90, 3) := by decide +kernel
theorem dX5_leastForIndex_13 : decode cX5_leastForIndex 13 = .ok (.if_icmp .ge 88, 3) := by decide +kernel
theorem dX5_leastForIndex_16 : decode cX5_leastForIndex 16 = .ok (.aload_n 0, 1) := by decide +kernel
theorem dX5_leastForIndex_17 : decode cX5_leastForIndex 17 = .ok (.iload 6, 2) := by decide +kernel
theorem dX5_leastForIndex_19 : decode cX5_leastForIndex 19 = .ok (.invokevirtual 96, 3) := by decide +kernel
theorem dX5_leastForIndex_22 : decode cX5_leastForIndex 22 = .ok (.astore 7, 2) := by decide +kernel
theorem dX5_leastForIndex_24 : decode cX5_leastForIndex 24 = .ok (.aload 7, 2) := by decide +kernel
theorem dX5_leastForIndex_26 : decode cX5_leastForIndex 26 = .ok (.ifnull 69, 3) := by decide +kernel
theorem dX5_leastForIndex_29 : decode cX5_leastForIndex 29 = .ok (.aload_n 1, 1) := by decide +kernel
theorem dX5_leastForIndex_30 : decode cX5_leastForIndex 30 = .ok (.aload 7, 2) := by decide +kernel
theorem dX5_leastForIndex_32 : decode cX5_leastForIndex 32 = .ok (.iload 6, 2) := by decide +kernel
theorem dX5_leastForIndex_34 : decode cX5_leastForIndex 34 = .ok (.iload 4, 2) := by decide +kernel
theorem dX5_leastForIndex_36 : decode cX5_leastForIndex 36 = .ok (.invokestatic 282, 3) := by decide +kernel
theorem dX5_leastForIndex_39 : decode cX5_leastForIndex 39 = .ok (.ifCond .eq 56, 3) := by decide +kernel
theorem dX5_leastForIndex_42 : decode cX5_leastForIndex 42 = .ok (.aload_n 0, 1) := by decide +kernel
theorem dX5_leastForIndex_43 : decode cX5_leastForIndex 43 = .ok (.aload 7, 2) := by decide +kernel
theorem dX5_leastForIndex_45 : decode cX5_leastForIndex 45 = .ok (.getfield 113, 3) := by decide +kernel
theorem dX5_leastForIndex_48 : decode cX5_leastForIndex 48 = .ok (.aload_n 1, 1) := by decide +kernel
theorem dX5_leastForIndex_49 : decode cX5_leastForIndex 49 = .ok (.getfield 162, 3) := by decide +kernel
theorem dX5_leastForIndex_52 : decode cX5_leastForIndex 52 = .ok (.iload_n 3, 1) := by decide +kernel
theorem dX5_leastForIndex_53 : decode cX5_leastForIndex 53 = .ok (.invokevirtual 264, 3) := by decide +kernel
theorem dX5_leastForIndex_56 : decode cX5_leastForIndex 56 = .ok (.ifCond .eq 39, 3) := by decide +kernel
theorem dX5_leastForIndex_59 : decode cX5_leastForIndex 59 = .ok (.aload_n 0, 1) := by decide +kernel
theorem dX5_leastForIndex_60 : decode cX5_leastForIndex 60 = .ok (.getfield 12, 3) := by decide +kernel
theorem dX5_leastForIndex_63 : decode cX5_leastForIndex 63 = .ok (.aload 7, 2) := by decide +kernel
theorem dX5_leastForIndex_65 : decode cX5_leastForIndex 65 = .ok (.getfield 113, 3) := by decide +kernel
theorem dX5_leastForIndex_68 : decode cX5_leastForIndex 68 = .ok (.aload_n 0, 1) := by decide +kernel
theorem dX5_leastForIndex_69 : decode cX5_leastForIndex 69 = .ok (.getfield 39, 3) := by decide +kernel
theorem dX5_leastForIndex_72 : decode cX5_leastForIndex 72 = .ok (.getfield 195, 3) := by decide +kernel
theorem dX5_leastForIndex_75 : decode cX5_leastForIndex 75 = .ok (.iload_n 2, 1) := by decide +kernel
theorem dX5_leastForIndex_76 : decode cX5_leastForIndex 76 = .ok (.invokevirtual 286, 3) := by decide +kernel
theorem dX5_leastForIndex_79 : decode cX5_leastForIndex 79 = .ok (.ifCond .eq 16, 3) := by decide +kernel
theorem dX5_leastForIndex_82 : decode cX5_leastForIndex 82 = .ok (.iload 5, 2) := by decide +kernel
theorem dX5_leastForIndex_84 : decode cX5_leastForIndex 84 = .ok (.aload_n 1, 1) := by decide +kernel
theorem dX5_leastForIndex_85 : decode cX5_leastForIndex 85 = .ok (.iload 6, 2) := by decide +kernel
theorem dX5_leastForIndex_87 : decode cX5_leastForIndex 87 = .ok (.invokevirtual 155, 3) := by decide +kernel
theorem dX5_leastForIndex_90 : decode cX5_leastForIndex 90 = .ok (.invokestatic 289, 3) := by decide +kernel
theorem dX5_leastForIndex_93 : decode cX5_leastForIndex 93 = .ok (.istore 5, 2) := by decide +kernel
theorem dX5_leastForIndex_95 : decode cX5_leastForIndex 95 = .ok (.iinc 6 1, 3) := by decide +kernel
theorem dX5_leastForIndex_98 : decode cX5_leastForIndex 98 = .ok (.goto (-91), 3) := by decide +kernel
theorem dX5_leastForIndex_101 : decode cX5_leastForIndex 101 = .ok (.iload 5, 2) := by decide +kernel
theorem dX5_leastForIndex_103 : decode cX5_leastForIndex 103 = .ok (.ireturn, 1) := by decide +kernel
set_option maxRecDepth 20000 in
theorem ggX5_leastForFile_X5_mirrorAt : GoodIn wsX5_leastForFile wsX5_mirrorAt := goodIn_r _ [10, 1, 11, 12, 13, 9, 14, 33, 34, 35, 36, 37, 38, 39, 40] (by decide +kernel) (by decide +kernel)
set_option maxRecDepth 20000 in
theorem gX5_leastForFile_X5_mirrorAt : GoodIn wsX5_leastForFile (wsV RX5 96 RX5 yX5_mirrorAt wsX5_mirrorAt) := goodIn_app (goodIn_of _ (by decide +kernel)) ggX5_leastForFile_X5_mirrorAt
set_option maxRecDepth 20000 in
theorem ggX5_leastForFile_X5_wouldAnswer : GoodIn wsX5_leastForFile wsX5_wouldAnswer := goodIn_r _ [17, 18, 19, 20, 21, 22, 13, 9, 14, 23, 24, 25, 12, 41, 42, 43, 44, 45, 46, 47, 48, 49, 50, 51, 52, 53, 54, 55, 56] (by decide +kernel) (by decide +kernel)
set_option maxRecDepth 20000 in
theorem gX5_leastForFile_X5_wouldAnswer : GoodIn wsX5_leastForFile (va_wsS RX5 282 yX5_wouldAnswer wsX5_wouldAnswer) := goodIn_app (goodIn_of _ (by decide +kernel)) ggX5_leastForFile_X5_wouldAnswer
set_option maxRecDepth 20000 in
theorem ggX5_leastForFile_X3_holds : GoodIn wsX5_leastForFile wsX3_holds := goodIn_r _ [29, 30, 31, 9, 32, 12, 13, 14, 41, 42, 43, 44, 45, 46, 47, 48, 49, 50] (by decide +kernel) (by decide +kernel)
set_option maxRecDepth 20000 in
theorem gX5_leastForFile_X3_holds_n148 : GoodIn wsX5_leastForFile (wsX3_holds) := ggX5_leastForFile_X3_holds
set_option maxRecDepth 20000 in
theorem ggX5_leastForFile_X0_costOf : GoodIn wsX5_leastForFile wsX0_costOf := goodIn_r _ [21, 22, 13, 9, 14, 51, 52, 53, 54, 55, 56] (by decide +kernel) (by decide +kernel)
set_option maxRecDepth 20000 in
theorem gX5_leastForFile_X0_costOf_n155 : GoodIn wsX5_leastForFile (wsX0_costOf) := ggX5_leastForFile_X0_costOf
theorem dX5_leastForFile_0 : decode cX5_leastForFile 0 = .ok (.bipush 100, 2) := by decide +kernel
theorem dX5_leastForFile_2 : decode cX5_leastForFile 2 = .ok (.istore 4, 2) := by decide +kernel
theorem dX5_leastForFile_4 : decode cX5_leastForFile 4 = .ok (.iconst 0, 1) := by decide +kernel
theorem dX5_leastForFile_5 : decode cX5_leastForFile 5 = .ok (.istore 5, 2) := by decide +kernel
theorem dX5_leastForFile_7 : decode cX5_leastForFile 7 = .ok (.iload 5, 2) := by decide +kernel
theorem dX5_leastForFile_9 : decode cX5_leastForFile 9 = .ok (.aload_n 0, 1) := by decide +kernel
theorem dX5_leastForFile_10 : decode cX5_leastForFile 10 = .ok (.getfield 90, 3) := by decide +kernel
theorem dX5_leastForFile_13 : decode cX5_leastForFile 13 = .ok (.if_icmp .ge 56, 3) := by decide +kernel
theorem dX5_leastForFile_16 : decode cX5_leastForFile 16 = .ok (.aload_n 0, 1) := by decide +kernel
theorem dX5_leastForFile_17 : decode cX5_leastForFile 17 = .ok (.iload 5, 2) := by decide +kernel
theorem dX5_leastForFile_19 : decode cX5_leastForFile 19 = .ok (.invokevirtual 96, 3) := by decide +kernel
theorem dX5_leastForFile_22 : decode cX5_leastForFile 22 = .ok (.astore 6, 2) := by decide +kernel
theorem dX5_leastForFile_24 : decode cX5_leastForFile 24 = .ok (.aload 6, 2) := by decide +kernel
theorem dX5_leastForFile_26 : decode cX5_leastForFile 26 = .ok (.ifnull 37, 3) := by decide +kernel
theorem dX5_leastForFile_29 : decode cX5_leastForFile 29 = .ok (.aload_n 1, 1) := by decide +kernel
theorem dX5_leastForFile_30 : decode cX5_leastForFile 30 = .ok (.aload 6, 2) := by decide +kernel
theorem dX5_leastForFile_32 : decode cX5_leastForFile 32 = .ok (.iload 5, 2) := by decide +kernel
theorem dX5_leastForFile_34 : decode cX5_leastForFile 34 = .ok (.iload_n 3, 1) := by decide +kernel
theorem dX5_leastForFile_35 : decode cX5_leastForFile 35 = .ok (.invokestatic 282, 3) := by decide +kernel
theorem dX5_leastForFile_38 : decode cX5_leastForFile 38 = .ok (.ifCond .eq 25, 3) := by decide +kernel
theorem dX5_leastForFile_41 : decode cX5_leastForFile 41 = .ok (.aload 6, 2) := by decide +kernel
theorem dX5_leastForFile_43 : decode cX5_leastForFile 43 = .ok (.iload_n 2, 1) := by decide +kernel
theorem dX5_leastForFile_44 : decode cX5_leastForFile 44 = .ok (.invokevirtual 148, 3) := by decide +kernel
theorem dX5_leastForFile_47 : decode cX5_leastForFile 47 = .ok (.ifCond .eq 16, 3) := by decide +kernel
theorem dX5_leastForFile_50 : decode cX5_leastForFile 50 = .ok (.iload 4, 2) := by decide +kernel
theorem dX5_leastForFile_52 : decode cX5_leastForFile 52 = .ok (.aload_n 1, 1) := by decide +kernel
theorem dX5_leastForFile_53 : decode cX5_leastForFile 53 = .ok (.iload 5, 2) := by decide +kernel
theorem dX5_leastForFile_55 : decode cX5_leastForFile 55 = .ok (.invokevirtual 155, 3) := by decide +kernel
theorem dX5_leastForFile_58 : decode cX5_leastForFile 58 = .ok (.invokestatic 289, 3) := by decide +kernel
theorem dX5_leastForFile_61 : decode cX5_leastForFile 61 = .ok (.istore 4, 2) := by decide +kernel
theorem dX5_leastForFile_63 : decode cX5_leastForFile 63 = .ok (.iinc 5 1, 3) := by decide +kernel
theorem dX5_leastForFile_66 : decode cX5_leastForFile 66 = .ok (.goto (-59), 3) := by decide +kernel
theorem dX5_leastForFile_69 : decode cX5_leastForFile 69 = .ok (.iload 4, 2) := by decide +kernel
theorem dX5_leastForFile_71 : decode cX5_leastForFile 71 = .ok (.ireturn, 1) := by decide +kernel
set_option maxRecDepth 20000 in
theorem ggX5_wouldAnswer_X0_costOf : GoodIn wsX5_wouldAnswer wsX0_costOf := goodIn_r _ [4, 5, 6, 7, 8, 23, 24, 25, 26, 27, 28] (by decide +kernel) (by decide +kernel)
set_option maxRecDepth 20000 in
theorem gX5_wouldAnswer_X0_costOf_n155 : GoodIn wsX5_wouldAnswer (wsX0_costOf) := ggX5_wouldAnswer_X0_costOf
set_option maxRecDepth 20000 in
theorem ggX5_wouldAnswer_X5_isIn : GoodIn wsX5_wouldAnswer wsX5_isIn := goodIn_r _ [11, 12, 6, 7, 8] (by decide +kernel) (by decide +kernel)
set_option maxRecDepth 20000 in
theorem gX5_wouldAnswer_X5_isIn : GoodIn wsX5_wouldAnswer (va_wsS RX5 137 yX5_isIn wsX5_isIn) := goodIn_app (goodIn_of _ (by decide +kernel)) ggX5_wouldAnswer_X5_isIn
theorem dX5_wouldAnswer_0 : decode cX5_wouldAnswer 0 = .ok (.aload_n 0, 1) := by decide +kernel
theorem dX5_wouldAnswer_1 : decode cX5_wouldAnswer 1 = .ok (.iload_n 2, 1) := by decide +kernel
theorem dX5_wouldAnswer_2 : decode cX5_wouldAnswer 2 = .ok (.invokevirtual 155, 3) := by decide +kernel
theorem dX5_wouldAnswer_5 : decode cX5_wouldAnswer 5 = .ok (.iconst (-1), 1) := by decide +kernel
theorem dX5_wouldAnswer_6 : decode cX5_wouldAnswer 6 = .ok (.if_icmp .eq 22, 3) := by decide +kernel
theorem dX5_wouldAnswer_9 : decode cX5_wouldAnswer 9 = .ok (.iload_n 3, 1) := by decide +kernel
theorem dX5_wouldAnswer_10 : decode cX5_wouldAnswer 10 = .ok (.iload_n 2, 1) := by decide +kernel
theorem dX5_wouldAnswer_11 : decode cX5_wouldAnswer 11 = .ok (.invokestatic 137, 3) := by decide +kernel
theorem dX5_wouldAnswer_14 : decode cX5_wouldAnswer 14 = .ok (.ifCond .ne 14, 3) := by decide +kernel
theorem dX5_wouldAnswer_17 : decode cX5_wouldAnswer 17 = .ok (.aload_n 1, 1) := by decide +kernel
theorem dX5_wouldAnswer_18 : decode cX5_wouldAnswer 18 = .ok (.getfield 106, 3) := by decide +kernel
theorem dX5_wouldAnswer_21 : decode cX5_wouldAnswer 21 = .ok (.ifCond .ne 7, 3) := by decide +kernel
theorem dX5_wouldAnswer_24 : decode cX5_wouldAnswer 24 = .ok (.iconst 1, 1) := by decide +kernel
theorem dX5_wouldAnswer_25 : decode cX5_wouldAnswer 25 = .ok (.goto 4, 3) := by decide +kernel
theorem dX5_wouldAnswer_28 : decode cX5_wouldAnswer 28 = .ok (.iconst 0, 1) := by decide +kernel
theorem dX5_wouldAnswer_29 : decode cX5_wouldAnswer 29 = .ok (.ireturn, 1) := by decide +kernel
