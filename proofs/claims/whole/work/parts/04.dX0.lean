theorem dX0_init_0 : decode cX0_init 0 = .ok (.aload_n 0, 1) := by decide +kernel
theorem dX0_init_1 : decode cX0_init 1 = .ok (.invokespecial 3, 3) := by decide +kernel
theorem dX0_init_4 : decode cX0_init 4 = .ok (.aload_n 0, 1) := by decide +kernel
theorem dX0_init_5 : decode cX0_init 5 = .ok (.bipush 18, 2) := by decide +kernel
theorem dX0_init_7 : decode cX0_init 7 = .ok (.newarray .int, 2) := by decide +kernel
theorem dX0_init_9 : decode cX0_init 9 = .ok (.putfield 11, 3) := by decide +kernel
theorem dX0_init_12 : decode cX0_init 12 = .ok (.aload_n 0, 1) := by decide +kernel
theorem dX0_init_13 : decode cX0_init 13 = .ok (.bipush 18, 2) := by decide +kernel
theorem dX0_init_15 : decode cX0_init 15 = .ok (.newarray .int, 2) := by decide +kernel
theorem dX0_init_17 : decode cX0_init 17 = .ok (.putfield 15, 3) := by decide +kernel
theorem dX0_init_20 : decode cX0_init 20 = .ok (.aload_n 0, 1) := by decide +kernel
theorem dX0_init_21 : decode cX0_init 21 = .ok (.bipush 18, 2) := by decide +kernel
theorem dX0_init_23 : decode cX0_init 23 = .ok (.newarray .long, 2) := by decide +kernel
theorem dX0_init_25 : decode cX0_init 25 = .ok (.putfield 18, 3) := by decide +kernel
theorem dX0_init_28 : decode cX0_init 28 = .ok (.aload_n 0, 1) := by decide +kernel
theorem dX0_init_29 : decode cX0_init 29 = .ok (.bipush 18, 2) := by decide +kernel
theorem dX0_init_31 : decode cX0_init 31 = .ok (.newarray .long, 2) := by decide +kernel
theorem dX0_init_33 : decode cX0_init 33 = .ok (.putfield 22, 3) := by decide +kernel
theorem dX0_init_36 : decode cX0_init 36 = .ok (.aload_n 0, 1) := by decide +kernel
theorem dX0_init_37 : decode cX0_init 37 = .ok (.bipush 18, 2) := by decide +kernel
theorem dX0_init_39 : decode cX0_init 39 = .ok (.newarray .long, 2) := by decide +kernel
theorem dX0_init_41 : decode cX0_init 41 = .ok (.putfield 25, 3) := by decide +kernel
theorem dX0_init_44 : decode cX0_init 44 = .ok (.aload_n 0, 1) := by decide +kernel
theorem dX0_init_45 : decode cX0_init 45 = .ok (.bipush 18, 2) := by decide +kernel
theorem dX0_init_47 : decode cX0_init 47 = .ok (.newarray .long, 2) := by decide +kernel
theorem dX0_init_49 : decode cX0_init 49 = .ok (.putfield 28, 3) := by decide +kernel
theorem dX0_init_52 : decode cX0_init 52 = .ok (.aload_n 0, 1) := by decide +kernel
theorem dX0_init_53 : decode cX0_init 53 = .ok (.iconst 0, 1) := by decide +kernel
theorem dX0_init_54 : decode cX0_init 54 = .ok (.putfield 31, 3) := by decide +kernel
theorem dX0_init_57 : decode cX0_init 57 = .ok (.aload_n 0, 1) := by decide +kernel
theorem dX0_init_58 : decode cX0_init 58 = .ok (.iconst 0, 1) := by decide +kernel
theorem dX0_init_59 : decode cX0_init 59 = .ok (.putfield 35, 3) := by decide +kernel
theorem dX0_init_62 : decode cX0_init 62 = .ok (.aload_n 0, 1) := by decide +kernel
theorem dX0_init_63 : decode cX0_init 63 = .ok (.iconst 0, 1) := by decide +kernel
theorem dX0_init_64 : decode cX0_init 64 = .ok (.putfield 38, 3) := by decide +kernel
theorem dX0_init_67 : decode cX0_init 67 = .ok (.aload_n 0, 1) := by decide +kernel
theorem dX0_init_68 : decode cX0_init 68 = .ok (.iconst 0, 1) := by decide +kernel
theorem dX0_init_69 : decode cX0_init 69 = .ok (.putfield 41, 3) := by decide +kernel
theorem dX0_init_72 : decode cX0_init 72 = .ok (.aload_n 0, 1) := by decide +kernel
theorem dX0_init_73 : decode cX0_init 73 = .ok (.iconst 0, 1) := by decide +kernel
theorem dX0_init_74 : decode cX0_init 74 = .ok (.putfield 44, 3) := by decide +kernel
theorem dX0_init_77 : decode cX0_init 77 = .ok (.aload_n 0, 1) := by decide +kernel
theorem dX0_init_78 : decode cX0_init 78 = .ok (.iconst 0, 1) := by decide +kernel
theorem dX0_init_79 : decode cX0_init 79 = .ok (.putfield 47, 3) := by decide +kernel
theorem dX0_init_82 : decode cX0_init 82 = .ok (.aload_n 0, 1) := by decide +kernel
theorem dX0_init_83 : decode cX0_init 83 = .ok (.iconst 0, 1) := by decide +kernel
theorem dX0_init_84 : decode cX0_init 84 = .ok (.putfield 50, 3) := by decide +kernel
theorem dX0_init_87 : decode cX0_init 87 = .ok (.aload_n 0, 1) := by decide +kernel
theorem dX0_init_88 : decode cX0_init 88 = .ok (.iconst 0, 1) := by decide +kernel
theorem dX0_init_89 : decode cX0_init 89 = .ok (.putfield 53, 3) := by decide +kernel
theorem dX0_init_92 : decode cX0_init 92 = .ok (.return_, 1) := by decide +kernel
set_option maxRecDepth 20000 in
theorem ggX0_run_X0_clear : GoodIn wsX0_run wsX0_clear := goodIn_r _ [12, 13, 14, 15, 16, 17, 18, 19, 20, 7, 21, 22, 58, 59, 60, 61, 62, 63, 64, 65, 66, 67, 68, 69, 70, 71] (by decide +kernel) (by decide +kernel)
set_option maxRecDepth 20000 in
theorem gX0_run_X0_clear : GoodIn wsX0_run (wsV RX0 62 RX0 yX0_clear wsX0_clear) := goodIn_app (goodIn_of _ (by decide +kernel)) ggX0_run_X0_clear
set_option maxRecDepth 20000 in
theorem ggX0_run_X0_begin : GoodIn wsX0_run wsX0_begin := goodIn_r _ [26, 19, 20, 27, 28, 3, 29, 7, 18, 13, 30, 31, 32, 11, 33, 34, 58, 59, 60, 61, 62, 63, 64, 65, 66, 67, 68, 69, 70, 71] (by decide +kernel) (by decide +kernel)
set_option maxRecDepth 20000 in
theorem gX0_run_X0_begin : GoodIn wsX0_run (wsV RX0 65 RX0 yX0_begin wsX0_begin) := goodIn_app (goodIn_of _ (by decide +kernel)) ggX0_run_X0_begin
set_option maxRecDepth 20000 in
theorem ggX0_run_X0_takeDigit : GoodIn wsX0_run wsX0_takeDigit := goodIn_r _ [38, 13, 14, 27, 28, 3, 29, 39, 40, 41, 18, 42, 43, 21, 22, 44, 1, 2, 4, 45, 46, 47, 48, 49, 50, 51, 11, 52, 15, 16, 53, 58, 59, 60, 61, 62, 63, 64, 65, 66, 67, 68, 69, 70, 71] (by decide +kernel) (by decide +kernel)
set_option maxRecDepth 20000 in
theorem gX0_run_X0_takeDigit : GoodIn wsX0_run (wsV RX0 69 RX0 yX0_takeDigit wsX0_takeDigit) := goodIn_app (goodIn_of _ (by decide +kernel)) ggX0_run_X0_takeDigit
set_option maxRecDepth 20000 in
theorem ggX0_run_X0_finish : GoodIn wsX0_run wsX0_finish := goodIn_r _ [57, 13, 7, 14, 16, 15, 30, 20, 5, 6, 58, 59, 60, 61, 62, 63, 64, 65, 66, 67, 68, 69, 70, 71] (by decide +kernel) (by decide +kernel)
set_option maxRecDepth 20000 in
theorem gX0_run_X0_finish : GoodIn wsX0_run (wsV RX0 73 RX0 yX0_finish wsX0_finish) := goodIn_app (goodIn_of _ (by decide +kernel)) ggX0_run_X0_finish
theorem dX0_run_0 : decode cX0_run 0 = .ok (.iload_n 1, 1) := by decide +kernel
theorem dX0_run_1 : decode cX0_run 1 = .ok (.i2l, 1) := by decide +kernel
theorem dX0_run_2 : decode cX0_run 2 = .ok (.invokestatic 56, 3) := by decide +kernel
theorem dX0_run_5 : decode cX0_run 5 = .ok (.lstore 4, 2) := by decide +kernel
theorem dX0_run_7 : decode cX0_run 7 = .ok (.iload_n 2, 1) := by decide +kernel
theorem dX0_run_8 : decode cX0_run 8 = .ok (.i2l, 1) := by decide +kernel
theorem dX0_run_9 : decode cX0_run 9 = .ok (.invokestatic 56, 3) := by decide +kernel
theorem dX0_run_12 : decode cX0_run 12 = .ok (.lstore 6, 2) := by decide +kernel
theorem dX0_run_14 : decode cX0_run 14 = .ok (.aload_n 0, 1) := by decide +kernel
theorem dX0_run_15 : decode cX0_run 15 = .ok (.invokevirtual 62, 3) := by decide +kernel
theorem dX0_run_18 : decode cX0_run 18 = .ok (.lload 4, 2) := by decide +kernel
theorem dX0_run_20 : decode cX0_run 20 = .ok (.lload 6, 2) := by decide +kernel
theorem dX0_run_22 : decode cX0_run 22 = .ok (.lcmp, 1) := by decide +kernel
theorem dX0_run_23 : decode cX0_run 23 = .ok (.ifCond .ge 14, 3) := by decide +kernel
theorem dX0_run_26 : decode cX0_run 26 = .ok (.aload_n 0, 1) := by decide +kernel
theorem dX0_run_27 : decode cX0_run 27 = .ok (.iconst 0, 1) := by decide +kernel
theorem dX0_run_28 : decode cX0_run 28 = .ok (.putfield 50, 3) := by decide +kernel
theorem dX0_run_31 : decode cX0_run 31 = .ok (.aload_n 0, 1) := by decide +kernel
theorem dX0_run_32 : decode cX0_run 32 = .ok (.iload_n 1, 1) := by decide +kernel
theorem dX0_run_33 : decode cX0_run 33 = .ok (.putfield 53, 3) := by decide +kernel
theorem dX0_run_36 : decode cX0_run 36 = .ok (.return_, 1) := by decide +kernel
theorem dX0_run_37 : decode cX0_run 37 = .ok (.aload_n 0, 1) := by decide +kernel
theorem dX0_run_38 : decode cX0_run 38 = .ok (.lload 4, 2) := by decide +kernel
theorem dX0_run_40 : decode cX0_run 40 = .ok (.lload 6, 2) := by decide +kernel
theorem dX0_run_42 : decode cX0_run 42 = .ok (.invokevirtual 65, 3) := by decide +kernel
theorem dX0_run_45 : decode cX0_run 45 = .ok (.lstore 8, 2) := by decide +kernel
theorem dX0_run_47 : decode cX0_run 47 = .ok (.iconst 1, 1) := by decide +kernel
theorem dX0_run_48 : decode cX0_run 48 = .ok (.istore 10, 2) := by decide +kernel
theorem dX0_run_50 : decode cX0_run 50 = .ok (.iload 10, 2) := by decide +kernel
theorem dX0_run_52 : decode cX0_run 52 = .ok (.aload_n 0, 1) := by decide +kernel
theorem dX0_run_53 : decode cX0_run 53 = .ok (.getfield 41, 3) := by decide +kernel
theorem dX0_run_56 : decode cX0_run 56 = .ok (.if_icmp .gt 18, 3) := by decide +kernel
theorem dX0_run_59 : decode cX0_run 59 = .ok (.aload_n 0, 1) := by decide +kernel
theorem dX0_run_60 : decode cX0_run 60 = .ok (.iload 10, 2) := by decide +kernel
theorem dX0_run_62 : decode cX0_run 62 = .ok (.lload 8, 2) := by decide +kernel
theorem dX0_run_64 : decode cX0_run 64 = .ok (.aload_n 3, 1) := by decide +kernel
theorem dX0_run_65 : decode cX0_run 65 = .ok (.invokevirtual 69, 3) := by decide +kernel
theorem dX0_run_68 : decode cX0_run 68 = .ok (.iinc 10 1, 3) := by decide +kernel
theorem dX0_run_71 : decode cX0_run 71 = .ok (.goto (-21), 3) := by decide +kernel
theorem dX0_run_74 : decode cX0_run 74 = .ok (.aload_n 0, 1) := by decide +kernel
theorem dX0_run_75 : decode cX0_run 75 = .ok (.lload 8, 2) := by decide +kernel
theorem dX0_run_77 : decode cX0_run 77 = .ok (.iload_n 1, 1) := by decide +kernel
theorem dX0_run_78 : decode cX0_run 78 = .ok (.ifCond .ge 7, 3) := by decide +kernel
theorem dX0_run_81 : decode cX0_run 81 = .ok (.iconst 1, 1) := by decide +kernel
theorem dX0_run_82 : decode cX0_run 82 = .ok (.goto 4, 3) := by decide +kernel
theorem dX0_run_85 : decode cX0_run 85 = .ok (.iconst 0, 1) := by decide +kernel
theorem dX0_run_86 : decode cX0_run 86 = .ok (.iload_n 2, 1) := by decide +kernel
theorem dX0_run_87 : decode cX0_run 87 = .ok (.ifCond .ge 7, 3) := by decide +kernel
theorem dX0_run_90 : decode cX0_run 90 = .ok (.iconst 1, 1) := by decide +kernel
theorem dX0_run_91 : decode cX0_run 91 = .ok (.goto 4, 3) := by decide +kernel
theorem dX0_run_94 : decode cX0_run 94 = .ok (.iconst 0, 1) := by decide +kernel
theorem dX0_run_95 : decode cX0_run 95 = .ok (.if_icmp .eq 7, 3) := by decide +kernel
theorem dX0_run_98 : decode cX0_run 98 = .ok (.iconst 1, 1) := by decide +kernel
theorem dX0_run_99 : decode cX0_run 99 = .ok (.goto 4, 3) := by decide +kernel
theorem dX0_run_102 : decode cX0_run 102 = .ok (.iconst 0, 1) := by decide +kernel
theorem dX0_run_103 : decode cX0_run 103 = .ok (.iload_n 1, 1) := by decide +kernel
theorem dX0_run_104 : decode cX0_run 104 = .ok (.ifCond .ge 7, 3) := by decide +kernel
theorem dX0_run_107 : decode cX0_run 107 = .ok (.iconst 1, 1) := by decide +kernel
theorem dX0_run_108 : decode cX0_run 108 = .ok (.goto 4, 3) := by decide +kernel
theorem dX0_run_111 : decode cX0_run 111 = .ok (.iconst 0, 1) := by decide +kernel
theorem dX0_run_112 : decode cX0_run 112 = .ok (.invokevirtual 73, 3) := by decide +kernel
theorem dX0_run_115 : decode cX0_run 115 = .ok (.return_, 1) := by decide +kernel
theorem dX0_clear_0 : decode cX0_clear 0 = .ok (.aload_n 0, 1) := by decide +kernel
theorem dX0_clear_1 : decode cX0_clear 1 = .ok (.getfield 18, 3) := by decide +kernel
theorem dX0_clear_4 : decode cX0_clear 4 = .ok (.iconst 0, 1) := by decide +kernel
theorem dX0_clear_5 : decode cX0_clear 5 = .ok (.lconst 0, 1) := by decide +kernel
theorem dX0_clear_6 : decode cX0_clear 6 = .ok (.lastore, 1) := by decide +kernel
theorem dX0_clear_7 : decode cX0_clear 7 = .ok (.aload_n 0, 1) := by decide +kernel
theorem dX0_clear_8 : decode cX0_clear 8 = .ok (.getfield 22, 3) := by decide +kernel
theorem dX0_clear_11 : decode cX0_clear 11 = .ok (.iconst 0, 1) := by decide +kernel
theorem dX0_clear_12 : decode cX0_clear 12 = .ok (.lconst 0, 1) := by decide +kernel
theorem dX0_clear_13 : decode cX0_clear 13 = .ok (.lastore, 1) := by decide +kernel
theorem dX0_clear_14 : decode cX0_clear 14 = .ok (.aload_n 0, 1) := by decide +kernel
theorem dX0_clear_15 : decode cX0_clear 15 = .ok (.getfield 25, 3) := by decide +kernel
theorem dX0_clear_18 : decode cX0_clear 18 = .ok (.iconst 0, 1) := by decide +kernel
theorem dX0_clear_19 : decode cX0_clear 19 = .ok (.lconst 0, 1) := by decide +kernel
theorem dX0_clear_20 : decode cX0_clear 20 = .ok (.lastore, 1) := by decide +kernel
theorem dX0_clear_21 : decode cX0_clear 21 = .ok (.aload_n 0, 1) := by decide +kernel
theorem dX0_clear_22 : decode cX0_clear 22 = .ok (.getfield 28, 3) := by decide +kernel
theorem dX0_clear_25 : decode cX0_clear 25 = .ok (.iconst 0, 1) := by decide +kernel
theorem dX0_clear_26 : decode cX0_clear 26 = .ok (.ldc2_w 77, 3) := by decide +kernel
theorem dX0_clear_29 : decode cX0_clear 29 = .ok (.lastore, 1) := by decide +kernel
theorem dX0_clear_30 : decode cX0_clear 30 = .ok (.aload_n 0, 1) := by decide +kernel
theorem dX0_clear_31 : decode cX0_clear 31 = .ok (.iconst 0, 1) := by decide +kernel
theorem dX0_clear_32 : decode cX0_clear 32 = .ok (.putfield 31, 3) := by decide +kernel
theorem dX0_clear_35 : decode cX0_clear 35 = .ok (.aload_n 0, 1) := by decide +kernel
theorem dX0_clear_36 : decode cX0_clear 36 = .ok (.iconst 0, 1) := by decide +kernel
theorem dX0_clear_37 : decode cX0_clear 37 = .ok (.putfield 35, 3) := by decide +kernel
theorem dX0_clear_40 : decode cX0_clear 40 = .ok (.aload_n 0, 1) := by decide +kernel
theorem dX0_clear_41 : decode cX0_clear 41 = .ok (.iconst 0, 1) := by decide +kernel
theorem dX0_clear_42 : decode cX0_clear 42 = .ok (.putfield 38, 3) := by decide +kernel
theorem dX0_clear_45 : decode cX0_clear 45 = .ok (.aload_n 0, 1) := by decide +kernel
theorem dX0_clear_46 : decode cX0_clear 46 = .ok (.iconst 0, 1) := by decide +kernel
theorem dX0_clear_47 : decode cX0_clear 47 = .ok (.putfield 41, 3) := by decide +kernel
theorem dX0_clear_50 : decode cX0_clear 50 = .ok (.aload_n 0, 1) := by decide +kernel
theorem dX0_clear_51 : decode cX0_clear 51 = .ok (.iconst 0, 1) := by decide +kernel
theorem dX0_clear_52 : decode cX0_clear 52 = .ok (.putfield 44, 3) := by decide +kernel
theorem dX0_clear_55 : decode cX0_clear 55 = .ok (.aload_n 0, 1) := by decide +kernel
theorem dX0_clear_56 : decode cX0_clear 56 = .ok (.iconst 0, 1) := by decide +kernel
theorem dX0_clear_57 : decode cX0_clear 57 = .ok (.putfield 47, 3) := by decide +kernel
theorem dX0_clear_60 : decode cX0_clear 60 = .ok (.return_, 1) := by decide +kernel
set_option maxRecDepth 20000 in
theorem ggX0_begin_X0_doublings : GoodIn wsX0_begin wsX0_doublings := goodIn_r _ [14, 15] (by decide +kernel) (by decide +kernel)
set_option maxRecDepth 20000 in
theorem gX0_begin_X0_doublings : GoodIn wsX0_begin (va_wsS RX0 79 yX0_doublings wsX0_doublings) := goodIn_app (goodIn_of _ (by decide +kernel)) ggX0_begin_X0_doublings
theorem dX0_begin_0 : decode cX0_begin 0 = .ok (.aload_n 0, 1) := by decide +kernel
theorem dX0_begin_1 : decode cX0_begin 1 = .ok (.lload_n 1, 1) := by decide +kernel
theorem dX0_begin_2 : decode cX0_begin 2 = .ok (.invokestatic 79, 3) := by decide +kernel
theorem dX0_begin_5 : decode cX0_begin 5 = .ok (.putfield 35, 3) := by decide +kernel
theorem dX0_begin_8 : decode cX0_begin 8 = .ok (.aload_n 0, 1) := by decide +kernel
theorem dX0_begin_9 : decode cX0_begin 9 = .ok (.lload_n 3, 1) := by decide +kernel
theorem dX0_begin_10 : decode cX0_begin 10 = .ok (.invokestatic 79, 3) := by decide +kernel
theorem dX0_begin_13 : decode cX0_begin 13 = .ok (.putfield 38, 3) := by decide +kernel
theorem dX0_begin_16 : decode cX0_begin 16 = .ok (.aload_n 0, 1) := by decide +kernel
theorem dX0_begin_17 : decode cX0_begin 17 = .ok (.getfield 38, 3) := by decide +kernel
theorem dX0_begin_20 : decode cX0_begin 20 = .ok (.aload_n 0, 1) := by decide +kernel
theorem dX0_begin_21 : decode cX0_begin 21 = .ok (.getfield 35, 3) := by decide +kernel
theorem dX0_begin_24 : decode cX0_begin 24 = .ok (.isub, 1) := by decide +kernel
theorem dX0_begin_25 : decode cX0_begin 25 = .ok (.istore 5, 2) := by decide +kernel
theorem dX0_begin_27 : decode cX0_begin 27 = .ok (.iload 5, 2) := by decide +kernel
theorem dX0_begin_29 : decode cX0_begin 29 = .ok (.iconst 2, 1) := by decide +kernel
theorem dX0_begin_30 : decode cX0_begin 30 = .ok (.irem, 1) := by decide +kernel
theorem dX0_begin_31 : decode cX0_begin 31 = .ok (.ifCond .ne 7, 3) := by decide +kernel
theorem dX0_begin_34 : decode cX0_begin 34 = .ok (.iconst 2, 1) := by decide +kernel
theorem dX0_begin_35 : decode cX0_begin 35 = .ok (.goto 4, 3) := by decide +kernel
theorem dX0_begin_38 : decode cX0_begin 38 = .ok (.iconst 3, 1) := by decide +kernel
theorem dX0_begin_39 : decode cX0_begin 39 = .ok (.istore 6, 2) := by decide +kernel
theorem dX0_begin_41 : decode cX0_begin 41 = .ok (.aload_n 0, 1) := by decide +kernel
theorem dX0_begin_42 : decode cX0_begin 42 = .ok (.iload 5, 2) := by decide +kernel
theorem dX0_begin_44 : decode cX0_begin 44 = .ok (.iload 6, 2) := by decide +kernel
theorem dX0_begin_46 : decode cX0_begin 46 = .ok (.iadd, 1) := by decide +kernel
theorem dX0_begin_47 : decode cX0_begin 47 = .ok (.iconst 2, 1) := by decide +kernel
theorem dX0_begin_48 : decode cX0_begin 48 = .ok (.idiv, 1) := by decide +kernel
theorem dX0_begin_49 : decode cX0_begin 49 = .ok (.bipush 17, 2) := by decide +kernel
theorem dX0_begin_51 : decode cX0_begin 51 = .ok (.invokestatic 83, 3) := by decide +kernel
theorem dX0_begin_54 : decode cX0_begin 54 = .ok (.putfield 41, 3) := by decide +kernel
theorem dX0_begin_57 : decode cX0_begin 57 = .ok (.lload_n 3, 1) := by decide +kernel
theorem dX0_begin_58 : decode cX0_begin 58 = .ok (.aload_n 0, 1) := by decide +kernel
theorem dX0_begin_59 : decode cX0_begin 59 = .ok (.getfield 38, 3) := by decide +kernel
theorem dX0_begin_62 : decode cX0_begin 62 = .ok (.lshl, 1) := by decide +kernel
theorem dX0_begin_63 : decode cX0_begin 63 = .ok (.lstore 7, 2) := by decide +kernel
theorem dX0_begin_65 : decode cX0_begin 65 = .ok (.aload_n 0, 1) := by decide +kernel
theorem dX0_begin_66 : decode cX0_begin 66 = .ok (.lload 7, 2) := by decide +kernel
theorem dX0_begin_68 : decode cX0_begin 68 = .ok (.bipush 27, 2) := by decide +kernel
theorem dX0_begin_70 : decode cX0_begin 70 = .ok (.lshr, 1) := by decide +kernel
theorem dX0_begin_71 : decode cX0_begin 71 = .ok (.l2i, 1) := by decide +kernel
theorem dX0_begin_72 : decode cX0_begin 72 = .ok (.bipush 15, 2) := by decide +kernel
theorem dX0_begin_74 : decode cX0_begin 74 = .ok (.iand, 1) := by decide +kernel
theorem dX0_begin_75 : decode cX0_begin 75 = .ok (.putfield 31, 3) := by decide +kernel
theorem dX0_begin_78 : decode cX0_begin 78 = .ok (.aload_n 0, 1) := by decide +kernel
theorem dX0_begin_79 : decode cX0_begin 79 = .ok (.getfield 18, 3) := by decide +kernel
theorem dX0_begin_82 : decode cX0_begin 82 = .ok (.iconst 0, 1) := by decide +kernel
theorem dX0_begin_83 : decode cX0_begin 83 = .ok (.lload_n 1, 1) := by decide +kernel
theorem dX0_begin_84 : decode cX0_begin 84 = .ok (.aload_n 0, 1) := by decide +kernel
theorem dX0_begin_85 : decode cX0_begin 85 = .ok (.getfield 35, 3) := by decide +kernel
theorem dX0_begin_88 : decode cX0_begin 88 = .ok (.lshl, 1) := by decide +kernel
theorem dX0_begin_89 : decode cX0_begin 89 = .ok (.ldc2_w 87, 3) := by decide +kernel
theorem dX0_begin_92 : decode cX0_begin 92 = .ok (.lmul, 1) := by decide +kernel
theorem dX0_begin_93 : decode cX0_begin 93 = .ok (.iload 6, 2) := by decide +kernel
theorem dX0_begin_95 : decode cX0_begin 95 = .ok (.lshr, 1) := by decide +kernel
theorem dX0_begin_96 : decode cX0_begin 96 = .ok (.lastore, 1) := by decide +kernel
theorem dX0_begin_97 : decode cX0_begin 97 = .ok (.lload 7, 2) := by decide +kernel
theorem dX0_begin_99 : decode cX0_begin 99 = .ok (.lreturn, 1) := by decide +kernel
theorem dX0_doublings_0 : decode cX0_doublings 0 = .ok (.iconst 0, 1) := by decide +kernel
theorem dX0_doublings_1 : decode cX0_doublings 1 = .ok (.istore_n 2, 1) := by decide +kernel
theorem dX0_doublings_2 : decode cX0_doublings 2 = .ok (.iload_n 2, 1) := by decide +kernel
theorem dX0_doublings_3 : decode cX0_doublings 3 = .ok (.bipush 31, 2) := by decide +kernel
theorem dX0_doublings_5 : decode cX0_doublings 5 = .ok (.if_icmp .ge 21, 3) := by decide +kernel
theorem dX0_doublings_8 : decode cX0_doublings 8 = .ok (.lload_n 0, 1) := by decide +kernel
theorem dX0_doublings_9 : decode cX0_doublings 9 = .ok (.iload_n 2, 1) := by decide +kernel
theorem dX0_doublings_10 : decode cX0_doublings 10 = .ok (.iconst 1, 1) := by decide +kernel
theorem dX0_doublings_11 : decode cX0_doublings 11 = .ok (.iadd, 1) := by decide +kernel
theorem dX0_doublings_12 : decode cX0_doublings 12 = .ok (.lshl, 1) := by decide +kernel
theorem dX0_doublings_13 : decode cX0_doublings 13 = .ok (.ldc2_w 89, 3) := by decide +kernel
theorem dX0_doublings_16 : decode cX0_doublings 16 = .ok (.lcmp, 1) := by decide +kernel
theorem dX0_doublings_17 : decode cX0_doublings 17 = .ok (.ifCond .ge 9, 3) := by decide +kernel
theorem dX0_doublings_20 : decode cX0_doublings 20 = .ok (.iinc 2 1, 3) := by decide +kernel
theorem dX0_doublings_23 : decode cX0_doublings 23 = .ok (.goto (-21), 3) := by decide +kernel
theorem dX0_doublings_26 : decode cX0_doublings 26 = .ok (.iload_n 2, 1) := by decide +kernel
theorem dX0_doublings_27 : decode cX0_doublings 27 = .ok (.ireturn, 1) := by decide +kernel
set_option maxRecDepth 20000 in
theorem ggX0_takeDigit_X1_cellAt : GoodIn wsX0_takeDigit wsX1_cellAt := goodIn_r _ [22] (by decide +kernel) (by decide +kernel)
set_option maxRecDepth 20000 in
theorem gX0_takeDigit_X1_cellAt_n94 : GoodIn wsX0_takeDigit (wsX1_cellAt) := ggX0_takeDigit_X1_cellAt
set_option maxRecDepth 20000 in
theorem ggX0_takeDigit_X0_writeQuotient : GoodIn wsX0_takeDigit wsX0_writeQuotient := goodIn_r _ [27, 28, 29, 30, 15, 31, 32, 33, 34, 35, 36, 37, 38, 39, 40, 41, 42, 43, 44] (by decide +kernel) (by decide +kernel)
set_option maxRecDepth 20000 in
theorem gX0_takeDigit_X0_writeQuotient : GoodIn wsX0_takeDigit (wsV RX0 97 RX0 yX0_writeQuotient wsX0_writeQuotient) := goodIn_app (goodIn_of _ (by decide +kernel)) ggX0_takeDigit_X0_writeQuotient
theorem dX0_takeDigit_0 : decode cX0_takeDigit 0 = .ok (.aload_n 0, 1) := by decide +kernel
theorem dX0_takeDigit_1 : decode cX0_takeDigit 1 = .ok (.getfield 18, 3) := by decide +kernel
theorem dX0_takeDigit_4 : decode cX0_takeDigit 4 = .ok (.iload_n 1, 1) := by decide +kernel
theorem dX0_takeDigit_5 : decode cX0_takeDigit 5 = .ok (.iconst 1, 1) := by decide +kernel
theorem dX0_takeDigit_6 : decode cX0_takeDigit 6 = .ok (.isub, 1) := by decide +kernel
theorem dX0_takeDigit_7 : decode cX0_takeDigit 7 = .ok (.laload, 1) := by decide +kernel
theorem dX0_takeDigit_8 : decode cX0_takeDigit 8 = .ok (.iconst 2, 1) := by decide +kernel
theorem dX0_takeDigit_9 : decode cX0_takeDigit 9 = .ok (.lshl, 1) := by decide +kernel
theorem dX0_takeDigit_10 : decode cX0_takeDigit 10 = .ok (.lstore 5, 2) := by decide +kernel
theorem dX0_takeDigit_12 : decode cX0_takeDigit 12 = .ok (.aload_n 0, 1) := by decide +kernel
theorem dX0_takeDigit_13 : decode cX0_takeDigit 13 = .ok (.getfield 22, 3) := by decide +kernel
theorem dX0_takeDigit_16 : decode cX0_takeDigit 16 = .ok (.iload_n 1, 1) := by decide +kernel
theorem dX0_takeDigit_17 : decode cX0_takeDigit 17 = .ok (.iconst 1, 1) := by decide +kernel
theorem dX0_takeDigit_18 : decode cX0_takeDigit 18 = .ok (.isub, 1) := by decide +kernel
theorem dX0_takeDigit_19 : decode cX0_takeDigit 19 = .ok (.laload, 1) := by decide +kernel
theorem dX0_takeDigit_20 : decode cX0_takeDigit 20 = .ok (.iconst 2, 1) := by decide +kernel
theorem dX0_takeDigit_21 : decode cX0_takeDigit 21 = .ok (.lshl, 1) := by decide +kernel
theorem dX0_takeDigit_22 : decode cX0_takeDigit 22 = .ok (.lstore 7, 2) := by decide +kernel
theorem dX0_takeDigit_24 : decode cX0_takeDigit 24 = .ok (.lload 5, 2) := by decide +kernel
theorem dX0_takeDigit_26 : decode cX0_takeDigit 26 = .ok (.bipush 31, 2) := by decide +kernel
theorem dX0_takeDigit_28 : decode cX0_takeDigit 28 = .ok (.lshr, 1) := by decide +kernel
theorem dX0_takeDigit_29 : decode cX0_takeDigit 29 = .ok (.lload 7, 2) := by decide +kernel
theorem dX0_takeDigit_31 : decode cX0_takeDigit 31 = .ok (.bipush 31, 2) := by decide +kernel
theorem dX0_takeDigit_33 : decode cX0_takeDigit 33 = .ok (.lshr, 1) := by decide +kernel
theorem dX0_takeDigit_34 : decode cX0_takeDigit 34 = .ok (.ladd, 1) := by decide +kernel
theorem dX0_takeDigit_35 : decode cX0_takeDigit 35 = .ok (.l2i, 1) := by decide +kernel
theorem dX0_takeDigit_36 : decode cX0_takeDigit 36 = .ok (.istore 9, 2) := by decide +kernel
theorem dX0_takeDigit_38 : decode cX0_takeDigit 38 = .ok (.bipush (-64), 2) := by decide +kernel
theorem dX0_takeDigit_40 : decode cX0_takeDigit 40 = .ok (.bipush 63, 2) := by decide +kernel
theorem dX0_takeDigit_42 : decode cX0_takeDigit 42 = .ok (.iload 9, 2) := by decide +kernel
theorem dX0_takeDigit_44 : decode cX0_takeDigit 44 = .ok (.invokestatic 83, 3) := by decide +kernel
theorem dX0_takeDigit_47 : decode cX0_takeDigit 47 = .ok (.invokestatic 91, 3) := by decide +kernel
theorem dX0_takeDigit_50 : decode cX0_takeDigit 50 = .ok (.istore 10, 2) := by decide +kernel
theorem dX0_takeDigit_52 : decode cX0_takeDigit 52 = .ok (.aload 4, 2) := by decide +kernel
theorem dX0_takeDigit_54 : decode cX0_takeDigit 54 = .ok (.aload_n 0, 1) := by decide +kernel
theorem dX0_takeDigit_55 : decode cX0_takeDigit 55 = .ok (.getfield 31, 3) := by decide +kernel
theorem dX0_takeDigit_58 : decode cX0_takeDigit 58 = .ok (.iload 10, 2) := by decide +kernel
theorem dX0_takeDigit_60 : decode cX0_takeDigit 60 = .ok (.invokestatic 94, 3) := by decide +kernel
theorem dX0_takeDigit_63 : decode cX0_takeDigit 63 = .ok (.iaload, 1) := by decide +kernel
theorem dX0_takeDigit_64 : decode cX0_takeDigit 64 = .ok (.istore 11, 2) := by decide +kernel
theorem dX0_takeDigit_66 : decode cX0_takeDigit 66 = .ok (.bipush (-8), 2) := by decide +kernel
theorem dX0_takeDigit_68 : decode cX0_takeDigit 68 = .ok (.iload 11, 2) := by decide +kernel
theorem dX0_takeDigit_70 : decode cX0_takeDigit 70 = .ok (.imul, 1) := by decide +kernel
theorem dX0_takeDigit_71 : decode cX0_takeDigit 71 = .ok (.i2l, 1) := by decide +kernel
theorem dX0_takeDigit_72 : decode cX0_takeDigit 72 = .ok (.lload_n 2, 1) := by decide +kernel
theorem dX0_takeDigit_73 : decode cX0_takeDigit 73 = .ok (.lmul, 1) := by decide +kernel
theorem dX0_takeDigit_74 : decode cX0_takeDigit 74 = .ok (.lstore 12, 2) := by decide +kernel
theorem dX0_takeDigit_76 : decode cX0_takeDigit 76 = .ok (.aload_n 0, 1) := by decide +kernel
theorem dX0_takeDigit_77 : decode cX0_takeDigit 77 = .ok (.getfield 15, 3) := by decide +kernel
theorem dX0_takeDigit_80 : decode cX0_takeDigit 80 = .ok (.iload_n 1, 1) := by decide +kernel
theorem dX0_takeDigit_81 : decode cX0_takeDigit 81 = .ok (.iload 9, 2) := by decide +kernel
theorem dX0_takeDigit_83 : decode cX0_takeDigit 83 = .ok (.iastore, 1) := by decide +kernel
theorem dX0_takeDigit_84 : decode cX0_takeDigit 84 = .ok (.aload_n 0, 1) := by decide +kernel
theorem dX0_takeDigit_85 : decode cX0_takeDigit 85 = .ok (.getfield 11, 3) := by decide +kernel
theorem dX0_takeDigit_88 : decode cX0_takeDigit 88 = .ok (.iload_n 1, 1) := by decide +kernel
theorem dX0_takeDigit_89 : decode cX0_takeDigit 89 = .ok (.iload 11, 2) := by decide +kernel
theorem dX0_takeDigit_91 : decode cX0_takeDigit 91 = .ok (.iastore, 1) := by decide +kernel
theorem dX0_takeDigit_92 : decode cX0_takeDigit 92 = .ok (.aload_n 0, 1) := by decide +kernel
theorem dX0_takeDigit_93 : decode cX0_takeDigit 93 = .ok (.getfield 18, 3) := by decide +kernel
theorem dX0_takeDigit_96 : decode cX0_takeDigit 96 = .ok (.iload_n 1, 1) := by decide +kernel
theorem dX0_takeDigit_97 : decode cX0_takeDigit 97 = .ok (.lload 5, 2) := by decide +kernel
theorem dX0_takeDigit_99 : decode cX0_takeDigit 99 = .ok (.lload 7, 2) := by decide +kernel
theorem dX0_takeDigit_101 : decode cX0_takeDigit 101 = .ok (.lxor, 1) := by decide +kernel
theorem dX0_takeDigit_102 : decode cX0_takeDigit 102 = .ok (.lload 12, 2) := by decide +kernel
theorem dX0_takeDigit_104 : decode cX0_takeDigit 104 = .ok (.lxor, 1) := by decide +kernel
theorem dX0_takeDigit_105 : decode cX0_takeDigit 105 = .ok (.lastore, 1) := by decide +kernel
theorem dX0_takeDigit_106 : decode cX0_takeDigit 106 = .ok (.aload_n 0, 1) := by decide +kernel
theorem dX0_takeDigit_107 : decode cX0_takeDigit 107 = .ok (.getfield 22, 3) := by decide +kernel
theorem dX0_takeDigit_110 : decode cX0_takeDigit 110 = .ok (.iload_n 1, 1) := by decide +kernel
theorem dX0_takeDigit_111 : decode cX0_takeDigit 111 = .ok (.lload 5, 2) := by decide +kernel
theorem dX0_takeDigit_113 : decode cX0_takeDigit 113 = .ok (.lload 7, 2) := by decide +kernel
theorem dX0_takeDigit_115 : decode cX0_takeDigit 115 = .ok (.land, 1) := by decide +kernel
theorem dX0_takeDigit_116 : decode cX0_takeDigit 116 = .ok (.lload 5, 2) := by decide +kernel
theorem dX0_takeDigit_118 : decode cX0_takeDigit 118 = .ok (.lload 12, 2) := by decide +kernel
theorem dX0_takeDigit_120 : decode cX0_takeDigit 120 = .ok (.land, 1) := by decide +kernel
theorem dX0_takeDigit_121 : decode cX0_takeDigit 121 = .ok (.lor, 1) := by decide +kernel
theorem dX0_takeDigit_122 : decode cX0_takeDigit 122 = .ok (.lload 7, 2) := by decide +kernel
theorem dX0_takeDigit_124 : decode cX0_takeDigit 124 = .ok (.lload 12, 2) := by decide +kernel
theorem dX0_takeDigit_126 : decode cX0_takeDigit 126 = .ok (.land, 1) := by decide +kernel
theorem dX0_takeDigit_127 : decode cX0_takeDigit 127 = .ok (.lor, 1) := by decide +kernel
theorem dX0_takeDigit_128 : decode cX0_takeDigit 128 = .ok (.iconst 1, 1) := by decide +kernel
theorem dX0_takeDigit_129 : decode cX0_takeDigit 129 = .ok (.lshl, 1) := by decide +kernel
theorem dX0_takeDigit_130 : decode cX0_takeDigit 130 = .ok (.lastore, 1) := by decide +kernel
theorem dX0_takeDigit_131 : decode cX0_takeDigit 131 = .ok (.aload_n 0, 1) := by decide +kernel
theorem dX0_takeDigit_132 : decode cX0_takeDigit 132 = .ok (.iload_n 1, 1) := by decide +kernel
theorem dX0_takeDigit_133 : decode cX0_takeDigit 133 = .ok (.iload 11, 2) := by decide +kernel
theorem dX0_takeDigit_135 : decode cX0_takeDigit 135 = .ok (.invokevirtual 97, 3) := by decide +kernel
theorem dX0_takeDigit_138 : decode cX0_takeDigit 138 = .ok (.iload 11, 2) := by decide +kernel
theorem dX0_takeDigit_140 : decode cX0_takeDigit 140 = .ok (.ifCond .eq 13, 3) := by decide +kernel
theorem dX0_takeDigit_143 : decode cX0_takeDigit 143 = .ok (.aload_n 0, 1) := by decide +kernel
theorem dX0_takeDigit_144 : decode cX0_takeDigit 144 = .ok (.dup, 1) := by decide +kernel
theorem dX0_takeDigit_145 : decode cX0_takeDigit 145 = .ok (.getfield 44, 3) := by decide +kernel
theorem dX0_takeDigit_148 : decode cX0_takeDigit 148 = .ok (.iconst 1, 1) := by decide +kernel
theorem dX0_takeDigit_149 : decode cX0_takeDigit 149 = .ok (.iadd, 1) := by decide +kernel
theorem dX0_takeDigit_150 : decode cX0_takeDigit 150 = .ok (.putfield 44, 3) := by decide +kernel
theorem dX0_takeDigit_153 : decode cX0_takeDigit 153 = .ok (.aload_n 0, 1) := by decide +kernel
theorem dX0_takeDigit_154 : decode cX0_takeDigit 154 = .ok (.getfield 47, 3) := by decide +kernel
theorem dX0_takeDigit_157 : decode cX0_takeDigit 157 = .ok (.ifCond .ne 37, 3) := by decide +kernel
theorem dX0_takeDigit_160 : decode cX0_takeDigit 160 = .ok (.ldc2_w 101, 3) := by decide +kernel
theorem dX0_takeDigit_163 : decode cX0_takeDigit 163 = .ok (.aload_n 0, 1) := by decide +kernel
theorem dX0_takeDigit_164 : decode cX0_takeDigit 164 = .ok (.getfield 18, 3) := by decide +kernel
theorem dX0_takeDigit_167 : decode cX0_takeDigit 167 = .ok (.iload_n 1, 1) := by decide +kernel
theorem dX0_takeDigit_168 : decode cX0_takeDigit 168 = .ok (.laload, 1) := by decide +kernel
theorem dX0_takeDigit_169 : decode cX0_takeDigit 169 = .ok (.aload_n 0, 1) := by decide +kernel
theorem dX0_takeDigit_170 : decode cX0_takeDigit 170 = .ok (.getfield 22, 3) := by decide +kernel
theorem dX0_takeDigit_173 : decode cX0_takeDigit 173 = .ok (.iload_n 1, 1) := by decide +kernel
theorem dX0_takeDigit_174 : decode cX0_takeDigit 174 = .ok (.laload, 1) := by decide +kernel
theorem dX0_takeDigit_175 : decode cX0_takeDigit 175 = .ok (.ladd, 1) := by decide +kernel
theorem dX0_takeDigit_176 : decode cX0_takeDigit 176 = .ok (.invokestatic 56, 3) := by decide +kernel
theorem dX0_takeDigit_179 : decode cX0_takeDigit 179 = .ok (.lmul, 1) := by decide +kernel
theorem dX0_takeDigit_180 : decode cX0_takeDigit 180 = .ok (.ldc2_w 103, 3) := by decide +kernel
theorem dX0_takeDigit_183 : decode cX0_takeDigit 183 = .ok (.lload_n 2, 1) := by decide +kernel
theorem dX0_takeDigit_184 : decode cX0_takeDigit 184 = .ok (.lmul, 1) := by decide +kernel
theorem dX0_takeDigit_185 : decode cX0_takeDigit 185 = .ok (.lcmp, 1) := by decide +kernel
theorem dX0_takeDigit_186 : decode cX0_takeDigit 186 = .ok (.ifCond .le 8, 3) := by decide +kernel
theorem dX0_takeDigit_189 : decode cX0_takeDigit 189 = .ok (.aload_n 0, 1) := by decide +kernel
theorem dX0_takeDigit_190 : decode cX0_takeDigit 190 = .ok (.iload_n 1, 1) := by decide +kernel
theorem dX0_takeDigit_191 : decode cX0_takeDigit 191 = .ok (.putfield 47, 3) := by decide +kernel
theorem dX0_takeDigit_194 : decode cX0_takeDigit 194 = .ok (.return_, 1) := by decide +kernel
theorem dX0_writeQuotient_0 : decode cX0_writeQuotient 0 = .ok (.aload_n 0, 1) := by decide +kernel
theorem dX0_writeQuotient_1 : decode cX0_writeQuotient 1 = .ok (.getfield 25, 3) := by decide +kernel
theorem dX0_writeQuotient_4 : decode cX0_writeQuotient 4 = .ok (.iload_n 1, 1) := by decide +kernel
theorem dX0_writeQuotient_5 : decode cX0_writeQuotient 5 = .ok (.iconst 1, 1) := by decide +kernel
theorem dX0_writeQuotient_6 : decode cX0_writeQuotient 6 = .ok (.isub, 1) := by decide +kernel
theorem dX0_writeQuotient_7 : decode cX0_writeQuotient 7 = .ok (.laload, 1) := by decide +kernel
theorem dX0_writeQuotient_8 : decode cX0_writeQuotient 8 = .ok (.lstore_n 3, 1) := by decide +kernel
theorem dX0_writeQuotient_9 : decode cX0_writeQuotient 9 = .ok (.aload_n 0, 1) := by decide +kernel
theorem dX0_writeQuotient_10 : decode cX0_writeQuotient 10 = .ok (.getfield 28, 3) := by decide +kernel
theorem dX0_writeQuotient_13 : decode cX0_writeQuotient 13 = .ok (.iload_n 1, 1) := by decide +kernel
theorem dX0_writeQuotient_14 : decode cX0_writeQuotient 14 = .ok (.iconst 1, 1) := by decide +kernel
theorem dX0_writeQuotient_15 : decode cX0_writeQuotient 15 = .ok (.isub, 1) := by decide +kernel
theorem dX0_writeQuotient_16 : decode cX0_writeQuotient 16 = .ok (.laload, 1) := by decide +kernel
theorem dX0_writeQuotient_17 : decode cX0_writeQuotient 17 = .ok (.lstore 5, 2) := by decide +kernel
theorem dX0_writeQuotient_19 : decode cX0_writeQuotient 19 = .ok (.aload_n 0, 1) := by decide +kernel
theorem dX0_writeQuotient_20 : decode cX0_writeQuotient 20 = .ok (.getfield 25, 3) := by decide +kernel
theorem dX0_writeQuotient_23 : decode cX0_writeQuotient 23 = .ok (.iload_n 1, 1) := by decide +kernel
theorem dX0_writeQuotient_24 : decode cX0_writeQuotient 24 = .ok (.iload_n 2, 1) := by decide +kernel
theorem dX0_writeQuotient_25 : decode cX0_writeQuotient 25 = .ok (.ifCond .lt 14, 3) := by decide +kernel
theorem dX0_writeQuotient_28 : decode cX0_writeQuotient 28 = .ok (.ldc2_w 105, 3) := by decide +kernel
theorem dX0_writeQuotient_31 : decode cX0_writeQuotient 31 = .ok (.lload_n 3, 1) := by decide +kernel
theorem dX0_writeQuotient_32 : decode cX0_writeQuotient 32 = .ok (.lmul, 1) := by decide +kernel
theorem dX0_writeQuotient_33 : decode cX0_writeQuotient 33 = .ok (.iload_n 2, 1) := by decide +kernel
theorem dX0_writeQuotient_34 : decode cX0_writeQuotient 34 = .ok (.i2l, 1) := by decide +kernel
theorem dX0_writeQuotient_35 : decode cX0_writeQuotient 35 = .ok (.ladd, 1) := by decide +kernel
theorem dX0_writeQuotient_36 : decode cX0_writeQuotient 36 = .ok (.goto 16, 3) := by decide +kernel
theorem dX0_writeQuotient_39 : decode cX0_writeQuotient 39 = .ok (.ldc2_w 105, 3) := by decide +kernel
theorem dX0_writeQuotient_42 : decode cX0_writeQuotient 42 = .ok (.lload 5, 2) := by decide +kernel
theorem dX0_writeQuotient_44 : decode cX0_writeQuotient 44 = .ok (.lmul, 1) := by decide +kernel
theorem dX0_writeQuotient_45 : decode cX0_writeQuotient 45 = .ok (.ldc2_w 105, 3) := by decide +kernel
theorem dX0_writeQuotient_48 : decode cX0_writeQuotient 48 = .ok (.ladd, 1) := by decide +kernel
theorem dX0_writeQuotient_49 : decode cX0_writeQuotient 49 = .ok (.iload_n 2, 1) := by decide +kernel
theorem dX0_writeQuotient_50 : decode cX0_writeQuotient 50 = .ok (.i2l, 1) := by decide +kernel
theorem dX0_writeQuotient_51 : decode cX0_writeQuotient 51 = .ok (.ladd, 1) := by decide +kernel
theorem dX0_writeQuotient_52 : decode cX0_writeQuotient 52 = .ok (.lastore, 1) := by decide +kernel
theorem dX0_writeQuotient_53 : decode cX0_writeQuotient 53 = .ok (.aload_n 0, 1) := by decide +kernel
theorem dX0_writeQuotient_54 : decode cX0_writeQuotient 54 = .ok (.getfield 28, 3) := by decide +kernel
theorem dX0_writeQuotient_57 : decode cX0_writeQuotient 57 = .ok (.iload_n 1, 1) := by decide +kernel
theorem dX0_writeQuotient_58 : decode cX0_writeQuotient 58 = .ok (.iload_n 2, 1) := by decide +kernel
theorem dX0_writeQuotient_59 : decode cX0_writeQuotient 59 = .ok (.ifCond .le 16, 3) := by decide +kernel
theorem dX0_writeQuotient_62 : decode cX0_writeQuotient 62 = .ok (.ldc2_w 105, 3) := by decide +kernel
theorem dX0_writeQuotient_65 : decode cX0_writeQuotient 65 = .ok (.lload_n 3, 1) := by decide +kernel
theorem dX0_writeQuotient_66 : decode cX0_writeQuotient 66 = .ok (.lmul, 1) := by decide +kernel
theorem dX0_writeQuotient_67 : decode cX0_writeQuotient 67 = .ok (.iload_n 2, 1) := by decide +kernel
theorem dX0_writeQuotient_68 : decode cX0_writeQuotient 68 = .ok (.i2l, 1) := by decide +kernel
theorem dX0_writeQuotient_69 : decode cX0_writeQuotient 69 = .ok (.ladd, 1) := by decide +kernel
theorem dX0_writeQuotient_70 : decode cX0_writeQuotient 70 = .ok (.lconst 1, 1) := by decide +kernel
theorem dX0_writeQuotient_71 : decode cX0_writeQuotient 71 = .ok (.lsub, 1) := by decide +kernel
theorem dX0_writeQuotient_72 : decode cX0_writeQuotient 72 = .ok (.goto 16, 3) := by decide +kernel
theorem dX0_writeQuotient_75 : decode cX0_writeQuotient 75 = .ok (.ldc2_w 105, 3) := by decide +kernel
theorem dX0_writeQuotient_78 : decode cX0_writeQuotient 78 = .ok (.lload 5, 2) := by decide +kernel
theorem dX0_writeQuotient_80 : decode cX0_writeQuotient 80 = .ok (.lmul, 1) := by decide +kernel
theorem dX0_writeQuotient_81 : decode cX0_writeQuotient 81 = .ok (.ldc2_w 101, 3) := by decide +kernel
theorem dX0_writeQuotient_84 : decode cX0_writeQuotient 84 = .ok (.ladd, 1) := by decide +kernel
theorem dX0_writeQuotient_85 : decode cX0_writeQuotient 85 = .ok (.iload_n 2, 1) := by decide +kernel
theorem dX0_writeQuotient_86 : decode cX0_writeQuotient 86 = .ok (.i2l, 1) := by decide +kernel
theorem dX0_writeQuotient_87 : decode cX0_writeQuotient 87 = .ok (.ladd, 1) := by decide +kernel
theorem dX0_writeQuotient_88 : decode cX0_writeQuotient 88 = .ok (.lastore, 1) := by decide +kernel
theorem dX0_writeQuotient_89 : decode cX0_writeQuotient 89 = .ok (.return_, 1) := by decide +kernel
theorem dX0_finish_0 : decode cX0_finish 0 = .ok (.aload_n 0, 1) := by decide +kernel
theorem dX0_finish_1 : decode cX0_finish 1 = .ok (.getfield 18, 3) := by decide +kernel
theorem dX0_finish_4 : decode cX0_finish 4 = .ok (.aload_n 0, 1) := by decide +kernel
theorem dX0_finish_5 : decode cX0_finish 5 = .ok (.getfield 41, 3) := by decide +kernel
theorem dX0_finish_8 : decode cX0_finish 8 = .ok (.laload, 1) := by decide +kernel
theorem dX0_finish_9 : decode cX0_finish 9 = .ok (.aload_n 0, 1) := by decide +kernel
theorem dX0_finish_10 : decode cX0_finish 10 = .ok (.getfield 22, 3) := by decide +kernel
theorem dX0_finish_13 : decode cX0_finish 13 = .ok (.aload_n 0, 1) := by decide +kernel
theorem dX0_finish_14 : decode cX0_finish 14 = .ok (.getfield 41, 3) := by decide +kernel
theorem dX0_finish_17 : decode cX0_finish 17 = .ok (.laload, 1) := by decide +kernel
theorem dX0_finish_18 : decode cX0_finish 18 = .ok (.ladd, 1) := by decide +kernel
theorem dX0_finish_19 : decode cX0_finish 19 = .ok (.lstore 5, 2) := by decide +kernel
theorem dX0_finish_21 : decode cX0_finish 21 = .ok (.lload 5, 2) := by decide +kernel
theorem dX0_finish_23 : decode cX0_finish 23 = .ok (.lconst 0, 1) := by decide +kernel
theorem dX0_finish_24 : decode cX0_finish 24 = .ok (.lcmp, 1) := by decide +kernel
theorem dX0_finish_25 : decode cX0_finish 25 = .ok (.ifCond .ge 15, 3) := by decide +kernel
theorem dX0_finish_28 : decode cX0_finish 28 = .ok (.aload_n 0, 1) := by decide +kernel
theorem dX0_finish_29 : decode cX0_finish 29 = .ok (.getfield 28, 3) := by decide +kernel
theorem dX0_finish_32 : decode cX0_finish 32 = .ok (.aload_n 0, 1) := by decide +kernel
theorem dX0_finish_33 : decode cX0_finish 33 = .ok (.getfield 41, 3) := by decide +kernel
theorem dX0_finish_36 : decode cX0_finish 36 = .ok (.laload, 1) := by decide +kernel
theorem dX0_finish_37 : decode cX0_finish 37 = .ok (.goto 12, 3) := by decide +kernel
theorem dX0_finish_40 : decode cX0_finish 40 = .ok (.aload_n 0, 1) := by decide +kernel
theorem dX0_finish_41 : decode cX0_finish 41 = .ok (.getfield 25, 3) := by decide +kernel
theorem dX0_finish_44 : decode cX0_finish 44 = .ok (.aload_n 0, 1) := by decide +kernel
theorem dX0_finish_45 : decode cX0_finish 45 = .ok (.getfield 41, 3) := by decide +kernel
theorem dX0_finish_48 : decode cX0_finish 48 = .ok (.laload, 1) := by decide +kernel
theorem dX0_finish_49 : decode cX0_finish 49 = .ok (.lstore 7, 2) := by decide +kernel
theorem dX0_finish_51 : decode cX0_finish 51 = .ok (.lload 5, 2) := by decide +kernel
theorem dX0_finish_53 : decode cX0_finish 53 = .ok (.lconst 0, 1) := by decide +kernel
theorem dX0_finish_54 : decode cX0_finish 54 = .ok (.lcmp, 1) := by decide +kernel
theorem dX0_finish_55 : decode cX0_finish 55 = .ok (.ifCond .ge 14, 3) := by decide +kernel
theorem dX0_finish_58 : decode cX0_finish 58 = .ok (.lload 5, 2) := by decide +kernel
theorem dX0_finish_60 : decode cX0_finish 60 = .ok (.ldc2_w 87, 3) := by decide +kernel
theorem dX0_finish_63 : decode cX0_finish 63 = .ok (.lload_n 1, 1) := by decide +kernel
theorem dX0_finish_64 : decode cX0_finish 64 = .ok (.lmul, 1) := by decide +kernel
theorem dX0_finish_65 : decode cX0_finish 65 = .ok (.ladd, 1) := by decide +kernel
theorem dX0_finish_66 : decode cX0_finish 66 = .ok (.goto 5, 3) := by decide +kernel
theorem dX0_finish_69 : decode cX0_finish 69 = .ok (.lload 5, 2) := by decide +kernel
theorem dX0_finish_71 : decode cX0_finish 71 = .ok (.ldc2_w 87, 3) := by decide +kernel
theorem dX0_finish_74 : decode cX0_finish 74 = .ok (.aload_n 0, 1) := by decide +kernel
theorem dX0_finish_75 : decode cX0_finish 75 = .ok (.getfield 38, 3) := by decide +kernel
theorem dX0_finish_78 : decode cX0_finish 78 = .ok (.lshl, 1) := by decide +kernel
theorem dX0_finish_79 : decode cX0_finish 79 = .ok (.ldiv, 1) := by decide +kernel
theorem dX0_finish_80 : decode cX0_finish 80 = .ok (.lstore 9, 2) := by decide +kernel
theorem dX0_finish_82 : decode cX0_finish 82 = .ok (.aload_n 0, 1) := by decide +kernel
theorem dX0_finish_83 : decode cX0_finish 83 = .ok (.iload_n 3, 1) := by decide +kernel
theorem dX0_finish_84 : decode cX0_finish 84 = .ok (.ifCond .eq 9, 3) := by decide +kernel
theorem dX0_finish_87 : decode cX0_finish 87 = .ok (.lload 7, 2) := by decide +kernel
theorem dX0_finish_89 : decode cX0_finish 89 = .ok (.lneg, 1) := by decide +kernel
theorem dX0_finish_90 : decode cX0_finish 90 = .ok (.goto 5, 3) := by decide +kernel
theorem dX0_finish_93 : decode cX0_finish 93 = .ok (.lload 7, 2) := by decide +kernel
theorem dX0_finish_95 : decode cX0_finish 95 = .ok (.l2i, 1) := by decide +kernel
theorem dX0_finish_96 : decode cX0_finish 96 = .ok (.putfield 50, 3) := by decide +kernel
theorem dX0_finish_99 : decode cX0_finish 99 = .ok (.aload_n 0, 1) := by decide +kernel
theorem dX0_finish_100 : decode cX0_finish 100 = .ok (.iload 4, 2) := by decide +kernel
theorem dX0_finish_102 : decode cX0_finish 102 = .ok (.ifCond .eq 9, 3) := by decide +kernel
theorem dX0_finish_105 : decode cX0_finish 105 = .ok (.lload 9, 2) := by decide +kernel
theorem dX0_finish_107 : decode cX0_finish 107 = .ok (.lneg, 1) := by decide +kernel
theorem dX0_finish_108 : decode cX0_finish 108 = .ok (.goto 5, 3) := by decide +kernel
theorem dX0_finish_111 : decode cX0_finish 111 = .ok (.lload 9, 2) := by decide +kernel
theorem dX0_finish_113 : decode cX0_finish 113 = .ok (.l2i, 1) := by decide +kernel
theorem dX0_finish_114 : decode cX0_finish 114 = .ok (.putfield 53, 3) := by decide +kernel
theorem dX0_finish_117 : decode cX0_finish 117 = .ok (.return_, 1) := by decide +kernel
