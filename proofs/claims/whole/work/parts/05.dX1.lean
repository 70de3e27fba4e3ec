set_option maxRecDepth 20000 in
theorem ggX1_init_X0_init : GoodIn wsX1_init wsX0_init := goodIn_r _ [15, 16, 2, 3, 5, 17, 18, 19, 20, 21, 22, 23, 24, 25, 26, 27, 28, 29, 30, 31, 66, 67, 68, 69, 70, 71, 72, 73, 74, 75, 76, 77, 78, 79] (by decide +kernel) (by decide +kernel)
set_option maxRecDepth 20000 in
theorem gX1_init_X0_init_n20 : GoodIn wsX1_init (wsX0_init) := ggX1_init_X0_init
set_option maxRecDepth 20000 in
theorem ggX1_init_X1_findGoodDigits : GoodIn wsX1_init wsX1_findGoodDigits := goodIn_r _ [35, 36, 37, 34, 38, 39, 40, 41, 42, 43, 44, 45, 46, 47, 48, 49, 50, 51] (by decide +kernel) (by decide +kernel)
set_option maxRecDepth 20000 in
theorem gX1_init_X1_findGoodDigits : GoodIn wsX1_init (va_wsS RX1 32 yX1_findGoodDigits wsX1_findGoodDigits) := goodIn_app (goodIn_of _ (by decide +kernel)) ggX1_init_X1_findGoodDigits
set_option maxRecDepth 20000 in
theorem ggX1_init_X1_madeDigit : GoodIn wsX1_init wsX1_madeDigit := goodIn_r _ [55, 56, 57, 58, 59, 34, 60, 7, 61, 62, 63, 64, 65] (by decide +kernel) (by decide +kernel)
set_option maxRecDepth 20000 in
theorem gX1_init_X1_madeDigit : GoodIn wsX1_init (wsV RX1 36 RX1 yX1_madeDigit wsX1_madeDigit) := goodIn_app (goodIn_of _ (by decide +kernel)) ggX1_init_X1_madeDigit
theorem dX1_init_0 : decode cX1_init 0 = .ok (.aload_n 0, 1) := by decide +kernel
theorem dX1_init_1 : decode cX1_init 1 = .ok (.invokespecial 3, 3) := by decide +kernel
theorem dX1_init_4 : decode cX1_init 4 = .ok (.aload_n 0, 1) := by decide +kernel
theorem dX1_init_5 : decode cX1_init 5 = .ok (.iconst 4, 1) := by decide +kernel
theorem dX1_init_6 : decode cX1_init 6 = .ok (.sipush 2048, 3) := by decide +kernel
theorem dX1_init_9 : decode cX1_init 9 = .ok (.multianewarray 9 2, 4) := by decide +kernel
theorem dX1_init_13 : decode cX1_init 13 = .ok (.putfield 11, 3) := by decide +kernel
theorem dX1_init_16 : decode cX1_init 16 = .ok (.aload_n 0, 1) := by decide +kernel
theorem dX1_init_17 : decode cX1_init 17 = .ok (.sipush 2048, 3) := by decide +kernel
theorem dX1_init_20 : decode cX1_init 20 = .ok (.newarray .int, 2) := by decide +kernel
theorem dX1_init_22 : decode cX1_init 22 = .ok (.putfield 14, 3) := by decide +kernel
theorem dX1_init_25 : decode cX1_init 25 = .ok (.aload_n 0, 1) := by decide +kernel
theorem dX1_init_26 : decode cX1_init 26 = .ok (.new 18, 3) := by decide +kernel
theorem dX1_init_29 : decode cX1_init 29 = .ok (.dup, 1) := by decide +kernel
theorem dX1_init_30 : decode cX1_init 30 = .ok (.invokespecial 20, 3) := by decide +kernel
theorem dX1_init_33 : decode cX1_init 33 = .ok (.putfield 21, 3) := by decide +kernel
theorem dX1_init_36 : decode cX1_init 36 = .ok (.aload_n 0, 1) := by decide +kernel
theorem dX1_init_37 : decode cX1_init 37 = .ok (.new 18, 3) := by decide +kernel
theorem dX1_init_40 : decode cX1_init 40 = .ok (.dup, 1) := by decide +kernel
theorem dX1_init_41 : decode cX1_init 41 = .ok (.invokespecial 20, 3) := by decide +kernel
theorem dX1_init_44 : decode cX1_init 44 = .ok (.putfield 25, 3) := by decide +kernel
theorem dX1_init_47 : decode cX1_init 47 = .ok (.aload_n 0, 1) := by decide +kernel
theorem dX1_init_48 : decode cX1_init 48 = .ok (.iconst 0, 1) := by decide +kernel
theorem dX1_init_49 : decode cX1_init 49 = .ok (.putfield 28, 3) := by decide +kernel
theorem dX1_init_52 : decode cX1_init 52 = .ok (.iconst 0, 1) := by decide +kernel
theorem dX1_init_53 : decode cX1_init 53 = .ok (.istore_n 1, 1) := by decide +kernel
theorem dX1_init_54 : decode cX1_init 54 = .ok (.iload_n 1, 1) := by decide +kernel
theorem dX1_init_55 : decode cX1_init 55 = .ok (.sipush 2048, 3) := by decide +kernel
theorem dX1_init_58 : decode cX1_init 58 = .ok (.if_icmp .ge 59, 3) := by decide +kernel
theorem dX1_init_61 : decode cX1_init 61 = .ok (.aload_n 0, 1) := by decide +kernel
theorem dX1_init_62 : decode cX1_init 62 = .ok (.getfield 14, 3) := by decide +kernel
theorem dX1_init_65 : decode cX1_init 65 = .ok (.iload_n 1, 1) := by decide +kernel
theorem dX1_init_66 : decode cX1_init 66 = .ok (.iload_n 1, 1) := by decide +kernel
theorem dX1_init_67 : decode cX1_init 67 = .ok (.sipush 128, 3) := by decide +kernel
theorem dX1_init_70 : decode cX1_init 70 = .ok (.idiv, 1) := by decide +kernel
theorem dX1_init_71 : decode cX1_init 71 = .ok (.iload_n 1, 1) := by decide +kernel
theorem dX1_init_72 : decode cX1_init 72 = .ok (.sipush 128, 3) := by decide +kernel
theorem dX1_init_75 : decode cX1_init 75 = .ok (.irem, 1) := by decide +kernel
theorem dX1_init_76 : decode cX1_init 76 = .ok (.bipush (-64), 2) := by decide +kernel
theorem dX1_init_78 : decode cX1_init 78 = .ok (.iadd, 1) := by decide +kernel
theorem dX1_init_79 : decode cX1_init 79 = .ok (.invokestatic 32, 3) := by decide +kernel
theorem dX1_init_82 : decode cX1_init 82 = .ok (.iastore, 1) := by decide +kernel
theorem dX1_init_83 : decode cX1_init 83 = .ok (.aload_n 0, 1) := by decide +kernel
theorem dX1_init_84 : decode cX1_init 84 = .ok (.iload_n 1, 1) := by decide +kernel
theorem dX1_init_85 : decode cX1_init 85 = .ok (.invokevirtual 36, 3) := by decide +kernel
theorem dX1_init_88 : decode cX1_init 88 = .ok (.istore_n 2, 1) := by decide +kernel
theorem dX1_init_89 : decode cX1_init 89 = .ok (.iconst 0, 1) := by decide +kernel
theorem dX1_init_90 : decode cX1_init 90 = .ok (.istore_n 3, 1) := by decide +kernel
theorem dX1_init_91 : decode cX1_init 91 = .ok (.iload_n 3, 1) := by decide +kernel
theorem dX1_init_92 : decode cX1_init 92 = .ok (.iconst 4, 1) := by decide +kernel
theorem dX1_init_93 : decode cX1_init 93 = .ok (.if_icmp .ge 18, 3) := by decide +kernel
theorem dX1_init_96 : decode cX1_init 96 = .ok (.aload_n 0, 1) := by decide +kernel
theorem dX1_init_97 : decode cX1_init 97 = .ok (.getfield 11, 3) := by decide +kernel
theorem dX1_init_100 : decode cX1_init 100 = .ok (.iload_n 3, 1) := by decide +kernel
theorem dX1_init_101 : decode cX1_init 101 = .ok (.aaload, 1) := by decide +kernel
theorem dX1_init_102 : decode cX1_init 102 = .ok (.iload_n 1, 1) := by decide +kernel
theorem dX1_init_103 : decode cX1_init 103 = .ok (.iload_n 2, 1) := by decide +kernel
theorem dX1_init_104 : decode cX1_init 104 = .ok (.iastore, 1) := by decide +kernel
theorem dX1_init_105 : decode cX1_init 105 = .ok (.iinc 3 1, 3) := by decide +kernel
theorem dX1_init_108 : decode cX1_init 108 = .ok (.goto (-17), 3) := by decide +kernel
theorem dX1_init_111 : decode cX1_init 111 = .ok (.iinc 1 1, 3) := by decide +kernel
theorem dX1_init_114 : decode cX1_init 114 = .ok (.goto (-60), 3) := by decide +kernel
theorem dX1_init_117 : decode cX1_init 117 = .ok (.return_, 1) := by decide +kernel
set_option maxRecDepth 20000 in
theorem ggX1_digit_X1_isTable : GoodIn wsX1_digit wsX1_isTable := goodIn_r _ [5] (by decide +kernel) (by decide +kernel)
set_option maxRecDepth 20000 in
theorem gX1_digit_X1_isTable : GoodIn wsX1_digit (va_wsS RX1 40 yX1_isTable wsX1_isTable) := goodIn_app (goodIn_of _ (by decide +kernel)) ggX1_digit_X1_isTable
set_option maxRecDepth 20000 in
theorem ggX1_digit_X1_isCell : GoodIn wsX1_digit wsX1_isCell := goodIn_r _ [8] (by decide +kernel) (by decide +kernel)
set_option maxRecDepth 20000 in
theorem gX1_digit_X1_isCell : GoodIn wsX1_digit (va_wsS RX1 44 yX1_isCell wsX1_isCell) := goodIn_app (goodIn_of _ (by decide +kernel)) ggX1_digit_X1_isCell
set_option maxRecDepth 20000 in
theorem ggX1_digit_X1_cellAt : GoodIn wsX1_digit wsX1_cellAt := goodIn_r _ [11] (by decide +kernel) (by decide +kernel)
set_option maxRecDepth 20000 in
theorem gX1_digit_X1_cellAt : GoodIn wsX1_digit (va_wsS RX1 48 yX1_cellAt wsX1_cellAt) := goodIn_app (goodIn_of _ (by decide +kernel)) ggX1_digit_X1_cellAt
theorem dX1_digit_0 : decode cX1_digit 0 = .ok (.iload_n 1, 1) := by decide +kernel
theorem dX1_digit_1 : decode cX1_digit 1 = .ok (.invokestatic 40, 3) := by decide +kernel
theorem dX1_digit_4 : decode cX1_digit 4 = .ok (.ifCond .eq 11, 3) := by decide +kernel
theorem dX1_digit_7 : decode cX1_digit 7 = .ok (.iload_n 2, 1) := by decide +kernel
theorem dX1_digit_8 : decode cX1_digit 8 = .ok (.iload_n 3, 1) := by decide +kernel
theorem dX1_digit_9 : decode cX1_digit 9 = .ok (.invokestatic 44, 3) := by decide +kernel
theorem dX1_digit_12 : decode cX1_digit 12 = .ok (.ifCond .ne 6, 3) := by decide +kernel
theorem dX1_digit_15 : decode cX1_digit 15 = .ok (.bipush (-101), 2) := by decide +kernel
theorem dX1_digit_17 : decode cX1_digit 17 = .ok (.ireturn, 1) := by decide +kernel
theorem dX1_digit_18 : decode cX1_digit 18 = .ok (.aload_n 0, 1) := by decide +kernel
theorem dX1_digit_19 : decode cX1_digit 19 = .ok (.getfield 11, 3) := by decide +kernel
theorem dX1_digit_22 : decode cX1_digit 22 = .ok (.iload_n 1, 1) := by decide +kernel
theorem dX1_digit_23 : decode cX1_digit 23 = .ok (.aaload, 1) := by decide +kernel
theorem dX1_digit_24 : decode cX1_digit 24 = .ok (.iload_n 2, 1) := by decide +kernel
theorem dX1_digit_25 : decode cX1_digit 25 = .ok (.iload_n 3, 1) := by decide +kernel
theorem dX1_digit_26 : decode cX1_digit 26 = .ok (.invokestatic 48, 3) := by decide +kernel
theorem dX1_digit_29 : decode cX1_digit 29 = .ok (.iaload, 1) := by decide +kernel
theorem dX1_digit_30 : decode cX1_digit 30 = .ok (.ireturn, 1) := by decide +kernel
set_option maxRecDepth 20000 in
theorem ggX1_set_X1_isTable : GoodIn wsX1_set wsX1_isTable := goodIn_r _ [5] (by decide +kernel) (by decide +kernel)
set_option maxRecDepth 20000 in
theorem gX1_set_X1_isTable : GoodIn wsX1_set (va_wsS RX1 40 yX1_isTable wsX1_isTable) := goodIn_app (goodIn_of _ (by decide +kernel)) ggX1_set_X1_isTable
set_option maxRecDepth 20000 in
theorem ggX1_set_X1_isCell : GoodIn wsX1_set wsX1_isCell := goodIn_r _ [8] (by decide +kernel) (by decide +kernel)
set_option maxRecDepth 20000 in
theorem gX1_set_X1_isCell : GoodIn wsX1_set (va_wsS RX1 44 yX1_isCell wsX1_isCell) := goodIn_app (goodIn_of _ (by decide +kernel)) ggX1_set_X1_isCell
set_option maxRecDepth 20000 in
theorem ggX1_set_X1_isDigit : GoodIn wsX1_set wsX1_isDigit := goodIn_r _ [11] (by decide +kernel) (by decide +kernel)
set_option maxRecDepth 20000 in
theorem gX1_set_X1_isDigit : GoodIn wsX1_set (va_wsS RX1 51 yX1_isDigit wsX1_isDigit) := goodIn_app (goodIn_of _ (by decide +kernel)) ggX1_set_X1_isDigit
set_option maxRecDepth 20000 in
theorem ggX1_set_X1_cellAt : GoodIn wsX1_set wsX1_cellAt := goodIn_r _ [14] (by decide +kernel) (by decide +kernel)
set_option maxRecDepth 20000 in
theorem gX1_set_X1_cellAt : GoodIn wsX1_set (va_wsS RX1 48 yX1_cellAt wsX1_cellAt) := goodIn_app (goodIn_of _ (by decide +kernel)) ggX1_set_X1_cellAt
theorem dX1_set_0 : decode cX1_set 0 = .ok (.iload_n 1, 1) := by decide +kernel
theorem dX1_set_1 : decode cX1_set 1 = .ok (.invokestatic 40, 3) := by decide +kernel
theorem dX1_set_4 : decode cX1_set 4 = .ok (.ifCond .eq 19, 3) := by decide +kernel
theorem dX1_set_7 : decode cX1_set 7 = .ok (.iload_n 2, 1) := by decide +kernel
theorem dX1_set_8 : decode cX1_set 8 = .ok (.iload_n 3, 1) := by decide +kernel
theorem dX1_set_9 : decode cX1_set 9 = .ok (.invokestatic 44, 3) := by decide +kernel
theorem dX1_set_12 : decode cX1_set 12 = .ok (.ifCond .eq 11, 3) := by decide +kernel
theorem dX1_set_15 : decode cX1_set 15 = .ok (.iload 4, 2) := by decide +kernel
theorem dX1_set_17 : decode cX1_set 17 = .ok (.invokestatic 51, 3) := by decide +kernel
theorem dX1_set_20 : decode cX1_set 20 = .ok (.ifCond .ne 6, 3) := by decide +kernel
theorem dX1_set_23 : decode cX1_set 23 = .ok (.bipush (-101), 2) := by decide +kernel
theorem dX1_set_25 : decode cX1_set 25 = .ok (.ireturn, 1) := by decide +kernel
theorem dX1_set_26 : decode cX1_set 26 = .ok (.iload_n 2, 1) := by decide +kernel
theorem dX1_set_27 : decode cX1_set 27 = .ok (.iload_n 3, 1) := by decide +kernel
theorem dX1_set_28 : decode cX1_set 28 = .ok (.invokestatic 48, 3) := by decide +kernel
theorem dX1_set_31 : decode cX1_set 31 = .ok (.istore 5, 2) := by decide +kernel
theorem dX1_set_33 : decode cX1_set 33 = .ok (.aload_n 0, 1) := by decide +kernel
theorem dX1_set_34 : decode cX1_set 34 = .ok (.getfield 11, 3) := by decide +kernel
theorem dX1_set_37 : decode cX1_set 37 = .ok (.iload_n 1, 1) := by decide +kernel
theorem dX1_set_38 : decode cX1_set 38 = .ok (.aaload, 1) := by decide +kernel
theorem dX1_set_39 : decode cX1_set 39 = .ok (.iload 5, 2) := by decide +kernel
theorem dX1_set_41 : decode cX1_set 41 = .ok (.iaload, 1) := by decide +kernel
theorem dX1_set_42 : decode cX1_set 42 = .ok (.istore 6, 2) := by decide +kernel
theorem dX1_set_44 : decode cX1_set 44 = .ok (.aload_n 0, 1) := by decide +kernel
theorem dX1_set_45 : decode cX1_set 45 = .ok (.getfield 11, 3) := by decide +kernel
theorem dX1_set_48 : decode cX1_set 48 = .ok (.iload_n 1, 1) := by decide +kernel
theorem dX1_set_49 : decode cX1_set 49 = .ok (.aaload, 1) := by decide +kernel
theorem dX1_set_50 : decode cX1_set 50 = .ok (.iload 5, 2) := by decide +kernel
theorem dX1_set_52 : decode cX1_set 52 = .ok (.iload 4, 2) := by decide +kernel
theorem dX1_set_54 : decode cX1_set 54 = .ok (.iastore, 1) := by decide +kernel
theorem dX1_set_55 : decode cX1_set 55 = .ok (.iload 6, 2) := by decide +kernel
theorem dX1_set_57 : decode cX1_set 57 = .ok (.ireturn, 1) := by decide +kernel
set_option maxRecDepth 20000 in
theorem ggX1_make_X1_isTable : GoodIn wsX1_make wsX1_isTable := goodIn_r _ [4] (by decide +kernel) (by decide +kernel)
set_option maxRecDepth 20000 in
theorem gX1_make_X1_isTable : GoodIn wsX1_make (va_wsS RX1 40 yX1_isTable wsX1_isTable) := goodIn_app (goodIn_of _ (by decide +kernel)) ggX1_make_X1_isTable
set_option maxRecDepth 20000 in
theorem ggX1_make_X1_madeDigit : GoodIn wsX1_make wsX1_madeDigit := goodIn_r _ [8, 9, 10, 11, 12, 3, 13, 14, 20, 21, 22, 23, 24] (by decide +kernel) (by decide +kernel)
set_option maxRecDepth 20000 in
theorem gX1_make_X1_madeDigit : GoodIn wsX1_make (wsV RX1 36 RX1 yX1_madeDigit wsX1_madeDigit) := goodIn_app (goodIn_of _ (by decide +kernel)) ggX1_make_X1_madeDigit
set_option maxRecDepth 20000 in
theorem ggX1_make_X1_replace : GoodIn wsX1_make wsX1_replace := goodIn_r _ [18, 19, 20, 21, 22, 23, 24] (by decide +kernel) (by decide +kernel)
set_option maxRecDepth 20000 in
theorem gX1_make_X1_replace : GoodIn wsX1_make (wsV RX1 54 RX1 yX1_replace wsX1_replace) := goodIn_app (goodIn_of _ (by decide +kernel)) ggX1_make_X1_replace
theorem dX1_make_0 : decode cX1_make 0 = .ok (.iload_n 1, 1) := by decide +kernel
theorem dX1_make_1 : decode cX1_make 1 = .ok (.invokestatic 40, 3) := by decide +kernel
theorem dX1_make_4 : decode cX1_make 4 = .ok (.ifCond .ne 5, 3) := by decide +kernel
theorem dX1_make_7 : decode cX1_make 7 = .ok (.iconst (-1), 1) := by decide +kernel
theorem dX1_make_8 : decode cX1_make 8 = .ok (.ireturn, 1) := by decide +kernel
theorem dX1_make_9 : decode cX1_make 9 = .ok (.iconst 0, 1) := by decide +kernel
theorem dX1_make_10 : decode cX1_make 10 = .ok (.istore_n 2, 1) := by decide +kernel
theorem dX1_make_11 : decode cX1_make 11 = .ok (.iconst 0, 1) := by decide +kernel
theorem dX1_make_12 : decode cX1_make 12 = .ok (.istore_n 3, 1) := by decide +kernel
theorem dX1_make_13 : decode cX1_make 13 = .ok (.iload_n 3, 1) := by decide +kernel
theorem dX1_make_14 : decode cX1_make 14 = .ok (.sipush 2048, 3) := by decide +kernel
theorem dX1_make_17 : decode cX1_make 17 = .ok (.if_icmp .ge 23, 3) := by decide +kernel
theorem dX1_make_20 : decode cX1_make 20 = .ok (.iload_n 2, 1) := by decide +kernel
theorem dX1_make_21 : decode cX1_make 21 = .ok (.aload_n 0, 1) := by decide +kernel
theorem dX1_make_22 : decode cX1_make 22 = .ok (.iload_n 1, 1) := by decide +kernel
theorem dX1_make_23 : decode cX1_make 23 = .ok (.iload_n 3, 1) := by decide +kernel
theorem dX1_make_24 : decode cX1_make 24 = .ok (.aload_n 0, 1) := by decide +kernel
theorem dX1_make_25 : decode cX1_make 25 = .ok (.iload_n 3, 1) := by decide +kernel
theorem dX1_make_26 : decode cX1_make 26 = .ok (.invokevirtual 36, 3) := by decide +kernel
theorem dX1_make_29 : decode cX1_make 29 = .ok (.invokevirtual 54, 3) := by decide +kernel
theorem dX1_make_32 : decode cX1_make 32 = .ok (.iadd, 1) := by decide +kernel
theorem dX1_make_33 : decode cX1_make 33 = .ok (.istore_n 2, 1) := by decide +kernel
theorem dX1_make_34 : decode cX1_make 34 = .ok (.iinc 3 1, 3) := by decide +kernel
theorem dX1_make_37 : decode cX1_make 37 = .ok (.goto (-24), 3) := by decide +kernel
theorem dX1_make_40 : decode cX1_make 40 = .ok (.iload_n 2, 1) := by decide +kernel
theorem dX1_make_41 : decode cX1_make 41 = .ok (.ireturn, 1) := by decide +kernel
set_option maxRecDepth 20000 in
theorem ggX1_copy_X1_isTable : GoodIn wsX1_copy wsX1_isTable := goodIn_r _ [5] (by decide +kernel) (by decide +kernel)
set_option maxRecDepth 20000 in
theorem gX1_copy_X1_isTable : GoodIn wsX1_copy (va_wsS RX1 40 yX1_isTable wsX1_isTable) := goodIn_app (goodIn_of _ (by decide +kernel)) ggX1_copy_X1_isTable
set_option maxRecDepth 20000 in
theorem ggX1_copy_X1_replace : GoodIn wsX1_copy wsX1_replace := goodIn_r _ [9, 1, 10, 11, 12, 13, 14] (by decide +kernel) (by decide +kernel)
set_option maxRecDepth 20000 in
theorem gX1_copy_X1_replace : GoodIn wsX1_copy (wsV RX1 54 RX1 yX1_replace wsX1_replace) := goodIn_app (goodIn_of _ (by decide +kernel)) ggX1_copy_X1_replace
theorem dX1_copy_0 : decode cX1_copy 0 = .ok (.iload_n 1, 1) := by decide +kernel
theorem dX1_copy_1 : decode cX1_copy 1 = .ok (.invokestatic 40, 3) := by decide +kernel
theorem dX1_copy_4 : decode cX1_copy 4 = .ok (.ifCond .eq 10, 3) := by decide +kernel
theorem dX1_copy_7 : decode cX1_copy 7 = .ok (.iload_n 2, 1) := by decide +kernel
theorem dX1_copy_8 : decode cX1_copy 8 = .ok (.invokestatic 40, 3) := by decide +kernel
theorem dX1_copy_11 : decode cX1_copy 11 = .ok (.ifCond .ne 5, 3) := by decide +kernel
theorem dX1_copy_14 : decode cX1_copy 14 = .ok (.iconst (-1), 1) := by decide +kernel
theorem dX1_copy_15 : decode cX1_copy 15 = .ok (.ireturn, 1) := by decide +kernel
theorem dX1_copy_16 : decode cX1_copy 16 = .ok (.iconst 0, 1) := by decide +kernel
theorem dX1_copy_17 : decode cX1_copy 17 = .ok (.istore_n 3, 1) := by decide +kernel
theorem dX1_copy_18 : decode cX1_copy 18 = .ok (.iconst 0, 1) := by decide +kernel
theorem dX1_copy_19 : decode cX1_copy 19 = .ok (.istore 4, 2) := by decide +kernel
theorem dX1_copy_21 : decode cX1_copy 21 = .ok (.iload 4, 2) := by decide +kernel
theorem dX1_copy_23 : decode cX1_copy 23 = .ok (.sipush 2048, 3) := by decide +kernel
theorem dX1_copy_26 : decode cX1_copy 26 = .ok (.if_icmp .ge 28, 3) := by decide +kernel
theorem dX1_copy_29 : decode cX1_copy 29 = .ok (.iload_n 3, 1) := by decide +kernel
theorem dX1_copy_30 : decode cX1_copy 30 = .ok (.aload_n 0, 1) := by decide +kernel
theorem dX1_copy_31 : decode cX1_copy 31 = .ok (.iload_n 2, 1) := by decide +kernel
theorem dX1_copy_32 : decode cX1_copy 32 = .ok (.iload 4, 2) := by decide +kernel
theorem dX1_copy_34 : decode cX1_copy 34 = .ok (.aload_n 0, 1) := by decide +kernel
theorem dX1_copy_35 : decode cX1_copy 35 = .ok (.getfield 11, 3) := by decide +kernel
theorem dX1_copy_38 : decode cX1_copy 38 = .ok (.iload_n 1, 1) := by decide +kernel
theorem dX1_copy_39 : decode cX1_copy 39 = .ok (.aaload, 1) := by decide +kernel
theorem dX1_copy_40 : decode cX1_copy 40 = .ok (.iload 4, 2) := by decide +kernel
theorem dX1_copy_42 : decode cX1_copy 42 = .ok (.iaload, 1) := by decide +kernel
theorem dX1_copy_43 : decode cX1_copy 43 = .ok (.invokevirtual 54, 3) := by decide +kernel
theorem dX1_copy_46 : decode cX1_copy 46 = .ok (.iadd, 1) := by decide +kernel
theorem dX1_copy_47 : decode cX1_copy 47 = .ok (.istore_n 3, 1) := by decide +kernel
theorem dX1_copy_48 : decode cX1_copy 48 = .ok (.iinc 4 1, 3) := by decide +kernel
theorem dX1_copy_51 : decode cX1_copy 51 = .ok (.goto (-30), 3) := by decide +kernel
theorem dX1_copy_54 : decode cX1_copy 54 = .ok (.iload_n 3, 1) := by decide +kernel
theorem dX1_copy_55 : decode cX1_copy 55 = .ok (.ireturn, 1) := by decide +kernel
set_option maxRecDepth 20000 in
theorem ggX1_good_X1_isCell : GoodIn wsX1_good wsX1_isCell := goodIn_r _ [4] (by decide +kernel) (by decide +kernel)
set_option maxRecDepth 20000 in
theorem gX1_good_X1_isCell : GoodIn wsX1_good (va_wsS RX1 44 yX1_isCell wsX1_isCell) := goodIn_app (goodIn_of _ (by decide +kernel)) ggX1_good_X1_isCell
set_option maxRecDepth 20000 in
theorem ggX1_good_X1_isDigit : GoodIn wsX1_good wsX1_isDigit := goodIn_r _ [7] (by decide +kernel) (by decide +kernel)
set_option maxRecDepth 20000 in
theorem gX1_good_X1_isDigit : GoodIn wsX1_good (va_wsS RX1 51 yX1_isDigit wsX1_isDigit) := goodIn_app (goodIn_of _ (by decide +kernel)) ggX1_good_X1_isDigit
set_option maxRecDepth 20000 in
theorem ggX1_good_X1_cellAt : GoodIn wsX1_good wsX1_cellAt := goodIn_r _ [10] (by decide +kernel) (by decide +kernel)
set_option maxRecDepth 20000 in
theorem gX1_good_X1_cellAt : GoodIn wsX1_good (va_wsS RX1 48 yX1_cellAt wsX1_cellAt) := goodIn_app (goodIn_of _ (by decide +kernel)) ggX1_good_X1_cellAt
set_option maxRecDepth 20000 in
theorem ggX1_good_X1_isGood : GoodIn wsX1_good wsX1_isGood := goodIn_r _ [14, 15, 16, 17, 18, 19, 20] (by decide +kernel) (by decide +kernel)
set_option maxRecDepth 20000 in
theorem gX1_good_X1_isGood : GoodIn wsX1_good (wsV RX1 58 RX1 yX1_isGood wsX1_isGood) := goodIn_app (goodIn_of _ (by decide +kernel)) ggX1_good_X1_isGood
theorem dX1_good_0 : decode cX1_good 0 = .ok (.iload_n 1, 1) := by decide +kernel
theorem dX1_good_1 : decode cX1_good 1 = .ok (.iload_n 2, 1) := by decide +kernel
theorem dX1_good_2 : decode cX1_good 2 = .ok (.invokestatic 44, 3) := by decide +kernel
theorem dX1_good_5 : decode cX1_good 5 = .ok (.ifCond .eq 10, 3) := by decide +kernel
theorem dX1_good_8 : decode cX1_good 8 = .ok (.iload_n 3, 1) := by decide +kernel
theorem dX1_good_9 : decode cX1_good 9 = .ok (.invokestatic 51, 3) := by decide +kernel
theorem dX1_good_12 : decode cX1_good 12 = .ok (.ifCond .ne 5, 3) := by decide +kernel
theorem dX1_good_15 : decode cX1_good 15 = .ok (.iconst (-1), 1) := by decide +kernel
theorem dX1_good_16 : decode cX1_good 16 = .ok (.ireturn, 1) := by decide +kernel
theorem dX1_good_17 : decode cX1_good 17 = .ok (.aload_n 0, 1) := by decide +kernel
theorem dX1_good_18 : decode cX1_good 18 = .ok (.iload_n 1, 1) := by decide +kernel
theorem dX1_good_19 : decode cX1_good 19 = .ok (.iload_n 2, 1) := by decide +kernel
theorem dX1_good_20 : decode cX1_good 20 = .ok (.invokestatic 48, 3) := by decide +kernel
theorem dX1_good_23 : decode cX1_good 23 = .ok (.iload_n 3, 1) := by decide +kernel
theorem dX1_good_24 : decode cX1_good 24 = .ok (.invokevirtual 58, 3) := by decide +kernel
theorem dX1_good_27 : decode cX1_good 27 = .ok (.ifCond .eq 7, 3) := by decide +kernel
theorem dX1_good_30 : decode cX1_good 30 = .ok (.iconst 1, 1) := by decide +kernel
theorem dX1_good_31 : decode cX1_good 31 = .ok (.goto 4, 3) := by decide +kernel
theorem dX1_good_34 : decode cX1_good 34 = .ok (.iconst 0, 1) := by decide +kernel
theorem dX1_good_35 : decode cX1_good 35 = .ok (.ireturn, 1) := by decide +kernel
set_option maxRecDepth 20000 in
theorem ggX1_holds_X1_isCell : GoodIn wsX1_holds wsX1_isCell := goodIn_r _ [4] (by decide +kernel) (by decide +kernel)
set_option maxRecDepth 20000 in
theorem gX1_holds_X1_isCell : GoodIn wsX1_holds (va_wsS RX1 44 yX1_isCell wsX1_isCell) := goodIn_app (goodIn_of _ (by decide +kernel)) ggX1_holds_X1_isCell
set_option maxRecDepth 20000 in
theorem ggX1_holds_X1_holdsAny : GoodIn wsX1_holds wsX1_holdsAny := goodIn_r _ [7, 8, 9, 3, 10, 11, 12, 13, 14, 15, 16, 17] (by decide +kernel) (by decide +kernel)
set_option maxRecDepth 20000 in
theorem gX1_holds_X1_holdsAny : GoodIn wsX1_holds (va_wsS RX1 61 yX1_holdsAny wsX1_holdsAny) := goodIn_app (goodIn_of _ (by decide +kernel)) ggX1_holds_X1_holdsAny
theorem dX1_holds_0 : decode cX1_holds 0 = .ok (.iload_n 1, 1) := by decide +kernel
theorem dX1_holds_1 : decode cX1_holds 1 = .ok (.iload_n 2, 1) := by decide +kernel
theorem dX1_holds_2 : decode cX1_holds 2 = .ok (.invokestatic 44, 3) := by decide +kernel
theorem dX1_holds_5 : decode cX1_holds 5 = .ok (.ifCond .ne 5, 3) := by decide +kernel
theorem dX1_holds_8 : decode cX1_holds 8 = .ok (.iconst (-1), 1) := by decide +kernel
theorem dX1_holds_9 : decode cX1_holds 9 = .ok (.ireturn, 1) := by decide +kernel
theorem dX1_holds_10 : decode cX1_holds 10 = .ok (.iload_n 1, 1) := by decide +kernel
theorem dX1_holds_11 : decode cX1_holds 11 = .ok (.iload_n 2, 1) := by decide +kernel
theorem dX1_holds_12 : decode cX1_holds 12 = .ok (.invokestatic 61, 3) := by decide +kernel
theorem dX1_holds_15 : decode cX1_holds 15 = .ok (.ifCond .eq 7, 3) := by decide +kernel
theorem dX1_holds_18 : decode cX1_holds 18 = .ok (.iconst 1, 1) := by decide +kernel
theorem dX1_holds_19 : decode cX1_holds 19 = .ok (.goto 4, 3) := by decide +kernel
theorem dX1_holds_22 : decode cX1_holds 22 = .ok (.iconst 0, 1) := by decide +kernel
theorem dX1_holds_23 : decode cX1_holds 23 = .ok (.ireturn, 1) := by decide +kernel
set_option maxRecDepth 20000 in
theorem ggX1_check_X1_isTable : GoodIn wsX1_check wsX1_isTable := goodIn_r _ [5] (by decide +kernel) (by decide +kernel)
set_option maxRecDepth 20000 in
theorem gX1_check_X1_isTable : GoodIn wsX1_check (va_wsS RX1 40 yX1_isTable wsX1_isTable) := goodIn_app (goodIn_of _ (by decide +kernel)) ggX1_check_X1_isTable
set_option maxRecDepth 20000 in
theorem ggX1_check_X1_isGood : GoodIn wsX1_check wsX1_isGood := goodIn_r _ [9, 10, 11, 12, 13, 14, 15] (by decide +kernel) (by decide +kernel)
set_option maxRecDepth 20000 in
theorem gX1_check_X1_isGood : GoodIn wsX1_check (wsV RX1 58 RX1 yX1_isGood wsX1_isGood) := goodIn_app (goodIn_of _ (by decide +kernel)) ggX1_check_X1_isGood
theorem dX1_check_0 : decode cX1_check 0 = .ok (.iload_n 1, 1) := by decide +kernel
theorem dX1_check_1 : decode cX1_check 1 = .ok (.invokestatic 40, 3) := by decide +kernel
theorem dX1_check_4 : decode cX1_check 4 = .ok (.ifCond .ne 5, 3) := by decide +kernel
theorem dX1_check_7 : decode cX1_check 7 = .ok (.iconst (-1), 1) := by decide +kernel
theorem dX1_check_8 : decode cX1_check 8 = .ok (.ireturn, 1) := by decide +kernel
theorem dX1_check_9 : decode cX1_check 9 = .ok (.iconst 0, 1) := by decide +kernel
theorem dX1_check_10 : decode cX1_check 10 = .ok (.istore_n 2, 1) := by decide +kernel
theorem dX1_check_11 : decode cX1_check 11 = .ok (.iconst 0, 1) := by decide +kernel
theorem dX1_check_12 : decode cX1_check 12 = .ok (.istore_n 3, 1) := by decide +kernel
theorem dX1_check_13 : decode cX1_check 13 = .ok (.iload_n 3, 1) := by decide +kernel
theorem dX1_check_14 : decode cX1_check 14 = .ok (.sipush 2048, 3) := by decide +kernel
theorem dX1_check_17 : decode cX1_check 17 = .ok (.if_icmp .ge 28, 3) := by decide +kernel
theorem dX1_check_20 : decode cX1_check 20 = .ok (.aload_n 0, 1) := by decide +kernel
theorem dX1_check_21 : decode cX1_check 21 = .ok (.iload_n 3, 1) := by decide +kernel
theorem dX1_check_22 : decode cX1_check 22 = .ok (.aload_n 0, 1) := by decide +kernel
theorem dX1_check_23 : decode cX1_check 23 = .ok (.getfield 11, 3) := by decide +kernel
theorem dX1_check_26 : decode cX1_check 26 = .ok (.iload_n 1, 1) := by decide +kernel
theorem dX1_check_27 : decode cX1_check 27 = .ok (.aaload, 1) := by decide +kernel
theorem dX1_check_28 : decode cX1_check 28 = .ok (.iload_n 3, 1) := by decide +kernel
theorem dX1_check_29 : decode cX1_check 29 = .ok (.iaload, 1) := by decide +kernel
theorem dX1_check_30 : decode cX1_check 30 = .ok (.invokevirtual 58, 3) := by decide +kernel
theorem dX1_check_33 : decode cX1_check 33 = .ok (.ifCond .ne 6, 3) := by decide +kernel
theorem dX1_check_36 : decode cX1_check 36 = .ok (.iinc 2 1, 3) := by decide +kernel
theorem dX1_check_39 : decode cX1_check 39 = .ok (.iinc 3 1, 3) := by decide +kernel
theorem dX1_check_42 : decode cX1_check 42 = .ok (.goto (-29), 3) := by decide +kernel
theorem dX1_check_45 : decode cX1_check 45 = .ok (.iload_n 2, 1) := by decide +kernel
theorem dX1_check_46 : decode cX1_check 46 = .ok (.ireturn, 1) := by decide +kernel
set_option maxRecDepth 20000 in
theorem ggX1_wrong_X1_isTable : GoodIn wsX1_wrong wsX1_isTable := goodIn_r _ [5] (by decide +kernel) (by decide +kernel)
set_option maxRecDepth 20000 in
theorem gX1_wrong_X1_isTable : GoodIn wsX1_wrong (va_wsS RX1 40 yX1_isTable wsX1_isTable) := goodIn_app (goodIn_of _ (by decide +kernel)) ggX1_wrong_X1_isTable
set_option maxRecDepth 20000 in
theorem ggX1_wrong_X1_isGood : GoodIn wsX1_wrong wsX1_isGood := goodIn_r _ [9, 10, 11, 12, 13, 14, 15] (by decide +kernel) (by decide +kernel)
set_option maxRecDepth 20000 in
theorem gX1_wrong_X1_isGood : GoodIn wsX1_wrong (wsV RX1 58 RX1 yX1_isGood wsX1_isGood) := goodIn_app (goodIn_of _ (by decide +kernel)) ggX1_wrong_X1_isGood
theorem dX1_wrong_0 : decode cX1_wrong 0 = .ok (.iload_n 1, 1) := by decide +kernel
theorem dX1_wrong_1 : decode cX1_wrong 1 = .ok (.invokestatic 40, 3) := by decide +kernel
theorem dX1_wrong_4 : decode cX1_wrong 4 = .ok (.ifCond .eq 7, 3) := by decide +kernel
theorem dX1_wrong_7 : decode cX1_wrong 7 = .ok (.iload_n 2, 1) := by decide +kernel
theorem dX1_wrong_8 : decode cX1_wrong 8 = .ok (.ifCond .ge 5, 3) := by decide +kernel
theorem dX1_wrong_11 : decode cX1_wrong 11 = .ok (.iconst (-1), 1) := by decide +kernel
theorem dX1_wrong_12 : decode cX1_wrong 12 = .ok (.ireturn, 1) := by decide +kernel
theorem dX1_wrong_13 : decode cX1_wrong 13 = .ok (.iconst 0, 1) := by decide +kernel
theorem dX1_wrong_14 : decode cX1_wrong 14 = .ok (.istore_n 3, 1) := by decide +kernel
theorem dX1_wrong_15 : decode cX1_wrong 15 = .ok (.iconst 0, 1) := by decide +kernel
theorem dX1_wrong_16 : decode cX1_wrong 16 = .ok (.istore 4, 2) := by decide +kernel
theorem dX1_wrong_18 : decode cX1_wrong 18 = .ok (.iload 4, 2) := by decide +kernel
theorem dX1_wrong_20 : decode cX1_wrong 20 = .ok (.sipush 2048, 3) := by decide +kernel
theorem dX1_wrong_23 : decode cX1_wrong 23 = .ok (.if_icmp .ge 38, 3) := by decide +kernel
theorem dX1_wrong_26 : decode cX1_wrong 26 = .ok (.aload_n 0, 1) := by decide +kernel
theorem dX1_wrong_27 : decode cX1_wrong 27 = .ok (.iload 4, 2) := by decide +kernel
theorem dX1_wrong_29 : decode cX1_wrong 29 = .ok (.aload_n 0, 1) := by decide +kernel
theorem dX1_wrong_30 : decode cX1_wrong 30 = .ok (.getfield 11, 3) := by decide +kernel
theorem dX1_wrong_33 : decode cX1_wrong 33 = .ok (.iload_n 1, 1) := by decide +kernel
theorem dX1_wrong_34 : decode cX1_wrong 34 = .ok (.aaload, 1) := by decide +kernel
theorem dX1_wrong_35 : decode cX1_wrong 35 = .ok (.iload 4, 2) := by decide +kernel
theorem dX1_wrong_37 : decode cX1_wrong 37 = .ok (.iaload, 1) := by decide +kernel
theorem dX1_wrong_38 : decode cX1_wrong 38 = .ok (.invokevirtual 58, 3) := by decide +kernel
theorem dX1_wrong_41 : decode cX1_wrong 41 = .ok (.ifCond .ne 14, 3) := by decide +kernel
theorem dX1_wrong_44 : decode cX1_wrong 44 = .ok (.iload_n 3, 1) := by decide +kernel
theorem dX1_wrong_45 : decode cX1_wrong 45 = .ok (.iload_n 2, 1) := by decide +kernel
theorem dX1_wrong_46 : decode cX1_wrong 46 = .ok (.if_icmp .ne 6, 3) := by decide +kernel
theorem dX1_wrong_49 : decode cX1_wrong 49 = .ok (.iload 4, 2) := by decide +kernel
theorem dX1_wrong_51 : decode cX1_wrong 51 = .ok (.ireturn, 1) := by decide +kernel
theorem dX1_wrong_52 : decode cX1_wrong 52 = .ok (.iinc 3 1, 3) := by decide +kernel
theorem dX1_wrong_55 : decode cX1_wrong 55 = .ok (.iinc 4 1, 3) := by decide +kernel
theorem dX1_wrong_58 : decode cX1_wrong 58 = .ok (.goto (-40), 3) := by decide +kernel
theorem dX1_wrong_61 : decode cX1_wrong 61 = .ok (.bipush (-2), 2) := by decide +kernel
theorem dX1_wrong_63 : decode cX1_wrong 63 = .ok (.ireturn, 1) := by decide +kernel
set_option maxRecDepth 20000 in
theorem ggX1_use_X1_isTable : GoodIn wsX1_use wsX1_isTable := goodIn_r _ [5] (by decide +kernel) (by decide +kernel)
set_option maxRecDepth 20000 in
theorem gX1_use_X1_isTable : GoodIn wsX1_use (va_wsS RX1 40 yX1_isTable wsX1_isTable) := goodIn_app (goodIn_of _ (by decide +kernel)) ggX1_use_X1_isTable
theorem dX1_use_0 : decode cX1_use 0 = .ok (.iload_n 1, 1) := by decide +kernel
theorem dX1_use_1 : decode cX1_use 1 = .ok (.invokestatic 40, 3) := by decide +kernel
theorem dX1_use_4 : decode cX1_use 4 = .ok (.ifCond .ne 5, 3) := by decide +kernel
theorem dX1_use_7 : decode cX1_use 7 = .ok (.iconst (-1), 1) := by decide +kernel
theorem dX1_use_8 : decode cX1_use 8 = .ok (.ireturn, 1) := by decide +kernel
theorem dX1_use_9 : decode cX1_use 9 = .ok (.aload_n 0, 1) := by decide +kernel
theorem dX1_use_10 : decode cX1_use 10 = .ok (.getfield 28, 3) := by decide +kernel
theorem dX1_use_13 : decode cX1_use 13 = .ok (.istore_n 2, 1) := by decide +kernel
theorem dX1_use_14 : decode cX1_use 14 = .ok (.aload_n 0, 1) := by decide +kernel
theorem dX1_use_15 : decode cX1_use 15 = .ok (.iload_n 1, 1) := by decide +kernel
theorem dX1_use_16 : decode cX1_use 16 = .ok (.putfield 28, 3) := by decide +kernel
theorem dX1_use_19 : decode cX1_use 19 = .ok (.iload_n 2, 1) := by decide +kernel
theorem dX1_use_20 : decode cX1_use 20 = .ok (.ireturn, 1) := by decide +kernel
set_option maxRecDepth 20000 in
theorem ggX1_divide_X0_run : GoodIn wsX1_divide wsX0_run := goodIn_r _ [7, 8, 9, 10, 11, 12, 13, 14, 15, 16, 17, 5, 18, 19, 20, 21, 22, 23, 24, 25, 26, 27, 28, 29, 30, 31, 32, 33, 34, 35, 36, 37, 38, 39, 40, 41, 42, 43, 44, 45, 46, 47, 48, 49, 50, 51, 52, 53, 54, 55, 56, 57, 58, 59, 60, 61, 62, 63, 69, 70, 71, 72, 73, 74, 75, 76, 77, 78, 79, 80, 81, 82] (by decide +kernel) (by decide +kernel)
set_option maxRecDepth 20000 in
theorem gX1_divide_X0_run_n64 : GoodIn wsX1_divide (wsX0_run) := ggX1_divide_X0_run
theorem dX1_divide_0 : decode cX1_divide 0 = .ok (.iload_n 2, 1) := by decide +kernel
theorem dX1_divide_1 : decode cX1_divide 1 = .ok (.ifCond .ne 5, 3) := by decide +kernel
theorem dX1_divide_4 : decode cX1_divide 4 = .ok (.iconst (-1), 1) := by decide +kernel
theorem dX1_divide_5 : decode cX1_divide 5 = .ok (.ireturn, 1) := by decide +kernel
theorem dX1_divide_6 : decode cX1_divide 6 = .ok (.aload_n 0, 1) := by decide +kernel
theorem dX1_divide_7 : decode cX1_divide 7 = .ok (.getfield 21, 3) := by decide +kernel
theorem dX1_divide_10 : decode cX1_divide 10 = .ok (.iload_n 1, 1) := by decide +kernel
theorem dX1_divide_11 : decode cX1_divide 11 = .ok (.iload_n 2, 1) := by decide +kernel
theorem dX1_divide_12 : decode cX1_divide 12 = .ok (.aload_n 0, 1) := by decide +kernel
theorem dX1_divide_13 : decode cX1_divide 13 = .ok (.getfield 11, 3) := by decide +kernel
theorem dX1_divide_16 : decode cX1_divide 16 = .ok (.aload_n 0, 1) := by decide +kernel
theorem dX1_divide_17 : decode cX1_divide 17 = .ok (.getfield 28, 3) := by decide +kernel
theorem dX1_divide_20 : decode cX1_divide 20 = .ok (.aaload, 1) := by decide +kernel
theorem dX1_divide_21 : decode cX1_divide 21 = .ok (.invokevirtual 64, 3) := by decide +kernel
theorem dX1_divide_24 : decode cX1_divide 24 = .ok (.aload_n 0, 1) := by decide +kernel
theorem dX1_divide_25 : decode cX1_divide 25 = .ok (.getfield 21, 3) := by decide +kernel
theorem dX1_divide_28 : decode cX1_divide 28 = .ok (.getfield 68, 3) := by decide +kernel
theorem dX1_divide_31 : decode cX1_divide 31 = .ok (.ireturn, 1) := by decide +kernel
theorem dX1_quotient_0 : decode cX1_quotient 0 = .ok (.aload_n 0, 1) := by decide +kernel
theorem dX1_quotient_1 : decode cX1_quotient 1 = .ok (.getfield 21, 3) := by decide +kernel
theorem dX1_quotient_4 : decode cX1_quotient 4 = .ok (.getfield 71, 3) := by decide +kernel
theorem dX1_quotient_7 : decode cX1_quotient 7 = .ok (.ireturn, 1) := by decide +kernel
theorem dX1_rest_0 : decode cX1_rest 0 = .ok (.aload_n 0, 1) := by decide +kernel
theorem dX1_rest_1 : decode cX1_rest 1 = .ok (.getfield 21, 3) := by decide +kernel
theorem dX1_rest_4 : decode cX1_rest 4 = .ok (.getfield 74, 3) := by decide +kernel
theorem dX1_rest_7 : decode cX1_rest 7 = .ok (.ireturn, 1) := by decide +kernel
theorem dX1_left_0 : decode cX1_left 0 = .ok (.aload_n 0, 1) := by decide +kernel
theorem dX1_left_1 : decode cX1_left 1 = .ok (.getfield 21, 3) := by decide +kernel
theorem dX1_left_4 : decode cX1_left 4 = .ok (.getfield 77, 3) := by decide +kernel
theorem dX1_left_7 : decode cX1_left 7 = .ok (.ireturn, 1) := by decide +kernel
theorem dX1_step_0 : decode cX1_step 0 = .ok (.iload_n 1, 1) := by decide +kernel
theorem dX1_step_1 : decode cX1_step 1 = .ok (.iconst 1, 1) := by decide +kernel
theorem dX1_step_2 : decode cX1_step 2 = .ok (.if_icmp .lt 14, 3) := by decide +kernel
theorem dX1_step_5 : decode cX1_step 5 = .ok (.iload_n 1, 1) := by decide +kernel
theorem dX1_step_6 : decode cX1_step 6 = .ok (.aload_n 0, 1) := by decide +kernel
theorem dX1_step_7 : decode cX1_step 7 = .ok (.getfield 21, 3) := by decide +kernel
theorem dX1_step_10 : decode cX1_step 10 = .ok (.getfield 68, 3) := by decide +kernel
theorem dX1_step_13 : decode cX1_step 13 = .ok (.if_icmp .le 6, 3) := by decide +kernel
theorem dX1_step_16 : decode cX1_step 16 = .ok (.bipush (-101), 2) := by decide +kernel
theorem dX1_step_18 : decode cX1_step 18 = .ok (.ireturn, 1) := by decide +kernel
theorem dX1_step_19 : decode cX1_step 19 = .ok (.iload_n 2, 1) := by decide +kernel
theorem dX1_step_20 : decode cX1_step 20 = .ok (.lookupswitch 48 #[(0, 28), (1, 38)], 28) := by decide +kernel
theorem dX1_step_48 : decode cX1_step 48 = .ok (.aload_n 0, 1) := by decide +kernel
theorem dX1_step_49 : decode cX1_step 49 = .ok (.getfield 21, 3) := by decide +kernel
theorem dX1_step_52 : decode cX1_step 52 = .ok (.getfield 80, 3) := by decide +kernel
theorem dX1_step_55 : decode cX1_step 55 = .ok (.iload_n 1, 1) := by decide +kernel
theorem dX1_step_56 : decode cX1_step 56 = .ok (.iaload, 1) := by decide +kernel
theorem dX1_step_57 : decode cX1_step 57 = .ok (.ireturn, 1) := by decide +kernel
theorem dX1_step_58 : decode cX1_step 58 = .ok (.aload_n 0, 1) := by decide +kernel
theorem dX1_step_59 : decode cX1_step 59 = .ok (.getfield 21, 3) := by decide +kernel
theorem dX1_step_62 : decode cX1_step 62 = .ok (.getfield 83, 3) := by decide +kernel
theorem dX1_step_65 : decode cX1_step 65 = .ok (.iload_n 1, 1) := by decide +kernel
theorem dX1_step_66 : decode cX1_step 66 = .ok (.iaload, 1) := by decide +kernel
theorem dX1_step_67 : decode cX1_step 67 = .ok (.ireturn, 1) := by decide +kernel
theorem dX1_step_68 : decode cX1_step 68 = .ok (.bipush (-101), 2) := by decide +kernel
theorem dX1_step_70 : decode cX1_step 70 = .ok (.ireturn, 1) := by decide +kernel
theorem dX1_state_0 : decode cX1_state 0 = .ok (.iload_n 1, 1) := by decide +kernel
theorem dX1_state_1 : decode cX1_state 1 = .ok (.ifCond .lt 14, 3) := by decide +kernel
theorem dX1_state_4 : decode cX1_state 4 = .ok (.iload_n 1, 1) := by decide +kernel
theorem dX1_state_5 : decode cX1_state 5 = .ok (.aload_n 0, 1) := by decide +kernel
theorem dX1_state_6 : decode cX1_state 6 = .ok (.getfield 21, 3) := by decide +kernel
theorem dX1_state_9 : decode cX1_state 9 = .ok (.getfield 68, 3) := by decide +kernel
theorem dX1_state_12 : decode cX1_state 12 = .ok (.if_icmp .le 5, 3) := by decide +kernel
theorem dX1_state_15 : decode cX1_state 15 = .ok (.lconst 0, 1) := by decide +kernel
theorem dX1_state_16 : decode cX1_state 16 = .ok (.lreturn, 1) := by decide +kernel
theorem dX1_state_17 : decode cX1_state 17 = .ok (.iload_n 2, 1) := by decide +kernel
theorem dX1_state_18 : decode cX1_state 18 = .ok (.tableswitch 70 0 3 #[30, 40, 50, 60], 30) := by decide +kernel
theorem dX1_state_48 : decode cX1_state 48 = .ok (.aload_n 0, 1) := by decide +kernel
theorem dX1_state_49 : decode cX1_state 49 = .ok (.getfield 21, 3) := by decide +kernel
theorem dX1_state_52 : decode cX1_state 52 = .ok (.getfield 86, 3) := by decide +kernel
theorem dX1_state_55 : decode cX1_state 55 = .ok (.iload_n 1, 1) := by decide +kernel
theorem dX1_state_56 : decode cX1_state 56 = .ok (.laload, 1) := by decide +kernel
theorem dX1_state_57 : decode cX1_state 57 = .ok (.lreturn, 1) := by decide +kernel
theorem dX1_state_58 : decode cX1_state 58 = .ok (.aload_n 0, 1) := by decide +kernel
theorem dX1_state_59 : decode cX1_state 59 = .ok (.getfield 21, 3) := by decide +kernel
theorem dX1_state_62 : decode cX1_state 62 = .ok (.getfield 90, 3) := by decide +kernel
theorem dX1_state_65 : decode cX1_state 65 = .ok (.iload_n 1, 1) := by decide +kernel
theorem dX1_state_66 : decode cX1_state 66 = .ok (.laload, 1) := by decide +kernel
theorem dX1_state_67 : decode cX1_state 67 = .ok (.lreturn, 1) := by decide +kernel
theorem dX1_state_68 : decode cX1_state 68 = .ok (.aload_n 0, 1) := by decide +kernel
theorem dX1_state_69 : decode cX1_state 69 = .ok (.getfield 21, 3) := by decide +kernel
theorem dX1_state_72 : decode cX1_state 72 = .ok (.getfield 93, 3) := by decide +kernel
theorem dX1_state_75 : decode cX1_state 75 = .ok (.iload_n 1, 1) := by decide +kernel
theorem dX1_state_76 : decode cX1_state 76 = .ok (.laload, 1) := by decide +kernel
theorem dX1_state_77 : decode cX1_state 77 = .ok (.lreturn, 1) := by decide +kernel
theorem dX1_state_78 : decode cX1_state 78 = .ok (.aload_n 0, 1) := by decide +kernel
theorem dX1_state_79 : decode cX1_state 79 = .ok (.getfield 21, 3) := by decide +kernel
theorem dX1_state_82 : decode cX1_state 82 = .ok (.getfield 96, 3) := by decide +kernel
theorem dX1_state_85 : decode cX1_state 85 = .ok (.iload_n 1, 1) := by decide +kernel
theorem dX1_state_86 : decode cX1_state 86 = .ok (.laload, 1) := by decide +kernel
theorem dX1_state_87 : decode cX1_state 87 = .ok (.lreturn, 1) := by decide +kernel
theorem dX1_state_88 : decode cX1_state 88 = .ok (.lconst 0, 1) := by decide +kernel
theorem dX1_state_89 : decode cX1_state 89 = .ok (.lreturn, 1) := by decide +kernel
theorem dX1_told_0 : decode cX1_told 0 = .ok (.iload_n 1, 1) := by decide +kernel
theorem dX1_told_1 : decode cX1_told 1 = .ok (.tableswitch 75 0 4 #[35, 43, 51, 59, 67], 35) := by decide +kernel
theorem dX1_told_36 : decode cX1_told 36 = .ok (.aload_n 0, 1) := by decide +kernel
theorem dX1_told_37 : decode cX1_told 37 = .ok (.getfield 21, 3) := by decide +kernel
theorem dX1_told_40 : decode cX1_told 40 = .ok (.getfield 99, 3) := by decide +kernel
theorem dX1_told_43 : decode cX1_told 43 = .ok (.ireturn, 1) := by decide +kernel
theorem dX1_told_44 : decode cX1_told 44 = .ok (.aload_n 0, 1) := by decide +kernel
theorem dX1_told_45 : decode cX1_told 45 = .ok (.getfield 21, 3) := by decide +kernel
theorem dX1_told_48 : decode cX1_told 48 = .ok (.getfield 102, 3) := by decide +kernel
theorem dX1_told_51 : decode cX1_told 51 = .ok (.ireturn, 1) := by decide +kernel
theorem dX1_told_52 : decode cX1_told 52 = .ok (.aload_n 0, 1) := by decide +kernel
theorem dX1_told_53 : decode cX1_told 53 = .ok (.getfield 21, 3) := by decide +kernel
theorem dX1_told_56 : decode cX1_told 56 = .ok (.getfield 105, 3) := by decide +kernel
theorem dX1_told_59 : decode cX1_told 59 = .ok (.ireturn, 1) := by decide +kernel
theorem dX1_told_60 : decode cX1_told 60 = .ok (.aload_n 0, 1) := by decide +kernel
theorem dX1_told_61 : decode cX1_told 61 = .ok (.getfield 21, 3) := by decide +kernel
theorem dX1_told_64 : decode cX1_told 64 = .ok (.getfield 68, 3) := by decide +kernel
theorem dX1_told_67 : decode cX1_told 67 = .ok (.ireturn, 1) := by decide +kernel
theorem dX1_told_68 : decode cX1_told 68 = .ok (.aload_n 0, 1) := by decide +kernel
theorem dX1_told_69 : decode cX1_told 69 = .ok (.getfield 21, 3) := by decide +kernel
theorem dX1_told_72 : decode cX1_told 72 = .ok (.getfield 108, 3) := by decide +kernel
theorem dX1_told_75 : decode cX1_told 75 = .ok (.ireturn, 1) := by decide +kernel
theorem dX1_told_76 : decode cX1_told 76 = .ok (.iconst (-1), 1) := by decide +kernel
theorem dX1_told_77 : decode cX1_told 77 = .ok (.ireturn, 1) := by decide +kernel
set_option maxRecDepth 20000 in
theorem ggX1_sweep_X0_run : GoodIn wsX1_sweep wsX0_run := goodIn_r _ [7, 8, 9, 10, 11, 12, 13, 14, 15, 16, 17, 5, 18, 19, 20, 21, 22, 23, 24, 25, 26, 27, 28, 29, 30, 31, 32, 33, 34, 35, 36, 37, 38, 39, 40, 41, 42, 43, 44, 45, 46, 47, 48, 49, 50, 51, 52, 53, 54, 55, 56, 57, 58, 59, 60, 61, 62, 63, 69, 70, 71, 72, 73, 74, 75, 76, 77, 78, 79, 80, 81, 82] (by decide +kernel) (by decide +kernel)
set_option maxRecDepth 20000 in
theorem gX1_sweep_X0_run_n64 : GoodIn wsX1_sweep (wsX0_run) := ggX1_sweep_X0_run
theorem dX1_sweep_0 : decode cX1_sweep 0 = .ok (.iload_n 2, 1) := by decide +kernel
theorem dX1_sweep_1 : decode cX1_sweep 1 = .ok (.iconst 1, 1) := by decide +kernel
theorem dX1_sweep_2 : decode cX1_sweep 2 = .ok (.if_icmp .lt 14, 3) := by decide +kernel
theorem dX1_sweep_5 : decode cX1_sweep 5 = .ok (.iload_n 2, 1) := by decide +kernel
theorem dX1_sweep_6 : decode cX1_sweep 6 = .ok (.sipush 300, 3) := by decide +kernel
theorem dX1_sweep_9 : decode cX1_sweep 9 = .ok (.if_icmp .gt 7, 3) := by decide +kernel
theorem dX1_sweep_12 : decode cX1_sweep 12 = .ok (.iload_n 3, 1) := by decide +kernel
theorem dX1_sweep_13 : decode cX1_sweep 13 = .ok (.ifCond .ne 5, 3) := by decide +kernel
theorem dX1_sweep_16 : decode cX1_sweep 16 = .ok (.iconst (-1), 1) := by decide +kernel
theorem dX1_sweep_17 : decode cX1_sweep 17 = .ok (.ireturn, 1) := by decide +kernel
theorem dX1_sweep_18 : decode cX1_sweep 18 = .ok (.iconst 0, 1) := by decide +kernel
theorem dX1_sweep_19 : decode cX1_sweep 19 = .ok (.istore 4, 2) := by decide +kernel
theorem dX1_sweep_21 : decode cX1_sweep 21 = .ok (.iconst 0, 1) := by decide +kernel
theorem dX1_sweep_22 : decode cX1_sweep 22 = .ok (.istore 5, 2) := by decide +kernel
theorem dX1_sweep_24 : decode cX1_sweep 24 = .ok (.iload 5, 2) := by decide +kernel
theorem dX1_sweep_26 : decode cX1_sweep 26 = .ok (.iload_n 2, 1) := by decide +kernel
theorem dX1_sweep_27 : decode cX1_sweep 27 = .ok (.if_icmp .ge 65, 3) := by decide +kernel
theorem dX1_sweep_30 : decode cX1_sweep 30 = .ok (.iload_n 1, 1) := by decide +kernel
theorem dX1_sweep_31 : decode cX1_sweep 31 = .ok (.iload 5, 2) := by decide +kernel
theorem dX1_sweep_33 : decode cX1_sweep 33 = .ok (.iadd, 1) := by decide +kernel
theorem dX1_sweep_34 : decode cX1_sweep 34 = .ok (.istore 6, 2) := by decide +kernel
theorem dX1_sweep_36 : decode cX1_sweep 36 = .ok (.aload_n 0, 1) := by decide +kernel
theorem dX1_sweep_37 : decode cX1_sweep 37 = .ok (.getfield 25, 3) := by decide +kernel
theorem dX1_sweep_40 : decode cX1_sweep 40 = .ok (.iload 6, 2) := by decide +kernel
theorem dX1_sweep_42 : decode cX1_sweep 42 = .ok (.iload_n 3, 1) := by decide +kernel
theorem dX1_sweep_43 : decode cX1_sweep 43 = .ok (.aload_n 0, 1) := by decide +kernel
theorem dX1_sweep_44 : decode cX1_sweep 44 = .ok (.getfield 11, 3) := by decide +kernel
theorem dX1_sweep_47 : decode cX1_sweep 47 = .ok (.aload_n 0, 1) := by decide +kernel
theorem dX1_sweep_48 : decode cX1_sweep 48 = .ok (.getfield 28, 3) := by decide +kernel
theorem dX1_sweep_51 : decode cX1_sweep 51 = .ok (.aaload, 1) := by decide +kernel
theorem dX1_sweep_52 : decode cX1_sweep 52 = .ok (.invokevirtual 64, 3) := by decide +kernel
theorem dX1_sweep_55 : decode cX1_sweep 55 = .ok (.aload_n 0, 1) := by decide +kernel
theorem dX1_sweep_56 : decode cX1_sweep 56 = .ok (.getfield 25, 3) := by decide +kernel
theorem dX1_sweep_59 : decode cX1_sweep 59 = .ok (.getfield 71, 3) := by decide +kernel
theorem dX1_sweep_62 : decode cX1_sweep 62 = .ok (.iload 6, 2) := by decide +kernel
theorem dX1_sweep_64 : decode cX1_sweep 64 = .ok (.iload_n 3, 1) := by decide +kernel
theorem dX1_sweep_65 : decode cX1_sweep 65 = .ok (.idiv, 1) := by decide +kernel
theorem dX1_sweep_66 : decode cX1_sweep 66 = .ok (.if_icmp .ne 17, 3) := by decide +kernel
theorem dX1_sweep_69 : decode cX1_sweep 69 = .ok (.aload_n 0, 1) := by decide +kernel
theorem dX1_sweep_70 : decode cX1_sweep 70 = .ok (.getfield 25, 3) := by decide +kernel
theorem dX1_sweep_73 : decode cX1_sweep 73 = .ok (.getfield 74, 3) := by decide +kernel
theorem dX1_sweep_76 : decode cX1_sweep 76 = .ok (.iload 6, 2) := by decide +kernel
theorem dX1_sweep_78 : decode cX1_sweep 78 = .ok (.iload_n 3, 1) := by decide +kernel
theorem dX1_sweep_79 : decode cX1_sweep 79 = .ok (.irem, 1) := by decide +kernel
theorem dX1_sweep_80 : decode cX1_sweep 80 = .ok (.if_icmp .eq 6, 3) := by decide +kernel
theorem dX1_sweep_83 : decode cX1_sweep 83 = .ok (.iinc 4 1, 3) := by decide +kernel
theorem dX1_sweep_86 : decode cX1_sweep 86 = .ok (.iinc 5 1, 3) := by decide +kernel
theorem dX1_sweep_89 : decode cX1_sweep 89 = .ok (.goto (-65), 3) := by decide +kernel
theorem dX1_sweep_92 : decode cX1_sweep 92 = .ok (.iload 4, 2) := by decide +kernel
theorem dX1_sweep_94 : decode cX1_sweep 94 = .ok (.ireturn, 1) := by decide +kernel
theorem dX1_isTable_0 : decode cX1_isTable 0 = .ok (.iload_n 0, 1) := by decide +kernel
theorem dX1_isTable_1 : decode cX1_isTable 1 = .ok (.ifCond .lt 12, 3) := by decide +kernel
theorem dX1_isTable_4 : decode cX1_isTable 4 = .ok (.iload_n 0, 1) := by decide +kernel
theorem dX1_isTable_5 : decode cX1_isTable 5 = .ok (.iconst 4, 1) := by decide +kernel
theorem dX1_isTable_6 : decode cX1_isTable 6 = .ok (.if_icmp .ge 7, 3) := by decide +kernel
theorem dX1_isTable_9 : decode cX1_isTable 9 = .ok (.iconst 1, 1) := by decide +kernel
theorem dX1_isTable_10 : decode cX1_isTable 10 = .ok (.goto 4, 3) := by decide +kernel
theorem dX1_isTable_13 : decode cX1_isTable 13 = .ok (.iconst 0, 1) := by decide +kernel
theorem dX1_isTable_14 : decode cX1_isTable 14 = .ok (.ireturn, 1) := by decide +kernel
theorem dX1_isCell_0 : decode cX1_isCell 0 = .ok (.iload_n 0, 1) := by decide +kernel
theorem dX1_isCell_1 : decode cX1_isCell 1 = .ok (.ifCond .lt 25, 3) := by decide +kernel
theorem dX1_isCell_4 : decode cX1_isCell 4 = .ok (.iload_n 0, 1) := by decide +kernel
theorem dX1_isCell_5 : decode cX1_isCell 5 = .ok (.bipush 16, 2) := by decide +kernel
theorem dX1_isCell_7 : decode cX1_isCell 7 = .ok (.if_icmp .ge 19, 3) := by decide +kernel
theorem dX1_isCell_10 : decode cX1_isCell 10 = .ok (.iload_n 1, 1) := by decide +kernel
theorem dX1_isCell_11 : decode cX1_isCell 11 = .ok (.bipush (-64), 2) := by decide +kernel
theorem dX1_isCell_13 : decode cX1_isCell 13 = .ok (.if_icmp .lt 13, 3) := by decide +kernel
theorem dX1_isCell_16 : decode cX1_isCell 16 = .ok (.iload_n 1, 1) := by decide +kernel
theorem dX1_isCell_17 : decode cX1_isCell 17 = .ok (.bipush 63, 2) := by decide +kernel
theorem dX1_isCell_19 : decode cX1_isCell 19 = .ok (.if_icmp .gt 7, 3) := by decide +kernel
theorem dX1_isCell_22 : decode cX1_isCell 22 = .ok (.iconst 1, 1) := by decide +kernel
theorem dX1_isCell_23 : decode cX1_isCell 23 = .ok (.goto 4, 3) := by decide +kernel
theorem dX1_isCell_26 : decode cX1_isCell 26 = .ok (.iconst 0, 1) := by decide +kernel
theorem dX1_isCell_27 : decode cX1_isCell 27 = .ok (.ireturn, 1) := by decide +kernel
theorem dX1_isDigit_0 : decode cX1_isDigit 0 = .ok (.iload_n 0, 1) := by decide +kernel
theorem dX1_isDigit_1 : decode cX1_isDigit 1 = .ok (.bipush (-2), 2) := by decide +kernel
theorem dX1_isDigit_3 : decode cX1_isDigit 3 = .ok (.if_icmp .lt 12, 3) := by decide +kernel
theorem dX1_isDigit_6 : decode cX1_isDigit 6 = .ok (.iload_n 0, 1) := by decide +kernel
theorem dX1_isDigit_7 : decode cX1_isDigit 7 = .ok (.iconst 2, 1) := by decide +kernel
theorem dX1_isDigit_8 : decode cX1_isDigit 8 = .ok (.if_icmp .gt 7, 3) := by decide +kernel
theorem dX1_isDigit_11 : decode cX1_isDigit 11 = .ok (.iconst 1, 1) := by decide +kernel
theorem dX1_isDigit_12 : decode cX1_isDigit 12 = .ok (.goto 4, 3) := by decide +kernel
theorem dX1_isDigit_15 : decode cX1_isDigit 15 = .ok (.iconst 0, 1) := by decide +kernel
theorem dX1_isDigit_16 : decode cX1_isDigit 16 = .ok (.ireturn, 1) := by decide +kernel
theorem dX1_cellAt_0 : decode cX1_cellAt 0 = .ok (.iload_n 0, 1) := by decide +kernel
theorem dX1_cellAt_1 : decode cX1_cellAt 1 = .ok (.sipush 128, 3) := by decide +kernel
theorem dX1_cellAt_4 : decode cX1_cellAt 4 = .ok (.imul, 1) := by decide +kernel
theorem dX1_cellAt_5 : decode cX1_cellAt 5 = .ok (.iload_n 1, 1) := by decide +kernel
theorem dX1_cellAt_6 : decode cX1_cellAt 6 = .ok (.iadd, 1) := by decide +kernel
theorem dX1_cellAt_7 : decode cX1_cellAt 7 = .ok (.bipush (-64), 2) := by decide +kernel
theorem dX1_cellAt_9 : decode cX1_cellAt 9 = .ok (.isub, 1) := by decide +kernel
theorem dX1_cellAt_10 : decode cX1_cellAt 10 = .ok (.ireturn, 1) := by decide +kernel
theorem dX1_replace_0 : decode cX1_replace 0 = .ok (.aload_n 0, 1) := by decide +kernel
theorem dX1_replace_1 : decode cX1_replace 1 = .ok (.getfield 11, 3) := by decide +kernel
theorem dX1_replace_4 : decode cX1_replace 4 = .ok (.iload_n 1, 1) := by decide +kernel
theorem dX1_replace_5 : decode cX1_replace 5 = .ok (.aaload, 1) := by decide +kernel
theorem dX1_replace_6 : decode cX1_replace 6 = .ok (.iload_n 2, 1) := by decide +kernel
theorem dX1_replace_7 : decode cX1_replace 7 = .ok (.iaload, 1) := by decide +kernel
theorem dX1_replace_8 : decode cX1_replace 8 = .ok (.iload_n 3, 1) := by decide +kernel
theorem dX1_replace_9 : decode cX1_replace 9 = .ok (.if_icmp .ne 5, 3) := by decide +kernel
theorem dX1_replace_12 : decode cX1_replace 12 = .ok (.iconst 0, 1) := by decide +kernel
theorem dX1_replace_13 : decode cX1_replace 13 = .ok (.ireturn, 1) := by decide +kernel
theorem dX1_replace_14 : decode cX1_replace 14 = .ok (.aload_n 0, 1) := by decide +kernel
theorem dX1_replace_15 : decode cX1_replace 15 = .ok (.getfield 11, 3) := by decide +kernel
theorem dX1_replace_18 : decode cX1_replace 18 = .ok (.iload_n 1, 1) := by decide +kernel
theorem dX1_replace_19 : decode cX1_replace 19 = .ok (.aaload, 1) := by decide +kernel
theorem dX1_replace_20 : decode cX1_replace 20 = .ok (.iload_n 2, 1) := by decide +kernel
theorem dX1_replace_21 : decode cX1_replace 21 = .ok (.iload_n 3, 1) := by decide +kernel
theorem dX1_replace_22 : decode cX1_replace 22 = .ok (.iastore, 1) := by decide +kernel
theorem dX1_replace_23 : decode cX1_replace 23 = .ok (.iconst 1, 1) := by decide +kernel
theorem dX1_replace_24 : decode cX1_replace 24 = .ok (.ireturn, 1) := by decide +kernel
theorem dX1_isGood_0 : decode cX1_isGood 0 = .ok (.aload_n 0, 1) := by decide +kernel
theorem dX1_isGood_1 : decode cX1_isGood 1 = .ok (.getfield 14, 3) := by decide +kernel
theorem dX1_isGood_4 : decode cX1_isGood 4 = .ok (.iload_n 1, 1) := by decide +kernel
theorem dX1_isGood_5 : decode cX1_isGood 5 = .ok (.iaload, 1) := by decide +kernel
theorem dX1_isGood_6 : decode cX1_isGood 6 = .ok (.iload_n 2, 1) := by decide +kernel
theorem dX1_isGood_7 : decode cX1_isGood 7 = .ok (.iconst 2, 1) := by decide +kernel
theorem dX1_isGood_8 : decode cX1_isGood 8 = .ok (.iadd, 1) := by decide +kernel
theorem dX1_isGood_9 : decode cX1_isGood 9 = .ok (.ishr, 1) := by decide +kernel
theorem dX1_isGood_10 : decode cX1_isGood 10 = .ok (.iconst 1, 1) := by decide +kernel
theorem dX1_isGood_11 : decode cX1_isGood 11 = .ok (.iand, 1) := by decide +kernel
theorem dX1_isGood_12 : decode cX1_isGood 12 = .ok (.iconst 1, 1) := by decide +kernel
theorem dX1_isGood_13 : decode cX1_isGood 13 = .ok (.if_icmp .ne 7, 3) := by decide +kernel
theorem dX1_isGood_16 : decode cX1_isGood 16 = .ok (.iconst 1, 1) := by decide +kernel
theorem dX1_isGood_17 : decode cX1_isGood 17 = .ok (.goto 4, 3) := by decide +kernel
theorem dX1_isGood_20 : decode cX1_isGood 20 = .ok (.iconst 0, 1) := by decide +kernel
theorem dX1_isGood_21 : decode cX1_isGood 21 = .ok (.ireturn, 1) := by decide +kernel
set_option maxRecDepth 20000 in
theorem ggX1_madeDigit_X1_isGood : GoodIn wsX1_madeDigit wsX1_isGood := goodIn_r _ [6, 7, 8, 9, 10, 11, 12] (by decide +kernel) (by decide +kernel)
set_option maxRecDepth 20000 in
theorem gX1_madeDigit_X1_isGood : GoodIn wsX1_madeDigit (wsV RX1 58 RX1 yX1_isGood wsX1_isGood) := goodIn_app (goodIn_of _ (by decide +kernel)) ggX1_madeDigit_X1_isGood
theorem dX1_madeDigit_0 : decode cX1_madeDigit 0 = .ok (.getstatic 111, 3) := by decide +kernel
theorem dX1_madeDigit_3 : decode cX1_madeDigit 3 = .ok (.astore_n 2, 1) := by decide +kernel
theorem dX1_madeDigit_4 : decode cX1_madeDigit 4 = .ok (.aload_n 2, 1) := by decide +kernel
theorem dX1_madeDigit_5 : decode cX1_madeDigit 5 = .ok (.arraylength, 1) := by decide +kernel
theorem dX1_madeDigit_6 : decode cX1_madeDigit 6 = .ok (.istore_n 3, 1) := by decide +kernel
theorem dX1_madeDigit_7 : decode cX1_madeDigit 7 = .ok (.iconst 0, 1) := by decide +kernel
theorem dX1_madeDigit_8 : decode cX1_madeDigit 8 = .ok (.istore 4, 2) := by decide +kernel
theorem dX1_madeDigit_10 : decode cX1_madeDigit 10 = .ok (.iload 4, 2) := by decide +kernel
theorem dX1_madeDigit_12 : decode cX1_madeDigit 12 = .ok (.iload_n 3, 1) := by decide +kernel
theorem dX1_madeDigit_13 : decode cX1_madeDigit 13 = .ok (.if_icmp .ge 28, 3) := by decide +kernel
theorem dX1_madeDigit_16 : decode cX1_madeDigit 16 = .ok (.aload_n 2, 1) := by decide +kernel
theorem dX1_madeDigit_17 : decode cX1_madeDigit 17 = .ok (.iload 4, 2) := by decide +kernel
theorem dX1_madeDigit_19 : decode cX1_madeDigit 19 = .ok (.iaload, 1) := by decide +kernel
theorem dX1_madeDigit_20 : decode cX1_madeDigit 20 = .ok (.istore 5, 2) := by decide +kernel
theorem dX1_madeDigit_22 : decode cX1_madeDigit 22 = .ok (.aload_n 0, 1) := by decide +kernel
theorem dX1_madeDigit_23 : decode cX1_madeDigit 23 = .ok (.iload_n 1, 1) := by decide +kernel
theorem dX1_madeDigit_24 : decode cX1_madeDigit 24 = .ok (.iload 5, 2) := by decide +kernel
theorem dX1_madeDigit_26 : decode cX1_madeDigit 26 = .ok (.invokevirtual 58, 3) := by decide +kernel
theorem dX1_madeDigit_29 : decode cX1_madeDigit 29 = .ok (.ifCond .eq 6, 3) := by decide +kernel
theorem dX1_madeDigit_32 : decode cX1_madeDigit 32 = .ok (.iload 5, 2) := by decide +kernel
theorem dX1_madeDigit_34 : decode cX1_madeDigit 34 = .ok (.ireturn, 1) := by decide +kernel
theorem dX1_madeDigit_35 : decode cX1_madeDigit 35 = .ok (.iinc 4 1, 3) := by decide +kernel
theorem dX1_madeDigit_38 : decode cX1_madeDigit 38 = .ok (.goto (-28), 3) := by decide +kernel
theorem dX1_madeDigit_41 : decode cX1_madeDigit 41 = .ok (.iconst 0, 1) := by decide +kernel
theorem dX1_madeDigit_42 : decode cX1_madeDigit 42 = .ok (.ireturn, 1) := by decide +kernel
set_option maxRecDepth 20000 in
theorem ggX1_findGoodDigits_X1_holdsAny : GoodIn wsX1_findGoodDigits wsX1_holdsAny := goodIn_r _ [4, 5, 6, 3, 7, 8, 9, 10, 11, 12, 13, 14] (by decide +kernel) (by decide +kernel)
set_option maxRecDepth 20000 in
theorem gX1_findGoodDigits_X1_holdsAny : GoodIn wsX1_findGoodDigits (va_wsS RX1 61 yX1_holdsAny wsX1_holdsAny) := goodIn_app (goodIn_of _ (by decide +kernel)) ggX1_findGoodDigits_X1_holdsAny
set_option maxRecDepth 20000 in
theorem ggX1_findGoodDigits_X1_staysWithin : GoodIn wsX1_findGoodDigits wsX1_staysWithin := goodIn_r _ [17, 5, 6, 3, 7, 8, 9, 10, 11, 12, 13, 14] (by decide +kernel) (by decide +kernel)
set_option maxRecDepth 20000 in
theorem gX1_findGoodDigits_X1_staysWithin : GoodIn wsX1_findGoodDigits (va_wsS RX1 114 yX1_staysWithin wsX1_staysWithin) := goodIn_app (goodIn_of _ (by decide +kernel)) ggX1_findGoodDigits_X1_staysWithin
theorem dX1_findGoodDigits_0 : decode cX1_findGoodDigits 0 = .ok (.iconst 0, 1) := by decide +kernel
theorem dX1_findGoodDigits_1 : decode cX1_findGoodDigits 1 = .ok (.istore_n 2, 1) := by decide +kernel
theorem dX1_findGoodDigits_2 : decode cX1_findGoodDigits 2 = .ok (.bipush (-2), 2) := by decide +kernel
theorem dX1_findGoodDigits_4 : decode cX1_findGoodDigits 4 = .ok (.istore_n 3, 1) := by decide +kernel
theorem dX1_findGoodDigits_5 : decode cX1_findGoodDigits 5 = .ok (.iload_n 3, 1) := by decide +kernel
theorem dX1_findGoodDigits_6 : decode cX1_findGoodDigits 6 = .ok (.iconst 2, 1) := by decide +kernel
theorem dX1_findGoodDigits_7 : decode cX1_findGoodDigits 7 = .ok (.if_icmp .gt 34, 3) := by decide +kernel
theorem dX1_findGoodDigits_10 : decode cX1_findGoodDigits 10 = .ok (.iload_n 0, 1) := by decide +kernel
theorem dX1_findGoodDigits_11 : decode cX1_findGoodDigits 11 = .ok (.iload_n 1, 1) := by decide +kernel
theorem dX1_findGoodDigits_12 : decode cX1_findGoodDigits 12 = .ok (.invokestatic 61, 3) := by decide +kernel
theorem dX1_findGoodDigits_15 : decode cX1_findGoodDigits 15 = .ok (.ifCond .eq 12, 3) := by decide +kernel
theorem dX1_findGoodDigits_18 : decode cX1_findGoodDigits 18 = .ok (.iload_n 0, 1) := by decide +kernel
theorem dX1_findGoodDigits_19 : decode cX1_findGoodDigits 19 = .ok (.iload_n 1, 1) := by decide +kernel
theorem dX1_findGoodDigits_20 : decode cX1_findGoodDigits 20 = .ok (.iload_n 3, 1) := by decide +kernel
theorem dX1_findGoodDigits_21 : decode cX1_findGoodDigits 21 = .ok (.invokestatic 114, 3) := by decide +kernel
theorem dX1_findGoodDigits_24 : decode cX1_findGoodDigits 24 = .ok (.ifCond .eq 11, 3) := by decide +kernel
theorem dX1_findGoodDigits_27 : decode cX1_findGoodDigits 27 = .ok (.iload_n 2, 1) := by decide +kernel
theorem dX1_findGoodDigits_28 : decode cX1_findGoodDigits 28 = .ok (.iconst 1, 1) := by decide +kernel
theorem dX1_findGoodDigits_29 : decode cX1_findGoodDigits 29 = .ok (.iload_n 3, 1) := by decide +kernel
theorem dX1_findGoodDigits_30 : decode cX1_findGoodDigits 30 = .ok (.iconst 2, 1) := by decide +kernel
theorem dX1_findGoodDigits_31 : decode cX1_findGoodDigits 31 = .ok (.iadd, 1) := by decide +kernel
theorem dX1_findGoodDigits_32 : decode cX1_findGoodDigits 32 = .ok (.ishl, 1) := by decide +kernel
theorem dX1_findGoodDigits_33 : decode cX1_findGoodDigits 33 = .ok (.ior, 1) := by decide +kernel
theorem dX1_findGoodDigits_34 : decode cX1_findGoodDigits 34 = .ok (.istore_n 2, 1) := by decide +kernel
theorem dX1_findGoodDigits_35 : decode cX1_findGoodDigits 35 = .ok (.iinc 3 1, 3) := by decide +kernel
theorem dX1_findGoodDigits_38 : decode cX1_findGoodDigits 38 = .ok (.goto (-33), 3) := by decide +kernel
theorem dX1_findGoodDigits_41 : decode cX1_findGoodDigits 41 = .ok (.iload_n 2, 1) := by decide +kernel
theorem dX1_findGoodDigits_42 : decode cX1_findGoodDigits 42 = .ok (.ireturn, 1) := by decide +kernel
theorem dX1_leastDivisor_0 : decode cX1_leastDivisor 0 = .ok (.iload_n 1, 1) := by decide +kernel
theorem dX1_leastDivisor_1 : decode cX1_leastDivisor 1 = .ok (.iload_n 1, 1) := by decide +kernel
theorem dX1_leastDivisor_2 : decode cX1_leastDivisor 2 = .ok (.iconst 2, 1) := by decide +kernel
theorem dX1_leastDivisor_3 : decode cX1_leastDivisor 3 = .ok (.iadd, 1) := by decide +kernel
theorem dX1_leastDivisor_4 : decode cX1_leastDivisor 4 = .ok (.ineg, 1) := by decide +kernel
theorem dX1_leastDivisor_5 : decode cX1_leastDivisor 5 = .ok (.invokestatic 118, 3) := by decide +kernel
theorem dX1_leastDivisor_8 : decode cX1_leastDivisor 8 = .ok (.istore_n 2, 1) := by decide +kernel
theorem dX1_leastDivisor_9 : decode cX1_leastDivisor 9 = .ok (.iconst 4, 1) := by decide +kernel
theorem dX1_leastDivisor_10 : decode cX1_leastDivisor 10 = .ok (.bipush 16, 2) := by decide +kernel
theorem dX1_leastDivisor_12 : decode cX1_leastDivisor 12 = .ok (.iload_n 0, 1) := by decide +kernel
theorem dX1_leastDivisor_13 : decode cX1_leastDivisor 13 = .ok (.iadd, 1) := by decide +kernel
theorem dX1_leastDivisor_14 : decode cX1_leastDivisor 14 = .ok (.imul, 1) := by decide +kernel
theorem dX1_leastDivisor_15 : decode cX1_leastDivisor 15 = .ok (.iconst 3, 1) := by decide +kernel
theorem dX1_leastDivisor_16 : decode cX1_leastDivisor 16 = .ok (.iload_n 2, 1) := by decide +kernel
theorem dX1_leastDivisor_17 : decode cX1_leastDivisor 17 = .ok (.imul, 1) := by decide +kernel
theorem dX1_leastDivisor_18 : decode cX1_leastDivisor 18 = .ok (.invokestatic 118, 3) := by decide +kernel
theorem dX1_leastDivisor_21 : decode cX1_leastDivisor 21 = .ok (.ireturn, 1) := by decide +kernel
theorem dX1_endOfDivisors_0 : decode cX1_endOfDivisors 0 = .ok (.iconst 4, 1) := by decide +kernel
theorem dX1_endOfDivisors_1 : decode cX1_endOfDivisors 1 = .ok (.bipush 17, 2) := by decide +kernel
theorem dX1_endOfDivisors_3 : decode cX1_endOfDivisors 3 = .ok (.iload_n 0, 1) := by decide +kernel
theorem dX1_endOfDivisors_4 : decode cX1_endOfDivisors 4 = .ok (.iadd, 1) := by decide +kernel
theorem dX1_endOfDivisors_5 : decode cX1_endOfDivisors 5 = .ok (.imul, 1) := by decide +kernel
theorem dX1_endOfDivisors_6 : decode cX1_endOfDivisors 6 = .ok (.ireturn, 1) := by decide +kernel
set_option maxRecDepth 20000 in
theorem ggX1_holdsAny_X1_leastDivisor : GoodIn wsX1_holdsAny wsX1_leastDivisor := goodIn_r _ [4, 5, 6, 7, 8] (by decide +kernel) (by decide +kernel)
set_option maxRecDepth 20000 in
theorem gX1_holdsAny_X1_leastDivisor : GoodIn wsX1_holdsAny (va_wsS RX1 123 yX1_leastDivisor wsX1_leastDivisor) := goodIn_app (goodIn_of _ (by decide +kernel)) ggX1_holdsAny_X1_leastDivisor
set_option maxRecDepth 20000 in
theorem ggX1_holdsAny_X1_endOfDivisors : GoodIn wsX1_holdsAny wsX1_endOfDivisors := goodIn_r _ [11] (by decide +kernel) (by decide +kernel)
set_option maxRecDepth 20000 in
theorem gX1_holdsAny_X1_endOfDivisors : GoodIn wsX1_holdsAny (va_wsS RX1 126 yX1_endOfDivisors wsX1_endOfDivisors) := goodIn_app (goodIn_of _ (by decide +kernel)) ggX1_holdsAny_X1_endOfDivisors
theorem dX1_holdsAny_0 : decode cX1_holdsAny 0 = .ok (.iload_n 0, 1) := by decide +kernel
theorem dX1_holdsAny_1 : decode cX1_holdsAny 1 = .ok (.iload_n 1, 1) := by decide +kernel
theorem dX1_holdsAny_2 : decode cX1_holdsAny 2 = .ok (.invokestatic 123, 3) := by decide +kernel
theorem dX1_holdsAny_5 : decode cX1_holdsAny 5 = .ok (.iload_n 0, 1) := by decide +kernel
theorem dX1_holdsAny_6 : decode cX1_holdsAny 6 = .ok (.invokestatic 126, 3) := by decide +kernel
theorem dX1_holdsAny_9 : decode cX1_holdsAny 9 = .ok (.if_icmp .ge 7, 3) := by decide +kernel
theorem dX1_holdsAny_12 : decode cX1_holdsAny 12 = .ok (.iconst 1, 1) := by decide +kernel
theorem dX1_holdsAny_13 : decode cX1_holdsAny 13 = .ok (.goto 4, 3) := by decide +kernel
theorem dX1_holdsAny_16 : decode cX1_holdsAny 16 = .ok (.iconst 0, 1) := by decide +kernel
theorem dX1_holdsAny_17 : decode cX1_holdsAny 17 = .ok (.ireturn, 1) := by decide +kernel
set_option maxRecDepth 20000 in
theorem ggX1_staysWithin_X1_leastDivisor : GoodIn wsX1_staysWithin wsX1_leastDivisor := goodIn_r _ [4, 5, 6, 7, 8] (by decide +kernel) (by decide +kernel)
set_option maxRecDepth 20000 in
theorem gX1_staysWithin_X1_leastDivisor : GoodIn wsX1_staysWithin (va_wsS RX1 123 yX1_leastDivisor wsX1_leastDivisor) := goodIn_app (goodIn_of _ (by decide +kernel)) ggX1_staysWithin_X1_leastDivisor
set_option maxRecDepth 20000 in
theorem ggX1_staysWithin_X1_endOfDivisors : GoodIn wsX1_staysWithin wsX1_endOfDivisors := goodIn_r _ [11] (by decide +kernel) (by decide +kernel)
set_option maxRecDepth 20000 in
theorem gX1_staysWithin_X1_endOfDivisors : GoodIn wsX1_staysWithin (va_wsS RX1 126 yX1_endOfDivisors wsX1_endOfDivisors) := goodIn_app (goodIn_of _ (by decide +kernel)) ggX1_staysWithin_X1_endOfDivisors
theorem dX1_staysWithin_0 : decode cX1_staysWithin 0 = .ok (.iload_n 0, 1) := by decide +kernel
theorem dX1_staysWithin_1 : decode cX1_staysWithin 1 = .ok (.iload_n 1, 1) := by decide +kernel
theorem dX1_staysWithin_2 : decode cX1_staysWithin 2 = .ok (.invokestatic 123, 3) := by decide +kernel
theorem dX1_staysWithin_5 : decode cX1_staysWithin 5 = .ok (.istore_n 3, 1) := by decide +kernel
theorem dX1_staysWithin_6 : decode cX1_staysWithin 6 = .ok (.iload_n 0, 1) := by decide +kernel
theorem dX1_staysWithin_7 : decode cX1_staysWithin 7 = .ok (.invokestatic 126, 3) := by decide +kernel
theorem dX1_staysWithin_10 : decode cX1_staysWithin 10 = .ok (.istore 4, 2) := by decide +kernel
theorem dX1_staysWithin_12 : decode cX1_staysWithin 12 = .ok (.bipush 24, 2) := by decide +kernel
theorem dX1_staysWithin_14 : decode cX1_staysWithin 14 = .ok (.iload_n 1, 1) := by decide +kernel
theorem dX1_staysWithin_15 : decode cX1_staysWithin 15 = .ok (.iconst 2, 1) := by decide +kernel
theorem dX1_staysWithin_16 : decode cX1_staysWithin 16 = .ok (.iadd, 1) := by decide +kernel
theorem dX1_staysWithin_17 : decode cX1_staysWithin 17 = .ok (.imul, 1) := by decide +kernel
theorem dX1_staysWithin_18 : decode cX1_staysWithin 18 = .ok (.istore 5, 2) := by decide +kernel
theorem dX1_staysWithin_20 : decode cX1_staysWithin 20 = .ok (.bipush 24, 2) := by decide +kernel
theorem dX1_staysWithin_22 : decode cX1_staysWithin 22 = .ok (.iload_n 1, 1) := by decide +kernel
theorem dX1_staysWithin_23 : decode cX1_staysWithin 23 = .ok (.imul, 1) := by decide +kernel
theorem dX1_staysWithin_24 : decode cX1_staysWithin 24 = .ok (.istore 6, 2) := by decide +kernel
theorem dX1_staysWithin_26 : decode cX1_staysWithin 26 = .ok (.iconst 3, 1) := by decide +kernel
theorem dX1_staysWithin_27 : decode cX1_staysWithin 27 = .ok (.iload_n 2, 1) := by decide +kernel
theorem dX1_staysWithin_28 : decode cX1_staysWithin 28 = .ok (.imul, 1) := by decide +kernel
theorem dX1_staysWithin_29 : decode cX1_staysWithin 29 = .ok (.iconst 2, 1) := by decide +kernel
theorem dX1_staysWithin_30 : decode cX1_staysWithin 30 = .ok (.iadd, 1) := by decide +kernel
theorem dX1_staysWithin_31 : decode cX1_staysWithin 31 = .ok (.istore 7, 2) := by decide +kernel
theorem dX1_staysWithin_33 : decode cX1_staysWithin 33 = .ok (.iconst 3, 1) := by decide +kernel
theorem dX1_staysWithin_34 : decode cX1_staysWithin 34 = .ok (.iload_n 2, 1) := by decide +kernel
theorem dX1_staysWithin_35 : decode cX1_staysWithin 35 = .ok (.imul, 1) := by decide +kernel
theorem dX1_staysWithin_36 : decode cX1_staysWithin 36 = .ok (.iconst 2, 1) := by decide +kernel
theorem dX1_staysWithin_37 : decode cX1_staysWithin 37 = .ok (.isub, 1) := by decide +kernel
theorem dX1_staysWithin_38 : decode cX1_staysWithin 38 = .ok (.istore 8, 2) := by decide +kernel
theorem dX1_staysWithin_40 : decode cX1_staysWithin 40 = .ok (.iload_n 2, 1) := by decide +kernel
theorem dX1_staysWithin_41 : decode cX1_staysWithin 41 = .ok (.iconst 2, 1) := by decide +kernel
theorem dX1_staysWithin_42 : decode cX1_staysWithin 42 = .ok (.if_icmp .eq 22, 3) := by decide +kernel
theorem dX1_staysWithin_45 : decode cX1_staysWithin 45 = .ok (.iload 5, 2) := by decide +kernel
theorem dX1_staysWithin_47 : decode cX1_staysWithin 47 = .ok (.iload 7, 2) := by decide +kernel
theorem dX1_staysWithin_49 : decode cX1_staysWithin 49 = .ok (.iload_n 3, 1) := by decide +kernel
theorem dX1_staysWithin_50 : decode cX1_staysWithin 50 = .ok (.imul, 1) := by decide +kernel
theorem dX1_staysWithin_51 : decode cX1_staysWithin 51 = .ok (.if_icmp .gt 17, 3) := by decide +kernel
theorem dX1_staysWithin_54 : decode cX1_staysWithin 54 = .ok (.iload 5, 2) := by decide +kernel
theorem dX1_staysWithin_56 : decode cX1_staysWithin 56 = .ok (.iload 7, 2) := by decide +kernel
theorem dX1_staysWithin_58 : decode cX1_staysWithin 58 = .ok (.iload 4, 2) := by decide +kernel
theorem dX1_staysWithin_60 : decode cX1_staysWithin 60 = .ok (.imul, 1) := by decide +kernel
theorem dX1_staysWithin_61 : decode cX1_staysWithin 61 = .ok (.if_icmp .gt 7, 3) := by decide +kernel
theorem dX1_staysWithin_64 : decode cX1_staysWithin 64 = .ok (.iconst 1, 1) := by decide +kernel
theorem dX1_staysWithin_65 : decode cX1_staysWithin 65 = .ok (.goto 4, 3) := by decide +kernel
theorem dX1_staysWithin_68 : decode cX1_staysWithin 68 = .ok (.iconst 0, 1) := by decide +kernel
theorem dX1_staysWithin_69 : decode cX1_staysWithin 69 = .ok (.istore 9, 2) := by decide +kernel
theorem dX1_staysWithin_71 : decode cX1_staysWithin 71 = .ok (.iload_n 2, 1) := by decide +kernel
theorem dX1_staysWithin_72 : decode cX1_staysWithin 72 = .ok (.bipush (-2), 2) := by decide +kernel
theorem dX1_staysWithin_74 : decode cX1_staysWithin 74 = .ok (.if_icmp .eq 22, 3) := by decide +kernel
theorem dX1_staysWithin_77 : decode cX1_staysWithin 77 = .ok (.iload 6, 2) := by decide +kernel
theorem dX1_staysWithin_79 : decode cX1_staysWithin 79 = .ok (.iload 8, 2) := by decide +kernel
theorem dX1_staysWithin_81 : decode cX1_staysWithin 81 = .ok (.iload_n 3, 1) := by decide +kernel
theorem dX1_staysWithin_82 : decode cX1_staysWithin 82 = .ok (.imul, 1) := by decide +kernel
theorem dX1_staysWithin_83 : decode cX1_staysWithin 83 = .ok (.if_icmp .lt 17, 3) := by decide +kernel
theorem dX1_staysWithin_86 : decode cX1_staysWithin 86 = .ok (.iload 6, 2) := by decide +kernel
theorem dX1_staysWithin_88 : decode cX1_staysWithin 88 = .ok (.iload 8, 2) := by decide +kernel
theorem dX1_staysWithin_90 : decode cX1_staysWithin 90 = .ok (.iload 4, 2) := by decide +kernel
theorem dX1_staysWithin_92 : decode cX1_staysWithin 92 = .ok (.imul, 1) := by decide +kernel
theorem dX1_staysWithin_93 : decode cX1_staysWithin 93 = .ok (.if_icmp .lt 7, 3) := by decide +kernel
theorem dX1_staysWithin_96 : decode cX1_staysWithin 96 = .ok (.iconst 1, 1) := by decide +kernel
theorem dX1_staysWithin_97 : decode cX1_staysWithin 97 = .ok (.goto 4, 3) := by decide +kernel
theorem dX1_staysWithin_100 : decode cX1_staysWithin 100 = .ok (.iconst 0, 1) := by decide +kernel
theorem dX1_staysWithin_101 : decode cX1_staysWithin 101 = .ok (.istore 10, 2) := by decide +kernel
theorem dX1_staysWithin_103 : decode cX1_staysWithin 103 = .ok (.iload 9, 2) := by decide +kernel
theorem dX1_staysWithin_105 : decode cX1_staysWithin 105 = .ok (.ifCond .eq 12, 3) := by decide +kernel
theorem dX1_staysWithin_108 : decode cX1_staysWithin 108 = .ok (.iload 10, 2) := by decide +kernel
theorem dX1_staysWithin_110 : decode cX1_staysWithin 110 = .ok (.ifCond .eq 7, 3) := by decide +kernel
theorem dX1_staysWithin_113 : decode cX1_staysWithin 113 = .ok (.iconst 1, 1) := by decide +kernel
theorem dX1_staysWithin_114 : decode cX1_staysWithin 114 = .ok (.goto 4, 3) := by decide +kernel
theorem dX1_staysWithin_117 : decode cX1_staysWithin 117 = .ok (.iconst 0, 1) := by decide +kernel
theorem dX1_staysWithin_118 : decode cX1_staysWithin 118 = .ok (.ireturn, 1) := by decide +kernel
