set_option maxRecDepth 20000 in
theorem ggX2_init_X2_fill : GoodIn wsX2_init wsX2_fill := goodIn_r _ [19, 5, 20, 21, 18, 22, 23, 24, 25, 26, 27, 28, 29, 30, 31, 32, 33, 34, 35, 36, 37, 38, 39, 40, 41, 42, 43, 44, 45, 46, 47, 48, 49] (by decide +kernel) (by decide +kernel)
set_option maxRecDepth 20000 in
theorem gX2_init_X2_fill : GoodIn wsX2_init (wsV RX2 38 RX2 yX2_fill wsX2_fill) := goodIn_app (goodIn_of _ (by decide +kernel)) ggX2_init_X2_fill
theorem dX2_init_0 : decode cX2_init 0 = .ok (.aload_n 0, 1) := by decide +kernel
theorem dX2_init_1 : decode cX2_init 1 = .ok (.invokespecial 1, 3) := by decide +kernel
theorem dX2_init_4 : decode cX2_init 4 = .ok (.aload_n 0, 1) := by decide +kernel
theorem dX2_init_5 : decode cX2_init 5 = .ok (.sipush 8192, 3) := by decide +kernel
theorem dX2_init_8 : decode cX2_init 8 = .ok (.newarray .int, 2) := by decide +kernel
theorem dX2_init_10 : decode cX2_init 10 = .ok (.putfield 7, 3) := by decide +kernel
theorem dX2_init_13 : decode cX2_init 13 = .ok (.aload_n 0, 1) := by decide +kernel
theorem dX2_init_14 : decode cX2_init 14 = .ok (.bipush 20, 2) := by decide +kernel
theorem dX2_init_16 : decode cX2_init 16 = .ok (.newarray .int, 2) := by decide +kernel
theorem dX2_init_18 : decode cX2_init 18 = .ok (.putfield 13, 3) := by decide +kernel
theorem dX2_init_21 : decode cX2_init 21 = .ok (.aload_n 0, 1) := by decide +kernel
theorem dX2_init_22 : decode cX2_init 22 = .ok (.bipush 20, 2) := by decide +kernel
theorem dX2_init_24 : decode cX2_init 24 = .ok (.newarray .int, 2) := by decide +kernel
theorem dX2_init_26 : decode cX2_init 26 = .ok (.putfield 16, 3) := by decide +kernel
theorem dX2_init_29 : decode cX2_init 29 = .ok (.aload_n 0, 1) := by decide +kernel
theorem dX2_init_30 : decode cX2_init 30 = .ok (.bipush 20, 2) := by decide +kernel
theorem dX2_init_32 : decode cX2_init 32 = .ok (.newarray .long, 2) := by decide +kernel
theorem dX2_init_34 : decode cX2_init 34 = .ok (.putfield 19, 3) := by decide +kernel
theorem dX2_init_37 : decode cX2_init 37 = .ok (.aload_n 0, 1) := by decide +kernel
theorem dX2_init_38 : decode cX2_init 38 = .ok (.bipush 20, 2) := by decide +kernel
theorem dX2_init_40 : decode cX2_init 40 = .ok (.newarray .long, 2) := by decide +kernel
theorem dX2_init_42 : decode cX2_init 42 = .ok (.putfield 23, 3) := by decide +kernel
theorem dX2_init_45 : decode cX2_init 45 = .ok (.aload_n 0, 1) := by decide +kernel
theorem dX2_init_46 : decode cX2_init 46 = .ok (.bipush 20, 2) := by decide +kernel
theorem dX2_init_48 : decode cX2_init 48 = .ok (.newarray .long, 2) := by decide +kernel
theorem dX2_init_50 : decode cX2_init 50 = .ok (.putfield 26, 3) := by decide +kernel
theorem dX2_init_53 : decode cX2_init 53 = .ok (.aload_n 0, 1) := by decide +kernel
theorem dX2_init_54 : decode cX2_init 54 = .ok (.bipush 20, 2) := by decide +kernel
theorem dX2_init_56 : decode cX2_init 56 = .ok (.newarray .long, 2) := by decide +kernel
theorem dX2_init_58 : decode cX2_init 58 = .ok (.putfield 29, 3) := by decide +kernel
theorem dX2_init_61 : decode cX2_init 61 = .ok (.aload_n 0, 1) := by decide +kernel
theorem dX2_init_62 : decode cX2_init 62 = .ok (.bipush 48, 2) := by decide +kernel
theorem dX2_init_64 : decode cX2_init 64 = .ok (.newarray .int, 2) := by decide +kernel
theorem dX2_init_66 : decode cX2_init 66 = .ok (.putfield 32, 3) := by decide +kernel
theorem dX2_init_69 : decode cX2_init 69 = .ok (.aload_n 0, 1) := by decide +kernel
theorem dX2_init_70 : decode cX2_init 70 = .ok (.bipush 80, 2) := by decide +kernel
theorem dX2_init_72 : decode cX2_init 72 = .ok (.newarray .long, 2) := by decide +kernel
theorem dX2_init_74 : decode cX2_init 74 = .ok (.putfield 35, 3) := by decide +kernel
theorem dX2_init_77 : decode cX2_init 77 = .ok (.iconst 0, 1) := by decide +kernel
theorem dX2_init_78 : decode cX2_init 78 = .ok (.istore_n 1, 1) := by decide +kernel
theorem dX2_init_79 : decode cX2_init 79 = .ok (.iload_n 1, 1) := by decide +kernel
theorem dX2_init_80 : decode cX2_init 80 = .ok (.iconst 4, 1) := by decide +kernel
theorem dX2_init_81 : decode cX2_init 81 = .ok (.if_icmp .ge 15, 3) := by decide +kernel
theorem dX2_init_84 : decode cX2_init 84 = .ok (.aload_n 0, 1) := by decide +kernel
theorem dX2_init_85 : decode cX2_init 85 = .ok (.iload_n 1, 1) := by decide +kernel
theorem dX2_init_86 : decode cX2_init 86 = .ok (.invokevirtual 38, 3) := by decide +kernel
theorem dX2_init_89 : decode cX2_init 89 = .ok (.istore_n 2, 1) := by decide +kernel
theorem dX2_init_90 : decode cX2_init 90 = .ok (.iinc 1 1, 3) := by decide +kernel
theorem dX2_init_93 : decode cX2_init 93 = .ok (.goto (-14), 3) := by decide +kernel
theorem dX2_init_96 : decode cX2_init 96 = .ok (.return_, 1) := by decide +kernel
theorem dX2_in_0 : decode cX2_in 0 = .ok (.iload_n 0, 1) := by decide +kernel
theorem dX2_in_1 : decode cX2_in 1 = .ok (.iload_n 1, 1) := by decide +kernel
theorem dX2_in_2 : decode cX2_in 2 = .ok (.if_icmp .lt 12, 3) := by decide +kernel
theorem dX2_in_5 : decode cX2_in 5 = .ok (.iload_n 0, 1) := by decide +kernel
theorem dX2_in_6 : decode cX2_in 6 = .ok (.iload_n 2, 1) := by decide +kernel
theorem dX2_in_7 : decode cX2_in 7 = .ok (.if_icmp .gt 7, 3) := by decide +kernel
theorem dX2_in_10 : decode cX2_in 10 = .ok (.iconst 1, 1) := by decide +kernel
theorem dX2_in_11 : decode cX2_in 11 = .ok (.goto 4, 3) := by decide +kernel
theorem dX2_in_14 : decode cX2_in 14 = .ok (.iconst 0, 1) := by decide +kernel
theorem dX2_in_15 : decode cX2_in 15 = .ok (.ireturn, 1) := by decide +kernel
theorem dX2_isHeld_0 : decode cX2_isHeld 0 = .ok (.iconst 4, 1) := by decide +kernel
theorem dX2_isHeld_1 : decode cX2_isHeld 1 = .ok (.bipush 17, 2) := by decide +kernel
theorem dX2_isHeld_3 : decode cX2_isHeld 3 = .ok (.iload_n 0, 1) := by decide +kernel
theorem dX2_isHeld_4 : decode cX2_isHeld 4 = .ok (.iadd, 1) := by decide +kernel
theorem dX2_isHeld_5 : decode cX2_isHeld 5 = .ok (.imul, 1) := by decide +kernel
theorem dX2_isHeld_6 : decode cX2_isHeld 6 = .ok (.istore_n 2, 1) := by decide +kernel
theorem dX2_isHeld_7 : decode cX2_isHeld 7 = .ok (.iload_n 1, 1) := by decide +kernel
theorem dX2_isHeld_8 : decode cX2_isHeld 8 = .ok (.iconst (-1), 1) := by decide +kernel
theorem dX2_isHeld_9 : decode cX2_isHeld 9 = .ok (.if_icmp .eq 27, 3) := by decide +kernel
theorem dX2_isHeld_12 : decode cX2_isHeld 12 = .ok (.iload_n 1, 1) := by decide +kernel
theorem dX2_isHeld_13 : decode cX2_isHeld 13 = .ok (.ifCond .lt 13, 3) := by decide +kernel
theorem dX2_isHeld_16 : decode cX2_isHeld 16 = .ok (.iconst 3, 1) := by decide +kernel
theorem dX2_isHeld_17 : decode cX2_isHeld 17 = .ok (.iload_n 1, 1) := by decide +kernel
theorem dX2_isHeld_18 : decode cX2_isHeld 18 = .ok (.imul, 1) := by decide +kernel
theorem dX2_isHeld_19 : decode cX2_isHeld 19 = .ok (.iload_n 2, 1) := by decide +kernel
theorem dX2_isHeld_20 : decode cX2_isHeld 20 = .ok (.if_icmp .ge 20, 3) := by decide +kernel
theorem dX2_isHeld_23 : decode cX2_isHeld 23 = .ok (.goto 13, 3) := by decide +kernel
theorem dX2_isHeld_26 : decode cX2_isHeld 26 = .ok (.bipush (-3), 2) := by decide +kernel
theorem dX2_isHeld_28 : decode cX2_isHeld 28 = .ok (.iload_n 1, 1) := by decide +kernel
theorem dX2_isHeld_29 : decode cX2_isHeld 29 = .ok (.iconst 2, 1) := by decide +kernel
theorem dX2_isHeld_30 : decode cX2_isHeld 30 = .ok (.iadd, 1) := by decide +kernel
theorem dX2_isHeld_31 : decode cX2_isHeld 31 = .ok (.imul, 1) := by decide +kernel
theorem dX2_isHeld_32 : decode cX2_isHeld 32 = .ok (.iload_n 2, 1) := by decide +kernel
theorem dX2_isHeld_33 : decode cX2_isHeld 33 = .ok (.if_icmp .ge 7, 3) := by decide +kernel
theorem dX2_isHeld_36 : decode cX2_isHeld 36 = .ok (.iconst 1, 1) := by decide +kernel
theorem dX2_isHeld_37 : decode cX2_isHeld 37 = .ok (.goto 4, 3) := by decide +kernel
theorem dX2_isHeld_40 : decode cX2_isHeld 40 = .ok (.iconst 0, 1) := by decide +kernel
theorem dX2_isHeld_41 : decode cX2_isHeld 41 = .ok (.ireturn, 1) := by decide +kernel
theorem dX2_isOver_0 : decode cX2_isOver 0 = .ok (.iload_n 2, 1) := by decide +kernel
theorem dX2_isOver_1 : decode cX2_isOver 1 = .ok (.iconst 2, 1) := by decide +kernel
theorem dX2_isOver_2 : decode cX2_isOver 2 = .ok (.if_icmp .ne 5, 3) := by decide +kernel
theorem dX2_isOver_5 : decode cX2_isOver 5 = .ok (.iconst 0, 1) := by decide +kernel
theorem dX2_isOver_6 : decode cX2_isOver 6 = .ok (.ireturn, 1) := by decide +kernel
theorem dX2_isOver_7 : decode cX2_isOver 7 = .ok (.iconst 4, 1) := by decide +kernel
theorem dX2_isOver_8 : decode cX2_isOver 8 = .ok (.bipush 16, 2) := by decide +kernel
theorem dX2_isOver_10 : decode cX2_isOver 10 = .ok (.iload_n 0, 1) := by decide +kernel
theorem dX2_isOver_11 : decode cX2_isOver 11 = .ok (.iadd, 1) := by decide +kernel
theorem dX2_isOver_12 : decode cX2_isOver 12 = .ok (.imul, 1) := by decide +kernel
theorem dX2_isOver_13 : decode cX2_isOver 13 = .ok (.istore_n 3, 1) := by decide +kernel
theorem dX2_isOver_14 : decode cX2_isOver 14 = .ok (.iconst 4, 1) := by decide +kernel
theorem dX2_isOver_15 : decode cX2_isOver 15 = .ok (.bipush 17, 2) := by decide +kernel
theorem dX2_isOver_17 : decode cX2_isOver 17 = .ok (.iload_n 0, 1) := by decide +kernel
theorem dX2_isOver_18 : decode cX2_isOver 18 = .ok (.iadd, 1) := by decide +kernel
theorem dX2_isOver_19 : decode cX2_isOver 19 = .ok (.imul, 1) := by decide +kernel
theorem dX2_isOver_20 : decode cX2_isOver 20 = .ok (.istore 4, 2) := by decide +kernel
theorem dX2_isOver_22 : decode cX2_isOver 22 = .ok (.iconst 3, 1) := by decide +kernel
theorem dX2_isOver_23 : decode cX2_isOver 23 = .ok (.iload_n 1, 1) := by decide +kernel
theorem dX2_isOver_24 : decode cX2_isOver 24 = .ok (.imul, 1) := by decide +kernel
theorem dX2_isOver_25 : decode cX2_isOver 25 = .ok (.iload_n 3, 1) := by decide +kernel
theorem dX2_isOver_26 : decode cX2_isOver 26 = .ok (.if_icmp .le 9, 3) := by decide +kernel
theorem dX2_isOver_29 : decode cX2_isOver 29 = .ok (.iconst 3, 1) := by decide +kernel
theorem dX2_isOver_30 : decode cX2_isOver 30 = .ok (.iload_n 1, 1) := by decide +kernel
theorem dX2_isOver_31 : decode cX2_isOver 31 = .ok (.imul, 1) := by decide +kernel
theorem dX2_isOver_32 : decode cX2_isOver 32 = .ok (.goto 4, 3) := by decide +kernel
theorem dX2_isOver_35 : decode cX2_isOver 35 = .ok (.iload_n 3, 1) := by decide +kernel
theorem dX2_isOver_36 : decode cX2_isOver 36 = .ok (.istore 5, 2) := by decide +kernel
theorem dX2_isOver_38 : decode cX2_isOver 38 = .ok (.iload 5, 2) := by decide +kernel
theorem dX2_isOver_40 : decode cX2_isOver 40 = .ok (.iload 4, 2) := by decide +kernel
theorem dX2_isOver_42 : decode cX2_isOver 42 = .ok (.if_icmp .ge 33, 3) := by decide +kernel
theorem dX2_isOver_45 : decode cX2_isOver 45 = .ok (.bipush 24, 2) := by decide +kernel
theorem dX2_isOver_47 : decode cX2_isOver 47 = .ok (.iload_n 1, 1) := by decide +kernel
theorem dX2_isOver_48 : decode cX2_isOver 48 = .ok (.iconst 2, 1) := by decide +kernel
theorem dX2_isOver_49 : decode cX2_isOver 49 = .ok (.iadd, 1) := by decide +kernel
theorem dX2_isOver_50 : decode cX2_isOver 50 = .ok (.imul, 1) := by decide +kernel
theorem dX2_isOver_51 : decode cX2_isOver 51 = .ok (.iconst 3, 1) := by decide +kernel
theorem dX2_isOver_52 : decode cX2_isOver 52 = .ok (.iload_n 2, 1) := by decide +kernel
theorem dX2_isOver_53 : decode cX2_isOver 53 = .ok (.imul, 1) := by decide +kernel
theorem dX2_isOver_54 : decode cX2_isOver 54 = .ok (.iconst 2, 1) := by decide +kernel
theorem dX2_isOver_55 : decode cX2_isOver 55 = .ok (.iadd, 1) := by decide +kernel
theorem dX2_isOver_56 : decode cX2_isOver 56 = .ok (.iload_n 2, 1) := by decide +kernel
theorem dX2_isOver_57 : decode cX2_isOver 57 = .ok (.ifCond .ge 8, 3) := by decide +kernel
theorem dX2_isOver_60 : decode cX2_isOver 60 = .ok (.iload 4, 2) := by decide +kernel
theorem dX2_isOver_62 : decode cX2_isOver 62 = .ok (.goto 5, 3) := by decide +kernel
theorem dX2_isOver_65 : decode cX2_isOver 65 = .ok (.iload 5, 2) := by decide +kernel
theorem dX2_isOver_67 : decode cX2_isOver 67 = .ok (.imul, 1) := by decide +kernel
theorem dX2_isOver_68 : decode cX2_isOver 68 = .ok (.if_icmp .le 7, 3) := by decide +kernel
theorem dX2_isOver_71 : decode cX2_isOver 71 = .ok (.iconst 1, 1) := by decide +kernel
theorem dX2_isOver_72 : decode cX2_isOver 72 = .ok (.goto 4, 3) := by decide +kernel
theorem dX2_isOver_75 : decode cX2_isOver 75 = .ok (.iconst 0, 1) := by decide +kernel
theorem dX2_isOver_76 : decode cX2_isOver 76 = .ok (.ireturn, 1) := by decide +kernel
theorem dX2_isUnder_0 : decode cX2_isUnder 0 = .ok (.iload_n 2, 1) := by decide +kernel
theorem dX2_isUnder_1 : decode cX2_isUnder 1 = .ok (.bipush (-2), 2) := by decide +kernel
theorem dX2_isUnder_3 : decode cX2_isUnder 3 = .ok (.if_icmp .ne 5, 3) := by decide +kernel
theorem dX2_isUnder_6 : decode cX2_isUnder 6 = .ok (.iconst 0, 1) := by decide +kernel
theorem dX2_isUnder_7 : decode cX2_isUnder 7 = .ok (.ireturn, 1) := by decide +kernel
theorem dX2_isUnder_8 : decode cX2_isUnder 8 = .ok (.iconst 4, 1) := by decide +kernel
theorem dX2_isUnder_9 : decode cX2_isUnder 9 = .ok (.bipush 16, 2) := by decide +kernel
theorem dX2_isUnder_11 : decode cX2_isUnder 11 = .ok (.iload_n 0, 1) := by decide +kernel
theorem dX2_isUnder_12 : decode cX2_isUnder 12 = .ok (.iadd, 1) := by decide +kernel
theorem dX2_isUnder_13 : decode cX2_isUnder 13 = .ok (.imul, 1) := by decide +kernel
theorem dX2_isUnder_14 : decode cX2_isUnder 14 = .ok (.istore_n 3, 1) := by decide +kernel
theorem dX2_isUnder_15 : decode cX2_isUnder 15 = .ok (.iconst 4, 1) := by decide +kernel
theorem dX2_isUnder_16 : decode cX2_isUnder 16 = .ok (.bipush 17, 2) := by decide +kernel
theorem dX2_isUnder_18 : decode cX2_isUnder 18 = .ok (.iload_n 0, 1) := by decide +kernel
theorem dX2_isUnder_19 : decode cX2_isUnder 19 = .ok (.iadd, 1) := by decide +kernel
theorem dX2_isUnder_20 : decode cX2_isUnder 20 = .ok (.imul, 1) := by decide +kernel
theorem dX2_isUnder_21 : decode cX2_isUnder 21 = .ok (.istore 4, 2) := by decide +kernel
theorem dX2_isUnder_23 : decode cX2_isUnder 23 = .ok (.bipush (-3), 2) := by decide +kernel
theorem dX2_isUnder_25 : decode cX2_isUnder 25 = .ok (.iload_n 1, 1) := by decide +kernel
theorem dX2_isUnder_26 : decode cX2_isUnder 26 = .ok (.iconst 2, 1) := by decide +kernel
theorem dX2_isUnder_27 : decode cX2_isUnder 27 = .ok (.iadd, 1) := by decide +kernel
theorem dX2_isUnder_28 : decode cX2_isUnder 28 = .ok (.imul, 1) := by decide +kernel
theorem dX2_isUnder_29 : decode cX2_isUnder 29 = .ok (.istore 5, 2) := by decide +kernel
theorem dX2_isUnder_31 : decode cX2_isUnder 31 = .ok (.iload_n 2, 1) := by decide +kernel
theorem dX2_isUnder_32 : decode cX2_isUnder 32 = .ok (.ifCond .le 31, 3) := by decide +kernel
theorem dX2_isUnder_35 : decode cX2_isUnder 35 = .ok (.bipush 24, 2) := by decide +kernel
theorem dX2_isUnder_37 : decode cX2_isUnder 37 = .ok (.iload_n 1, 1) := by decide +kernel
theorem dX2_isUnder_38 : decode cX2_isUnder 38 = .ok (.imul, 1) := by decide +kernel
theorem dX2_isUnder_39 : decode cX2_isUnder 39 = .ok (.iconst 3, 1) := by decide +kernel
theorem dX2_isUnder_40 : decode cX2_isUnder 40 = .ok (.iload_n 2, 1) := by decide +kernel
theorem dX2_isUnder_41 : decode cX2_isUnder 41 = .ok (.imul, 1) := by decide +kernel
theorem dX2_isUnder_42 : decode cX2_isUnder 42 = .ok (.iconst 2, 1) := by decide +kernel
theorem dX2_isUnder_43 : decode cX2_isUnder 43 = .ok (.isub, 1) := by decide +kernel
theorem dX2_isUnder_44 : decode cX2_isUnder 44 = .ok (.iload 4, 2) := by decide +kernel
theorem dX2_isUnder_46 : decode cX2_isUnder 46 = .ok (.imul, 1) := by decide +kernel
theorem dX2_isUnder_47 : decode cX2_isUnder 47 = .ok (.if_icmp .ge 14, 3) := by decide +kernel
theorem dX2_isUnder_50 : decode cX2_isUnder 50 = .ok (.iload 4, 2) := by decide +kernel
theorem dX2_isUnder_52 : decode cX2_isUnder 52 = .ok (.iload 5, 2) := by decide +kernel
theorem dX2_isUnder_54 : decode cX2_isUnder 54 = .ok (.if_icmp .le 7, 3) := by decide +kernel
theorem dX2_isUnder_57 : decode cX2_isUnder 57 = .ok (.iconst 1, 1) := by decide +kernel
theorem dX2_isUnder_58 : decode cX2_isUnder 58 = .ok (.goto 4, 3) := by decide +kernel
theorem dX2_isUnder_61 : decode cX2_isUnder 61 = .ok (.iconst 0, 1) := by decide +kernel
theorem dX2_isUnder_62 : decode cX2_isUnder 62 = .ok (.ireturn, 1) := by decide +kernel
theorem dX2_isUnder_63 : decode cX2_isUnder 63 = .ok (.iload 5, 2) := by decide +kernel
theorem dX2_isUnder_65 : decode cX2_isUnder 65 = .ok (.iload_n 3, 1) := by decide +kernel
theorem dX2_isUnder_66 : decode cX2_isUnder 66 = .ok (.if_icmp .ge 25, 3) := by decide +kernel
theorem dX2_isUnder_69 : decode cX2_isUnder 69 = .ok (.bipush 24, 2) := by decide +kernel
theorem dX2_isUnder_71 : decode cX2_isUnder 71 = .ok (.iload_n 1, 1) := by decide +kernel
theorem dX2_isUnder_72 : decode cX2_isUnder 72 = .ok (.imul, 1) := by decide +kernel
theorem dX2_isUnder_73 : decode cX2_isUnder 73 = .ok (.iconst 3, 1) := by decide +kernel
theorem dX2_isUnder_74 : decode cX2_isUnder 74 = .ok (.iload_n 2, 1) := by decide +kernel
theorem dX2_isUnder_75 : decode cX2_isUnder 75 = .ok (.imul, 1) := by decide +kernel
theorem dX2_isUnder_76 : decode cX2_isUnder 76 = .ok (.iconst 2, 1) := by decide +kernel
theorem dX2_isUnder_77 : decode cX2_isUnder 77 = .ok (.isub, 1) := by decide +kernel
theorem dX2_isUnder_78 : decode cX2_isUnder 78 = .ok (.iload_n 3, 1) := by decide +kernel
theorem dX2_isUnder_79 : decode cX2_isUnder 79 = .ok (.imul, 1) := by decide +kernel
theorem dX2_isUnder_80 : decode cX2_isUnder 80 = .ok (.if_icmp .ge 7, 3) := by decide +kernel
theorem dX2_isUnder_83 : decode cX2_isUnder 83 = .ok (.iconst 1, 1) := by decide +kernel
theorem dX2_isUnder_84 : decode cX2_isUnder 84 = .ok (.goto 34, 3) := by decide +kernel
theorem dX2_isUnder_87 : decode cX2_isUnder 87 = .ok (.iconst 0, 1) := by decide +kernel
theorem dX2_isUnder_88 : decode cX2_isUnder 88 = .ok (.goto 30, 3) := by decide +kernel
theorem dX2_isUnder_91 : decode cX2_isUnder 91 = .ok (.iload 5, 2) := by decide +kernel
theorem dX2_isUnder_93 : decode cX2_isUnder 93 = .ok (.iload 4, 2) := by decide +kernel
theorem dX2_isUnder_95 : decode cX2_isUnder 95 = .ok (.if_icmp .ge 22, 3) := by decide +kernel
theorem dX2_isUnder_98 : decode cX2_isUnder 98 = .ok (.bipush 24, 2) := by decide +kernel
theorem dX2_isUnder_100 : decode cX2_isUnder 100 = .ok (.iload_n 1, 1) := by decide +kernel
theorem dX2_isUnder_101 : decode cX2_isUnder 101 = .ok (.imul, 1) := by decide +kernel
theorem dX2_isUnder_102 : decode cX2_isUnder 102 = .ok (.iconst 3, 1) := by decide +kernel
theorem dX2_isUnder_103 : decode cX2_isUnder 103 = .ok (.iload_n 2, 1) := by decide +kernel
theorem dX2_isUnder_104 : decode cX2_isUnder 104 = .ok (.imul, 1) := by decide +kernel
theorem dX2_isUnder_105 : decode cX2_isUnder 105 = .ok (.iconst 2, 1) := by decide +kernel
theorem dX2_isUnder_106 : decode cX2_isUnder 106 = .ok (.isub, 1) := by decide +kernel
theorem dX2_isUnder_107 : decode cX2_isUnder 107 = .ok (.iload 5, 2) := by decide +kernel
theorem dX2_isUnder_109 : decode cX2_isUnder 109 = .ok (.imul, 1) := by decide +kernel
theorem dX2_isUnder_110 : decode cX2_isUnder 110 = .ok (.if_icmp .ge 7, 3) := by decide +kernel
theorem dX2_isUnder_113 : decode cX2_isUnder 113 = .ok (.iconst 1, 1) := by decide +kernel
theorem dX2_isUnder_114 : decode cX2_isUnder 114 = .ok (.goto 4, 3) := by decide +kernel
theorem dX2_isUnder_117 : decode cX2_isUnder 117 = .ok (.iconst 0, 1) := by decide +kernel
theorem dX2_isUnder_118 : decode cX2_isUnder 118 = .ok (.ireturn, 1) := by decide +kernel
set_option maxRecDepth 20000 in
theorem ggX2_isGood_X2_isOver : GoodIn wsX2_isGood wsX2_isOver := goodIn_r _ [4] (by decide +kernel) (by decide +kernel)
set_option maxRecDepth 20000 in
theorem gX2_isGood_X2_isOver : GoodIn wsX2_isGood (va_wsS RX2 42 yX2_isOver wsX2_isOver) := goodIn_app (goodIn_of _ (by decide +kernel)) ggX2_isGood_X2_isOver
set_option maxRecDepth 20000 in
theorem ggX2_isGood_X2_isUnder : GoodIn wsX2_isGood wsX2_isUnder := goodIn_r _ [7] (by decide +kernel) (by decide +kernel)
set_option maxRecDepth 20000 in
theorem gX2_isGood_X2_isUnder : GoodIn wsX2_isGood (va_wsS RX2 46 yX2_isUnder wsX2_isUnder) := goodIn_app (goodIn_of _ (by decide +kernel)) ggX2_isGood_X2_isUnder
theorem dX2_isGood_0 : decode cX2_isGood 0 = .ok (.iload_n 0, 1) := by decide +kernel
theorem dX2_isGood_1 : decode cX2_isGood 1 = .ok (.iload_n 1, 1) := by decide +kernel
theorem dX2_isGood_2 : decode cX2_isGood 2 = .ok (.iload_n 2, 1) := by decide +kernel
theorem dX2_isGood_3 : decode cX2_isGood 3 = .ok (.invokestatic 42, 3) := by decide +kernel
theorem dX2_isGood_6 : decode cX2_isGood 6 = .ok (.ifCond .ne 16, 3) := by decide +kernel
theorem dX2_isGood_9 : decode cX2_isGood 9 = .ok (.iload_n 0, 1) := by decide +kernel
theorem dX2_isGood_10 : decode cX2_isGood 10 = .ok (.iload_n 1, 1) := by decide +kernel
theorem dX2_isGood_11 : decode cX2_isGood 11 = .ok (.iload_n 2, 1) := by decide +kernel
theorem dX2_isGood_12 : decode cX2_isGood 12 = .ok (.invokestatic 46, 3) := by decide +kernel
theorem dX2_isGood_15 : decode cX2_isGood 15 = .ok (.ifCond .ne 7, 3) := by decide +kernel
theorem dX2_isGood_18 : decode cX2_isGood 18 = .ok (.iconst 1, 1) := by decide +kernel
theorem dX2_isGood_19 : decode cX2_isGood 19 = .ok (.goto 4, 3) := by decide +kernel
theorem dX2_isGood_22 : decode cX2_isGood 22 = .ok (.iconst 0, 1) := by decide +kernel
theorem dX2_isGood_23 : decode cX2_isGood 23 = .ok (.ireturn, 1) := by decide +kernel
set_option maxRecDepth 20000 in
theorem ggX2_madeOf_X2_isGood : GoodIn wsX2_madeOf wsX2_isGood := goodIn_r _ [4, 5, 6, 3, 7, 8, 9, 10] (by decide +kernel) (by decide +kernel)
set_option maxRecDepth 20000 in
theorem gX2_madeOf_X2_isGood : GoodIn wsX2_madeOf (va_wsS RX2 49 yX2_isGood wsX2_isGood) := goodIn_app (goodIn_of _ (by decide +kernel)) ggX2_madeOf_X2_isGood
theorem dX2_madeOf_0 : decode cX2_madeOf 0 = .ok (.iconst 0, 1) := by decide +kernel
theorem dX2_madeOf_1 : decode cX2_madeOf 1 = .ok (.istore_n 2, 1) := by decide +kernel
theorem dX2_madeOf_2 : decode cX2_madeOf 2 = .ok (.iload_n 2, 1) := by decide +kernel
theorem dX2_madeOf_3 : decode cX2_madeOf 3 = .ok (.iconst 2, 1) := by decide +kernel
theorem dX2_madeOf_4 : decode cX2_madeOf 4 = .ok (.if_icmp .gt 33, 3) := by decide +kernel
theorem dX2_madeOf_7 : decode cX2_madeOf 7 = .ok (.iload_n 0, 1) := by decide +kernel
theorem dX2_madeOf_8 : decode cX2_madeOf 8 = .ok (.iload_n 1, 1) := by decide +kernel
theorem dX2_madeOf_9 : decode cX2_madeOf 9 = .ok (.iload_n 2, 1) := by decide +kernel
theorem dX2_madeOf_10 : decode cX2_madeOf 10 = .ok (.invokestatic 49, 3) := by decide +kernel
theorem dX2_madeOf_13 : decode cX2_madeOf 13 = .ok (.ifCond .eq 5, 3) := by decide +kernel
theorem dX2_madeOf_16 : decode cX2_madeOf 16 = .ok (.iload_n 2, 1) := by decide +kernel
theorem dX2_madeOf_17 : decode cX2_madeOf 17 = .ok (.ireturn, 1) := by decide +kernel
theorem dX2_madeOf_18 : decode cX2_madeOf 18 = .ok (.iload_n 0, 1) := by decide +kernel
theorem dX2_madeOf_19 : decode cX2_madeOf 19 = .ok (.iload_n 1, 1) := by decide +kernel
theorem dX2_madeOf_20 : decode cX2_madeOf 20 = .ok (.iload_n 2, 1) := by decide +kernel
theorem dX2_madeOf_21 : decode cX2_madeOf 21 = .ok (.ineg, 1) := by decide +kernel
theorem dX2_madeOf_22 : decode cX2_madeOf 22 = .ok (.invokestatic 49, 3) := by decide +kernel
theorem dX2_madeOf_25 : decode cX2_madeOf 25 = .ok (.ifCond .eq 6, 3) := by decide +kernel
theorem dX2_madeOf_28 : decode cX2_madeOf 28 = .ok (.iload_n 2, 1) := by decide +kernel
theorem dX2_madeOf_29 : decode cX2_madeOf 29 = .ok (.ineg, 1) := by decide +kernel
theorem dX2_madeOf_30 : decode cX2_madeOf 30 = .ok (.ireturn, 1) := by decide +kernel
theorem dX2_madeOf_31 : decode cX2_madeOf 31 = .ok (.iinc 2 1, 3) := by decide +kernel
theorem dX2_madeOf_34 : decode cX2_madeOf 34 = .ok (.goto (-32), 3) := by decide +kernel
theorem dX2_madeOf_37 : decode cX2_madeOf 37 = .ok (.iconst 0, 1) := by decide +kernel
theorem dX2_madeOf_38 : decode cX2_madeOf 38 = .ok (.ireturn, 1) := by decide +kernel
set_option maxRecDepth 20000 in
theorem ggX2_fill_X2_madeOf : GoodIn wsX2_fill wsX2_madeOf := goodIn_r _ [5, 6, 7, 4, 8, 9, 10, 11, 12, 13, 14] (by decide +kernel) (by decide +kernel)
set_option maxRecDepth 20000 in
theorem gX2_fill_X2_madeOf : GoodIn wsX2_fill (va_wsS RX2 52 yX2_madeOf wsX2_madeOf) := goodIn_app (goodIn_of _ (by decide +kernel)) ggX2_fill_X2_madeOf
theorem dX2_fill_0 : decode cX2_fill 0 = .ok (.iconst 0, 1) := by decide +kernel
theorem dX2_fill_1 : decode cX2_fill 1 = .ok (.istore_n 2, 1) := by decide +kernel
theorem dX2_fill_2 : decode cX2_fill 2 = .ok (.iconst 0, 1) := by decide +kernel
theorem dX2_fill_3 : decode cX2_fill 3 = .ok (.istore_n 3, 1) := by decide +kernel
theorem dX2_fill_4 : decode cX2_fill 4 = .ok (.iload_n 3, 1) := by decide +kernel
theorem dX2_fill_5 : decode cX2_fill 5 = .ok (.bipush 16, 2) := by decide +kernel
theorem dX2_fill_7 : decode cX2_fill 7 = .ok (.if_icmp .ge 82, 3) := by decide +kernel
theorem dX2_fill_10 : decode cX2_fill 10 = .ok (.iconst 0, 1) := by decide +kernel
theorem dX2_fill_11 : decode cX2_fill 11 = .ok (.istore 4, 2) := by decide +kernel
theorem dX2_fill_13 : decode cX2_fill 13 = .ok (.iload 4, 2) := by decide +kernel
theorem dX2_fill_15 : decode cX2_fill 15 = .ok (.sipush 128, 3) := by decide +kernel
theorem dX2_fill_18 : decode cX2_fill 18 = .ok (.if_icmp .ge 65, 3) := by decide +kernel
theorem dX2_fill_21 : decode cX2_fill 21 = .ok (.sipush 2048, 3) := by decide +kernel
theorem dX2_fill_24 : decode cX2_fill 24 = .ok (.iload_n 1, 1) := by decide +kernel
theorem dX2_fill_25 : decode cX2_fill 25 = .ok (.imul, 1) := by decide +kernel
theorem dX2_fill_26 : decode cX2_fill 26 = .ok (.sipush 128, 3) := by decide +kernel
theorem dX2_fill_29 : decode cX2_fill 29 = .ok (.iload_n 3, 1) := by decide +kernel
theorem dX2_fill_30 : decode cX2_fill 30 = .ok (.imul, 1) := by decide +kernel
theorem dX2_fill_31 : decode cX2_fill 31 = .ok (.iadd, 1) := by decide +kernel
theorem dX2_fill_32 : decode cX2_fill 32 = .ok (.iload 4, 2) := by decide +kernel
theorem dX2_fill_34 : decode cX2_fill 34 = .ok (.iadd, 1) := by decide +kernel
theorem dX2_fill_35 : decode cX2_fill 35 = .ok (.istore 5, 2) := by decide +kernel
theorem dX2_fill_37 : decode cX2_fill 37 = .ok (.iload_n 3, 1) := by decide +kernel
theorem dX2_fill_38 : decode cX2_fill 38 = .ok (.iload 4, 2) := by decide +kernel
theorem dX2_fill_40 : decode cX2_fill 40 = .ok (.bipush 64, 2) := by decide +kernel
theorem dX2_fill_42 : decode cX2_fill 42 = .ok (.isub, 1) := by decide +kernel
theorem dX2_fill_43 : decode cX2_fill 43 = .ok (.invokestatic 52, 3) := by decide +kernel
theorem dX2_fill_46 : decode cX2_fill 46 = .ok (.istore 6, 2) := by decide +kernel
theorem dX2_fill_48 : decode cX2_fill 48 = .ok (.iload_n 2, 1) := by decide +kernel
theorem dX2_fill_49 : decode cX2_fill 49 = .ok (.aload_n 0, 1) := by decide +kernel
theorem dX2_fill_50 : decode cX2_fill 50 = .ok (.getfield 7, 3) := by decide +kernel
theorem dX2_fill_53 : decode cX2_fill 53 = .ok (.iload 5, 2) := by decide +kernel
theorem dX2_fill_55 : decode cX2_fill 55 = .ok (.iaload, 1) := by decide +kernel
theorem dX2_fill_56 : decode cX2_fill 56 = .ok (.iload 6, 2) := by decide +kernel
theorem dX2_fill_58 : decode cX2_fill 58 = .ok (.if_icmp .ne 7, 3) := by decide +kernel
theorem dX2_fill_61 : decode cX2_fill 61 = .ok (.iconst 0, 1) := by decide +kernel
theorem dX2_fill_62 : decode cX2_fill 62 = .ok (.goto 4, 3) := by decide +kernel
theorem dX2_fill_65 : decode cX2_fill 65 = .ok (.iconst 1, 1) := by decide +kernel
theorem dX2_fill_66 : decode cX2_fill 66 = .ok (.iadd, 1) := by decide +kernel
theorem dX2_fill_67 : decode cX2_fill 67 = .ok (.istore_n 2, 1) := by decide +kernel
theorem dX2_fill_68 : decode cX2_fill 68 = .ok (.aload_n 0, 1) := by decide +kernel
theorem dX2_fill_69 : decode cX2_fill 69 = .ok (.getfield 7, 3) := by decide +kernel
theorem dX2_fill_72 : decode cX2_fill 72 = .ok (.iload 5, 2) := by decide +kernel
theorem dX2_fill_74 : decode cX2_fill 74 = .ok (.iload 6, 2) := by decide +kernel
theorem dX2_fill_76 : decode cX2_fill 76 = .ok (.iastore, 1) := by decide +kernel
theorem dX2_fill_77 : decode cX2_fill 77 = .ok (.iinc 4 1, 3) := by decide +kernel
theorem dX2_fill_80 : decode cX2_fill 80 = .ok (.goto (-67), 3) := by decide +kernel
theorem dX2_fill_83 : decode cX2_fill 83 = .ok (.iinc 3 1, 3) := by decide +kernel
theorem dX2_fill_86 : decode cX2_fill 86 = .ok (.goto (-82), 3) := by decide +kernel
theorem dX2_fill_89 : decode cX2_fill 89 = .ok (.iload_n 2, 1) := by decide +kernel
theorem dX2_fill_90 : decode cX2_fill 90 = .ok (.ireturn, 1) := by decide +kernel
set_option maxRecDepth 20000 in
theorem ggX2_isTable_X2_in : GoodIn wsX2_isTable wsX2_in := goodIn_r _ [4] (by decide +kernel) (by decide +kernel)
set_option maxRecDepth 20000 in
theorem gX2_isTable_X2_in : GoodIn wsX2_isTable (va_wsS RX2 56 yX2_in wsX2_in) := goodIn_app (goodIn_of _ (by decide +kernel)) ggX2_isTable_X2_in
theorem dX2_isTable_0 : decode cX2_isTable 0 = .ok (.iload_n 0, 1) := by decide +kernel
theorem dX2_isTable_1 : decode cX2_isTable 1 = .ok (.iconst 0, 1) := by decide +kernel
theorem dX2_isTable_2 : decode cX2_isTable 2 = .ok (.iconst 3, 1) := by decide +kernel
theorem dX2_isTable_3 : decode cX2_isTable 3 = .ok (.invokestatic 56, 3) := by decide +kernel
theorem dX2_isTable_6 : decode cX2_isTable 6 = .ok (.ireturn, 1) := by decide +kernel
set_option maxRecDepth 20000 in
theorem ggX2_isCell_X2_in : GoodIn wsX2_isCell wsX2_in := goodIn_r _ [4] (by decide +kernel) (by decide +kernel)
set_option maxRecDepth 20000 in
theorem gX2_isCell_X2_in : GoodIn wsX2_isCell (va_wsS RX2 56 yX2_in wsX2_in) := goodIn_app (goodIn_of _ (by decide +kernel)) ggX2_isCell_X2_in
theorem dX2_isCell_0 : decode cX2_isCell 0 = .ok (.iload_n 0, 1) := by decide +kernel
theorem dX2_isCell_1 : decode cX2_isCell 1 = .ok (.iconst 0, 1) := by decide +kernel
theorem dX2_isCell_2 : decode cX2_isCell 2 = .ok (.bipush 15, 2) := by decide +kernel
theorem dX2_isCell_4 : decode cX2_isCell 4 = .ok (.invokestatic 56, 3) := by decide +kernel
theorem dX2_isCell_7 : decode cX2_isCell 7 = .ok (.ifCond .eq 18, 3) := by decide +kernel
theorem dX2_isCell_10 : decode cX2_isCell 10 = .ok (.iload_n 1, 1) := by decide +kernel
theorem dX2_isCell_11 : decode cX2_isCell 11 = .ok (.bipush (-64), 2) := by decide +kernel
theorem dX2_isCell_13 : decode cX2_isCell 13 = .ok (.bipush 63, 2) := by decide +kernel
theorem dX2_isCell_15 : decode cX2_isCell 15 = .ok (.invokestatic 56, 3) := by decide +kernel
theorem dX2_isCell_18 : decode cX2_isCell 18 = .ok (.ifCond .eq 7, 3) := by decide +kernel
theorem dX2_isCell_21 : decode cX2_isCell 21 = .ok (.iconst 1, 1) := by decide +kernel
theorem dX2_isCell_22 : decode cX2_isCell 22 = .ok (.goto 4, 3) := by decide +kernel
theorem dX2_isCell_25 : decode cX2_isCell 25 = .ok (.iconst 0, 1) := by decide +kernel
theorem dX2_isCell_26 : decode cX2_isCell 26 = .ok (.ireturn, 1) := by decide +kernel
theorem dX2_cellAt_0 : decode cX2_cellAt 0 = .ok (.sipush 2048, 3) := by decide +kernel
theorem dX2_cellAt_3 : decode cX2_cellAt 3 = .ok (.iload_n 0, 1) := by decide +kernel
theorem dX2_cellAt_4 : decode cX2_cellAt 4 = .ok (.imul, 1) := by decide +kernel
theorem dX2_cellAt_5 : decode cX2_cellAt 5 = .ok (.sipush 128, 3) := by decide +kernel
theorem dX2_cellAt_8 : decode cX2_cellAt 8 = .ok (.iload_n 1, 1) := by decide +kernel
theorem dX2_cellAt_9 : decode cX2_cellAt 9 = .ok (.imul, 1) := by decide +kernel
theorem dX2_cellAt_10 : decode cX2_cellAt 10 = .ok (.iadd, 1) := by decide +kernel
theorem dX2_cellAt_11 : decode cX2_cellAt 11 = .ok (.iload_n 2, 1) := by decide +kernel
theorem dX2_cellAt_12 : decode cX2_cellAt 12 = .ok (.iadd, 1) := by decide +kernel
theorem dX2_cellAt_13 : decode cX2_cellAt 13 = .ok (.bipush 64, 2) := by decide +kernel
theorem dX2_cellAt_15 : decode cX2_cellAt 15 = .ok (.iadd, 1) := by decide +kernel
theorem dX2_cellAt_16 : decode cX2_cellAt 16 = .ok (.ireturn, 1) := by decide +kernel
set_option maxRecDepth 20000 in
theorem ggX2_digit_X2_isTable : GoodIn wsX2_digit wsX2_isTable := goodIn_r _ [5, 6, 7, 4, 8] (by decide +kernel) (by decide +kernel)
set_option maxRecDepth 20000 in
theorem gX2_digit_X2_isTable : GoodIn wsX2_digit (va_wsS RX2 59 yX2_isTable wsX2_isTable) := goodIn_app (goodIn_of _ (by decide +kernel)) ggX2_digit_X2_isTable
set_option maxRecDepth 20000 in
theorem ggX2_digit_X2_isCell : GoodIn wsX2_digit wsX2_isCell := goodIn_r _ [11, 6, 7, 4, 8] (by decide +kernel) (by decide +kernel)
set_option maxRecDepth 20000 in
theorem gX2_digit_X2_isCell : GoodIn wsX2_digit (va_wsS RX2 63 yX2_isCell wsX2_isCell) := goodIn_app (goodIn_of _ (by decide +kernel)) ggX2_digit_X2_isCell
set_option maxRecDepth 20000 in
theorem ggX2_digit_X2_cellAt : GoodIn wsX2_digit wsX2_cellAt := goodIn_r _ [14] (by decide +kernel) (by decide +kernel)
set_option maxRecDepth 20000 in
theorem gX2_digit_X2_cellAt : GoodIn wsX2_digit (va_wsS RX2 67 yX2_cellAt wsX2_cellAt) := goodIn_app (goodIn_of _ (by decide +kernel)) ggX2_digit_X2_cellAt
theorem dX2_digit_0 : decode cX2_digit 0 = .ok (.iload_n 1, 1) := by decide +kernel
theorem dX2_digit_1 : decode cX2_digit 1 = .ok (.invokestatic 59, 3) := by decide +kernel
theorem dX2_digit_4 : decode cX2_digit 4 = .ok (.ifCond .eq 25, 3) := by decide +kernel
theorem dX2_digit_7 : decode cX2_digit 7 = .ok (.iload_n 2, 1) := by decide +kernel
theorem dX2_digit_8 : decode cX2_digit 8 = .ok (.iload_n 3, 1) := by decide +kernel
theorem dX2_digit_9 : decode cX2_digit 9 = .ok (.invokestatic 63, 3) := by decide +kernel
theorem dX2_digit_12 : decode cX2_digit 12 = .ok (.ifCond .eq 17, 3) := by decide +kernel
theorem dX2_digit_15 : decode cX2_digit 15 = .ok (.aload_n 0, 1) := by decide +kernel
theorem dX2_digit_16 : decode cX2_digit 16 = .ok (.getfield 7, 3) := by decide +kernel
theorem dX2_digit_19 : decode cX2_digit 19 = .ok (.iload_n 1, 1) := by decide +kernel
theorem dX2_digit_20 : decode cX2_digit 20 = .ok (.iload_n 2, 1) := by decide +kernel
theorem dX2_digit_21 : decode cX2_digit 21 = .ok (.iload_n 3, 1) := by decide +kernel
theorem dX2_digit_22 : decode cX2_digit 22 = .ok (.invokestatic 67, 3) := by decide +kernel
theorem dX2_digit_25 : decode cX2_digit 25 = .ok (.iaload, 1) := by decide +kernel
theorem dX2_digit_26 : decode cX2_digit 26 = .ok (.goto 5, 3) := by decide +kernel
theorem dX2_digit_29 : decode cX2_digit 29 = .ok (.bipush (-101), 2) := by decide +kernel
theorem dX2_digit_31 : decode cX2_digit 31 = .ok (.ireturn, 1) := by decide +kernel
set_option maxRecDepth 20000 in
theorem ggX2_set_X2_isTable : GoodIn wsX2_set wsX2_isTable := goodIn_r _ [5, 6, 7, 4, 8] (by decide +kernel) (by decide +kernel)
set_option maxRecDepth 20000 in
theorem gX2_set_X2_isTable : GoodIn wsX2_set (va_wsS RX2 59 yX2_isTable wsX2_isTable) := goodIn_app (goodIn_of _ (by decide +kernel)) ggX2_set_X2_isTable
set_option maxRecDepth 20000 in
theorem ggX2_set_X2_isCell : GoodIn wsX2_set wsX2_isCell := goodIn_r _ [11, 6, 7, 4, 8] (by decide +kernel) (by decide +kernel)
set_option maxRecDepth 20000 in
theorem gX2_set_X2_isCell : GoodIn wsX2_set (va_wsS RX2 63 yX2_isCell wsX2_isCell) := goodIn_app (goodIn_of _ (by decide +kernel)) ggX2_set_X2_isCell
set_option maxRecDepth 20000 in
theorem ggX2_set_X2_in : GoodIn wsX2_set wsX2_in := goodIn_r _ [8] (by decide +kernel) (by decide +kernel)
set_option maxRecDepth 20000 in
theorem gX2_set_X2_in : GoodIn wsX2_set (va_wsS RX2 56 yX2_in wsX2_in) := goodIn_app (goodIn_of _ (by decide +kernel)) ggX2_set_X2_in
set_option maxRecDepth 20000 in
theorem ggX2_set_X2_cellAt : GoodIn wsX2_set wsX2_cellAt := goodIn_r _ [14] (by decide +kernel) (by decide +kernel)
set_option maxRecDepth 20000 in
theorem gX2_set_X2_cellAt : GoodIn wsX2_set (va_wsS RX2 67 yX2_cellAt wsX2_cellAt) := goodIn_app (goodIn_of _ (by decide +kernel)) ggX2_set_X2_cellAt
theorem dX2_set_0 : decode cX2_set 0 = .ok (.iload_n 1, 1) := by decide +kernel
theorem dX2_set_1 : decode cX2_set 1 = .ok (.invokestatic 59, 3) := by decide +kernel
theorem dX2_set_4 : decode cX2_set 4 = .ok (.ifCond .eq 22, 3) := by decide +kernel
theorem dX2_set_7 : decode cX2_set 7 = .ok (.iload_n 2, 1) := by decide +kernel
theorem dX2_set_8 : decode cX2_set 8 = .ok (.iload_n 3, 1) := by decide +kernel
theorem dX2_set_9 : decode cX2_set 9 = .ok (.invokestatic 63, 3) := by decide +kernel
theorem dX2_set_12 : decode cX2_set 12 = .ok (.ifCond .eq 14, 3) := by decide +kernel
theorem dX2_set_15 : decode cX2_set 15 = .ok (.iload 4, 2) := by decide +kernel
theorem dX2_set_17 : decode cX2_set 17 = .ok (.bipush (-2), 2) := by decide +kernel
theorem dX2_set_19 : decode cX2_set 19 = .ok (.iconst 2, 1) := by decide +kernel
theorem dX2_set_20 : decode cX2_set 20 = .ok (.invokestatic 56, 3) := by decide +kernel
theorem dX2_set_23 : decode cX2_set 23 = .ok (.ifCond .ne 6, 3) := by decide +kernel
theorem dX2_set_26 : decode cX2_set 26 = .ok (.bipush (-101), 2) := by decide +kernel
theorem dX2_set_28 : decode cX2_set 28 = .ok (.ireturn, 1) := by decide +kernel
theorem dX2_set_29 : decode cX2_set 29 = .ok (.iload_n 1, 1) := by decide +kernel
theorem dX2_set_30 : decode cX2_set 30 = .ok (.iload_n 2, 1) := by decide +kernel
theorem dX2_set_31 : decode cX2_set 31 = .ok (.iload_n 3, 1) := by decide +kernel
theorem dX2_set_32 : decode cX2_set 32 = .ok (.invokestatic 67, 3) := by decide +kernel
theorem dX2_set_35 : decode cX2_set 35 = .ok (.istore 5, 2) := by decide +kernel
theorem dX2_set_37 : decode cX2_set 37 = .ok (.aload_n 0, 1) := by decide +kernel
theorem dX2_set_38 : decode cX2_set 38 = .ok (.getfield 7, 3) := by decide +kernel
theorem dX2_set_41 : decode cX2_set 41 = .ok (.iload 5, 2) := by decide +kernel
theorem dX2_set_43 : decode cX2_set 43 = .ok (.iaload, 1) := by decide +kernel
theorem dX2_set_44 : decode cX2_set 44 = .ok (.istore 6, 2) := by decide +kernel
theorem dX2_set_46 : decode cX2_set 46 = .ok (.aload_n 0, 1) := by decide +kernel
theorem dX2_set_47 : decode cX2_set 47 = .ok (.getfield 7, 3) := by decide +kernel
theorem dX2_set_50 : decode cX2_set 50 = .ok (.iload 5, 2) := by decide +kernel
theorem dX2_set_52 : decode cX2_set 52 = .ok (.iload 4, 2) := by decide +kernel
theorem dX2_set_54 : decode cX2_set 54 = .ok (.iastore, 1) := by decide +kernel
theorem dX2_set_55 : decode cX2_set 55 = .ok (.iload 6, 2) := by decide +kernel
theorem dX2_set_57 : decode cX2_set 57 = .ok (.ireturn, 1) := by decide +kernel
set_option maxRecDepth 20000 in
theorem ggX2_make_X2_isTable : GoodIn wsX2_make wsX2_isTable := goodIn_r _ [4, 5, 6, 3, 7] (by decide +kernel) (by decide +kernel)
set_option maxRecDepth 20000 in
theorem gX2_make_X2_isTable : GoodIn wsX2_make (va_wsS RX2 59 yX2_isTable wsX2_isTable) := goodIn_app (goodIn_of _ (by decide +kernel)) ggX2_make_X2_isTable
set_option maxRecDepth 20000 in
theorem ggX2_make_X2_fill : GoodIn wsX2_make wsX2_fill := goodIn_r _ [11, 12, 13, 14, 3, 15, 16, 17, 18, 19, 20, 21, 22, 23, 24, 25, 26, 27, 28, 29, 30, 31, 32, 33, 34, 35, 36, 37, 38, 39, 40, 41, 42] (by decide +kernel) (by decide +kernel)
set_option maxRecDepth 20000 in
theorem gX2_make_X2_fill : GoodIn wsX2_make (wsV RX2 38 RX2 yX2_fill wsX2_fill) := goodIn_app (goodIn_of _ (by decide +kernel)) ggX2_make_X2_fill
theorem dX2_make_0 : decode cX2_make 0 = .ok (.iload_n 1, 1) := by decide +kernel
theorem dX2_make_1 : decode cX2_make 1 = .ok (.invokestatic 59, 3) := by decide +kernel
theorem dX2_make_4 : decode cX2_make 4 = .ok (.ifCond .eq 11, 3) := by decide +kernel
theorem dX2_make_7 : decode cX2_make 7 = .ok (.aload_n 0, 1) := by decide +kernel
theorem dX2_make_8 : decode cX2_make 8 = .ok (.iload_n 1, 1) := by decide +kernel
theorem dX2_make_9 : decode cX2_make 9 = .ok (.invokevirtual 38, 3) := by decide +kernel
theorem dX2_make_12 : decode cX2_make 12 = .ok (.goto 4, 3) := by decide +kernel
theorem dX2_make_15 : decode cX2_make 15 = .ok (.iconst (-1), 1) := by decide +kernel
theorem dX2_make_16 : decode cX2_make 16 = .ok (.ireturn, 1) := by decide +kernel
set_option maxRecDepth 20000 in
theorem ggX2_copy_X2_isTable : GoodIn wsX2_copy wsX2_isTable := goodIn_r _ [5, 6, 7, 4, 8] (by decide +kernel) (by decide +kernel)
set_option maxRecDepth 20000 in
theorem gX2_copy_X2_isTable : GoodIn wsX2_copy (va_wsS RX2 59 yX2_isTable wsX2_isTable) := goodIn_app (goodIn_of _ (by decide +kernel)) ggX2_copy_X2_isTable
theorem dX2_copy_0 : decode cX2_copy 0 = .ok (.iload_n 1, 1) := by decide +kernel
theorem dX2_copy_1 : decode cX2_copy 1 = .ok (.invokestatic 59, 3) := by decide +kernel
theorem dX2_copy_4 : decode cX2_copy 4 = .ok (.ifCond .eq 10, 3) := by decide +kernel
theorem dX2_copy_7 : decode cX2_copy 7 = .ok (.iload_n 2, 1) := by decide +kernel
theorem dX2_copy_8 : decode cX2_copy 8 = .ok (.invokestatic 59, 3) := by decide +kernel
theorem dX2_copy_11 : decode cX2_copy 11 = .ok (.ifCond .ne 5, 3) := by decide +kernel
theorem dX2_copy_14 : decode cX2_copy 14 = .ok (.iconst (-1), 1) := by decide +kernel
theorem dX2_copy_15 : decode cX2_copy 15 = .ok (.ireturn, 1) := by decide +kernel
theorem dX2_copy_16 : decode cX2_copy 16 = .ok (.iconst 0, 1) := by decide +kernel
theorem dX2_copy_17 : decode cX2_copy 17 = .ok (.istore_n 3, 1) := by decide +kernel
theorem dX2_copy_18 : decode cX2_copy 18 = .ok (.iconst 0, 1) := by decide +kernel
theorem dX2_copy_19 : decode cX2_copy 19 = .ok (.istore 4, 2) := by decide +kernel
theorem dX2_copy_21 : decode cX2_copy 21 = .ok (.iload 4, 2) := by decide +kernel
theorem dX2_copy_23 : decode cX2_copy 23 = .ok (.sipush 2048, 3) := by decide +kernel
theorem dX2_copy_26 : decode cX2_copy 26 = .ok (.if_icmp .ge 72, 3) := by decide +kernel
theorem dX2_copy_29 : decode cX2_copy 29 = .ok (.iload_n 3, 1) := by decide +kernel
theorem dX2_copy_30 : decode cX2_copy 30 = .ok (.aload_n 0, 1) := by decide +kernel
theorem dX2_copy_31 : decode cX2_copy 31 = .ok (.getfield 7, 3) := by decide +kernel
theorem dX2_copy_34 : decode cX2_copy 34 = .ok (.sipush 2048, 3) := by decide +kernel
theorem dX2_copy_37 : decode cX2_copy 37 = .ok (.iload_n 2, 1) := by decide +kernel
theorem dX2_copy_38 : decode cX2_copy 38 = .ok (.imul, 1) := by decide +kernel
theorem dX2_copy_39 : decode cX2_copy 39 = .ok (.iload 4, 2) := by decide +kernel
theorem dX2_copy_41 : decode cX2_copy 41 = .ok (.iadd, 1) := by decide +kernel
theorem dX2_copy_42 : decode cX2_copy 42 = .ok (.iaload, 1) := by decide +kernel
theorem dX2_copy_43 : decode cX2_copy 43 = .ok (.aload_n 0, 1) := by decide +kernel
theorem dX2_copy_44 : decode cX2_copy 44 = .ok (.getfield 7, 3) := by decide +kernel
theorem dX2_copy_47 : decode cX2_copy 47 = .ok (.sipush 2048, 3) := by decide +kernel
theorem dX2_copy_50 : decode cX2_copy 50 = .ok (.iload_n 1, 1) := by decide +kernel
theorem dX2_copy_51 : decode cX2_copy 51 = .ok (.imul, 1) := by decide +kernel
theorem dX2_copy_52 : decode cX2_copy 52 = .ok (.iload 4, 2) := by decide +kernel
theorem dX2_copy_54 : decode cX2_copy 54 = .ok (.iadd, 1) := by decide +kernel
theorem dX2_copy_55 : decode cX2_copy 55 = .ok (.iaload, 1) := by decide +kernel
theorem dX2_copy_56 : decode cX2_copy 56 = .ok (.if_icmp .ne 7, 3) := by decide +kernel
theorem dX2_copy_59 : decode cX2_copy 59 = .ok (.iconst 0, 1) := by decide +kernel
theorem dX2_copy_60 : decode cX2_copy 60 = .ok (.goto 4, 3) := by decide +kernel
theorem dX2_copy_63 : decode cX2_copy 63 = .ok (.iconst 1, 1) := by decide +kernel
theorem dX2_copy_64 : decode cX2_copy 64 = .ok (.iadd, 1) := by decide +kernel
theorem dX2_copy_65 : decode cX2_copy 65 = .ok (.istore_n 3, 1) := by decide +kernel
theorem dX2_copy_66 : decode cX2_copy 66 = .ok (.aload_n 0, 1) := by decide +kernel
theorem dX2_copy_67 : decode cX2_copy 67 = .ok (.getfield 7, 3) := by decide +kernel
theorem dX2_copy_70 : decode cX2_copy 70 = .ok (.sipush 2048, 3) := by decide +kernel
theorem dX2_copy_73 : decode cX2_copy 73 = .ok (.iload_n 2, 1) := by decide +kernel
theorem dX2_copy_74 : decode cX2_copy 74 = .ok (.imul, 1) := by decide +kernel
theorem dX2_copy_75 : decode cX2_copy 75 = .ok (.iload 4, 2) := by decide +kernel
theorem dX2_copy_77 : decode cX2_copy 77 = .ok (.iadd, 1) := by decide +kernel
theorem dX2_copy_78 : decode cX2_copy 78 = .ok (.aload_n 0, 1) := by decide +kernel
theorem dX2_copy_79 : decode cX2_copy 79 = .ok (.getfield 7, 3) := by decide +kernel
theorem dX2_copy_82 : decode cX2_copy 82 = .ok (.sipush 2048, 3) := by decide +kernel
theorem dX2_copy_85 : decode cX2_copy 85 = .ok (.iload_n 1, 1) := by decide +kernel
theorem dX2_copy_86 : decode cX2_copy 86 = .ok (.imul, 1) := by decide +kernel
theorem dX2_copy_87 : decode cX2_copy 87 = .ok (.iload 4, 2) := by decide +kernel
theorem dX2_copy_89 : decode cX2_copy 89 = .ok (.iadd, 1) := by decide +kernel
theorem dX2_copy_90 : decode cX2_copy 90 = .ok (.iaload, 1) := by decide +kernel
theorem dX2_copy_91 : decode cX2_copy 91 = .ok (.iastore, 1) := by decide +kernel
theorem dX2_copy_92 : decode cX2_copy 92 = .ok (.iinc 4 1, 3) := by decide +kernel
theorem dX2_copy_95 : decode cX2_copy 95 = .ok (.goto (-74), 3) := by decide +kernel
theorem dX2_copy_98 : decode cX2_copy 98 = .ok (.iload_n 3, 1) := by decide +kernel
theorem dX2_copy_99 : decode cX2_copy 99 = .ok (.ireturn, 1) := by decide +kernel
set_option maxRecDepth 20000 in
theorem ggX2_good_X2_isCell : GoodIn wsX2_good wsX2_isCell := goodIn_r _ [4, 5, 6, 3, 7] (by decide +kernel) (by decide +kernel)
set_option maxRecDepth 20000 in
theorem gX2_good_X2_isCell : GoodIn wsX2_good (va_wsS RX2 63 yX2_isCell wsX2_isCell) := goodIn_app (goodIn_of _ (by decide +kernel)) ggX2_good_X2_isCell
set_option maxRecDepth 20000 in
theorem ggX2_good_X2_in : GoodIn wsX2_good wsX2_in := goodIn_r _ [7] (by decide +kernel) (by decide +kernel)
set_option maxRecDepth 20000 in
theorem gX2_good_X2_in : GoodIn wsX2_good (va_wsS RX2 56 yX2_in wsX2_in) := goodIn_app (goodIn_of _ (by decide +kernel)) ggX2_good_X2_in
set_option maxRecDepth 20000 in
theorem ggX2_good_X2_isGood : GoodIn wsX2_good wsX2_isGood := goodIn_r _ [10, 11, 12, 3, 13, 14, 15, 16] (by decide +kernel) (by decide +kernel)
set_option maxRecDepth 20000 in
theorem gX2_good_X2_isGood : GoodIn wsX2_good (va_wsS RX2 49 yX2_isGood wsX2_isGood) := goodIn_app (goodIn_of _ (by decide +kernel)) ggX2_good_X2_isGood
theorem dX2_good_0 : decode cX2_good 0 = .ok (.iload_n 1, 1) := by decide +kernel
theorem dX2_good_1 : decode cX2_good 1 = .ok (.iload_n 2, 1) := by decide +kernel
theorem dX2_good_2 : decode cX2_good 2 = .ok (.invokestatic 63, 3) := by decide +kernel
theorem dX2_good_5 : decode cX2_good 5 = .ok (.ifCond .eq 13, 3) := by decide +kernel
theorem dX2_good_8 : decode cX2_good 8 = .ok (.iload_n 3, 1) := by decide +kernel
theorem dX2_good_9 : decode cX2_good 9 = .ok (.bipush (-2), 2) := by decide +kernel
theorem dX2_good_11 : decode cX2_good 11 = .ok (.iconst 2, 1) := by decide +kernel
theorem dX2_good_12 : decode cX2_good 12 = .ok (.invokestatic 56, 3) := by decide +kernel
theorem dX2_good_15 : decode cX2_good 15 = .ok (.ifCond .ne 7, 3) := by decide +kernel
theorem dX2_good_18 : decode cX2_good 18 = .ok (.iconst (-1), 1) := by decide +kernel
theorem dX2_good_19 : decode cX2_good 19 = .ok (.goto 17, 3) := by decide +kernel
theorem dX2_good_22 : decode cX2_good 22 = .ok (.iload_n 1, 1) := by decide +kernel
theorem dX2_good_23 : decode cX2_good 23 = .ok (.iload_n 2, 1) := by decide +kernel
theorem dX2_good_24 : decode cX2_good 24 = .ok (.iload_n 3, 1) := by decide +kernel
theorem dX2_good_25 : decode cX2_good 25 = .ok (.invokestatic 49, 3) := by decide +kernel
theorem dX2_good_28 : decode cX2_good 28 = .ok (.ifCond .eq 7, 3) := by decide +kernel
theorem dX2_good_31 : decode cX2_good 31 = .ok (.iconst 1, 1) := by decide +kernel
theorem dX2_good_32 : decode cX2_good 32 = .ok (.goto 4, 3) := by decide +kernel
theorem dX2_good_35 : decode cX2_good 35 = .ok (.iconst 0, 1) := by decide +kernel
theorem dX2_good_36 : decode cX2_good 36 = .ok (.ireturn, 1) := by decide +kernel
set_option maxRecDepth 20000 in
theorem ggX2_holds_X2_isCell : GoodIn wsX2_holds wsX2_isCell := goodIn_r _ [4, 5, 6, 3, 7] (by decide +kernel) (by decide +kernel)
set_option maxRecDepth 20000 in
theorem gX2_holds_X2_isCell : GoodIn wsX2_holds (va_wsS RX2 63 yX2_isCell wsX2_isCell) := goodIn_app (goodIn_of _ (by decide +kernel)) ggX2_holds_X2_isCell
set_option maxRecDepth 20000 in
theorem ggX2_holds_X2_isHeld : GoodIn wsX2_holds wsX2_isHeld := goodIn_r _ [10] (by decide +kernel) (by decide +kernel)
set_option maxRecDepth 20000 in
theorem gX2_holds_X2_isHeld : GoodIn wsX2_holds (va_wsS RX2 71 yX2_isHeld wsX2_isHeld) := goodIn_app (goodIn_of _ (by decide +kernel)) ggX2_holds_X2_isHeld
theorem dX2_holds_0 : decode cX2_holds 0 = .ok (.iload_n 1, 1) := by decide +kernel
theorem dX2_holds_1 : decode cX2_holds 1 = .ok (.iload_n 2, 1) := by decide +kernel
theorem dX2_holds_2 : decode cX2_holds 2 = .ok (.invokestatic 63, 3) := by decide +kernel
theorem dX2_holds_5 : decode cX2_holds 5 = .ok (.ifCond .ne 7, 3) := by decide +kernel
theorem dX2_holds_8 : decode cX2_holds 8 = .ok (.iconst (-1), 1) := by decide +kernel
theorem dX2_holds_9 : decode cX2_holds 9 = .ok (.goto 16, 3) := by decide +kernel
theorem dX2_holds_12 : decode cX2_holds 12 = .ok (.iload_n 1, 1) := by decide +kernel
theorem dX2_holds_13 : decode cX2_holds 13 = .ok (.iload_n 2, 1) := by decide +kernel
theorem dX2_holds_14 : decode cX2_holds 14 = .ok (.invokestatic 71, 3) := by decide +kernel
theorem dX2_holds_17 : decode cX2_holds 17 = .ok (.ifCond .eq 7, 3) := by decide +kernel
theorem dX2_holds_20 : decode cX2_holds 20 = .ok (.iconst 1, 1) := by decide +kernel
theorem dX2_holds_21 : decode cX2_holds 21 = .ok (.goto 4, 3) := by decide +kernel
theorem dX2_holds_24 : decode cX2_holds 24 = .ok (.iconst 0, 1) := by decide +kernel
theorem dX2_holds_25 : decode cX2_holds 25 = .ok (.ireturn, 1) := by decide +kernel
set_option maxRecDepth 20000 in
theorem ggX2_isWrong_X2_isGood : GoodIn wsX2_isWrong wsX2_isGood := goodIn_r _ [5, 6, 7, 4, 8, 9, 10, 11] (by decide +kernel) (by decide +kernel)
set_option maxRecDepth 20000 in
theorem gX2_isWrong_X2_isGood : GoodIn wsX2_isWrong (va_wsS RX2 49 yX2_isGood wsX2_isGood) := goodIn_app (goodIn_of _ (by decide +kernel)) ggX2_isWrong_X2_isGood
theorem dX2_isWrong_0 : decode cX2_isWrong 0 = .ok (.iload_n 2, 1) := by decide +kernel
theorem dX2_isWrong_1 : decode cX2_isWrong 1 = .ok (.sipush 128, 3) := by decide +kernel
theorem dX2_isWrong_4 : decode cX2_isWrong 4 = .ok (.idiv, 1) := by decide +kernel
theorem dX2_isWrong_5 : decode cX2_isWrong 5 = .ok (.iload_n 2, 1) := by decide +kernel
theorem dX2_isWrong_6 : decode cX2_isWrong 6 = .ok (.sipush 128, 3) := by decide +kernel
theorem dX2_isWrong_9 : decode cX2_isWrong 9 = .ok (.irem, 1) := by decide +kernel
theorem dX2_isWrong_10 : decode cX2_isWrong 10 = .ok (.bipush 64, 2) := by decide +kernel
theorem dX2_isWrong_12 : decode cX2_isWrong 12 = .ok (.isub, 1) := by decide +kernel
theorem dX2_isWrong_13 : decode cX2_isWrong 13 = .ok (.aload_n 0, 1) := by decide +kernel
theorem dX2_isWrong_14 : decode cX2_isWrong 14 = .ok (.getfield 7, 3) := by decide +kernel
theorem dX2_isWrong_17 : decode cX2_isWrong 17 = .ok (.sipush 2048, 3) := by decide +kernel
theorem dX2_isWrong_20 : decode cX2_isWrong 20 = .ok (.iload_n 1, 1) := by decide +kernel
theorem dX2_isWrong_21 : decode cX2_isWrong 21 = .ok (.imul, 1) := by decide +kernel
theorem dX2_isWrong_22 : decode cX2_isWrong 22 = .ok (.iload_n 2, 1) := by decide +kernel
theorem dX2_isWrong_23 : decode cX2_isWrong 23 = .ok (.iadd, 1) := by decide +kernel
theorem dX2_isWrong_24 : decode cX2_isWrong 24 = .ok (.iaload, 1) := by decide +kernel
theorem dX2_isWrong_25 : decode cX2_isWrong 25 = .ok (.invokestatic 49, 3) := by decide +kernel
theorem dX2_isWrong_28 : decode cX2_isWrong 28 = .ok (.ifCond .ne 7, 3) := by decide +kernel
theorem dX2_isWrong_31 : decode cX2_isWrong 31 = .ok (.iconst 1, 1) := by decide +kernel
theorem dX2_isWrong_32 : decode cX2_isWrong 32 = .ok (.goto 4, 3) := by decide +kernel
theorem dX2_isWrong_35 : decode cX2_isWrong 35 = .ok (.iconst 0, 1) := by decide +kernel
theorem dX2_isWrong_36 : decode cX2_isWrong 36 = .ok (.ireturn, 1) := by decide +kernel
set_option maxRecDepth 20000 in
theorem ggX2_check_X2_isTable : GoodIn wsX2_check wsX2_isTable := goodIn_r _ [4, 5, 6, 3, 7] (by decide +kernel) (by decide +kernel)
set_option maxRecDepth 20000 in
theorem gX2_check_X2_isTable : GoodIn wsX2_check (va_wsS RX2 59 yX2_isTable wsX2_isTable) := goodIn_app (goodIn_of _ (by decide +kernel)) ggX2_check_X2_isTable
set_option maxRecDepth 20000 in
theorem ggX2_check_X2_isWrong : GoodIn wsX2_check wsX2_isWrong := goodIn_r _ [11, 12, 13, 14, 3, 15, 16, 17, 18, 19, 20, 21, 22, 23, 24, 25, 26, 27, 28, 29, 30, 31, 32, 33, 34, 35, 36, 37, 38, 39] (by decide +kernel) (by decide +kernel)
set_option maxRecDepth 20000 in
theorem gX2_check_X2_isWrong : GoodIn wsX2_check (wsV RX2 74 RX2 yX2_isWrong wsX2_isWrong) := goodIn_app (goodIn_of _ (by decide +kernel)) ggX2_check_X2_isWrong
theorem dX2_check_0 : decode cX2_check 0 = .ok (.iload_n 1, 1) := by decide +kernel
theorem dX2_check_1 : decode cX2_check 1 = .ok (.invokestatic 59, 3) := by decide +kernel
theorem dX2_check_4 : decode cX2_check 4 = .ok (.ifCond .ne 5, 3) := by decide +kernel
theorem dX2_check_7 : decode cX2_check 7 = .ok (.iconst (-1), 1) := by decide +kernel
theorem dX2_check_8 : decode cX2_check 8 = .ok (.ireturn, 1) := by decide +kernel
theorem dX2_check_9 : decode cX2_check 9 = .ok (.iconst 0, 1) := by decide +kernel
theorem dX2_check_10 : decode cX2_check 10 = .ok (.istore_n 2, 1) := by decide +kernel
theorem dX2_check_11 : decode cX2_check 11 = .ok (.iconst 0, 1) := by decide +kernel
theorem dX2_check_12 : decode cX2_check 12 = .ok (.istore_n 3, 1) := by decide +kernel
theorem dX2_check_13 : decode cX2_check 13 = .ok (.iload_n 3, 1) := by decide +kernel
theorem dX2_check_14 : decode cX2_check 14 = .ok (.sipush 2048, 3) := by decide +kernel
theorem dX2_check_17 : decode cX2_check 17 = .ok (.if_icmp .ge 26, 3) := by decide +kernel
theorem dX2_check_20 : decode cX2_check 20 = .ok (.iload_n 2, 1) := by decide +kernel
theorem dX2_check_21 : decode cX2_check 21 = .ok (.aload_n 0, 1) := by decide +kernel
theorem dX2_check_22 : decode cX2_check 22 = .ok (.iload_n 1, 1) := by decide +kernel
theorem dX2_check_23 : decode cX2_check 23 = .ok (.iload_n 3, 1) := by decide +kernel
theorem dX2_check_24 : decode cX2_check 24 = .ok (.invokevirtual 74, 3) := by decide +kernel
theorem dX2_check_27 : decode cX2_check 27 = .ok (.ifCond .eq 7, 3) := by decide +kernel
theorem dX2_check_30 : decode cX2_check 30 = .ok (.iconst 1, 1) := by decide +kernel
theorem dX2_check_31 : decode cX2_check 31 = .ok (.goto 4, 3) := by decide +kernel
theorem dX2_check_34 : decode cX2_check 34 = .ok (.iconst 0, 1) := by decide +kernel
theorem dX2_check_35 : decode cX2_check 35 = .ok (.iadd, 1) := by decide +kernel
theorem dX2_check_36 : decode cX2_check 36 = .ok (.istore_n 2, 1) := by decide +kernel
theorem dX2_check_37 : decode cX2_check 37 = .ok (.iinc 3 1, 3) := by decide +kernel
theorem dX2_check_40 : decode cX2_check 40 = .ok (.goto (-27), 3) := by decide +kernel
theorem dX2_check_43 : decode cX2_check 43 = .ok (.iload_n 2, 1) := by decide +kernel
theorem dX2_check_44 : decode cX2_check 44 = .ok (.ireturn, 1) := by decide +kernel
set_option maxRecDepth 20000 in
theorem ggX2_wrong_X2_isTable : GoodIn wsX2_wrong wsX2_isTable := goodIn_r _ [4, 5, 6, 3, 7] (by decide +kernel) (by decide +kernel)
set_option maxRecDepth 20000 in
theorem gX2_wrong_X2_isTable : GoodIn wsX2_wrong (va_wsS RX2 59 yX2_isTable wsX2_isTable) := goodIn_app (goodIn_of _ (by decide +kernel)) ggX2_wrong_X2_isTable
set_option maxRecDepth 20000 in
theorem ggX2_wrong_X2_isWrong : GoodIn wsX2_wrong wsX2_isWrong := goodIn_r _ [11, 12, 13, 14, 3, 15, 16, 17, 18, 19, 20, 21, 22, 23, 24, 25, 26, 27, 28, 29, 30, 31, 32, 33, 34, 35, 36, 37, 38, 39] (by decide +kernel) (by decide +kernel)
set_option maxRecDepth 20000 in
theorem gX2_wrong_X2_isWrong : GoodIn wsX2_wrong (wsV RX2 74 RX2 yX2_isWrong wsX2_isWrong) := goodIn_app (goodIn_of _ (by decide +kernel)) ggX2_wrong_X2_isWrong
theorem dX2_wrong_0 : decode cX2_wrong 0 = .ok (.iload_n 1, 1) := by decide +kernel
theorem dX2_wrong_1 : decode cX2_wrong 1 = .ok (.invokestatic 59, 3) := by decide +kernel
theorem dX2_wrong_4 : decode cX2_wrong 4 = .ok (.ifCond .eq 7, 3) := by decide +kernel
theorem dX2_wrong_7 : decode cX2_wrong 7 = .ok (.iload_n 2, 1) := by decide +kernel
theorem dX2_wrong_8 : decode cX2_wrong 8 = .ok (.ifCond .ge 5, 3) := by decide +kernel
theorem dX2_wrong_11 : decode cX2_wrong 11 = .ok (.iconst (-1), 1) := by decide +kernel
theorem dX2_wrong_12 : decode cX2_wrong 12 = .ok (.ireturn, 1) := by decide +kernel
theorem dX2_wrong_13 : decode cX2_wrong 13 = .ok (.iload_n 2, 1) := by decide +kernel
theorem dX2_wrong_14 : decode cX2_wrong 14 = .ok (.istore_n 3, 1) := by decide +kernel
theorem dX2_wrong_15 : decode cX2_wrong 15 = .ok (.iconst 0, 1) := by decide +kernel
theorem dX2_wrong_16 : decode cX2_wrong 16 = .ok (.istore 4, 2) := by decide +kernel
theorem dX2_wrong_18 : decode cX2_wrong 18 = .ok (.iload 4, 2) := by decide +kernel
theorem dX2_wrong_20 : decode cX2_wrong 20 = .ok (.sipush 2048, 3) := by decide +kernel
theorem dX2_wrong_23 : decode cX2_wrong 23 = .ok (.if_icmp .ge 29, 3) := by decide +kernel
theorem dX2_wrong_26 : decode cX2_wrong 26 = .ok (.aload_n 0, 1) := by decide +kernel
theorem dX2_wrong_27 : decode cX2_wrong 27 = .ok (.iload_n 1, 1) := by decide +kernel
theorem dX2_wrong_28 : decode cX2_wrong 28 = .ok (.iload 4, 2) := by decide +kernel
theorem dX2_wrong_30 : decode cX2_wrong 30 = .ok (.invokevirtual 74, 3) := by decide +kernel
theorem dX2_wrong_33 : decode cX2_wrong 33 = .ok (.ifCond .eq 13, 3) := by decide +kernel
theorem dX2_wrong_36 : decode cX2_wrong 36 = .ok (.iload_n 3, 1) := by decide +kernel
theorem dX2_wrong_37 : decode cX2_wrong 37 = .ok (.ifCond .ne 6, 3) := by decide +kernel
theorem dX2_wrong_40 : decode cX2_wrong 40 = .ok (.iload 4, 2) := by decide +kernel
theorem dX2_wrong_42 : decode cX2_wrong 42 = .ok (.ireturn, 1) := by decide +kernel
theorem dX2_wrong_43 : decode cX2_wrong 43 = .ok (.iinc 3 (-1), 3) := by decide +kernel
theorem dX2_wrong_46 : decode cX2_wrong 46 = .ok (.iinc 4 1, 3) := by decide +kernel
theorem dX2_wrong_49 : decode cX2_wrong 49 = .ok (.goto (-31), 3) := by decide +kernel
theorem dX2_wrong_52 : decode cX2_wrong 52 = .ok (.bipush (-2), 2) := by decide +kernel
theorem dX2_wrong_54 : decode cX2_wrong 54 = .ok (.ireturn, 1) := by decide +kernel
theorem dX2_sizeOf_0 : decode cX2_sizeOf 0 = .ok (.iload_n 0, 1) := by decide +kernel
theorem dX2_sizeOf_1 : decode cX2_sizeOf 1 = .ok (.ifCond .ge 9, 3) := by decide +kernel
theorem dX2_sizeOf_4 : decode cX2_sizeOf 4 = .ok (.iload_n 0, 1) := by decide +kernel
theorem dX2_sizeOf_5 : decode cX2_sizeOf 5 = .ok (.i2l, 1) := by decide +kernel
theorem dX2_sizeOf_6 : decode cX2_sizeOf 6 = .ok (.lneg, 1) := by decide +kernel
theorem dX2_sizeOf_7 : decode cX2_sizeOf 7 = .ok (.goto 5, 3) := by decide +kernel
theorem dX2_sizeOf_10 : decode cX2_sizeOf 10 = .ok (.iload_n 0, 1) := by decide +kernel
theorem dX2_sizeOf_11 : decode cX2_sizeOf 11 = .ok (.i2l, 1) := by decide +kernel
theorem dX2_sizeOf_12 : decode cX2_sizeOf 12 = .ok (.lreturn, 1) := by decide +kernel
theorem dX2_doublings_0 : decode cX2_doublings 0 = .ok (.iconst 0, 1) := by decide +kernel
theorem dX2_doublings_1 : decode cX2_doublings 1 = .ok (.istore_n 2, 1) := by decide +kernel
theorem dX2_doublings_2 : decode cX2_doublings 2 = .ok (.lload_n 0, 1) := by decide +kernel
theorem dX2_doublings_3 : decode cX2_doublings 3 = .ok (.lstore_n 3, 1) := by decide +kernel
theorem dX2_doublings_4 : decode cX2_doublings 4 = .ok (.lload_n 3, 1) := by decide +kernel
theorem dX2_doublings_5 : decode cX2_doublings 5 = .ok (.ldc2_w 77, 3) := by decide +kernel
theorem dX2_doublings_8 : decode cX2_doublings 8 = .ok (.lcmp, 1) := by decide +kernel
theorem dX2_doublings_9 : decode cX2_doublings 9 = .ok (.ifCond .ge 15, 3) := by decide +kernel
theorem dX2_doublings_12 : decode cX2_doublings 12 = .ok (.ldc2_w 79, 3) := by decide +kernel
theorem dX2_doublings_15 : decode cX2_doublings 15 = .ok (.lload_n 3, 1) := by decide +kernel
theorem dX2_doublings_16 : decode cX2_doublings 16 = .ok (.lmul, 1) := by decide +kernel
theorem dX2_doublings_17 : decode cX2_doublings 17 = .ok (.lstore_n 3, 1) := by decide +kernel
theorem dX2_doublings_18 : decode cX2_doublings 18 = .ok (.iinc 2 1, 3) := by decide +kernel
theorem dX2_doublings_21 : decode cX2_doublings 21 = .ok (.goto (-17), 3) := by decide +kernel
theorem dX2_doublings_24 : decode cX2_doublings 24 = .ok (.iload_n 2, 1) := by decide +kernel
theorem dX2_doublings_25 : decode cX2_doublings 25 = .ok (.ireturn, 1) := by decide +kernel
set_option maxRecDepth 20000 in
theorem ggX2_nextDigit_X2_cellAt : GoodIn wsX2_nextDigit wsX2_cellAt := goodIn_r _ [19] (by decide +kernel) (by decide +kernel)
set_option maxRecDepth 20000 in
theorem gX2_nextDigit_X2_cellAt : GoodIn wsX2_nextDigit (va_wsS RX2 67 yX2_cellAt wsX2_cellAt) := goodIn_app (goodIn_of _ (by decide +kernel)) ggX2_nextDigit_X2_cellAt
theorem dX2_nextDigit_0 : decode cX2_nextDigit 0 = .ok (.ldc2_w 81, 3) := by decide +kernel
theorem dX2_nextDigit_3 : decode cX2_nextDigit 3 = .ok (.aload_n 0, 1) := by decide +kernel
theorem dX2_nextDigit_4 : decode cX2_nextDigit 4 = .ok (.getfield 19, 3) := by decide +kernel
theorem dX2_nextDigit_7 : decode cX2_nextDigit 7 = .ok (.iload_n 1, 1) := by decide +kernel
theorem dX2_nextDigit_8 : decode cX2_nextDigit 8 = .ok (.iconst 1, 1) := by decide +kernel
theorem dX2_nextDigit_9 : decode cX2_nextDigit 9 = .ok (.isub, 1) := by decide +kernel
theorem dX2_nextDigit_10 : decode cX2_nextDigit 10 = .ok (.laload, 1) := by decide +kernel
theorem dX2_nextDigit_11 : decode cX2_nextDigit 11 = .ok (.lmul, 1) := by decide +kernel
theorem dX2_nextDigit_12 : decode cX2_nextDigit 12 = .ok (.lstore 4, 2) := by decide +kernel
theorem dX2_nextDigit_14 : decode cX2_nextDigit 14 = .ok (.ldc2_w 81, 3) := by decide +kernel
theorem dX2_nextDigit_17 : decode cX2_nextDigit 17 = .ok (.aload_n 0, 1) := by decide +kernel
theorem dX2_nextDigit_18 : decode cX2_nextDigit 18 = .ok (.getfield 23, 3) := by decide +kernel
theorem dX2_nextDigit_21 : decode cX2_nextDigit 21 = .ok (.iload_n 1, 1) := by decide +kernel
theorem dX2_nextDigit_22 : decode cX2_nextDigit 22 = .ok (.iconst 1, 1) := by decide +kernel
theorem dX2_nextDigit_23 : decode cX2_nextDigit 23 = .ok (.isub, 1) := by decide +kernel
theorem dX2_nextDigit_24 : decode cX2_nextDigit 24 = .ok (.laload, 1) := by decide +kernel
theorem dX2_nextDigit_25 : decode cX2_nextDigit 25 = .ok (.lmul, 1) := by decide +kernel
theorem dX2_nextDigit_26 : decode cX2_nextDigit 26 = .ok (.lstore 6, 2) := by decide +kernel
theorem dX2_nextDigit_28 : decode cX2_nextDigit 28 = .ok (.lload 4, 2) := by decide +kernel
theorem dX2_nextDigit_30 : decode cX2_nextDigit 30 = .ok (.bipush 31, 2) := by decide +kernel
theorem dX2_nextDigit_32 : decode cX2_nextDigit 32 = .ok (.lshr, 1) := by decide +kernel
theorem dX2_nextDigit_33 : decode cX2_nextDigit 33 = .ok (.lload 6, 2) := by decide +kernel
theorem dX2_nextDigit_35 : decode cX2_nextDigit 35 = .ok (.bipush 31, 2) := by decide +kernel
theorem dX2_nextDigit_37 : decode cX2_nextDigit 37 = .ok (.lshr, 1) := by decide +kernel
theorem dX2_nextDigit_38 : decode cX2_nextDigit 38 = .ok (.ladd, 1) := by decide +kernel
theorem dX2_nextDigit_39 : decode cX2_nextDigit 39 = .ok (.l2i, 1) := by decide +kernel
theorem dX2_nextDigit_40 : decode cX2_nextDigit 40 = .ok (.istore 8, 2) := by decide +kernel
theorem dX2_nextDigit_42 : decode cX2_nextDigit 42 = .ok (.iload 8, 2) := by decide +kernel
theorem dX2_nextDigit_44 : decode cX2_nextDigit 44 = .ok (.bipush (-64), 2) := by decide +kernel
theorem dX2_nextDigit_46 : decode cX2_nextDigit 46 = .ok (.if_icmp .ge 8, 3) := by decide +kernel
theorem dX2_nextDigit_49 : decode cX2_nextDigit 49 = .ok (.bipush (-64), 2) := by decide +kernel
theorem dX2_nextDigit_51 : decode cX2_nextDigit 51 = .ok (.goto 17, 3) := by decide +kernel
theorem dX2_nextDigit_54 : decode cX2_nextDigit 54 = .ok (.iload 8, 2) := by decide +kernel
theorem dX2_nextDigit_56 : decode cX2_nextDigit 56 = .ok (.bipush 63, 2) := by decide +kernel
theorem dX2_nextDigit_58 : decode cX2_nextDigit 58 = .ok (.if_icmp .le 8, 3) := by decide +kernel
theorem dX2_nextDigit_61 : decode cX2_nextDigit 61 = .ok (.bipush 63, 2) := by decide +kernel
theorem dX2_nextDigit_63 : decode cX2_nextDigit 63 = .ok (.goto 5, 3) := by decide +kernel
theorem dX2_nextDigit_66 : decode cX2_nextDigit 66 = .ok (.iload 8, 2) := by decide +kernel
theorem dX2_nextDigit_68 : decode cX2_nextDigit 68 = .ok (.istore 9, 2) := by decide +kernel
theorem dX2_nextDigit_70 : decode cX2_nextDigit 70 = .ok (.aload_n 0, 1) := by decide +kernel
theorem dX2_nextDigit_71 : decode cX2_nextDigit 71 = .ok (.getfield 7, 3) := by decide +kernel
theorem dX2_nextDigit_74 : decode cX2_nextDigit 74 = .ok (.aload_n 0, 1) := by decide +kernel
theorem dX2_nextDigit_75 : decode cX2_nextDigit 75 = .ok (.getfield 83, 3) := by decide +kernel
theorem dX2_nextDigit_78 : decode cX2_nextDigit 78 = .ok (.aload_n 0, 1) := by decide +kernel
theorem dX2_nextDigit_79 : decode cX2_nextDigit 79 = .ok (.getfield 87, 3) := by decide +kernel
theorem dX2_nextDigit_82 : decode cX2_nextDigit 82 = .ok (.iload 9, 2) := by decide +kernel
theorem dX2_nextDigit_84 : decode cX2_nextDigit 84 = .ok (.invokestatic 67, 3) := by decide +kernel
theorem dX2_nextDigit_87 : decode cX2_nextDigit 87 = .ok (.iaload, 1) := by decide +kernel
theorem dX2_nextDigit_88 : decode cX2_nextDigit 88 = .ok (.istore 10, 2) := by decide +kernel
theorem dX2_nextDigit_90 : decode cX2_nextDigit 90 = .ok (.ldc2_w 90, 3) := by decide +kernel
theorem dX2_nextDigit_93 : decode cX2_nextDigit 93 = .ok (.iload 10, 2) := by decide +kernel
theorem dX2_nextDigit_95 : decode cX2_nextDigit 95 = .ok (.i2l, 1) := by decide +kernel
theorem dX2_nextDigit_96 : decode cX2_nextDigit 96 = .ok (.lmul, 1) := by decide +kernel
theorem dX2_nextDigit_97 : decode cX2_nextDigit 97 = .ok (.lload_n 2, 1) := by decide +kernel
theorem dX2_nextDigit_98 : decode cX2_nextDigit 98 = .ok (.lmul, 1) := by decide +kernel
theorem dX2_nextDigit_99 : decode cX2_nextDigit 99 = .ok (.lstore 11, 2) := by decide +kernel
theorem dX2_nextDigit_101 : decode cX2_nextDigit 101 = .ok (.aload_n 0, 1) := by decide +kernel
theorem dX2_nextDigit_102 : decode cX2_nextDigit 102 = .ok (.getfield 19, 3) := by decide +kernel
theorem dX2_nextDigit_105 : decode cX2_nextDigit 105 = .ok (.iload_n 1, 1) := by decide +kernel
theorem dX2_nextDigit_106 : decode cX2_nextDigit 106 = .ok (.lload 4, 2) := by decide +kernel
theorem dX2_nextDigit_108 : decode cX2_nextDigit 108 = .ok (.lload 6, 2) := by decide +kernel
theorem dX2_nextDigit_110 : decode cX2_nextDigit 110 = .ok (.lxor, 1) := by decide +kernel
theorem dX2_nextDigit_111 : decode cX2_nextDigit 111 = .ok (.lload 11, 2) := by decide +kernel
theorem dX2_nextDigit_113 : decode cX2_nextDigit 113 = .ok (.lxor, 1) := by decide +kernel
theorem dX2_nextDigit_114 : decode cX2_nextDigit 114 = .ok (.lastore, 1) := by decide +kernel
theorem dX2_nextDigit_115 : decode cX2_nextDigit 115 = .ok (.aload_n 0, 1) := by decide +kernel
theorem dX2_nextDigit_116 : decode cX2_nextDigit 116 = .ok (.getfield 23, 3) := by decide +kernel
theorem dX2_nextDigit_119 : decode cX2_nextDigit 119 = .ok (.iload_n 1, 1) := by decide +kernel
theorem dX2_nextDigit_120 : decode cX2_nextDigit 120 = .ok (.ldc2_w 79, 3) := by decide +kernel
theorem dX2_nextDigit_123 : decode cX2_nextDigit 123 = .ok (.lload 4, 2) := by decide +kernel
theorem dX2_nextDigit_125 : decode cX2_nextDigit 125 = .ok (.lload 6, 2) := by decide +kernel
theorem dX2_nextDigit_127 : decode cX2_nextDigit 127 = .ok (.land, 1) := by decide +kernel
theorem dX2_nextDigit_128 : decode cX2_nextDigit 128 = .ok (.lload 4, 2) := by decide +kernel
theorem dX2_nextDigit_130 : decode cX2_nextDigit 130 = .ok (.lload 11, 2) := by decide +kernel
theorem dX2_nextDigit_132 : decode cX2_nextDigit 132 = .ok (.land, 1) := by decide +kernel
theorem dX2_nextDigit_133 : decode cX2_nextDigit 133 = .ok (.lor, 1) := by decide +kernel
theorem dX2_nextDigit_134 : decode cX2_nextDigit 134 = .ok (.lload 6, 2) := by decide +kernel
theorem dX2_nextDigit_136 : decode cX2_nextDigit 136 = .ok (.lload 11, 2) := by decide +kernel
theorem dX2_nextDigit_138 : decode cX2_nextDigit 138 = .ok (.land, 1) := by decide +kernel
theorem dX2_nextDigit_139 : decode cX2_nextDigit 139 = .ok (.lor, 1) := by decide +kernel
theorem dX2_nextDigit_140 : decode cX2_nextDigit 140 = .ok (.lmul, 1) := by decide +kernel
theorem dX2_nextDigit_141 : decode cX2_nextDigit 141 = .ok (.lastore, 1) := by decide +kernel
theorem dX2_nextDigit_142 : decode cX2_nextDigit 142 = .ok (.aload_n 0, 1) := by decide +kernel
theorem dX2_nextDigit_143 : decode cX2_nextDigit 143 = .ok (.getfield 26, 3) := by decide +kernel
theorem dX2_nextDigit_146 : decode cX2_nextDigit 146 = .ok (.iload_n 1, 1) := by decide +kernel
theorem dX2_nextDigit_147 : decode cX2_nextDigit 147 = .ok (.iconst 1, 1) := by decide +kernel
theorem dX2_nextDigit_148 : decode cX2_nextDigit 148 = .ok (.isub, 1) := by decide +kernel
theorem dX2_nextDigit_149 : decode cX2_nextDigit 149 = .ok (.laload, 1) := by decide +kernel
theorem dX2_nextDigit_150 : decode cX2_nextDigit 150 = .ok (.lstore 13, 2) := by decide +kernel
theorem dX2_nextDigit_152 : decode cX2_nextDigit 152 = .ok (.aload_n 0, 1) := by decide +kernel
theorem dX2_nextDigit_153 : decode cX2_nextDigit 153 = .ok (.getfield 29, 3) := by decide +kernel
theorem dX2_nextDigit_156 : decode cX2_nextDigit 156 = .ok (.iload_n 1, 1) := by decide +kernel
theorem dX2_nextDigit_157 : decode cX2_nextDigit 157 = .ok (.iconst 1, 1) := by decide +kernel
theorem dX2_nextDigit_158 : decode cX2_nextDigit 158 = .ok (.isub, 1) := by decide +kernel
theorem dX2_nextDigit_159 : decode cX2_nextDigit 159 = .ok (.laload, 1) := by decide +kernel
theorem dX2_nextDigit_160 : decode cX2_nextDigit 160 = .ok (.lstore 15, 2) := by decide +kernel
theorem dX2_nextDigit_162 : decode cX2_nextDigit 162 = .ok (.aload_n 0, 1) := by decide +kernel
theorem dX2_nextDigit_163 : decode cX2_nextDigit 163 = .ok (.getfield 26, 3) := by decide +kernel
theorem dX2_nextDigit_166 : decode cX2_nextDigit 166 = .ok (.iload_n 1, 1) := by decide +kernel
theorem dX2_nextDigit_167 : decode cX2_nextDigit 167 = .ok (.iload 10, 2) := by decide +kernel
theorem dX2_nextDigit_169 : decode cX2_nextDigit 169 = .ok (.ifCond .lt 16, 3) := by decide +kernel
theorem dX2_nextDigit_172 : decode cX2_nextDigit 172 = .ok (.ldc2_w 81, 3) := by decide +kernel
theorem dX2_nextDigit_175 : decode cX2_nextDigit 175 = .ok (.lload 13, 2) := by decide +kernel
theorem dX2_nextDigit_177 : decode cX2_nextDigit 177 = .ok (.lmul, 1) := by decide +kernel
theorem dX2_nextDigit_178 : decode cX2_nextDigit 178 = .ok (.iload 10, 2) := by decide +kernel
theorem dX2_nextDigit_180 : decode cX2_nextDigit 180 = .ok (.i2l, 1) := by decide +kernel
theorem dX2_nextDigit_181 : decode cX2_nextDigit 181 = .ok (.ladd, 1) := by decide +kernel
theorem dX2_nextDigit_182 : decode cX2_nextDigit 182 = .ok (.goto 17, 3) := by decide +kernel
theorem dX2_nextDigit_185 : decode cX2_nextDigit 185 = .ok (.ldc2_w 81, 3) := by decide +kernel
theorem dX2_nextDigit_188 : decode cX2_nextDigit 188 = .ok (.lload 15, 2) := by decide +kernel
theorem dX2_nextDigit_190 : decode cX2_nextDigit 190 = .ok (.lmul, 1) := by decide +kernel
theorem dX2_nextDigit_191 : decode cX2_nextDigit 191 = .ok (.ldc2_w 81, 3) := by decide +kernel
theorem dX2_nextDigit_194 : decode cX2_nextDigit 194 = .ok (.ladd, 1) := by decide +kernel
theorem dX2_nextDigit_195 : decode cX2_nextDigit 195 = .ok (.iload 10, 2) := by decide +kernel
theorem dX2_nextDigit_197 : decode cX2_nextDigit 197 = .ok (.i2l, 1) := by decide +kernel
theorem dX2_nextDigit_198 : decode cX2_nextDigit 198 = .ok (.ladd, 1) := by decide +kernel
theorem dX2_nextDigit_199 : decode cX2_nextDigit 199 = .ok (.lastore, 1) := by decide +kernel
theorem dX2_nextDigit_200 : decode cX2_nextDigit 200 = .ok (.aload_n 0, 1) := by decide +kernel
theorem dX2_nextDigit_201 : decode cX2_nextDigit 201 = .ok (.getfield 29, 3) := by decide +kernel
theorem dX2_nextDigit_204 : decode cX2_nextDigit 204 = .ok (.iload_n 1, 1) := by decide +kernel
theorem dX2_nextDigit_205 : decode cX2_nextDigit 205 = .ok (.iload 10, 2) := by decide +kernel
theorem dX2_nextDigit_207 : decode cX2_nextDigit 207 = .ok (.ifCond .le 18, 3) := by decide +kernel
theorem dX2_nextDigit_210 : decode cX2_nextDigit 210 = .ok (.ldc2_w 81, 3) := by decide +kernel
theorem dX2_nextDigit_213 : decode cX2_nextDigit 213 = .ok (.lload 13, 2) := by decide +kernel
theorem dX2_nextDigit_215 : decode cX2_nextDigit 215 = .ok (.lmul, 1) := by decide +kernel
theorem dX2_nextDigit_216 : decode cX2_nextDigit 216 = .ok (.iload 10, 2) := by decide +kernel
theorem dX2_nextDigit_218 : decode cX2_nextDigit 218 = .ok (.i2l, 1) := by decide +kernel
theorem dX2_nextDigit_219 : decode cX2_nextDigit 219 = .ok (.ladd, 1) := by decide +kernel
theorem dX2_nextDigit_220 : decode cX2_nextDigit 220 = .ok (.lconst 1, 1) := by decide +kernel
theorem dX2_nextDigit_221 : decode cX2_nextDigit 221 = .ok (.lsub, 1) := by decide +kernel
theorem dX2_nextDigit_222 : decode cX2_nextDigit 222 = .ok (.goto 17, 3) := by decide +kernel
theorem dX2_nextDigit_225 : decode cX2_nextDigit 225 = .ok (.ldc2_w 81, 3) := by decide +kernel
theorem dX2_nextDigit_228 : decode cX2_nextDigit 228 = .ok (.lload 15, 2) := by decide +kernel
theorem dX2_nextDigit_230 : decode cX2_nextDigit 230 = .ok (.lmul, 1) := by decide +kernel
theorem dX2_nextDigit_231 : decode cX2_nextDigit 231 = .ok (.ldc2_w 92, 3) := by decide +kernel
theorem dX2_nextDigit_234 : decode cX2_nextDigit 234 = .ok (.ladd, 1) := by decide +kernel
theorem dX2_nextDigit_235 : decode cX2_nextDigit 235 = .ok (.iload 10, 2) := by decide +kernel
theorem dX2_nextDigit_237 : decode cX2_nextDigit 237 = .ok (.i2l, 1) := by decide +kernel
theorem dX2_nextDigit_238 : decode cX2_nextDigit 238 = .ok (.ladd, 1) := by decide +kernel
theorem dX2_nextDigit_239 : decode cX2_nextDigit 239 = .ok (.lastore, 1) := by decide +kernel
theorem dX2_nextDigit_240 : decode cX2_nextDigit 240 = .ok (.aload_n 0, 1) := by decide +kernel
theorem dX2_nextDigit_241 : decode cX2_nextDigit 241 = .ok (.getfield 13, 3) := by decide +kernel
theorem dX2_nextDigit_244 : decode cX2_nextDigit 244 = .ok (.iload_n 1, 1) := by decide +kernel
theorem dX2_nextDigit_245 : decode cX2_nextDigit 245 = .ok (.iload 10, 2) := by decide +kernel
theorem dX2_nextDigit_247 : decode cX2_nextDigit 247 = .ok (.iastore, 1) := by decide +kernel
theorem dX2_nextDigit_248 : decode cX2_nextDigit 248 = .ok (.aload_n 0, 1) := by decide +kernel
theorem dX2_nextDigit_249 : decode cX2_nextDigit 249 = .ok (.getfield 16, 3) := by decide +kernel
theorem dX2_nextDigit_252 : decode cX2_nextDigit 252 = .ok (.iload_n 1, 1) := by decide +kernel
theorem dX2_nextDigit_253 : decode cX2_nextDigit 253 = .ok (.iload 8, 2) := by decide +kernel
theorem dX2_nextDigit_255 : decode cX2_nextDigit 255 = .ok (.iastore, 1) := by decide +kernel
theorem dX2_nextDigit_256 : decode cX2_nextDigit 256 = .ok (.aload_n 0, 1) := by decide +kernel
theorem dX2_nextDigit_257 : decode cX2_nextDigit 257 = .ok (.getfield 19, 3) := by decide +kernel
theorem dX2_nextDigit_260 : decode cX2_nextDigit 260 = .ok (.iload_n 1, 1) := by decide +kernel
theorem dX2_nextDigit_261 : decode cX2_nextDigit 261 = .ok (.laload, 1) := by decide +kernel
theorem dX2_nextDigit_262 : decode cX2_nextDigit 262 = .ok (.aload_n 0, 1) := by decide +kernel
theorem dX2_nextDigit_263 : decode cX2_nextDigit 263 = .ok (.getfield 23, 3) := by decide +kernel
theorem dX2_nextDigit_266 : decode cX2_nextDigit 266 = .ok (.iload_n 1, 1) := by decide +kernel
theorem dX2_nextDigit_267 : decode cX2_nextDigit 267 = .ok (.laload, 1) := by decide +kernel
theorem dX2_nextDigit_268 : decode cX2_nextDigit 268 = .ok (.ladd, 1) := by decide +kernel
theorem dX2_nextDigit_269 : decode cX2_nextDigit 269 = .ok (.lstore 17, 2) := by decide +kernel
theorem dX2_nextDigit_271 : decode cX2_nextDigit 271 = .ok (.ldc2_w 94, 3) := by decide +kernel
theorem dX2_nextDigit_274 : decode cX2_nextDigit 274 = .ok (.lload_n 2, 1) := by decide +kernel
theorem dX2_nextDigit_275 : decode cX2_nextDigit 275 = .ok (.lmul, 1) := by decide +kernel
theorem dX2_nextDigit_276 : decode cX2_nextDigit 276 = .ok (.ldc2_w 92, 3) := by decide +kernel
theorem dX2_nextDigit_279 : decode cX2_nextDigit 279 = .ok (.ldiv, 1) := by decide +kernel
theorem dX2_nextDigit_280 : decode cX2_nextDigit 280 = .ok (.lstore 19, 2) := by decide +kernel
theorem dX2_nextDigit_282 : decode cX2_nextDigit 282 = .ok (.aload_n 0, 1) := by decide +kernel
theorem dX2_nextDigit_283 : decode cX2_nextDigit 283 = .ok (.getfield 96, 3) := by decide +kernel
theorem dX2_nextDigit_286 : decode cX2_nextDigit 286 = .ok (.ifCond .ne 25, 3) := by decide +kernel
theorem dX2_nextDigit_289 : decode cX2_nextDigit 289 = .ok (.lload 17, 2) := by decide +kernel
theorem dX2_nextDigit_291 : decode cX2_nextDigit 291 = .ok (.lload 19, 2) := by decide +kernel
theorem dX2_nextDigit_293 : decode cX2_nextDigit 293 = .ok (.lcmp, 1) := by decide +kernel
theorem dX2_nextDigit_294 : decode cX2_nextDigit 294 = .ok (.ifCond .gt 12, 3) := by decide +kernel
theorem dX2_nextDigit_297 : decode cX2_nextDigit 297 = .ok (.lload 17, 2) := by decide +kernel
theorem dX2_nextDigit_299 : decode cX2_nextDigit 299 = .ok (.lload 19, 2) := by decide +kernel
theorem dX2_nextDigit_301 : decode cX2_nextDigit 301 = .ok (.lneg, 1) := by decide +kernel
theorem dX2_nextDigit_302 : decode cX2_nextDigit 302 = .ok (.lcmp, 1) := by decide +kernel
theorem dX2_nextDigit_303 : decode cX2_nextDigit 303 = .ok (.ifCond .ge 8, 3) := by decide +kernel
theorem dX2_nextDigit_306 : decode cX2_nextDigit 306 = .ok (.aload_n 0, 1) := by decide +kernel
theorem dX2_nextDigit_307 : decode cX2_nextDigit 307 = .ok (.iload_n 1, 1) := by decide +kernel
theorem dX2_nextDigit_308 : decode cX2_nextDigit 308 = .ok (.putfield 96, 3) := by decide +kernel
theorem dX2_nextDigit_311 : decode cX2_nextDigit 311 = .ok (.return_, 1) := by decide +kernel
set_option maxRecDepth 20000 in
theorem ggX2_work_X2_sizeOf : GoodIn wsX2_work wsX2_sizeOf := goodIn_r _ [18] (by decide +kernel) (by decide +kernel)
set_option maxRecDepth 20000 in
theorem gX2_work_X2_sizeOf : GoodIn wsX2_work (va_wsS RX2 99 yX2_sizeOf wsX2_sizeOf) := goodIn_app (goodIn_of _ (by decide +kernel)) ggX2_work_X2_sizeOf
set_option maxRecDepth 20000 in
theorem ggX2_work_X2_doublings : GoodIn wsX2_work wsX2_doublings := goodIn_r _ [21, 22, 23] (by decide +kernel) (by decide +kernel)
set_option maxRecDepth 20000 in
theorem gX2_work_X2_doublings : GoodIn wsX2_work (va_wsS RX2 118 yX2_doublings wsX2_doublings) := goodIn_app (goodIn_of _ (by decide +kernel)) ggX2_work_X2_doublings
set_option maxRecDepth 20000 in
theorem ggX2_work_X2_nextDigit : GoodIn wsX2_work wsX2_nextDigit := goodIn_r _ [27, 28, 7, 8, 29, 30, 3, 31, 23, 9, 10, 32, 33, 34, 35, 6, 36, 37, 17, 38, 39, 40, 41, 42, 43, 44, 45, 46, 47, 48, 49, 50, 51, 52, 53, 54, 55, 56] (by decide +kernel) (by decide +kernel)
set_option maxRecDepth 20000 in
theorem gX2_work_X2_nextDigit : GoodIn wsX2_work (wsV RX2 124 RX2 yX2_nextDigit wsX2_nextDigit) := goodIn_app (goodIn_of _ (by decide +kernel)) ggX2_work_X2_nextDigit
theorem dX2_work_0 : decode cX2_work 0 = .ok (.iload_n 1, 1) := by decide +kernel
theorem dX2_work_1 : decode cX2_work 1 = .ok (.invokestatic 99, 3) := by decide +kernel
theorem dX2_work_4 : decode cX2_work 4 = .ok (.lstore_n 3, 1) := by decide +kernel
theorem dX2_work_5 : decode cX2_work 5 = .ok (.iload_n 2, 1) := by decide +kernel
theorem dX2_work_6 : decode cX2_work 6 = .ok (.invokestatic 99, 3) := by decide +kernel
theorem dX2_work_9 : decode cX2_work 9 = .ok (.lstore 5, 2) := by decide +kernel
theorem dX2_work_11 : decode cX2_work 11 = .ok (.aload_n 0, 1) := by decide +kernel
theorem dX2_work_12 : decode cX2_work 12 = .ok (.iconst 1, 1) := by decide +kernel
theorem dX2_work_13 : decode cX2_work 13 = .ok (.putfield 103, 3) := by decide +kernel
theorem dX2_work_16 : decode cX2_work 16 = .ok (.aload_n 0, 1) := by decide +kernel
theorem dX2_work_17 : decode cX2_work 17 = .ok (.iconst 0, 1) := by decide +kernel
theorem dX2_work_18 : decode cX2_work 18 = .ok (.putfield 107, 3) := by decide +kernel
theorem dX2_work_21 : decode cX2_work 21 = .ok (.aload_n 0, 1) := by decide +kernel
theorem dX2_work_22 : decode cX2_work 22 = .ok (.iconst 0, 1) := by decide +kernel
theorem dX2_work_23 : decode cX2_work 23 = .ok (.putfield 87, 3) := by decide +kernel
theorem dX2_work_26 : decode cX2_work 26 = .ok (.aload_n 0, 1) := by decide +kernel
theorem dX2_work_27 : decode cX2_work 27 = .ok (.iconst 0, 1) := by decide +kernel
theorem dX2_work_28 : decode cX2_work 28 = .ok (.putfield 110, 3) := by decide +kernel
theorem dX2_work_31 : decode cX2_work 31 = .ok (.aload_n 0, 1) := by decide +kernel
theorem dX2_work_32 : decode cX2_work 32 = .ok (.iconst 0, 1) := by decide +kernel
theorem dX2_work_33 : decode cX2_work 33 = .ok (.putfield 113, 3) := by decide +kernel
theorem dX2_work_36 : decode cX2_work 36 = .ok (.aload_n 0, 1) := by decide +kernel
theorem dX2_work_37 : decode cX2_work 37 = .ok (.iconst 0, 1) := by decide +kernel
theorem dX2_work_38 : decode cX2_work 38 = .ok (.putfield 96, 3) := by decide +kernel
theorem dX2_work_41 : decode cX2_work 41 = .ok (.aload_n 0, 1) := by decide +kernel
theorem dX2_work_42 : decode cX2_work 42 = .ok (.getfield 19, 3) := by decide +kernel
theorem dX2_work_45 : decode cX2_work 45 = .ok (.iconst 0, 1) := by decide +kernel
theorem dX2_work_46 : decode cX2_work 46 = .ok (.lconst 0, 1) := by decide +kernel
theorem dX2_work_47 : decode cX2_work 47 = .ok (.lastore, 1) := by decide +kernel
theorem dX2_work_48 : decode cX2_work 48 = .ok (.aload_n 0, 1) := by decide +kernel
theorem dX2_work_49 : decode cX2_work 49 = .ok (.getfield 23, 3) := by decide +kernel
theorem dX2_work_52 : decode cX2_work 52 = .ok (.iconst 0, 1) := by decide +kernel
theorem dX2_work_53 : decode cX2_work 53 = .ok (.lconst 0, 1) := by decide +kernel
theorem dX2_work_54 : decode cX2_work 54 = .ok (.lastore, 1) := by decide +kernel
theorem dX2_work_55 : decode cX2_work 55 = .ok (.aload_n 0, 1) := by decide +kernel
theorem dX2_work_56 : decode cX2_work 56 = .ok (.getfield 26, 3) := by decide +kernel
theorem dX2_work_59 : decode cX2_work 59 = .ok (.iconst 0, 1) := by decide +kernel
theorem dX2_work_60 : decode cX2_work 60 = .ok (.lconst 0, 1) := by decide +kernel
theorem dX2_work_61 : decode cX2_work 61 = .ok (.lastore, 1) := by decide +kernel
theorem dX2_work_62 : decode cX2_work 62 = .ok (.aload_n 0, 1) := by decide +kernel
theorem dX2_work_63 : decode cX2_work 63 = .ok (.getfield 29, 3) := by decide +kernel
theorem dX2_work_66 : decode cX2_work 66 = .ok (.iconst 0, 1) := by decide +kernel
theorem dX2_work_67 : decode cX2_work 67 = .ok (.ldc2_w 116, 3) := by decide +kernel
theorem dX2_work_70 : decode cX2_work 70 = .ok (.lastore, 1) := by decide +kernel
theorem dX2_work_71 : decode cX2_work 71 = .ok (.lconst 0, 1) := by decide +kernel
theorem dX2_work_72 : decode cX2_work 72 = .ok (.lstore 7, 2) := by decide +kernel
theorem dX2_work_74 : decode cX2_work 74 = .ok (.lload_n 3, 1) := by decide +kernel
theorem dX2_work_75 : decode cX2_work 75 = .ok (.lstore 9, 2) := by decide +kernel
theorem dX2_work_77 : decode cX2_work 77 = .ok (.lload_n 3, 1) := by decide +kernel
theorem dX2_work_78 : decode cX2_work 78 = .ok (.lload 5, 2) := by decide +kernel
theorem dX2_work_80 : decode cX2_work 80 = .ok (.lcmp, 1) := by decide +kernel
theorem dX2_work_81 : decode cX2_work 81 = .ok (.ifCond .lt 206, 3) := by decide +kernel
theorem dX2_work_84 : decode cX2_work 84 = .ok (.aload_n 0, 1) := by decide +kernel
theorem dX2_work_85 : decode cX2_work 85 = .ok (.lload_n 3, 1) := by decide +kernel
theorem dX2_work_86 : decode cX2_work 86 = .ok (.invokestatic 118, 3) := by decide +kernel
theorem dX2_work_89 : decode cX2_work 89 = .ok (.putfield 110, 3) := by decide +kernel
theorem dX2_work_92 : decode cX2_work 92 = .ok (.aload_n 0, 1) := by decide +kernel
theorem dX2_work_93 : decode cX2_work 93 = .ok (.lload 5, 2) := by decide +kernel
theorem dX2_work_95 : decode cX2_work 95 = .ok (.invokestatic 118, 3) := by decide +kernel
theorem dX2_work_98 : decode cX2_work 98 = .ok (.putfield 113, 3) := by decide +kernel
theorem dX2_work_101 : decode cX2_work 101 = .ok (.aload_n 0, 1) := by decide +kernel
theorem dX2_work_102 : decode cX2_work 102 = .ok (.getfield 113, 3) := by decide +kernel
theorem dX2_work_105 : decode cX2_work 105 = .ok (.aload_n 0, 1) := by decide +kernel
theorem dX2_work_106 : decode cX2_work 106 = .ok (.getfield 110, 3) := by decide +kernel
theorem dX2_work_109 : decode cX2_work 109 = .ok (.isub, 1) := by decide +kernel
theorem dX2_work_110 : decode cX2_work 110 = .ok (.istore 11, 2) := by decide +kernel
theorem dX2_work_112 : decode cX2_work 112 = .ok (.iload 11, 2) := by decide +kernel
theorem dX2_work_114 : decode cX2_work 114 = .ok (.iconst 2, 1) := by decide +kernel
theorem dX2_work_115 : decode cX2_work 115 = .ok (.irem, 1) := by decide +kernel
theorem dX2_work_116 : decode cX2_work 116 = .ok (.ifCond .ne 7, 3) := by decide +kernel
theorem dX2_work_119 : decode cX2_work 119 = .ok (.iconst 2, 1) := by decide +kernel
theorem dX2_work_120 : decode cX2_work 120 = .ok (.goto 4, 3) := by decide +kernel
theorem dX2_work_123 : decode cX2_work 123 = .ok (.iconst 3, 1) := by decide +kernel
theorem dX2_work_124 : decode cX2_work 124 = .ok (.istore 12, 2) := by decide +kernel
theorem dX2_work_126 : decode cX2_work 126 = .ok (.aload_n 0, 1) := by decide +kernel
theorem dX2_work_127 : decode cX2_work 127 = .ok (.iload 11, 2) := by decide +kernel
theorem dX2_work_129 : decode cX2_work 129 = .ok (.iload 12, 2) := by decide +kernel
theorem dX2_work_131 : decode cX2_work 131 = .ok (.iadd, 1) := by decide +kernel
theorem dX2_work_132 : decode cX2_work 132 = .ok (.iconst 2, 1) := by decide +kernel
theorem dX2_work_133 : decode cX2_work 133 = .ok (.idiv, 1) := by decide +kernel
theorem dX2_work_134 : decode cX2_work 134 = .ok (.putfield 107, 3) := by decide +kernel
theorem dX2_work_137 : decode cX2_work 137 = .ok (.lload 5, 2) := by decide +kernel
theorem dX2_work_139 : decode cX2_work 139 = .ok (.aload_n 0, 1) := by decide +kernel
theorem dX2_work_140 : decode cX2_work 140 = .ok (.getfield 113, 3) := by decide +kernel
theorem dX2_work_143 : decode cX2_work 143 = .ok (.lshl, 1) := by decide +kernel
theorem dX2_work_144 : decode cX2_work 144 = .ok (.lstore 13, 2) := by decide +kernel
theorem dX2_work_146 : decode cX2_work 146 = .ok (.aload_n 0, 1) := by decide +kernel
theorem dX2_work_147 : decode cX2_work 147 = .ok (.lload 13, 2) := by decide +kernel
theorem dX2_work_149 : decode cX2_work 149 = .ok (.bipush 27, 2) := by decide +kernel
theorem dX2_work_151 : decode cX2_work 151 = .ok (.lshr, 1) := by decide +kernel
theorem dX2_work_152 : decode cX2_work 152 = .ok (.l2i, 1) := by decide +kernel
theorem dX2_work_153 : decode cX2_work 153 = .ok (.bipush 16, 2) := by decide +kernel
theorem dX2_work_155 : decode cX2_work 155 = .ok (.irem, 1) := by decide +kernel
theorem dX2_work_156 : decode cX2_work 156 = .ok (.putfield 87, 3) := by decide +kernel
theorem dX2_work_159 : decode cX2_work 159 = .ok (.aload_n 0, 1) := by decide +kernel
theorem dX2_work_160 : decode cX2_work 160 = .ok (.getfield 19, 3) := by decide +kernel
theorem dX2_work_163 : decode cX2_work 163 = .ok (.iconst 0, 1) := by decide +kernel
theorem dX2_work_164 : decode cX2_work 164 = .ok (.lload_n 3, 1) := by decide +kernel
theorem dX2_work_165 : decode cX2_work 165 = .ok (.aload_n 0, 1) := by decide +kernel
theorem dX2_work_166 : decode cX2_work 166 = .ok (.getfield 110, 3) := by decide +kernel
theorem dX2_work_169 : decode cX2_work 169 = .ok (.lshl, 1) := by decide +kernel
theorem dX2_work_170 : decode cX2_work 170 = .ok (.ldc2_w 122, 3) := by decide +kernel
theorem dX2_work_173 : decode cX2_work 173 = .ok (.lmul, 1) := by decide +kernel
theorem dX2_work_174 : decode cX2_work 174 = .ok (.iload 12, 2) := by decide +kernel
theorem dX2_work_176 : decode cX2_work 176 = .ok (.lshr, 1) := by decide +kernel
theorem dX2_work_177 : decode cX2_work 177 = .ok (.lastore, 1) := by decide +kernel
theorem dX2_work_178 : decode cX2_work 178 = .ok (.iconst 1, 1) := by decide +kernel
theorem dX2_work_179 : decode cX2_work 179 = .ok (.istore 15, 2) := by decide +kernel
theorem dX2_work_181 : decode cX2_work 181 = .ok (.iload 15, 2) := by decide +kernel
theorem dX2_work_183 : decode cX2_work 183 = .ok (.aload_n 0, 1) := by decide +kernel
theorem dX2_work_184 : decode cX2_work 184 = .ok (.getfield 107, 3) := by decide +kernel
theorem dX2_work_187 : decode cX2_work 187 = .ok (.if_icmp .gt 17, 3) := by decide +kernel
theorem dX2_work_190 : decode cX2_work 190 = .ok (.aload_n 0, 1) := by decide +kernel
theorem dX2_work_191 : decode cX2_work 191 = .ok (.iload 15, 2) := by decide +kernel
theorem dX2_work_193 : decode cX2_work 193 = .ok (.lload 13, 2) := by decide +kernel
theorem dX2_work_195 : decode cX2_work 195 = .ok (.invokevirtual 124, 3) := by decide +kernel
theorem dX2_work_198 : decode cX2_work 198 = .ok (.iinc 15 1, 3) := by decide +kernel
theorem dX2_work_201 : decode cX2_work 201 = .ok (.goto (-20), 3) := by decide +kernel
theorem dX2_work_204 : decode cX2_work 204 = .ok (.aload_n 0, 1) := by decide +kernel
theorem dX2_work_205 : decode cX2_work 205 = .ok (.getfield 19, 3) := by decide +kernel
theorem dX2_work_208 : decode cX2_work 208 = .ok (.aload_n 0, 1) := by decide +kernel
theorem dX2_work_209 : decode cX2_work 209 = .ok (.getfield 107, 3) := by decide +kernel
theorem dX2_work_212 : decode cX2_work 212 = .ok (.laload, 1) := by decide +kernel
theorem dX2_work_213 : decode cX2_work 213 = .ok (.aload_n 0, 1) := by decide +kernel
theorem dX2_work_214 : decode cX2_work 214 = .ok (.getfield 23, 3) := by decide +kernel
theorem dX2_work_217 : decode cX2_work 217 = .ok (.aload_n 0, 1) := by decide +kernel
theorem dX2_work_218 : decode cX2_work 218 = .ok (.getfield 107, 3) := by decide +kernel
theorem dX2_work_221 : decode cX2_work 221 = .ok (.laload, 1) := by decide +kernel
theorem dX2_work_222 : decode cX2_work 222 = .ok (.ladd, 1) := by decide +kernel
theorem dX2_work_223 : decode cX2_work 223 = .ok (.lstore 15, 2) := by decide +kernel
theorem dX2_work_225 : decode cX2_work 225 = .ok (.lload 15, 2) := by decide +kernel
theorem dX2_work_227 : decode cX2_work 227 = .ok (.lconst 0, 1) := by decide +kernel
theorem dX2_work_228 : decode cX2_work 228 = .ok (.lcmp, 1) := by decide +kernel
theorem dX2_work_229 : decode cX2_work 229 = .ok (.ifCond .ge 15, 3) := by decide +kernel
theorem dX2_work_232 : decode cX2_work 232 = .ok (.aload_n 0, 1) := by decide +kernel
theorem dX2_work_233 : decode cX2_work 233 = .ok (.getfield 29, 3) := by decide +kernel
theorem dX2_work_236 : decode cX2_work 236 = .ok (.aload_n 0, 1) := by decide +kernel
theorem dX2_work_237 : decode cX2_work 237 = .ok (.getfield 107, 3) := by decide +kernel
theorem dX2_work_240 : decode cX2_work 240 = .ok (.laload, 1) := by decide +kernel
theorem dX2_work_241 : decode cX2_work 241 = .ok (.goto 12, 3) := by decide +kernel
theorem dX2_work_244 : decode cX2_work 244 = .ok (.aload_n 0, 1) := by decide +kernel
theorem dX2_work_245 : decode cX2_work 245 = .ok (.getfield 26, 3) := by decide +kernel
theorem dX2_work_248 : decode cX2_work 248 = .ok (.aload_n 0, 1) := by decide +kernel
theorem dX2_work_249 : decode cX2_work 249 = .ok (.getfield 107, 3) := by decide +kernel
theorem dX2_work_252 : decode cX2_work 252 = .ok (.laload, 1) := by decide +kernel
theorem dX2_work_253 : decode cX2_work 253 = .ok (.lstore 7, 2) := by decide +kernel
theorem dX2_work_255 : decode cX2_work 255 = .ok (.lload 15, 2) := by decide +kernel
theorem dX2_work_257 : decode cX2_work 257 = .ok (.lconst 0, 1) := by decide +kernel
theorem dX2_work_258 : decode cX2_work 258 = .ok (.lcmp, 1) := by decide +kernel
theorem dX2_work_259 : decode cX2_work 259 = .ok (.ifCond .ge 15, 3) := by decide +kernel
theorem dX2_work_262 : decode cX2_work 262 = .ok (.lload 15, 2) := by decide +kernel
theorem dX2_work_264 : decode cX2_work 264 = .ok (.ldc2_w 122, 3) := by decide +kernel
theorem dX2_work_267 : decode cX2_work 267 = .ok (.lload 13, 2) := by decide +kernel
theorem dX2_work_269 : decode cX2_work 269 = .ok (.lmul, 1) := by decide +kernel
theorem dX2_work_270 : decode cX2_work 270 = .ok (.ladd, 1) := by decide +kernel
theorem dX2_work_271 : decode cX2_work 271 = .ok (.goto 5, 3) := by decide +kernel
theorem dX2_work_274 : decode cX2_work 274 = .ok (.lload 15, 2) := by decide +kernel
theorem dX2_work_276 : decode cX2_work 276 = .ok (.ldc2_w 122, 3) := by decide +kernel
theorem dX2_work_279 : decode cX2_work 279 = .ok (.aload_n 0, 1) := by decide +kernel
theorem dX2_work_280 : decode cX2_work 280 = .ok (.getfield 113, 3) := by decide +kernel
theorem dX2_work_283 : decode cX2_work 283 = .ok (.lshl, 1) := by decide +kernel
theorem dX2_work_284 : decode cX2_work 284 = .ok (.ldiv, 1) := by decide +kernel
theorem dX2_work_285 : decode cX2_work 285 = .ok (.lstore 9, 2) := by decide +kernel
theorem dX2_work_287 : decode cX2_work 287 = .ok (.aload_n 0, 1) := by decide +kernel
theorem dX2_work_288 : decode cX2_work 288 = .ok (.iload_n 1, 1) := by decide +kernel
theorem dX2_work_289 : decode cX2_work 289 = .ok (.ifCond .ge 7, 3) := by decide +kernel
theorem dX2_work_292 : decode cX2_work 292 = .ok (.iconst 1, 1) := by decide +kernel
theorem dX2_work_293 : decode cX2_work 293 = .ok (.goto 4, 3) := by decide +kernel
theorem dX2_work_296 : decode cX2_work 296 = .ok (.iconst 0, 1) := by decide +kernel
theorem dX2_work_297 : decode cX2_work 297 = .ok (.iload_n 2, 1) := by decide +kernel
theorem dX2_work_298 : decode cX2_work 298 = .ok (.ifCond .ge 7, 3) := by decide +kernel
theorem dX2_work_301 : decode cX2_work 301 = .ok (.iconst 1, 1) := by decide +kernel
theorem dX2_work_302 : decode cX2_work 302 = .ok (.goto 4, 3) := by decide +kernel
theorem dX2_work_305 : decode cX2_work 305 = .ok (.iconst 0, 1) := by decide +kernel
theorem dX2_work_306 : decode cX2_work 306 = .ok (.if_icmp .eq 9, 3) := by decide +kernel
theorem dX2_work_309 : decode cX2_work 309 = .ok (.lload 7, 2) := by decide +kernel
theorem dX2_work_311 : decode cX2_work 311 = .ok (.lneg, 1) := by decide +kernel
theorem dX2_work_312 : decode cX2_work 312 = .ok (.goto 5, 3) := by decide +kernel
theorem dX2_work_315 : decode cX2_work 315 = .ok (.lload 7, 2) := by decide +kernel
theorem dX2_work_317 : decode cX2_work 317 = .ok (.l2i, 1) := by decide +kernel
theorem dX2_work_318 : decode cX2_work 318 = .ok (.putfield 128, 3) := by decide +kernel
theorem dX2_work_321 : decode cX2_work 321 = .ok (.aload_n 0, 1) := by decide +kernel
theorem dX2_work_322 : decode cX2_work 322 = .ok (.iload_n 1, 1) := by decide +kernel
theorem dX2_work_323 : decode cX2_work 323 = .ok (.ifCond .ge 9, 3) := by decide +kernel
theorem dX2_work_326 : decode cX2_work 326 = .ok (.lload 9, 2) := by decide +kernel
theorem dX2_work_328 : decode cX2_work 328 = .ok (.lneg, 1) := by decide +kernel
theorem dX2_work_329 : decode cX2_work 329 = .ok (.goto 5, 3) := by decide +kernel
theorem dX2_work_332 : decode cX2_work 332 = .ok (.lload 9, 2) := by decide +kernel
theorem dX2_work_334 : decode cX2_work 334 = .ok (.l2i, 1) := by decide +kernel
theorem dX2_work_335 : decode cX2_work 335 = .ok (.putfield 131, 3) := by decide +kernel
theorem dX2_work_338 : decode cX2_work 338 = .ok (.return_, 1) := by decide +kernel
set_option maxRecDepth 20000 in
theorem ggX2_use_X2_isTable : GoodIn wsX2_use wsX2_isTable := goodIn_r _ [5, 6, 7, 4, 8] (by decide +kernel) (by decide +kernel)
set_option maxRecDepth 20000 in
theorem gX2_use_X2_isTable : GoodIn wsX2_use (va_wsS RX2 59 yX2_isTable wsX2_isTable) := goodIn_app (goodIn_of _ (by decide +kernel)) ggX2_use_X2_isTable
theorem dX2_use_0 : decode cX2_use 0 = .ok (.iload_n 1, 1) := by decide +kernel
theorem dX2_use_1 : decode cX2_use 1 = .ok (.invokestatic 59, 3) := by decide +kernel
theorem dX2_use_4 : decode cX2_use 4 = .ok (.ifCond .ne 5, 3) := by decide +kernel
theorem dX2_use_7 : decode cX2_use 7 = .ok (.iconst (-1), 1) := by decide +kernel
theorem dX2_use_8 : decode cX2_use 8 = .ok (.ireturn, 1) := by decide +kernel
theorem dX2_use_9 : decode cX2_use 9 = .ok (.aload_n 0, 1) := by decide +kernel
theorem dX2_use_10 : decode cX2_use 10 = .ok (.getfield 83, 3) := by decide +kernel
theorem dX2_use_13 : decode cX2_use 13 = .ok (.istore_n 2, 1) := by decide +kernel
theorem dX2_use_14 : decode cX2_use 14 = .ok (.aload_n 0, 1) := by decide +kernel
theorem dX2_use_15 : decode cX2_use 15 = .ok (.iload_n 1, 1) := by decide +kernel
theorem dX2_use_16 : decode cX2_use 16 = .ok (.putfield 83, 3) := by decide +kernel
theorem dX2_use_19 : decode cX2_use 19 = .ok (.iload_n 2, 1) := by decide +kernel
theorem dX2_use_20 : decode cX2_use 20 = .ok (.ireturn, 1) := by decide +kernel
set_option maxRecDepth 20000 in
theorem ggX2_divide_X2_work : GoodIn wsX2_divide wsX2_work := goodIn_r _ [6, 7, 1, 8, 9, 10, 11, 12, 13, 14, 15, 16, 17, 18, 19, 20, 21, 5, 22, 23, 24, 25, 26, 27, 28, 29, 30, 31, 32, 33, 34, 35, 36, 37, 38, 39, 40, 41, 42, 43, 44, 45, 46, 47, 48, 49, 50, 51, 52, 53, 54, 55, 56, 57, 58, 59, 60] (by decide +kernel) (by decide +kernel)
set_option maxRecDepth 20000 in
theorem gX2_divide_X2_work : GoodIn wsX2_divide (wsV RX2 134 RX2 yX2_work wsX2_work) := goodIn_app (goodIn_of _ (by decide +kernel)) ggX2_divide_X2_work
theorem dX2_divide_0 : decode cX2_divide 0 = .ok (.iload_n 2, 1) := by decide +kernel
theorem dX2_divide_1 : decode cX2_divide 1 = .ok (.ifCond .ne 5, 3) := by decide +kernel
theorem dX2_divide_4 : decode cX2_divide 4 = .ok (.iconst (-1), 1) := by decide +kernel
theorem dX2_divide_5 : decode cX2_divide 5 = .ok (.ireturn, 1) := by decide +kernel
theorem dX2_divide_6 : decode cX2_divide 6 = .ok (.aload_n 0, 1) := by decide +kernel
theorem dX2_divide_7 : decode cX2_divide 7 = .ok (.iload_n 1, 1) := by decide +kernel
theorem dX2_divide_8 : decode cX2_divide 8 = .ok (.iload_n 2, 1) := by decide +kernel
theorem dX2_divide_9 : decode cX2_divide 9 = .ok (.invokevirtual 134, 3) := by decide +kernel
theorem dX2_divide_12 : decode cX2_divide 12 = .ok (.aload_n 0, 1) := by decide +kernel
theorem dX2_divide_13 : decode cX2_divide 13 = .ok (.getfield 107, 3) := by decide +kernel
theorem dX2_divide_16 : decode cX2_divide 16 = .ok (.ireturn, 1) := by decide +kernel
theorem dX2_quotient_0 : decode cX2_quotient 0 = .ok (.aload_n 0, 1) := by decide +kernel
theorem dX2_quotient_1 : decode cX2_quotient 1 = .ok (.getfield 128, 3) := by decide +kernel
theorem dX2_quotient_4 : decode cX2_quotient 4 = .ok (.ireturn, 1) := by decide +kernel
theorem dX2_rest_0 : decode cX2_rest 0 = .ok (.aload_n 0, 1) := by decide +kernel
theorem dX2_rest_1 : decode cX2_rest 1 = .ok (.getfield 131, 3) := by decide +kernel
theorem dX2_rest_4 : decode cX2_rest 4 = .ok (.ireturn, 1) := by decide +kernel
theorem dX2_left_0 : decode cX2_left 0 = .ok (.aload_n 0, 1) := by decide +kernel
theorem dX2_left_1 : decode cX2_left 1 = .ok (.getfield 96, 3) := by decide +kernel
theorem dX2_left_4 : decode cX2_left 4 = .ok (.ireturn, 1) := by decide +kernel
set_option maxRecDepth 20000 in
theorem ggX2_step_X2_in : GoodIn wsX2_step wsX2_in := goodIn_r _ [7] (by decide +kernel) (by decide +kernel)
set_option maxRecDepth 20000 in
theorem gX2_step_X2_in : GoodIn wsX2_step (va_wsS RX2 56 yX2_in wsX2_in) := goodIn_app (goodIn_of _ (by decide +kernel)) ggX2_step_X2_in
theorem dX2_step_0 : decode cX2_step 0 = .ok (.iload_n 1, 1) := by decide +kernel
theorem dX2_step_1 : decode cX2_step 1 = .ok (.iconst 1, 1) := by decide +kernel
theorem dX2_step_2 : decode cX2_step 2 = .ok (.aload_n 0, 1) := by decide +kernel
theorem dX2_step_3 : decode cX2_step 3 = .ok (.getfield 107, 3) := by decide +kernel
theorem dX2_step_6 : decode cX2_step 6 = .ok (.invokestatic 56, 3) := by decide +kernel
theorem dX2_step_9 : decode cX2_step 9 = .ok (.ifCond .eq 34, 3) := by decide +kernel
theorem dX2_step_12 : decode cX2_step 12 = .ok (.iload_n 2, 1) := by decide +kernel
theorem dX2_step_13 : decode cX2_step 13 = .ok (.iconst 0, 1) := by decide +kernel
theorem dX2_step_14 : decode cX2_step 14 = .ok (.iconst 1, 1) := by decide +kernel
theorem dX2_step_15 : decode cX2_step 15 = .ok (.invokestatic 56, 3) := by decide +kernel
theorem dX2_step_18 : decode cX2_step 18 = .ok (.ifCond .eq 25, 3) := by decide +kernel
theorem dX2_step_21 : decode cX2_step 21 = .ok (.iload_n 2, 1) := by decide +kernel
theorem dX2_step_22 : decode cX2_step 22 = .ok (.ifCond .ne 12, 3) := by decide +kernel
theorem dX2_step_25 : decode cX2_step 25 = .ok (.aload_n 0, 1) := by decide +kernel
theorem dX2_step_26 : decode cX2_step 26 = .ok (.getfield 13, 3) := by decide +kernel
theorem dX2_step_29 : decode cX2_step 29 = .ok (.iload_n 1, 1) := by decide +kernel
theorem dX2_step_30 : decode cX2_step 30 = .ok (.iaload, 1) := by decide +kernel
theorem dX2_step_31 : decode cX2_step 31 = .ok (.goto 14, 3) := by decide +kernel
theorem dX2_step_34 : decode cX2_step 34 = .ok (.aload_n 0, 1) := by decide +kernel
theorem dX2_step_35 : decode cX2_step 35 = .ok (.getfield 16, 3) := by decide +kernel
theorem dX2_step_38 : decode cX2_step 38 = .ok (.iload_n 1, 1) := by decide +kernel
theorem dX2_step_39 : decode cX2_step 39 = .ok (.iaload, 1) := by decide +kernel
theorem dX2_step_40 : decode cX2_step 40 = .ok (.goto 5, 3) := by decide +kernel
theorem dX2_step_43 : decode cX2_step 43 = .ok (.bipush (-101), 2) := by decide +kernel
theorem dX2_step_45 : decode cX2_step 45 = .ok (.ireturn, 1) := by decide +kernel
set_option maxRecDepth 20000 in
theorem ggX2_state_X2_in : GoodIn wsX2_state wsX2_in := goodIn_r _ [10] (by decide +kernel) (by decide +kernel)
set_option maxRecDepth 20000 in
theorem gX2_state_X2_in : GoodIn wsX2_state (va_wsS RX2 56 yX2_in wsX2_in) := goodIn_app (goodIn_of _ (by decide +kernel)) ggX2_state_X2_in
theorem dX2_state_0 : decode cX2_state 0 = .ok (.aload_n 0, 1) := by decide +kernel
theorem dX2_state_1 : decode cX2_state 1 = .ok (.getfield 103, 3) := by decide +kernel
theorem dX2_state_4 : decode cX2_state 4 = .ok (.ifCond .eq 15, 3) := by decide +kernel
theorem dX2_state_7 : decode cX2_state 7 = .ok (.iload_n 1, 1) := by decide +kernel
theorem dX2_state_8 : decode cX2_state 8 = .ok (.iconst 0, 1) := by decide +kernel
theorem dX2_state_9 : decode cX2_state 9 = .ok (.aload_n 0, 1) := by decide +kernel
theorem dX2_state_10 : decode cX2_state 10 = .ok (.getfield 107, 3) := by decide +kernel
theorem dX2_state_13 : decode cX2_state 13 = .ok (.invokestatic 56, 3) := by decide +kernel
theorem dX2_state_16 : decode cX2_state 16 = .ok (.ifCond .ne 5, 3) := by decide +kernel
theorem dX2_state_19 : decode cX2_state 19 = .ok (.lconst 0, 1) := by decide +kernel
theorem dX2_state_20 : decode cX2_state 20 = .ok (.lreturn, 1) := by decide +kernel
theorem dX2_state_21 : decode cX2_state 21 = .ok (.iload_n 2, 1) := by decide +kernel
theorem dX2_state_22 : decode cX2_state 22 = .ok (.ifCond .ne 12, 3) := by decide +kernel
theorem dX2_state_25 : decode cX2_state 25 = .ok (.aload_n 0, 1) := by decide +kernel
theorem dX2_state_26 : decode cX2_state 26 = .ok (.getfield 19, 3) := by decide +kernel
theorem dX2_state_29 : decode cX2_state 29 = .ok (.iload_n 1, 1) := by decide +kernel
theorem dX2_state_30 : decode cX2_state 30 = .ok (.laload, 1) := by decide +kernel
theorem dX2_state_31 : decode cX2_state 31 = .ok (.goto 46, 3) := by decide +kernel
theorem dX2_state_34 : decode cX2_state 34 = .ok (.iload_n 2, 1) := by decide +kernel
theorem dX2_state_35 : decode cX2_state 35 = .ok (.iconst 1, 1) := by decide +kernel
theorem dX2_state_36 : decode cX2_state 36 = .ok (.if_icmp .ne 12, 3) := by decide +kernel
theorem dX2_state_39 : decode cX2_state 39 = .ok (.aload_n 0, 1) := by decide +kernel
theorem dX2_state_40 : decode cX2_state 40 = .ok (.getfield 23, 3) := by decide +kernel
theorem dX2_state_43 : decode cX2_state 43 = .ok (.iload_n 1, 1) := by decide +kernel
theorem dX2_state_44 : decode cX2_state 44 = .ok (.laload, 1) := by decide +kernel
theorem dX2_state_45 : decode cX2_state 45 = .ok (.goto 32, 3) := by decide +kernel
theorem dX2_state_48 : decode cX2_state 48 = .ok (.iload_n 2, 1) := by decide +kernel
theorem dX2_state_49 : decode cX2_state 49 = .ok (.iconst 2, 1) := by decide +kernel
theorem dX2_state_50 : decode cX2_state 50 = .ok (.if_icmp .ne 12, 3) := by decide +kernel
theorem dX2_state_53 : decode cX2_state 53 = .ok (.aload_n 0, 1) := by decide +kernel
theorem dX2_state_54 : decode cX2_state 54 = .ok (.getfield 26, 3) := by decide +kernel
theorem dX2_state_57 : decode cX2_state 57 = .ok (.iload_n 1, 1) := by decide +kernel
theorem dX2_state_58 : decode cX2_state 58 = .ok (.laload, 1) := by decide +kernel
theorem dX2_state_59 : decode cX2_state 59 = .ok (.goto 18, 3) := by decide +kernel
theorem dX2_state_62 : decode cX2_state 62 = .ok (.iload_n 2, 1) := by decide +kernel
theorem dX2_state_63 : decode cX2_state 63 = .ok (.iconst 3, 1) := by decide +kernel
theorem dX2_state_64 : decode cX2_state 64 = .ok (.if_icmp .ne 12, 3) := by decide +kernel
theorem dX2_state_67 : decode cX2_state 67 = .ok (.aload_n 0, 1) := by decide +kernel
theorem dX2_state_68 : decode cX2_state 68 = .ok (.getfield 29, 3) := by decide +kernel
theorem dX2_state_71 : decode cX2_state 71 = .ok (.iload_n 1, 1) := by decide +kernel
theorem dX2_state_72 : decode cX2_state 72 = .ok (.laload, 1) := by decide +kernel
theorem dX2_state_73 : decode cX2_state 73 = .ok (.goto 4, 3) := by decide +kernel
theorem dX2_state_76 : decode cX2_state 76 = .ok (.lconst 0, 1) := by decide +kernel
theorem dX2_state_77 : decode cX2_state 77 = .ok (.lreturn, 1) := by decide +kernel
theorem dX2_told_0 : decode cX2_told 0 = .ok (.iconst 0, 1) := by decide +kernel
theorem dX2_told_1 : decode cX2_told 1 = .ok (.istore_n 2, 1) := by decide +kernel
theorem dX2_told_2 : decode cX2_told 2 = .ok (.iconst 1, 1) := by decide +kernel
theorem dX2_told_3 : decode cX2_told 3 = .ok (.istore_n 3, 1) := by decide +kernel
theorem dX2_told_4 : decode cX2_told 4 = .ok (.iload_n 3, 1) := by decide +kernel
theorem dX2_told_5 : decode cX2_told 5 = .ok (.aload_n 0, 1) := by decide +kernel
theorem dX2_told_6 : decode cX2_told 6 = .ok (.getfield 107, 3) := by decide +kernel
theorem dX2_told_9 : decode cX2_told 9 = .ok (.if_icmp .gt 26, 3) := by decide +kernel
theorem dX2_told_12 : decode cX2_told 12 = .ok (.iload_n 2, 1) := by decide +kernel
theorem dX2_told_13 : decode cX2_told 13 = .ok (.aload_n 0, 1) := by decide +kernel
theorem dX2_told_14 : decode cX2_told 14 = .ok (.getfield 13, 3) := by decide +kernel
theorem dX2_told_17 : decode cX2_told 17 = .ok (.iload_n 3, 1) := by decide +kernel
theorem dX2_told_18 : decode cX2_told 18 = .ok (.iaload, 1) := by decide +kernel
theorem dX2_told_19 : decode cX2_told 19 = .ok (.ifCond .ne 7, 3) := by decide +kernel
theorem dX2_told_22 : decode cX2_told 22 = .ok (.iconst 0, 1) := by decide +kernel
theorem dX2_told_23 : decode cX2_told 23 = .ok (.goto 4, 3) := by decide +kernel
theorem dX2_told_26 : decode cX2_told 26 = .ok (.iconst 1, 1) := by decide +kernel
theorem dX2_told_27 : decode cX2_told 27 = .ok (.iadd, 1) := by decide +kernel
theorem dX2_told_28 : decode cX2_told 28 = .ok (.istore_n 2, 1) := by decide +kernel
theorem dX2_told_29 : decode cX2_told 29 = .ok (.iinc 3 1, 3) := by decide +kernel
theorem dX2_told_32 : decode cX2_told 32 = .ok (.goto (-28), 3) := by decide +kernel
theorem dX2_told_35 : decode cX2_told 35 = .ok (.iload_n 1, 1) := by decide +kernel
theorem dX2_told_36 : decode cX2_told 36 = .ok (.ifCond .ne 10, 3) := by decide +kernel
theorem dX2_told_39 : decode cX2_told 39 = .ok (.aload_n 0, 1) := by decide +kernel
theorem dX2_told_40 : decode cX2_told 40 = .ok (.getfield 87, 3) := by decide +kernel
theorem dX2_told_43 : decode cX2_told 43 = .ok (.goto 49, 3) := by decide +kernel
theorem dX2_told_46 : decode cX2_told 46 = .ok (.iload_n 1, 1) := by decide +kernel
theorem dX2_told_47 : decode cX2_told 47 = .ok (.iconst 1, 1) := by decide +kernel
theorem dX2_told_48 : decode cX2_told 48 = .ok (.if_icmp .ne 10, 3) := by decide +kernel
theorem dX2_told_51 : decode cX2_told 51 = .ok (.aload_n 0, 1) := by decide +kernel
theorem dX2_told_52 : decode cX2_told 52 = .ok (.getfield 110, 3) := by decide +kernel
theorem dX2_told_55 : decode cX2_told 55 = .ok (.goto 37, 3) := by decide +kernel
theorem dX2_told_58 : decode cX2_told 58 = .ok (.iload_n 1, 1) := by decide +kernel
theorem dX2_told_59 : decode cX2_told 59 = .ok (.iconst 2, 1) := by decide +kernel
theorem dX2_told_60 : decode cX2_told 60 = .ok (.if_icmp .ne 10, 3) := by decide +kernel
theorem dX2_told_63 : decode cX2_told 63 = .ok (.aload_n 0, 1) := by decide +kernel
theorem dX2_told_64 : decode cX2_told 64 = .ok (.getfield 113, 3) := by decide +kernel
theorem dX2_told_67 : decode cX2_told 67 = .ok (.goto 25, 3) := by decide +kernel
theorem dX2_told_70 : decode cX2_told 70 = .ok (.iload_n 1, 1) := by decide +kernel
theorem dX2_told_71 : decode cX2_told 71 = .ok (.iconst 3, 1) := by decide +kernel
theorem dX2_told_72 : decode cX2_told 72 = .ok (.if_icmp .ne 10, 3) := by decide +kernel
theorem dX2_told_75 : decode cX2_told 75 = .ok (.aload_n 0, 1) := by decide +kernel
theorem dX2_told_76 : decode cX2_told 76 = .ok (.getfield 107, 3) := by decide +kernel
theorem dX2_told_79 : decode cX2_told 79 = .ok (.goto 13, 3) := by decide +kernel
theorem dX2_told_82 : decode cX2_told 82 = .ok (.iload_n 1, 1) := by decide +kernel
theorem dX2_told_83 : decode cX2_told 83 = .ok (.iconst 4, 1) := by decide +kernel
theorem dX2_told_84 : decode cX2_told 84 = .ok (.if_icmp .ne 7, 3) := by decide +kernel
theorem dX2_told_87 : decode cX2_told 87 = .ok (.iload_n 2, 1) := by decide +kernel
theorem dX2_told_88 : decode cX2_told 88 = .ok (.goto 4, 3) := by decide +kernel
theorem dX2_told_91 : decode cX2_told 91 = .ok (.iconst (-1), 1) := by decide +kernel
theorem dX2_told_92 : decode cX2_told 92 = .ok (.ireturn, 1) := by decide +kernel
theorem dX2_keep_0 : decode cX2_keep 0 = .ok (.iconst 0, 1) := by decide +kernel
theorem dX2_keep_1 : decode cX2_keep 1 = .ok (.istore_n 1, 1) := by decide +kernel
theorem dX2_keep_2 : decode cX2_keep 2 = .ok (.iload_n 1, 1) := by decide +kernel
theorem dX2_keep_3 : decode cX2_keep 3 = .ok (.bipush 20, 2) := by decide +kernel
theorem dX2_keep_5 : decode cX2_keep 5 = .ok (.if_icmp .ge 93, 3) := by decide +kernel
theorem dX2_keep_8 : decode cX2_keep 8 = .ok (.aload_n 0, 1) := by decide +kernel
theorem dX2_keep_9 : decode cX2_keep 9 = .ok (.getfield 32, 3) := by decide +kernel
theorem dX2_keep_12 : decode cX2_keep 12 = .ok (.iload_n 1, 1) := by decide +kernel
theorem dX2_keep_13 : decode cX2_keep 13 = .ok (.aload_n 0, 1) := by decide +kernel
theorem dX2_keep_14 : decode cX2_keep 14 = .ok (.getfield 13, 3) := by decide +kernel
theorem dX2_keep_17 : decode cX2_keep 17 = .ok (.iload_n 1, 1) := by decide +kernel
theorem dX2_keep_18 : decode cX2_keep 18 = .ok (.iaload, 1) := by decide +kernel
theorem dX2_keep_19 : decode cX2_keep 19 = .ok (.iastore, 1) := by decide +kernel
theorem dX2_keep_20 : decode cX2_keep 20 = .ok (.aload_n 0, 1) := by decide +kernel
theorem dX2_keep_21 : decode cX2_keep 21 = .ok (.getfield 32, 3) := by decide +kernel
theorem dX2_keep_24 : decode cX2_keep 24 = .ok (.bipush 20, 2) := by decide +kernel
theorem dX2_keep_26 : decode cX2_keep 26 = .ok (.iload_n 1, 1) := by decide +kernel
theorem dX2_keep_27 : decode cX2_keep 27 = .ok (.iadd, 1) := by decide +kernel
theorem dX2_keep_28 : decode cX2_keep 28 = .ok (.aload_n 0, 1) := by decide +kernel
theorem dX2_keep_29 : decode cX2_keep 29 = .ok (.getfield 16, 3) := by decide +kernel
theorem dX2_keep_32 : decode cX2_keep 32 = .ok (.iload_n 1, 1) := by decide +kernel
theorem dX2_keep_33 : decode cX2_keep 33 = .ok (.iaload, 1) := by decide +kernel
theorem dX2_keep_34 : decode cX2_keep 34 = .ok (.iastore, 1) := by decide +kernel
theorem dX2_keep_35 : decode cX2_keep 35 = .ok (.aload_n 0, 1) := by decide +kernel
theorem dX2_keep_36 : decode cX2_keep 36 = .ok (.getfield 35, 3) := by decide +kernel
theorem dX2_keep_39 : decode cX2_keep 39 = .ok (.iload_n 1, 1) := by decide +kernel
theorem dX2_keep_40 : decode cX2_keep 40 = .ok (.aload_n 0, 1) := by decide +kernel
theorem dX2_keep_41 : decode cX2_keep 41 = .ok (.getfield 19, 3) := by decide +kernel
theorem dX2_keep_44 : decode cX2_keep 44 = .ok (.iload_n 1, 1) := by decide +kernel
theorem dX2_keep_45 : decode cX2_keep 45 = .ok (.laload, 1) := by decide +kernel
theorem dX2_keep_46 : decode cX2_keep 46 = .ok (.lastore, 1) := by decide +kernel
theorem dX2_keep_47 : decode cX2_keep 47 = .ok (.aload_n 0, 1) := by decide +kernel
theorem dX2_keep_48 : decode cX2_keep 48 = .ok (.getfield 35, 3) := by decide +kernel
theorem dX2_keep_51 : decode cX2_keep 51 = .ok (.bipush 20, 2) := by decide +kernel
theorem dX2_keep_53 : decode cX2_keep 53 = .ok (.iload_n 1, 1) := by decide +kernel
theorem dX2_keep_54 : decode cX2_keep 54 = .ok (.iadd, 1) := by decide +kernel
theorem dX2_keep_55 : decode cX2_keep 55 = .ok (.aload_n 0, 1) := by decide +kernel
theorem dX2_keep_56 : decode cX2_keep 56 = .ok (.getfield 23, 3) := by decide +kernel
theorem dX2_keep_59 : decode cX2_keep 59 = .ok (.iload_n 1, 1) := by decide +kernel
theorem dX2_keep_60 : decode cX2_keep 60 = .ok (.laload, 1) := by decide +kernel
theorem dX2_keep_61 : decode cX2_keep 61 = .ok (.lastore, 1) := by decide +kernel
theorem dX2_keep_62 : decode cX2_keep 62 = .ok (.aload_n 0, 1) := by decide +kernel
theorem dX2_keep_63 : decode cX2_keep 63 = .ok (.getfield 35, 3) := by decide +kernel
theorem dX2_keep_66 : decode cX2_keep 66 = .ok (.bipush 40, 2) := by decide +kernel
theorem dX2_keep_68 : decode cX2_keep 68 = .ok (.iload_n 1, 1) := by decide +kernel
theorem dX2_keep_69 : decode cX2_keep 69 = .ok (.iadd, 1) := by decide +kernel
theorem dX2_keep_70 : decode cX2_keep 70 = .ok (.aload_n 0, 1) := by decide +kernel
theorem dX2_keep_71 : decode cX2_keep 71 = .ok (.getfield 26, 3) := by decide +kernel
theorem dX2_keep_74 : decode cX2_keep 74 = .ok (.iload_n 1, 1) := by decide +kernel
theorem dX2_keep_75 : decode cX2_keep 75 = .ok (.laload, 1) := by decide +kernel
theorem dX2_keep_76 : decode cX2_keep 76 = .ok (.lastore, 1) := by decide +kernel
theorem dX2_keep_77 : decode cX2_keep 77 = .ok (.aload_n 0, 1) := by decide +kernel
theorem dX2_keep_78 : decode cX2_keep 78 = .ok (.getfield 35, 3) := by decide +kernel
theorem dX2_keep_81 : decode cX2_keep 81 = .ok (.bipush 60, 2) := by decide +kernel
theorem dX2_keep_83 : decode cX2_keep 83 = .ok (.iload_n 1, 1) := by decide +kernel
theorem dX2_keep_84 : decode cX2_keep 84 = .ok (.iadd, 1) := by decide +kernel
theorem dX2_keep_85 : decode cX2_keep 85 = .ok (.aload_n 0, 1) := by decide +kernel
theorem dX2_keep_86 : decode cX2_keep 86 = .ok (.getfield 29, 3) := by decide +kernel
theorem dX2_keep_89 : decode cX2_keep 89 = .ok (.iload_n 1, 1) := by decide +kernel
theorem dX2_keep_90 : decode cX2_keep 90 = .ok (.laload, 1) := by decide +kernel
theorem dX2_keep_91 : decode cX2_keep 91 = .ok (.lastore, 1) := by decide +kernel
theorem dX2_keep_92 : decode cX2_keep 92 = .ok (.iinc 1 1, 3) := by decide +kernel
theorem dX2_keep_95 : decode cX2_keep 95 = .ok (.goto (-93), 3) := by decide +kernel
theorem dX2_keep_98 : decode cX2_keep 98 = .ok (.aload_n 0, 1) := by decide +kernel
theorem dX2_keep_99 : decode cX2_keep 99 = .ok (.getfield 32, 3) := by decide +kernel
theorem dX2_keep_102 : decode cX2_keep 102 = .ok (.bipush 40, 2) := by decide +kernel
theorem dX2_keep_104 : decode cX2_keep 104 = .ok (.aload_n 0, 1) := by decide +kernel
theorem dX2_keep_105 : decode cX2_keep 105 = .ok (.getfield 107, 3) := by decide +kernel
theorem dX2_keep_108 : decode cX2_keep 108 = .ok (.iastore, 1) := by decide +kernel
theorem dX2_keep_109 : decode cX2_keep 109 = .ok (.aload_n 0, 1) := by decide +kernel
theorem dX2_keep_110 : decode cX2_keep 110 = .ok (.getfield 32, 3) := by decide +kernel
theorem dX2_keep_113 : decode cX2_keep 113 = .ok (.bipush 41, 2) := by decide +kernel
theorem dX2_keep_115 : decode cX2_keep 115 = .ok (.aload_n 0, 1) := by decide +kernel
theorem dX2_keep_116 : decode cX2_keep 116 = .ok (.getfield 87, 3) := by decide +kernel
theorem dX2_keep_119 : decode cX2_keep 119 = .ok (.iastore, 1) := by decide +kernel
theorem dX2_keep_120 : decode cX2_keep 120 = .ok (.aload_n 0, 1) := by decide +kernel
theorem dX2_keep_121 : decode cX2_keep 121 = .ok (.getfield 32, 3) := by decide +kernel
theorem dX2_keep_124 : decode cX2_keep 124 = .ok (.bipush 42, 2) := by decide +kernel
theorem dX2_keep_126 : decode cX2_keep 126 = .ok (.aload_n 0, 1) := by decide +kernel
theorem dX2_keep_127 : decode cX2_keep 127 = .ok (.getfield 110, 3) := by decide +kernel
theorem dX2_keep_130 : decode cX2_keep 130 = .ok (.iastore, 1) := by decide +kernel
theorem dX2_keep_131 : decode cX2_keep 131 = .ok (.aload_n 0, 1) := by decide +kernel
theorem dX2_keep_132 : decode cX2_keep 132 = .ok (.getfield 32, 3) := by decide +kernel
theorem dX2_keep_135 : decode cX2_keep 135 = .ok (.bipush 43, 2) := by decide +kernel
theorem dX2_keep_137 : decode cX2_keep 137 = .ok (.aload_n 0, 1) := by decide +kernel
theorem dX2_keep_138 : decode cX2_keep 138 = .ok (.getfield 113, 3) := by decide +kernel
theorem dX2_keep_141 : decode cX2_keep 141 = .ok (.iastore, 1) := by decide +kernel
theorem dX2_keep_142 : decode cX2_keep 142 = .ok (.aload_n 0, 1) := by decide +kernel
theorem dX2_keep_143 : decode cX2_keep 143 = .ok (.getfield 32, 3) := by decide +kernel
theorem dX2_keep_146 : decode cX2_keep 146 = .ok (.bipush 44, 2) := by decide +kernel
theorem dX2_keep_148 : decode cX2_keep 148 = .ok (.aload_n 0, 1) := by decide +kernel
theorem dX2_keep_149 : decode cX2_keep 149 = .ok (.getfield 96, 3) := by decide +kernel
theorem dX2_keep_152 : decode cX2_keep 152 = .ok (.iastore, 1) := by decide +kernel
theorem dX2_keep_153 : decode cX2_keep 153 = .ok (.aload_n 0, 1) := by decide +kernel
theorem dX2_keep_154 : decode cX2_keep 154 = .ok (.getfield 32, 3) := by decide +kernel
theorem dX2_keep_157 : decode cX2_keep 157 = .ok (.bipush 45, 2) := by decide +kernel
theorem dX2_keep_159 : decode cX2_keep 159 = .ok (.aload_n 0, 1) := by decide +kernel
theorem dX2_keep_160 : decode cX2_keep 160 = .ok (.getfield 128, 3) := by decide +kernel
theorem dX2_keep_163 : decode cX2_keep 163 = .ok (.iastore, 1) := by decide +kernel
theorem dX2_keep_164 : decode cX2_keep 164 = .ok (.aload_n 0, 1) := by decide +kernel
theorem dX2_keep_165 : decode cX2_keep 165 = .ok (.getfield 32, 3) := by decide +kernel
theorem dX2_keep_168 : decode cX2_keep 168 = .ok (.bipush 46, 2) := by decide +kernel
theorem dX2_keep_170 : decode cX2_keep 170 = .ok (.aload_n 0, 1) := by decide +kernel
theorem dX2_keep_171 : decode cX2_keep 171 = .ok (.getfield 131, 3) := by decide +kernel
theorem dX2_keep_174 : decode cX2_keep 174 = .ok (.iastore, 1) := by decide +kernel
theorem dX2_keep_175 : decode cX2_keep 175 = .ok (.aload_n 0, 1) := by decide +kernel
theorem dX2_keep_176 : decode cX2_keep 176 = .ok (.getfield 32, 3) := by decide +kernel
theorem dX2_keep_179 : decode cX2_keep 179 = .ok (.bipush 47, 2) := by decide +kernel
theorem dX2_keep_181 : decode cX2_keep 181 = .ok (.aload_n 0, 1) := by decide +kernel
theorem dX2_keep_182 : decode cX2_keep 182 = .ok (.getfield 103, 3) := by decide +kernel
theorem dX2_keep_185 : decode cX2_keep 185 = .ok (.ifCond .eq 7, 3) := by decide +kernel
theorem dX2_keep_188 : decode cX2_keep 188 = .ok (.iconst 1, 1) := by decide +kernel
theorem dX2_keep_189 : decode cX2_keep 189 = .ok (.goto 4, 3) := by decide +kernel
theorem dX2_keep_192 : decode cX2_keep 192 = .ok (.iconst 0, 1) := by decide +kernel
theorem dX2_keep_193 : decode cX2_keep 193 = .ok (.iastore, 1) := by decide +kernel
theorem dX2_keep_194 : decode cX2_keep 194 = .ok (.return_, 1) := by decide +kernel
theorem dX2_back_0 : decode cX2_back 0 = .ok (.iconst 0, 1) := by decide +kernel
theorem dX2_back_1 : decode cX2_back 1 = .ok (.istore_n 1, 1) := by decide +kernel
theorem dX2_back_2 : decode cX2_back 2 = .ok (.iload_n 1, 1) := by decide +kernel
theorem dX2_back_3 : decode cX2_back 3 = .ok (.bipush 20, 2) := by decide +kernel
theorem dX2_back_5 : decode cX2_back 5 = .ok (.if_icmp .ge 93, 3) := by decide +kernel
theorem dX2_back_8 : decode cX2_back 8 = .ok (.aload_n 0, 1) := by decide +kernel
theorem dX2_back_9 : decode cX2_back 9 = .ok (.getfield 13, 3) := by decide +kernel
theorem dX2_back_12 : decode cX2_back 12 = .ok (.iload_n 1, 1) := by decide +kernel
theorem dX2_back_13 : decode cX2_back 13 = .ok (.aload_n 0, 1) := by decide +kernel
theorem dX2_back_14 : decode cX2_back 14 = .ok (.getfield 32, 3) := by decide +kernel
theorem dX2_back_17 : decode cX2_back 17 = .ok (.iload_n 1, 1) := by decide +kernel
theorem dX2_back_18 : decode cX2_back 18 = .ok (.iaload, 1) := by decide +kernel
theorem dX2_back_19 : decode cX2_back 19 = .ok (.iastore, 1) := by decide +kernel
theorem dX2_back_20 : decode cX2_back 20 = .ok (.aload_n 0, 1) := by decide +kernel
theorem dX2_back_21 : decode cX2_back 21 = .ok (.getfield 16, 3) := by decide +kernel
theorem dX2_back_24 : decode cX2_back 24 = .ok (.iload_n 1, 1) := by decide +kernel
theorem dX2_back_25 : decode cX2_back 25 = .ok (.aload_n 0, 1) := by decide +kernel
theorem dX2_back_26 : decode cX2_back 26 = .ok (.getfield 32, 3) := by decide +kernel
theorem dX2_back_29 : decode cX2_back 29 = .ok (.bipush 20, 2) := by decide +kernel
theorem dX2_back_31 : decode cX2_back 31 = .ok (.iload_n 1, 1) := by decide +kernel
theorem dX2_back_32 : decode cX2_back 32 = .ok (.iadd, 1) := by decide +kernel
theorem dX2_back_33 : decode cX2_back 33 = .ok (.iaload, 1) := by decide +kernel
theorem dX2_back_34 : decode cX2_back 34 = .ok (.iastore, 1) := by decide +kernel
theorem dX2_back_35 : decode cX2_back 35 = .ok (.aload_n 0, 1) := by decide +kernel
theorem dX2_back_36 : decode cX2_back 36 = .ok (.getfield 19, 3) := by decide +kernel
theorem dX2_back_39 : decode cX2_back 39 = .ok (.iload_n 1, 1) := by decide +kernel
theorem dX2_back_40 : decode cX2_back 40 = .ok (.aload_n 0, 1) := by decide +kernel
theorem dX2_back_41 : decode cX2_back 41 = .ok (.getfield 35, 3) := by decide +kernel
theorem dX2_back_44 : decode cX2_back 44 = .ok (.iload_n 1, 1) := by decide +kernel
theorem dX2_back_45 : decode cX2_back 45 = .ok (.laload, 1) := by decide +kernel
theorem dX2_back_46 : decode cX2_back 46 = .ok (.lastore, 1) := by decide +kernel
theorem dX2_back_47 : decode cX2_back 47 = .ok (.aload_n 0, 1) := by decide +kernel
theorem dX2_back_48 : decode cX2_back 48 = .ok (.getfield 23, 3) := by decide +kernel
theorem dX2_back_51 : decode cX2_back 51 = .ok (.iload_n 1, 1) := by decide +kernel
theorem dX2_back_52 : decode cX2_back 52 = .ok (.aload_n 0, 1) := by decide +kernel
theorem dX2_back_53 : decode cX2_back 53 = .ok (.getfield 35, 3) := by decide +kernel
theorem dX2_back_56 : decode cX2_back 56 = .ok (.bipush 20, 2) := by decide +kernel
theorem dX2_back_58 : decode cX2_back 58 = .ok (.iload_n 1, 1) := by decide +kernel
theorem dX2_back_59 : decode cX2_back 59 = .ok (.iadd, 1) := by decide +kernel
theorem dX2_back_60 : decode cX2_back 60 = .ok (.laload, 1) := by decide +kernel
theorem dX2_back_61 : decode cX2_back 61 = .ok (.lastore, 1) := by decide +kernel
theorem dX2_back_62 : decode cX2_back 62 = .ok (.aload_n 0, 1) := by decide +kernel
theorem dX2_back_63 : decode cX2_back 63 = .ok (.getfield 26, 3) := by decide +kernel
theorem dX2_back_66 : decode cX2_back 66 = .ok (.iload_n 1, 1) := by decide +kernel
theorem dX2_back_67 : decode cX2_back 67 = .ok (.aload_n 0, 1) := by decide +kernel
theorem dX2_back_68 : decode cX2_back 68 = .ok (.getfield 35, 3) := by decide +kernel
theorem dX2_back_71 : decode cX2_back 71 = .ok (.bipush 40, 2) := by decide +kernel
theorem dX2_back_73 : decode cX2_back 73 = .ok (.iload_n 1, 1) := by decide +kernel
theorem dX2_back_74 : decode cX2_back 74 = .ok (.iadd, 1) := by decide +kernel
theorem dX2_back_75 : decode cX2_back 75 = .ok (.laload, 1) := by decide +kernel
theorem dX2_back_76 : decode cX2_back 76 = .ok (.lastore, 1) := by decide +kernel
theorem dX2_back_77 : decode cX2_back 77 = .ok (.aload_n 0, 1) := by decide +kernel
theorem dX2_back_78 : decode cX2_back 78 = .ok (.getfield 29, 3) := by decide +kernel
theorem dX2_back_81 : decode cX2_back 81 = .ok (.iload_n 1, 1) := by decide +kernel
theorem dX2_back_82 : decode cX2_back 82 = .ok (.aload_n 0, 1) := by decide +kernel
theorem dX2_back_83 : decode cX2_back 83 = .ok (.getfield 35, 3) := by decide +kernel
theorem dX2_back_86 : decode cX2_back 86 = .ok (.bipush 60, 2) := by decide +kernel
theorem dX2_back_88 : decode cX2_back 88 = .ok (.iload_n 1, 1) := by decide +kernel
theorem dX2_back_89 : decode cX2_back 89 = .ok (.iadd, 1) := by decide +kernel
theorem dX2_back_90 : decode cX2_back 90 = .ok (.laload, 1) := by decide +kernel
theorem dX2_back_91 : decode cX2_back 91 = .ok (.lastore, 1) := by decide +kernel
theorem dX2_back_92 : decode cX2_back 92 = .ok (.iinc 1 1, 3) := by decide +kernel
theorem dX2_back_95 : decode cX2_back 95 = .ok (.goto (-93), 3) := by decide +kernel
theorem dX2_back_98 : decode cX2_back 98 = .ok (.aload_n 0, 1) := by decide +kernel
theorem dX2_back_99 : decode cX2_back 99 = .ok (.aload_n 0, 1) := by decide +kernel
theorem dX2_back_100 : decode cX2_back 100 = .ok (.getfield 32, 3) := by decide +kernel
theorem dX2_back_103 : decode cX2_back 103 = .ok (.bipush 40, 2) := by decide +kernel
theorem dX2_back_105 : decode cX2_back 105 = .ok (.iaload, 1) := by decide +kernel
theorem dX2_back_106 : decode cX2_back 106 = .ok (.putfield 107, 3) := by decide +kernel
theorem dX2_back_109 : decode cX2_back 109 = .ok (.aload_n 0, 1) := by decide +kernel
theorem dX2_back_110 : decode cX2_back 110 = .ok (.aload_n 0, 1) := by decide +kernel
theorem dX2_back_111 : decode cX2_back 111 = .ok (.getfield 32, 3) := by decide +kernel
theorem dX2_back_114 : decode cX2_back 114 = .ok (.bipush 41, 2) := by decide +kernel
theorem dX2_back_116 : decode cX2_back 116 = .ok (.iaload, 1) := by decide +kernel
theorem dX2_back_117 : decode cX2_back 117 = .ok (.putfield 87, 3) := by decide +kernel
theorem dX2_back_120 : decode cX2_back 120 = .ok (.aload_n 0, 1) := by decide +kernel
theorem dX2_back_121 : decode cX2_back 121 = .ok (.aload_n 0, 1) := by decide +kernel
theorem dX2_back_122 : decode cX2_back 122 = .ok (.getfield 32, 3) := by decide +kernel
theorem dX2_back_125 : decode cX2_back 125 = .ok (.bipush 42, 2) := by decide +kernel
theorem dX2_back_127 : decode cX2_back 127 = .ok (.iaload, 1) := by decide +kernel
theorem dX2_back_128 : decode cX2_back 128 = .ok (.putfield 110, 3) := by decide +kernel
theorem dX2_back_131 : decode cX2_back 131 = .ok (.aload_n 0, 1) := by decide +kernel
theorem dX2_back_132 : decode cX2_back 132 = .ok (.aload_n 0, 1) := by decide +kernel
theorem dX2_back_133 : decode cX2_back 133 = .ok (.getfield 32, 3) := by decide +kernel
theorem dX2_back_136 : decode cX2_back 136 = .ok (.bipush 43, 2) := by decide +kernel
theorem dX2_back_138 : decode cX2_back 138 = .ok (.iaload, 1) := by decide +kernel
theorem dX2_back_139 : decode cX2_back 139 = .ok (.putfield 113, 3) := by decide +kernel
theorem dX2_back_142 : decode cX2_back 142 = .ok (.aload_n 0, 1) := by decide +kernel
theorem dX2_back_143 : decode cX2_back 143 = .ok (.aload_n 0, 1) := by decide +kernel
theorem dX2_back_144 : decode cX2_back 144 = .ok (.getfield 32, 3) := by decide +kernel
theorem dX2_back_147 : decode cX2_back 147 = .ok (.bipush 44, 2) := by decide +kernel
theorem dX2_back_149 : decode cX2_back 149 = .ok (.iaload, 1) := by decide +kernel
theorem dX2_back_150 : decode cX2_back 150 = .ok (.putfield 96, 3) := by decide +kernel
theorem dX2_back_153 : decode cX2_back 153 = .ok (.aload_n 0, 1) := by decide +kernel
theorem dX2_back_154 : decode cX2_back 154 = .ok (.aload_n 0, 1) := by decide +kernel
theorem dX2_back_155 : decode cX2_back 155 = .ok (.getfield 32, 3) := by decide +kernel
theorem dX2_back_158 : decode cX2_back 158 = .ok (.bipush 45, 2) := by decide +kernel
theorem dX2_back_160 : decode cX2_back 160 = .ok (.iaload, 1) := by decide +kernel
theorem dX2_back_161 : decode cX2_back 161 = .ok (.putfield 128, 3) := by decide +kernel
theorem dX2_back_164 : decode cX2_back 164 = .ok (.aload_n 0, 1) := by decide +kernel
theorem dX2_back_165 : decode cX2_back 165 = .ok (.aload_n 0, 1) := by decide +kernel
theorem dX2_back_166 : decode cX2_back 166 = .ok (.getfield 32, 3) := by decide +kernel
theorem dX2_back_169 : decode cX2_back 169 = .ok (.bipush 46, 2) := by decide +kernel
theorem dX2_back_171 : decode cX2_back 171 = .ok (.iaload, 1) := by decide +kernel
theorem dX2_back_172 : decode cX2_back 172 = .ok (.putfield 131, 3) := by decide +kernel
theorem dX2_back_175 : decode cX2_back 175 = .ok (.aload_n 0, 1) := by decide +kernel
theorem dX2_back_176 : decode cX2_back 176 = .ok (.aload_n 0, 1) := by decide +kernel
theorem dX2_back_177 : decode cX2_back 177 = .ok (.getfield 32, 3) := by decide +kernel
theorem dX2_back_180 : decode cX2_back 180 = .ok (.bipush 47, 2) := by decide +kernel
theorem dX2_back_182 : decode cX2_back 182 = .ok (.iaload, 1) := by decide +kernel
theorem dX2_back_183 : decode cX2_back 183 = .ok (.iconst 1, 1) := by decide +kernel
theorem dX2_back_184 : decode cX2_back 184 = .ok (.if_icmp .ne 7, 3) := by decide +kernel
theorem dX2_back_187 : decode cX2_back 187 = .ok (.iconst 1, 1) := by decide +kernel
theorem dX2_back_188 : decode cX2_back 188 = .ok (.goto 4, 3) := by decide +kernel
theorem dX2_back_191 : decode cX2_back 191 = .ok (.iconst 0, 1) := by decide +kernel
theorem dX2_back_192 : decode cX2_back 192 = .ok (.putfield 103, 3) := by decide +kernel
theorem dX2_back_195 : decode cX2_back 195 = .ok (.return_, 1) := by decide +kernel
set_option maxRecDepth 20000 in
theorem ggX2_sweep_X2_in : GoodIn wsX2_sweep wsX2_in := goodIn_r _ [6] (by decide +kernel) (by decide +kernel)
set_option maxRecDepth 20000 in
theorem gX2_sweep_X2_in : GoodIn wsX2_sweep (va_wsS RX2 56 yX2_in wsX2_in) := goodIn_app (goodIn_of _ (by decide +kernel)) ggX2_sweep_X2_in
set_option maxRecDepth 20000 in
theorem ggX2_sweep_X2_keep : GoodIn wsX2_sweep wsX2_keep := goodIn_r _ [10, 11, 12, 13, 14, 15, 16, 17, 18, 19, 20, 21, 22, 23, 1, 2, 24, 56, 57, 58, 59, 60, 61, 62, 63, 64, 65, 66, 67, 68, 69, 70, 71, 72, 73] (by decide +kernel) (by decide +kernel)
set_option maxRecDepth 20000 in
theorem gX2_sweep_X2_keep : GoodIn wsX2_sweep (wsV RX2 138 RX2 yX2_keep wsX2_keep) := goodIn_app (goodIn_of _ (by decide +kernel)) ggX2_sweep_X2_keep
set_option maxRecDepth 20000 in
theorem ggX2_sweep_X2_work : GoodIn wsX2_sweep wsX2_work := goodIn_r _ [28, 24, 19, 20, 21, 22, 23, 15, 16, 17, 18, 29, 30, 1, 2, 31, 32, 5, 33, 34, 35, 36, 37, 38, 39, 40, 41, 42, 43, 44, 45, 46, 47, 12, 13, 48, 49, 50, 51, 56, 57, 58, 59, 60, 61, 62, 63, 64, 65, 66, 67, 68, 69, 70, 71, 72, 73] (by decide +kernel) (by decide +kernel)
set_option maxRecDepth 20000 in
theorem gX2_sweep_X2_work : GoodIn wsX2_sweep (wsV RX2 134 RX2 yX2_work wsX2_work) := goodIn_app (goodIn_of _ (by decide +kernel)) ggX2_sweep_X2_work
set_option maxRecDepth 20000 in
theorem ggX2_sweep_X2_back : GoodIn wsX2_sweep wsX2_back := goodIn_r _ [55, 12, 11, 13, 15, 14, 16, 17, 18, 19, 20, 21, 22, 23, 1, 2, 24, 56, 57, 58, 59, 60, 61, 62, 63, 64, 65, 66, 67, 68, 69, 70, 71, 72, 73] (by decide +kernel) (by decide +kernel)
set_option maxRecDepth 20000 in
theorem gX2_sweep_X2_back : GoodIn wsX2_sweep (wsV RX2 141 RX2 yX2_back wsX2_back) := goodIn_app (goodIn_of _ (by decide +kernel)) ggX2_sweep_X2_back
theorem dX2_sweep_0 : decode cX2_sweep 0 = .ok (.iload_n 2, 1) := by decide +kernel
theorem dX2_sweep_1 : decode cX2_sweep 1 = .ok (.iconst 1, 1) := by decide +kernel
theorem dX2_sweep_2 : decode cX2_sweep 2 = .ok (.sipush 300, 3) := by decide +kernel
theorem dX2_sweep_5 : decode cX2_sweep 5 = .ok (.invokestatic 56, 3) := by decide +kernel
theorem dX2_sweep_8 : decode cX2_sweep 8 = .ok (.ifCond .eq 7, 3) := by decide +kernel
theorem dX2_sweep_11 : decode cX2_sweep 11 = .ok (.iload_n 3, 1) := by decide +kernel
theorem dX2_sweep_12 : decode cX2_sweep 12 = .ok (.ifCond .ne 5, 3) := by decide +kernel
theorem dX2_sweep_15 : decode cX2_sweep 15 = .ok (.iconst (-1), 1) := by decide +kernel
theorem dX2_sweep_16 : decode cX2_sweep 16 = .ok (.ireturn, 1) := by decide +kernel
theorem dX2_sweep_17 : decode cX2_sweep 17 = .ok (.aload_n 0, 1) := by decide +kernel
theorem dX2_sweep_18 : decode cX2_sweep 18 = .ok (.invokevirtual 138, 3) := by decide +kernel
theorem dX2_sweep_21 : decode cX2_sweep 21 = .ok (.iconst 0, 1) := by decide +kernel
theorem dX2_sweep_22 : decode cX2_sweep 22 = .ok (.istore 4, 2) := by decide +kernel
theorem dX2_sweep_24 : decode cX2_sweep 24 = .ok (.iconst 0, 1) := by decide +kernel
theorem dX2_sweep_25 : decode cX2_sweep 25 = .ok (.istore 5, 2) := by decide +kernel
theorem dX2_sweep_27 : decode cX2_sweep 27 = .ok (.iload 5, 2) := by decide +kernel
theorem dX2_sweep_29 : decode cX2_sweep 29 = .ok (.iload_n 2, 1) := by decide +kernel
theorem dX2_sweep_30 : decode cX2_sweep 30 = .ok (.if_icmp .ge 60, 3) := by decide +kernel
theorem dX2_sweep_33 : decode cX2_sweep 33 = .ok (.iload_n 1, 1) := by decide +kernel
theorem dX2_sweep_34 : decode cX2_sweep 34 = .ok (.iload 5, 2) := by decide +kernel
theorem dX2_sweep_36 : decode cX2_sweep 36 = .ok (.iadd, 1) := by decide +kernel
theorem dX2_sweep_37 : decode cX2_sweep 37 = .ok (.istore 6, 2) := by decide +kernel
theorem dX2_sweep_39 : decode cX2_sweep 39 = .ok (.aload_n 0, 1) := by decide +kernel
theorem dX2_sweep_40 : decode cX2_sweep 40 = .ok (.iload 6, 2) := by decide +kernel
theorem dX2_sweep_42 : decode cX2_sweep 42 = .ok (.iload_n 3, 1) := by decide +kernel
theorem dX2_sweep_43 : decode cX2_sweep 43 = .ok (.invokevirtual 134, 3) := by decide +kernel
theorem dX2_sweep_46 : decode cX2_sweep 46 = .ok (.iload 4, 2) := by decide +kernel
theorem dX2_sweep_48 : decode cX2_sweep 48 = .ok (.aload_n 0, 1) := by decide +kernel
theorem dX2_sweep_49 : decode cX2_sweep 49 = .ok (.getfield 128, 3) := by decide +kernel
theorem dX2_sweep_52 : decode cX2_sweep 52 = .ok (.iload 6, 2) := by decide +kernel
theorem dX2_sweep_54 : decode cX2_sweep 54 = .ok (.i2l, 1) := by decide +kernel
theorem dX2_sweep_55 : decode cX2_sweep 55 = .ok (.iload_n 3, 1) := by decide +kernel
theorem dX2_sweep_56 : decode cX2_sweep 56 = .ok (.i2l, 1) := by decide +kernel
theorem dX2_sweep_57 : decode cX2_sweep 57 = .ok (.ldiv, 1) := by decide +kernel
theorem dX2_sweep_58 : decode cX2_sweep 58 = .ok (.l2i, 1) := by decide +kernel
theorem dX2_sweep_59 : decode cX2_sweep 59 = .ok (.if_icmp .ne 17, 3) := by decide +kernel
theorem dX2_sweep_62 : decode cX2_sweep 62 = .ok (.aload_n 0, 1) := by decide +kernel
theorem dX2_sweep_63 : decode cX2_sweep 63 = .ok (.getfield 131, 3) := by decide +kernel
theorem dX2_sweep_66 : decode cX2_sweep 66 = .ok (.iload 6, 2) := by decide +kernel
theorem dX2_sweep_68 : decode cX2_sweep 68 = .ok (.i2l, 1) := by decide +kernel
theorem dX2_sweep_69 : decode cX2_sweep 69 = .ok (.iload_n 3, 1) := by decide +kernel
theorem dX2_sweep_70 : decode cX2_sweep 70 = .ok (.i2l, 1) := by decide +kernel
theorem dX2_sweep_71 : decode cX2_sweep 71 = .ok (.lrem, 1) := by decide +kernel
theorem dX2_sweep_72 : decode cX2_sweep 72 = .ok (.l2i, 1) := by decide +kernel
theorem dX2_sweep_73 : decode cX2_sweep 73 = .ok (.if_icmp .eq 7, 3) := by decide +kernel
theorem dX2_sweep_76 : decode cX2_sweep 76 = .ok (.iconst 1, 1) := by decide +kernel
theorem dX2_sweep_77 : decode cX2_sweep 77 = .ok (.goto 4, 3) := by decide +kernel
theorem dX2_sweep_80 : decode cX2_sweep 80 = .ok (.iconst 0, 1) := by decide +kernel
theorem dX2_sweep_81 : decode cX2_sweep 81 = .ok (.iadd, 1) := by decide +kernel
theorem dX2_sweep_82 : decode cX2_sweep 82 = .ok (.istore 4, 2) := by decide +kernel
theorem dX2_sweep_84 : decode cX2_sweep 84 = .ok (.iinc 5 1, 3) := by decide +kernel
theorem dX2_sweep_87 : decode cX2_sweep 87 = .ok (.goto (-60), 3) := by decide +kernel
theorem dX2_sweep_90 : decode cX2_sweep 90 = .ok (.aload_n 0, 1) := by decide +kernel
theorem dX2_sweep_91 : decode cX2_sweep 91 = .ok (.invokevirtual 141, 3) := by decide +kernel
theorem dX2_sweep_94 : decode cX2_sweep 94 = .ok (.iload 4, 2) := by decide +kernel
theorem dX2_sweep_96 : decode cX2_sweep 96 = .ok (.ireturn, 1) := by decide +kernel
