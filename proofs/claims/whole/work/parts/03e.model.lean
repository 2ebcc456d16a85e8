theorem dX7_init_0 : decode cX7_init 0 = .ok (.aload_n 0, 1) := by decide +kernel
theorem dX7_init_1 : decode cX7_init 1 = .ok (.invokespecial 1, 3) := by decide +kernel
theorem dX7_init_4 : decode cX7_init 4 = .ok (.aload_n 0, 1) := by decide +kernel
theorem dX7_init_5 : decode cX7_init 5 = .ok (.iconst 4, 1) := by decide +kernel
theorem dX7_init_6 : decode cX7_init 6 = .ok (.newarray .int, 2) := by decide +kernel
theorem dX7_init_8 : decode cX7_init 8 = .ok (.putfield 7, 3) := by decide +kernel
theorem dX7_init_11 : decode cX7_init 11 = .ok (.aload_n 0, 1) := by decide +kernel
theorem dX7_init_12 : decode cX7_init 12 = .ok (.iconst 4, 1) := by decide +kernel
theorem dX7_init_13 : decode cX7_init 13 = .ok (.newarray .int, 2) := by decide +kernel
theorem dX7_init_15 : decode cX7_init 15 = .ok (.putfield 13, 3) := by decide +kernel
theorem dX7_init_18 : decode cX7_init 18 = .ok (.aload_n 0, 1) := by decide +kernel
theorem dX7_init_19 : decode cX7_init 19 = .ok (.bipush 20, 2) := by decide +kernel
theorem dX7_init_21 : decode cX7_init 21 = .ok (.newarray .int, 2) := by decide +kernel
theorem dX7_init_23 : decode cX7_init 23 = .ok (.putfield 16, 3) := by decide +kernel
theorem dX7_init_26 : decode cX7_init 26 = .ok (.aload_n 0, 1) := by decide +kernel
theorem dX7_init_27 : decode cX7_init 27 = .ok (.bipush 20, 2) := by decide +kernel
theorem dX7_init_29 : decode cX7_init 29 = .ok (.newarray .int, 2) := by decide +kernel
theorem dX7_init_31 : decode cX7_init 31 = .ok (.putfield 19, 3) := by decide +kernel
theorem dX7_init_34 : decode cX7_init 34 = .ok (.aload_n 0, 1) := by decide +kernel
theorem dX7_init_35 : decode cX7_init 35 = .ok (.bipush 20, 2) := by decide +kernel
theorem dX7_init_37 : decode cX7_init 37 = .ok (.newarray .int, 2) := by decide +kernel
theorem dX7_init_39 : decode cX7_init 39 = .ok (.putfield 22, 3) := by decide +kernel
theorem dX7_init_42 : decode cX7_init 42 = .ok (.aload_n 0, 1) := by decide +kernel
theorem dX7_init_43 : decode cX7_init 43 = .ok (.bipush 60, 2) := by decide +kernel
theorem dX7_init_45 : decode cX7_init 45 = .ok (.newarray .int, 2) := by decide +kernel
theorem dX7_init_47 : decode cX7_init 47 = .ok (.putfield 25, 3) := by decide +kernel
theorem dX7_init_50 : decode cX7_init 50 = .ok (.aload_n 0, 1) := by decide +kernel
theorem dX7_init_51 : decode cX7_init 51 = .ok (.bipush 60, 2) := by decide +kernel
theorem dX7_init_53 : decode cX7_init 53 = .ok (.newarray .int, 2) := by decide +kernel
theorem dX7_init_55 : decode cX7_init 55 = .ok (.putfield 28, 3) := by decide +kernel
theorem dX7_init_58 : decode cX7_init 58 = .ok (.aload_n 0, 1) := by decide +kernel
theorem dX7_init_59 : decode cX7_init 59 = .ok (.bipush 60, 2) := by decide +kernel
theorem dX7_init_61 : decode cX7_init 61 = .ok (.newarray .int, 2) := by decide +kernel
theorem dX7_init_63 : decode cX7_init 63 = .ok (.putfield 31, 3) := by decide +kernel
theorem dX7_init_66 : decode cX7_init 66 = .ok (.aload_n 0, 1) := by decide +kernel
theorem dX7_init_67 : decode cX7_init 67 = .ok (.bipush 60, 2) := by decide +kernel
theorem dX7_init_69 : decode cX7_init 69 = .ok (.newarray .int, 2) := by decide +kernel
theorem dX7_init_71 : decode cX7_init 71 = .ok (.putfield 34, 3) := by decide +kernel
theorem dX7_init_74 : decode cX7_init 74 = .ok (.aload_n 0, 1) := by decide +kernel
theorem dX7_init_75 : decode cX7_init 75 = .ok (.bipush 60, 2) := by decide +kernel
theorem dX7_init_77 : decode cX7_init 77 = .ok (.newarray .int, 2) := by decide +kernel
theorem dX7_init_79 : decode cX7_init 79 = .ok (.putfield 37, 3) := by decide +kernel
theorem dX7_init_82 : decode cX7_init 82 = .ok (.aload_n 0, 1) := by decide +kernel
theorem dX7_init_83 : decode cX7_init 83 = .ok (.bipush 60, 2) := by decide +kernel
theorem dX7_init_85 : decode cX7_init 85 = .ok (.newarray .int, 2) := by decide +kernel
theorem dX7_init_87 : decode cX7_init 87 = .ok (.putfield 40, 3) := by decide +kernel
theorem dX7_init_90 : decode cX7_init 90 = .ok (.aload_n 0, 1) := by decide +kernel
theorem dX7_init_91 : decode cX7_init 91 = .ok (.bipush 60, 2) := by decide +kernel
theorem dX7_init_93 : decode cX7_init 93 = .ok (.newarray .int, 2) := by decide +kernel
theorem dX7_init_95 : decode cX7_init 95 = .ok (.putfield 43, 3) := by decide +kernel
theorem dX7_init_98 : decode cX7_init 98 = .ok (.aload_n 0, 1) := by decide +kernel
theorem dX7_init_99 : decode cX7_init 99 = .ok (.sipush 1095, 3) := by decide +kernel
theorem dX7_init_102 : decode cX7_init 102 = .ok (.newarray .int, 2) := by decide +kernel
theorem dX7_init_104 : decode cX7_init 104 = .ok (.putfield 46, 3) := by decide +kernel
theorem dX7_init_107 : decode cX7_init 107 = .ok (.aload_n 0, 1) := by decide +kernel
theorem dX7_init_108 : decode cX7_init 108 = .ok (.sipush 365, 3) := by decide +kernel
theorem dX7_init_111 : decode cX7_init 111 = .ok (.newarray .boolean, 2) := by decide +kernel
theorem dX7_init_113 : decode cX7_init 113 = .ok (.putfield 49, 3) := by decide +kernel
theorem dX7_init_116 : decode cX7_init 116 = .ok (.aload_n 0, 1) := by decide +kernel
theorem dX7_init_117 : decode cX7_init 117 = .ok (.sipush 365, 3) := by decide +kernel
theorem dX7_init_120 : decode cX7_init 120 = .ok (.newarray .int, 2) := by decide +kernel
theorem dX7_init_122 : decode cX7_init 122 = .ok (.putfield 53, 3) := by decide +kernel
theorem dX7_init_125 : decode cX7_init 125 = .ok (.aload_n 0, 1) := by decide +kernel
theorem dX7_init_126 : decode cX7_init 126 = .ok (.sipush 366, 3) := by decide +kernel
theorem dX7_init_129 : decode cX7_init 129 = .ok (.newarray .int, 2) := by decide +kernel
theorem dX7_init_131 : decode cX7_init 131 = .ok (.putfield 56, 3) := by decide +kernel
theorem dX7_init_134 : decode cX7_init 134 = .ok (.return_, 1) := by decide +kernel
theorem dX7_thrown_0 : decode cX7_thrown 0 = .ok (.aload_n 0, 1) := by decide +kernel
theorem dX7_thrown_1 : decode cX7_thrown 1 = .ok (.getfield 59, 3) := by decide +kernel
theorem dX7_thrown_4 : decode cX7_thrown 4 = .ok (.ireturn, 1) := by decide +kernel
theorem dX7_isIn_0 : decode cX7_isIn 0 = .ok (.iload_n 0, 1) := by decide +kernel
theorem dX7_isIn_1 : decode cX7_isIn 1 = .ok (.iload_n 1, 1) := by decide +kernel
theorem dX7_isIn_2 : decode cX7_isIn 2 = .ok (.if_icmp .lt 12, 3) := by decide +kernel
theorem dX7_isIn_5 : decode cX7_isIn 5 = .ok (.iload_n 0, 1) := by decide +kernel
theorem dX7_isIn_6 : decode cX7_isIn 6 = .ok (.iload_n 2, 1) := by decide +kernel
theorem dX7_isIn_7 : decode cX7_isIn 7 = .ok (.if_icmp .gt 7, 3) := by decide +kernel
theorem dX7_isIn_10 : decode cX7_isIn 10 = .ok (.iconst 1, 1) := by decide +kernel
theorem dX7_isIn_11 : decode cX7_isIn 11 = .ok (.goto 4, 3) := by decide +kernel
theorem dX7_isIn_14 : decode cX7_isIn 14 = .ok (.iconst 0, 1) := by decide +kernel
theorem dX7_isIn_15 : decode cX7_isIn 15 = .ok (.ireturn, 1) := by decide +kernel
set_option maxRecDepth 20000 in
theorem ggX7_isDay_X7_isIn : GoodIn wsX7_isDay wsX7_isIn := goodIn_r _ [4] (by decide +kernel) (by decide +kernel)
set_option maxRecDepth 20000 in
theorem gX7_isDay_X7_isIn : GoodIn wsX7_isDay (va_wsS RX7 63 yX7_isIn wsX7_isIn) := goodIn_app (goodIn_of _ (by decide +kernel)) ggX7_isDay_X7_isIn
theorem dX7_isDay_0 : decode cX7_isDay 0 = .ok (.iload_n 0, 1) := by decide +kernel
theorem dX7_isDay_1 : decode cX7_isDay 1 = .ok (.iconst 0, 1) := by decide +kernel
theorem dX7_isDay_2 : decode cX7_isDay 2 = .ok (.sipush 364, 3) := by decide +kernel
theorem dX7_isDay_5 : decode cX7_isDay 5 = .ok (.invokestatic 63, 3) := by decide +kernel
theorem dX7_isDay_8 : decode cX7_isDay 8 = .ok (.ireturn, 1) := by decide +kernel
set_option maxRecDepth 20000 in
theorem ggX7_isPolicy_X7_isIn : GoodIn wsX7_isPolicy wsX7_isIn := goodIn_r _ [5] (by decide +kernel) (by decide +kernel)
set_option maxRecDepth 20000 in
theorem gX7_isPolicy_X7_isIn : GoodIn wsX7_isPolicy (va_wsS RX7 63 yX7_isIn wsX7_isIn) := goodIn_app (goodIn_of _ (by decide +kernel)) ggX7_isPolicy_X7_isIn
theorem dX7_isPolicy_0 : decode cX7_isPolicy 0 = .ok (.iload_n 1, 1) := by decide +kernel
theorem dX7_isPolicy_1 : decode cX7_isPolicy 1 = .ok (.iconst 0, 1) := by decide +kernel
theorem dX7_isPolicy_2 : decode cX7_isPolicy 2 = .ok (.aload_n 0, 1) := by decide +kernel
theorem dX7_isPolicy_3 : decode cX7_isPolicy 3 = .ok (.getfield 67, 3) := by decide +kernel
theorem dX7_isPolicy_6 : decode cX7_isPolicy 6 = .ok (.iconst 1, 1) := by decide +kernel
theorem dX7_isPolicy_7 : decode cX7_isPolicy 7 = .ok (.isub, 1) := by decide +kernel
theorem dX7_isPolicy_8 : decode cX7_isPolicy 8 = .ok (.invokestatic 63, 3) := by decide +kernel
theorem dX7_isPolicy_11 : decode cX7_isPolicy 11 = .ok (.ireturn, 1) := by decide +kernel
set_option maxRecDepth 20000 in
theorem ggX7_isField_X7_isIn : GoodIn wsX7_isField wsX7_isIn := goodIn_r _ [4] (by decide +kernel) (by decide +kernel)
set_option maxRecDepth 20000 in
theorem gX7_isField_X7_isIn : GoodIn wsX7_isField (va_wsS RX7 63 yX7_isIn wsX7_isIn) := goodIn_app (goodIn_of _ (by decide +kernel)) ggX7_isField_X7_isIn
theorem dX7_isField_0 : decode cX7_isField 0 = .ok (.iload_n 0, 1) := by decide +kernel
theorem dX7_isField_1 : decode cX7_isField 1 = .ok (.iconst 0, 1) := by decide +kernel
theorem dX7_isField_2 : decode cX7_isField 2 = .ok (.iconst 2, 1) := by decide +kernel
theorem dX7_isField_3 : decode cX7_isField 3 = .ok (.invokestatic 63, 3) := by decide +kernel
theorem dX7_isField_6 : decode cX7_isField 6 = .ok (.ireturn, 1) := by decide +kernel
set_option maxRecDepth 20000 in
theorem ggX7_open_X7_isIn : GoodIn wsX7_open wsX7_isIn := goodIn_r _ [7] (by decide +kernel) (by decide +kernel)
set_option maxRecDepth 20000 in
theorem gX7_open_X7_isIn : GoodIn wsX7_open (va_wsS RX7 63 yX7_isIn wsX7_isIn) := goodIn_app (goodIn_of _ (by decide +kernel)) ggX7_open_X7_isIn
theorem dX7_open_0 : decode cX7_open 0 = .ok (.aload_n 0, 1) := by decide +kernel
theorem dX7_open_1 : decode cX7_open 1 = .ok (.iload_n 1, 1) := by decide +kernel
theorem dX7_open_2 : decode cX7_open 2 = .ok (.iconst 1, 1) := by decide +kernel
theorem dX7_open_3 : decode cX7_open 3 = .ok (.sipush 1000, 3) := by decide +kernel
theorem dX7_open_6 : decode cX7_open 6 = .ok (.invokestatic 63, 3) := by decide +kernel
theorem dX7_open_9 : decode cX7_open 9 = .ok (.ifCond .ne 7, 3) := by decide +kernel
theorem dX7_open_12 : decode cX7_open 12 = .ok (.iconst 1, 1) := by decide +kernel
theorem dX7_open_13 : decode cX7_open 13 = .ok (.goto 16, 3) := by decide +kernel
theorem dX7_open_16 : decode cX7_open 16 = .ok (.aload_n 0, 1) := by decide +kernel
theorem dX7_open_17 : decode cX7_open 17 = .ok (.getfield 67, 3) := by decide +kernel
theorem dX7_open_20 : decode cX7_open 20 = .ok (.iconst 4, 1) := by decide +kernel
theorem dX7_open_21 : decode cX7_open 21 = .ok (.if_icmp .ne 7, 3) := by decide +kernel
theorem dX7_open_24 : decode cX7_open 24 = .ok (.iconst 2, 1) := by decide +kernel
theorem dX7_open_25 : decode cX7_open 25 = .ok (.goto 4, 3) := by decide +kernel
theorem dX7_open_28 : decode cX7_open 28 = .ok (.iconst 0, 1) := by decide +kernel
theorem dX7_open_29 : decode cX7_open 29 = .ok (.putfield 59, 3) := by decide +kernel
theorem dX7_open_32 : decode cX7_open 32 = .ok (.aload_n 0, 1) := by decide +kernel
theorem dX7_open_33 : decode cX7_open 33 = .ok (.getfield 59, 3) := by decide +kernel
theorem dX7_open_36 : decode cX7_open 36 = .ok (.ifCond .le 5, 3) := by decide +kernel
theorem dX7_open_39 : decode cX7_open 39 = .ok (.iconst 0, 1) := by decide +kernel
theorem dX7_open_40 : decode cX7_open 40 = .ok (.ireturn, 1) := by decide +kernel
theorem dX7_open_41 : decode cX7_open 41 = .ok (.aload_n 0, 1) := by decide +kernel
theorem dX7_open_42 : decode cX7_open 42 = .ok (.getfield 7, 3) := by decide +kernel
theorem dX7_open_45 : decode cX7_open 45 = .ok (.aload_n 0, 1) := by decide +kernel
theorem dX7_open_46 : decode cX7_open 46 = .ok (.getfield 67, 3) := by decide +kernel
theorem dX7_open_49 : decode cX7_open 49 = .ok (.iload_n 1, 1) := by decide +kernel
theorem dX7_open_50 : decode cX7_open 50 = .ok (.iastore, 1) := by decide +kernel
theorem dX7_open_51 : decode cX7_open 51 = .ok (.aload_n 0, 1) := by decide +kernel
theorem dX7_open_52 : decode cX7_open 52 = .ok (.dup, 1) := by decide +kernel
theorem dX7_open_53 : decode cX7_open 53 = .ok (.getfield 67, 3) := by decide +kernel
theorem dX7_open_56 : decode cX7_open 56 = .ok (.iconst 1, 1) := by decide +kernel
theorem dX7_open_57 : decode cX7_open 57 = .ok (.iadd, 1) := by decide +kernel
theorem dX7_open_58 : decode cX7_open 58 = .ok (.putfield 67, 3) := by decide +kernel
theorem dX7_open_61 : decode cX7_open 61 = .ok (.aload_n 0, 1) := by decide +kernel
theorem dX7_open_62 : decode cX7_open 62 = .ok (.getfield 67, 3) := by decide +kernel
theorem dX7_open_65 : decode cX7_open 65 = .ok (.iconst 1, 1) := by decide +kernel
theorem dX7_open_66 : decode cX7_open 66 = .ok (.isub, 1) := by decide +kernel
theorem dX7_open_67 : decode cX7_open 67 = .ok (.ireturn, 1) := by decide +kernel
set_option maxRecDepth 20000 in
theorem ggX7_setWeight_X7_isField : GoodIn wsX7_setWeight wsX7_isField := goodIn_r _ [9, 10, 11, 8, 12] (by decide +kernel) (by decide +kernel)
set_option maxRecDepth 20000 in
theorem gX7_setWeight_X7_isField : GoodIn wsX7_setWeight (va_wsS RX7 70 yX7_isField wsX7_isField) := goodIn_app (goodIn_of _ (by decide +kernel)) ggX7_setWeight_X7_isField
set_option maxRecDepth 20000 in
theorem ggX7_setWeight_X7_isIn : GoodIn wsX7_setWeight wsX7_isIn := goodIn_r _ [12] (by decide +kernel) (by decide +kernel)
set_option maxRecDepth 20000 in
theorem gX7_setWeight_X7_isIn : GoodIn wsX7_setWeight (va_wsS RX7 63 yX7_isIn wsX7_isIn) := goodIn_app (goodIn_of _ (by decide +kernel)) ggX7_setWeight_X7_isIn
set_option maxRecDepth 20000 in
theorem ggX7_setWeight_X7_isDay : GoodIn wsX7_setWeight wsX7_isDay := goodIn_r _ [15, 10, 11, 8, 12] (by decide +kernel) (by decide +kernel)
set_option maxRecDepth 20000 in
theorem gX7_setWeight_X7_isDay : GoodIn wsX7_setWeight (va_wsS RX7 74 yX7_isDay wsX7_isDay) := goodIn_app (goodIn_of _ (by decide +kernel)) ggX7_setWeight_X7_isDay
theorem dX7_setWeight_0 : decode cX7_setWeight 0 = .ok (.aload_n 0, 1) := by decide +kernel
theorem dX7_setWeight_1 : decode cX7_setWeight 1 = .ok (.iload_n 1, 1) := by decide +kernel
theorem dX7_setWeight_2 : decode cX7_setWeight 2 = .ok (.invokestatic 70, 3) := by decide +kernel
theorem dX7_setWeight_5 : decode cX7_setWeight 5 = .ok (.ifCond .ne 7, 3) := by decide +kernel
theorem dX7_setWeight_8 : decode cX7_setWeight 8 = .ok (.iconst 1, 1) := by decide +kernel
theorem dX7_setWeight_9 : decode cX7_setWeight 9 = .ok (.goto 38, 3) := by decide +kernel
theorem dX7_setWeight_12 : decode cX7_setWeight 12 = .ok (.iload_n 2, 1) := by decide +kernel
theorem dX7_setWeight_13 : decode cX7_setWeight 13 = .ok (.iconst 0, 1) := by decide +kernel
theorem dX7_setWeight_14 : decode cX7_setWeight 14 = .ok (.bipush 100, 2) := by decide +kernel
theorem dX7_setWeight_16 : decode cX7_setWeight 16 = .ok (.invokestatic 63, 3) := by decide +kernel
theorem dX7_setWeight_19 : decode cX7_setWeight 19 = .ok (.ifCond .eq 10, 3) := by decide +kernel
theorem dX7_setWeight_22 : decode cX7_setWeight 22 = .ok (.iload_n 3, 1) := by decide +kernel
theorem dX7_setWeight_23 : decode cX7_setWeight 23 = .ok (.invokestatic 74, 3) := by decide +kernel
theorem dX7_setWeight_26 : decode cX7_setWeight 26 = .ok (.ifCond .ne 7, 3) := by decide +kernel
theorem dX7_setWeight_29 : decode cX7_setWeight 29 = .ok (.iconst 2, 1) := by decide +kernel
theorem dX7_setWeight_30 : decode cX7_setWeight 30 = .ok (.goto 17, 3) := by decide +kernel
theorem dX7_setWeight_33 : decode cX7_setWeight 33 = .ok (.aload_n 0, 1) := by decide +kernel
theorem dX7_setWeight_34 : decode cX7_setWeight 34 = .ok (.getfield 77, 3) := by decide +kernel
theorem dX7_setWeight_37 : decode cX7_setWeight 37 = .ok (.bipush 20, 2) := by decide +kernel
theorem dX7_setWeight_39 : decode cX7_setWeight 39 = .ok (.if_icmp .ne 7, 3) := by decide +kernel
theorem dX7_setWeight_42 : decode cX7_setWeight 42 = .ok (.iconst 3, 1) := by decide +kernel
theorem dX7_setWeight_43 : decode cX7_setWeight 43 = .ok (.goto 4, 3) := by decide +kernel
theorem dX7_setWeight_46 : decode cX7_setWeight 46 = .ok (.iconst 0, 1) := by decide +kernel
theorem dX7_setWeight_47 : decode cX7_setWeight 47 = .ok (.putfield 59, 3) := by decide +kernel
theorem dX7_setWeight_50 : decode cX7_setWeight 50 = .ok (.aload_n 0, 1) := by decide +kernel
theorem dX7_setWeight_51 : decode cX7_setWeight 51 = .ok (.getfield 59, 3) := by decide +kernel
theorem dX7_setWeight_54 : decode cX7_setWeight 54 = .ok (.ifCond .le 5, 3) := by decide +kernel
theorem dX7_setWeight_57 : decode cX7_setWeight 57 = .ok (.iconst 0, 1) := by decide +kernel
theorem dX7_setWeight_58 : decode cX7_setWeight 58 = .ok (.ireturn, 1) := by decide +kernel
theorem dX7_setWeight_59 : decode cX7_setWeight 59 = .ok (.aload_n 0, 1) := by decide +kernel
theorem dX7_setWeight_60 : decode cX7_setWeight 60 = .ok (.getfield 16, 3) := by decide +kernel
theorem dX7_setWeight_63 : decode cX7_setWeight 63 = .ok (.aload_n 0, 1) := by decide +kernel
theorem dX7_setWeight_64 : decode cX7_setWeight 64 = .ok (.getfield 77, 3) := by decide +kernel
theorem dX7_setWeight_67 : decode cX7_setWeight 67 = .ok (.iload_n 1, 1) := by decide +kernel
theorem dX7_setWeight_68 : decode cX7_setWeight 68 = .ok (.iastore, 1) := by decide +kernel
theorem dX7_setWeight_69 : decode cX7_setWeight 69 = .ok (.aload_n 0, 1) := by decide +kernel
theorem dX7_setWeight_70 : decode cX7_setWeight 70 = .ok (.getfield 19, 3) := by decide +kernel
theorem dX7_setWeight_73 : decode cX7_setWeight 73 = .ok (.aload_n 0, 1) := by decide +kernel
theorem dX7_setWeight_74 : decode cX7_setWeight 74 = .ok (.getfield 77, 3) := by decide +kernel
theorem dX7_setWeight_77 : decode cX7_setWeight 77 = .ok (.iload_n 2, 1) := by decide +kernel
theorem dX7_setWeight_78 : decode cX7_setWeight 78 = .ok (.iastore, 1) := by decide +kernel
theorem dX7_setWeight_79 : decode cX7_setWeight 79 = .ok (.aload_n 0, 1) := by decide +kernel
theorem dX7_setWeight_80 : decode cX7_setWeight 80 = .ok (.getfield 22, 3) := by decide +kernel
theorem dX7_setWeight_83 : decode cX7_setWeight 83 = .ok (.aload_n 0, 1) := by decide +kernel
theorem dX7_setWeight_84 : decode cX7_setWeight 84 = .ok (.getfield 77, 3) := by decide +kernel
theorem dX7_setWeight_87 : decode cX7_setWeight 87 = .ok (.iload_n 3, 1) := by decide +kernel
theorem dX7_setWeight_88 : decode cX7_setWeight 88 = .ok (.iastore, 1) := by decide +kernel
theorem dX7_setWeight_89 : decode cX7_setWeight 89 = .ok (.aload_n 0, 1) := by decide +kernel
theorem dX7_setWeight_90 : decode cX7_setWeight 90 = .ok (.dup, 1) := by decide +kernel
theorem dX7_setWeight_91 : decode cX7_setWeight 91 = .ok (.getfield 77, 3) := by decide +kernel
theorem dX7_setWeight_94 : decode cX7_setWeight 94 = .ok (.iconst 1, 1) := by decide +kernel
theorem dX7_setWeight_95 : decode cX7_setWeight 95 = .ok (.iadd, 1) := by decide +kernel
theorem dX7_setWeight_96 : decode cX7_setWeight 96 = .ok (.putfield 77, 3) := by decide +kernel
theorem dX7_setWeight_99 : decode cX7_setWeight 99 = .ok (.aload_n 0, 1) := by decide +kernel
theorem dX7_setWeight_100 : decode cX7_setWeight 100 = .ok (.getfield 77, 3) := by decide +kernel
theorem dX7_setWeight_103 : decode cX7_setWeight 103 = .ok (.ireturn, 1) := by decide +kernel
set_option maxRecDepth 20000 in
theorem ggX7_pass_X7_isIn : GoodIn wsX7_pass wsX7_isIn := goodIn_r _ [6] (by decide +kernel) (by decide +kernel)
set_option maxRecDepth 20000 in
theorem gX7_pass_X7_isIn : GoodIn wsX7_pass (va_wsS RX7 63 yX7_isIn wsX7_isIn) := goodIn_app (goodIn_of _ (by decide +kernel)) ggX7_pass_X7_isIn
theorem dX7_pass_0 : decode cX7_pass 0 = .ok (.aload_n 0, 1) := by decide +kernel
theorem dX7_pass_1 : decode cX7_pass 1 = .ok (.iload_n 1, 1) := by decide +kernel
theorem dX7_pass_2 : decode cX7_pass 2 = .ok (.iconst 1, 1) := by decide +kernel
theorem dX7_pass_3 : decode cX7_pass 3 = .ok (.bipush 100, 2) := by decide +kernel
theorem dX7_pass_5 : decode cX7_pass 5 = .ok (.invokestatic 63, 3) := by decide +kernel
theorem dX7_pass_8 : decode cX7_pass 8 = .ok (.ifCond .eq 7, 3) := by decide +kernel
theorem dX7_pass_11 : decode cX7_pass 11 = .ok (.iconst 0, 1) := by decide +kernel
theorem dX7_pass_12 : decode cX7_pass 12 = .ok (.goto 4, 3) := by decide +kernel
theorem dX7_pass_15 : decode cX7_pass 15 = .ok (.iconst 1, 1) := by decide +kernel
theorem dX7_pass_16 : decode cX7_pass 16 = .ok (.putfield 59, 3) := by decide +kernel
theorem dX7_pass_19 : decode cX7_pass 19 = .ok (.aload_n 0, 1) := by decide +kernel
theorem dX7_pass_20 : decode cX7_pass 20 = .ok (.getfield 59, 3) := by decide +kernel
theorem dX7_pass_23 : decode cX7_pass 23 = .ok (.ifCond .le 5, 3) := by decide +kernel
theorem dX7_pass_26 : decode cX7_pass 26 = .ok (.iconst 0, 1) := by decide +kernel
theorem dX7_pass_27 : decode cX7_pass 27 = .ok (.ireturn, 1) := by decide +kernel
theorem dX7_pass_28 : decode cX7_pass 28 = .ok (.aload_n 0, 1) := by decide +kernel
theorem dX7_pass_29 : decode cX7_pass 29 = .ok (.dup, 1) := by decide +kernel
theorem dX7_pass_30 : decode cX7_pass 30 = .ok (.getfield 80, 3) := by decide +kernel
theorem dX7_pass_33 : decode cX7_pass 33 = .ok (.iload_n 1, 1) := by decide +kernel
theorem dX7_pass_34 : decode cX7_pass 34 = .ok (.iadd, 1) := by decide +kernel
theorem dX7_pass_35 : decode cX7_pass 35 = .ok (.putfield 80, 3) := by decide +kernel
theorem dX7_pass_38 : decode cX7_pass 38 = .ok (.aload_n 0, 1) := by decide +kernel
theorem dX7_pass_39 : decode cX7_pass 39 = .ok (.getfield 80, 3) := by decide +kernel
theorem dX7_pass_42 : decode cX7_pass 42 = .ok (.ireturn, 1) := by decide +kernel
theorem dX7_today_0 : decode cX7_today 0 = .ok (.aload_n 0, 1) := by decide +kernel
theorem dX7_today_1 : decode cX7_today 1 = .ok (.iconst 0, 1) := by decide +kernel
theorem dX7_today_2 : decode cX7_today 2 = .ok (.putfield 59, 3) := by decide +kernel
theorem dX7_today_5 : decode cX7_today 5 = .ok (.aload_n 0, 1) := by decide +kernel
theorem dX7_today_6 : decode cX7_today 6 = .ok (.getfield 80, 3) := by decide +kernel
theorem dX7_today_9 : decode cX7_today 9 = .ok (.ireturn, 1) := by decide +kernel
set_option maxRecDepth 20000 in
theorem ggX7_tells_X7_isPolicy : GoodIn wsX7_tells wsX7_isPolicy := goodIn_r _ [15, 16, 17, 18, 14, 19, 26, 27, 28, 29, 30, 31, 32, 33, 34, 35, 36, 37, 38, 39, 40, 41, 42, 43, 44, 45, 46] (by decide +kernel) (by decide +kernel)
set_option maxRecDepth 20000 in
theorem gX7_tells_X7_isPolicy : GoodIn wsX7_tells (wsV RX7 83 RX7 yX7_isPolicy wsX7_isPolicy) := goodIn_app (goodIn_of _ (by decide +kernel)) ggX7_tells_X7_isPolicy
set_option maxRecDepth 20000 in
theorem ggX7_tells_X7_isField : GoodIn wsX7_tells wsX7_isField := goodIn_r _ [22, 17, 18, 14, 19] (by decide +kernel) (by decide +kernel)
set_option maxRecDepth 20000 in
theorem gX7_tells_X7_isField : GoodIn wsX7_tells (va_wsS RX7 70 yX7_isField wsX7_isField) := goodIn_app (goodIn_of _ (by decide +kernel)) ggX7_tells_X7_isField
set_option maxRecDepth 20000 in
theorem ggX7_tells_X7_isDay : GoodIn wsX7_tells wsX7_isDay := goodIn_r _ [25, 17, 18, 14, 19] (by decide +kernel) (by decide +kernel)
set_option maxRecDepth 20000 in
theorem gX7_tells_X7_isDay : GoodIn wsX7_tells (va_wsS RX7 74 yX7_isDay wsX7_isDay) := goodIn_app (goodIn_of _ (by decide +kernel)) ggX7_tells_X7_isDay
theorem dX7_tells_0 : decode cX7_tells 0 = .ok (.aload_n 0, 1) := by decide +kernel
theorem dX7_tells_1 : decode cX7_tells 1 = .ok (.aload_n 0, 1) := by decide +kernel
theorem dX7_tells_2 : decode cX7_tells 2 = .ok (.iload_n 1, 1) := by decide +kernel
theorem dX7_tells_3 : decode cX7_tells 3 = .ok (.invokevirtual 83, 3) := by decide +kernel
theorem dX7_tells_6 : decode cX7_tells 6 = .ok (.ifCond .eq 10, 3) := by decide +kernel
theorem dX7_tells_9 : decode cX7_tells 9 = .ok (.iload_n 3, 1) := by decide +kernel
theorem dX7_tells_10 : decode cX7_tells 10 = .ok (.invokestatic 70, 3) := by decide +kernel
theorem dX7_tells_13 : decode cX7_tells 13 = .ok (.ifCond .ne 7, 3) := by decide +kernel
theorem dX7_tells_16 : decode cX7_tells 16 = .ok (.iconst 1, 1) := by decide +kernel
theorem dX7_tells_17 : decode cX7_tells 17 = .ok (.goto 34, 3) := by decide +kernel
theorem dX7_tells_20 : decode cX7_tells 20 = .ok (.iload 4, 2) := by decide +kernel
theorem dX7_tells_22 : decode cX7_tells 22 = .ok (.invokestatic 74, 3) := by decide +kernel
theorem dX7_tells_25 : decode cX7_tells 25 = .ok (.ifCond .eq 8, 3) := by decide +kernel
theorem dX7_tells_28 : decode cX7_tells 28 = .ok (.iload 6, 2) := by decide +kernel
theorem dX7_tells_30 : decode cX7_tells 30 = .ok (.ifCond .ne 7, 3) := by decide +kernel
theorem dX7_tells_33 : decode cX7_tells 33 = .ok (.iconst 2, 1) := by decide +kernel
theorem dX7_tells_34 : decode cX7_tells 34 = .ok (.goto 17, 3) := by decide +kernel
theorem dX7_tells_37 : decode cX7_tells 37 = .ok (.aload_n 0, 1) := by decide +kernel
theorem dX7_tells_38 : decode cX7_tells 38 = .ok (.getfield 86, 3) := by decide +kernel
theorem dX7_tells_41 : decode cX7_tells 41 = .ok (.bipush 60, 2) := by decide +kernel
theorem dX7_tells_43 : decode cX7_tells 43 = .ok (.if_icmp .ne 7, 3) := by decide +kernel
theorem dX7_tells_46 : decode cX7_tells 46 = .ok (.iconst 3, 1) := by decide +kernel
theorem dX7_tells_47 : decode cX7_tells 47 = .ok (.goto 4, 3) := by decide +kernel
theorem dX7_tells_50 : decode cX7_tells 50 = .ok (.iconst 0, 1) := by decide +kernel
theorem dX7_tells_51 : decode cX7_tells 51 = .ok (.putfield 59, 3) := by decide +kernel
theorem dX7_tells_54 : decode cX7_tells 54 = .ok (.aload_n 0, 1) := by decide +kernel
theorem dX7_tells_55 : decode cX7_tells 55 = .ok (.getfield 59, 3) := by decide +kernel
theorem dX7_tells_58 : decode cX7_tells 58 = .ok (.ifCond .le 5, 3) := by decide +kernel
theorem dX7_tells_61 : decode cX7_tells 61 = .ok (.iconst 0, 1) := by decide +kernel
theorem dX7_tells_62 : decode cX7_tells 62 = .ok (.ireturn, 1) := by decide +kernel
theorem dX7_tells_63 : decode cX7_tells 63 = .ok (.aload_n 0, 1) := by decide +kernel
theorem dX7_tells_64 : decode cX7_tells 64 = .ok (.getfield 25, 3) := by decide +kernel
theorem dX7_tells_67 : decode cX7_tells 67 = .ok (.aload_n 0, 1) := by decide +kernel
theorem dX7_tells_68 : decode cX7_tells 68 = .ok (.getfield 86, 3) := by decide +kernel
theorem dX7_tells_71 : decode cX7_tells 71 = .ok (.iload_n 1, 1) := by decide +kernel
theorem dX7_tells_72 : decode cX7_tells 72 = .ok (.iastore, 1) := by decide +kernel
theorem dX7_tells_73 : decode cX7_tells 73 = .ok (.aload_n 0, 1) := by decide +kernel
theorem dX7_tells_74 : decode cX7_tells 74 = .ok (.getfield 28, 3) := by decide +kernel
theorem dX7_tells_77 : decode cX7_tells 77 = .ok (.aload_n 0, 1) := by decide +kernel
theorem dX7_tells_78 : decode cX7_tells 78 = .ok (.getfield 86, 3) := by decide +kernel
theorem dX7_tells_81 : decode cX7_tells 81 = .ok (.iload_n 2, 1) := by decide +kernel
theorem dX7_tells_82 : decode cX7_tells 82 = .ok (.iastore, 1) := by decide +kernel
theorem dX7_tells_83 : decode cX7_tells 83 = .ok (.aload_n 0, 1) := by decide +kernel
theorem dX7_tells_84 : decode cX7_tells 84 = .ok (.getfield 31, 3) := by decide +kernel
theorem dX7_tells_87 : decode cX7_tells 87 = .ok (.aload_n 0, 1) := by decide +kernel
theorem dX7_tells_88 : decode cX7_tells 88 = .ok (.getfield 86, 3) := by decide +kernel
theorem dX7_tells_91 : decode cX7_tells 91 = .ok (.iload_n 3, 1) := by decide +kernel
theorem dX7_tells_92 : decode cX7_tells 92 = .ok (.iastore, 1) := by decide +kernel
theorem dX7_tells_93 : decode cX7_tells 93 = .ok (.aload_n 0, 1) := by decide +kernel
theorem dX7_tells_94 : decode cX7_tells 94 = .ok (.getfield 34, 3) := by decide +kernel
theorem dX7_tells_97 : decode cX7_tells 97 = .ok (.aload_n 0, 1) := by decide +kernel
theorem dX7_tells_98 : decode cX7_tells 98 = .ok (.getfield 86, 3) := by decide +kernel
theorem dX7_tells_101 : decode cX7_tells 101 = .ok (.iload 4, 2) := by decide +kernel
theorem dX7_tells_103 : decode cX7_tells 103 = .ok (.iastore, 1) := by decide +kernel
theorem dX7_tells_104 : decode cX7_tells 104 = .ok (.aload_n 0, 1) := by decide +kernel
theorem dX7_tells_105 : decode cX7_tells 105 = .ok (.getfield 37, 3) := by decide +kernel
theorem dX7_tells_108 : decode cX7_tells 108 = .ok (.aload_n 0, 1) := by decide +kernel
theorem dX7_tells_109 : decode cX7_tells 109 = .ok (.getfield 86, 3) := by decide +kernel
theorem dX7_tells_112 : decode cX7_tells 112 = .ok (.iload 5, 2) := by decide +kernel
theorem dX7_tells_114 : decode cX7_tells 114 = .ok (.iastore, 1) := by decide +kernel
theorem dX7_tells_115 : decode cX7_tells 115 = .ok (.aload_n 0, 1) := by decide +kernel
theorem dX7_tells_116 : decode cX7_tells 116 = .ok (.getfield 40, 3) := by decide +kernel
theorem dX7_tells_119 : decode cX7_tells 119 = .ok (.aload_n 0, 1) := by decide +kernel
theorem dX7_tells_120 : decode cX7_tells 120 = .ok (.getfield 86, 3) := by decide +kernel
theorem dX7_tells_123 : decode cX7_tells 123 = .ok (.aload_n 0, 1) := by decide +kernel
theorem dX7_tells_124 : decode cX7_tells 124 = .ok (.getfield 80, 3) := by decide +kernel
theorem dX7_tells_127 : decode cX7_tells 127 = .ok (.iastore, 1) := by decide +kernel
theorem dX7_tells_128 : decode cX7_tells 128 = .ok (.aload_n 0, 1) := by decide +kernel
theorem dX7_tells_129 : decode cX7_tells 129 = .ok (.getfield 43, 3) := by decide +kernel
theorem dX7_tells_132 : decode cX7_tells 132 = .ok (.aload_n 0, 1) := by decide +kernel
theorem dX7_tells_133 : decode cX7_tells 133 = .ok (.getfield 86, 3) := by decide +kernel
theorem dX7_tells_136 : decode cX7_tells 136 = .ok (.iconst (-1), 1) := by decide +kernel
theorem dX7_tells_137 : decode cX7_tells 137 = .ok (.iastore, 1) := by decide +kernel
theorem dX7_tells_138 : decode cX7_tells 138 = .ok (.aload_n 0, 1) := by decide +kernel
theorem dX7_tells_139 : decode cX7_tells 139 = .ok (.dup, 1) := by decide +kernel
theorem dX7_tells_140 : decode cX7_tells 140 = .ok (.getfield 86, 3) := by decide +kernel
theorem dX7_tells_143 : decode cX7_tells 143 = .ok (.iconst 1, 1) := by decide +kernel
theorem dX7_tells_144 : decode cX7_tells 144 = .ok (.iadd, 1) := by decide +kernel
theorem dX7_tells_145 : decode cX7_tells 145 = .ok (.putfield 86, 3) := by decide +kernel
theorem dX7_tells_148 : decode cX7_tells 148 = .ok (.aload_n 0, 1) := by decide +kernel
theorem dX7_tells_149 : decode cX7_tells 149 = .ok (.getfield 86, 3) := by decide +kernel
theorem dX7_tells_152 : decode cX7_tells 152 = .ok (.iconst 1, 1) := by decide +kernel
theorem dX7_tells_153 : decode cX7_tells 153 = .ok (.isub, 1) := by decide +kernel
theorem dX7_tells_154 : decode cX7_tells 154 = .ok (.ireturn, 1) := by decide +kernel
set_option maxRecDepth 20000 in
theorem ggX7_change_X7_isIn : GoodIn wsX7_change wsX7_isIn := goodIn_r _ [4] (by decide +kernel) (by decide +kernel)
set_option maxRecDepth 20000 in
theorem gX7_change_X7_isIn : GoodIn wsX7_change (va_wsS RX7 63 yX7_isIn wsX7_isIn) := goodIn_app (goodIn_of _ (by decide +kernel)) ggX7_change_X7_isIn
set_option maxRecDepth 20000 in
theorem ggX7_change_X7_tells : GoodIn wsX7_change wsX7_tells := goodIn_r _ [8, 9, 10, 11, 12, 13, 14, 15, 16, 17, 18, 19, 20, 21, 3, 22, 23, 1, 2, 4, 24, 25, 26, 27, 28, 29, 30, 31, 32, 33, 34, 35, 36, 37, 38, 39, 40, 41, 42, 43, 44, 45, 46, 47, 48, 49, 50] (by decide +kernel) (by decide +kernel)
set_option maxRecDepth 20000 in
theorem gX7_change_X7_tells : GoodIn wsX7_change (wsV RX7 89 RX7 yX7_tells wsX7_tells) := goodIn_app (goodIn_of _ (by decide +kernel)) ggX7_change_X7_tells
theorem dX7_change_0 : decode cX7_change 0 = .ok (.aload_n 0, 1) := by decide +kernel
theorem dX7_change_1 : decode cX7_change 1 = .ok (.iload_n 1, 1) := by decide +kernel
theorem dX7_change_2 : decode cX7_change 2 = .ok (.iconst 0, 1) := by decide +kernel
theorem dX7_change_3 : decode cX7_change 3 = .ok (.iload_n 2, 1) := by decide +kernel
theorem dX7_change_4 : decode cX7_change 4 = .ok (.iload_n 3, 1) := by decide +kernel
theorem dX7_change_5 : decode cX7_change 5 = .ok (.iload 4, 2) := by decide +kernel
theorem dX7_change_7 : decode cX7_change 7 = .ok (.iload 4, 2) := by decide +kernel
theorem dX7_change_9 : decode cX7_change 9 = .ok (.iconst 0, 1) := by decide +kernel
theorem dX7_change_10 : decode cX7_change 10 = .ok (.bipush 20, 2) := by decide +kernel
theorem dX7_change_12 : decode cX7_change 12 = .ok (.invokestatic 63, 3) := by decide +kernel
theorem dX7_change_15 : decode cX7_change 15 = .ok (.invokevirtual 89, 3) := by decide +kernel
theorem dX7_change_18 : decode cX7_change 18 = .ok (.ireturn, 1) := by decide +kernel
set_option maxRecDepth 20000 in
theorem ggX7_add_X7_isIn : GoodIn wsX7_add wsX7_isIn := goodIn_r _ [4] (by decide +kernel) (by decide +kernel)
set_option maxRecDepth 20000 in
theorem gX7_add_X7_isIn : GoodIn wsX7_add (va_wsS RX7 63 yX7_isIn wsX7_isIn) := goodIn_app (goodIn_of _ (by decide +kernel)) ggX7_add_X7_isIn
set_option maxRecDepth 20000 in
theorem ggX7_add_X7_tells : GoodIn wsX7_add wsX7_tells := goodIn_r _ [8, 9, 10, 11, 12, 13, 14, 15, 16, 17, 18, 19, 20, 21, 3, 22, 23, 1, 2, 4, 24, 25, 26, 27, 28, 29, 30, 31, 32, 33, 34, 35, 36, 37, 38, 39, 40, 41, 42, 43, 44, 45, 46, 47, 48, 49, 50] (by decide +kernel) (by decide +kernel)
set_option maxRecDepth 20000 in
theorem gX7_add_X7_tells : GoodIn wsX7_add (wsV RX7 89 RX7 yX7_tells wsX7_tells) := goodIn_app (goodIn_of _ (by decide +kernel)) ggX7_add_X7_tells
theorem dX7_add_0 : decode cX7_add 0 = .ok (.aload_n 0, 1) := by decide +kernel
theorem dX7_add_1 : decode cX7_add 1 = .ok (.iload_n 1, 1) := by decide +kernel
theorem dX7_add_2 : decode cX7_add 2 = .ok (.iconst 1, 1) := by decide +kernel
theorem dX7_add_3 : decode cX7_add 3 = .ok (.iload_n 2, 1) := by decide +kernel
theorem dX7_add_4 : decode cX7_add 4 = .ok (.iload_n 3, 1) := by decide +kernel
theorem dX7_add_5 : decode cX7_add 5 = .ok (.iload 4, 2) := by decide +kernel
theorem dX7_add_7 : decode cX7_add 7 = .ok (.iload 4, 2) := by decide +kernel
theorem dX7_add_9 : decode cX7_add 9 = .ok (.bipush (-20), 2) := by decide +kernel
theorem dX7_add_11 : decode cX7_add 11 = .ok (.bipush 20, 2) := by decide +kernel
theorem dX7_add_13 : decode cX7_add 13 = .ok (.invokestatic 63, 3) := by decide +kernel
theorem dX7_add_16 : decode cX7_add 16 = .ok (.invokevirtual 89, 3) := by decide +kernel
theorem dX7_add_19 : decode cX7_add 19 = .ok (.ireturn, 1) := by decide +kernel
set_option maxRecDepth 20000 in
theorem ggX7_cancel_X7_tells : GoodIn wsX7_cancel wsX7_tells := goodIn_r _ [5, 6, 7, 8, 9, 10, 11, 12, 13, 14, 15, 16, 17, 18, 4, 19, 20, 21, 22, 23, 24, 25, 26, 27, 28, 29, 30, 31, 32, 33, 34, 35, 36, 37, 38, 39, 40, 41, 42, 43, 44, 45, 46, 47, 48, 49, 50] (by decide +kernel) (by decide +kernel)
set_option maxRecDepth 20000 in
theorem gX7_cancel_X7_tells : GoodIn wsX7_cancel (wsV RX7 89 RX7 yX7_tells wsX7_tells) := goodIn_app (goodIn_of _ (by decide +kernel)) ggX7_cancel_X7_tells
theorem dX7_cancel_0 : decode cX7_cancel 0 = .ok (.aload_n 0, 1) := by decide +kernel
theorem dX7_cancel_1 : decode cX7_cancel 1 = .ok (.iload_n 1, 1) := by decide +kernel
theorem dX7_cancel_2 : decode cX7_cancel 2 = .ok (.iconst 2, 1) := by decide +kernel
theorem dX7_cancel_3 : decode cX7_cancel 3 = .ok (.iconst 0, 1) := by decide +kernel
theorem dX7_cancel_4 : decode cX7_cancel 4 = .ok (.iload_n 2, 1) := by decide +kernel
theorem dX7_cancel_5 : decode cX7_cancel 5 = .ok (.iconst 0, 1) := by decide +kernel
theorem dX7_cancel_6 : decode cX7_cancel 6 = .ok (.iconst 1, 1) := by decide +kernel
theorem dX7_cancel_7 : decode cX7_cancel 7 = .ok (.invokevirtual 89, 3) := by decide +kernel
theorem dX7_cancel_10 : decode cX7_cancel 10 = .ok (.ireturn, 1) := by decide +kernel
set_option maxRecDepth 20000 in
theorem ggX7_reinstate_X7_tells : GoodIn wsX7_reinstate wsX7_tells := goodIn_r _ [5, 6, 7, 8, 9, 10, 11, 12, 13, 14, 15, 16, 17, 18, 4, 19, 20, 21, 22, 23, 24, 25, 26, 27, 28, 29, 30, 31, 32, 33, 34, 35, 36, 37, 38, 39, 40, 41, 42, 43, 44, 45, 46, 47, 48, 49, 50] (by decide +kernel) (by decide +kernel)
set_option maxRecDepth 20000 in
theorem gX7_reinstate_X7_tells : GoodIn wsX7_reinstate (wsV RX7 89 RX7 yX7_tells wsX7_tells) := goodIn_app (goodIn_of _ (by decide +kernel)) ggX7_reinstate_X7_tells
theorem dX7_reinstate_0 : decode cX7_reinstate 0 = .ok (.aload_n 0, 1) := by decide +kernel
theorem dX7_reinstate_1 : decode cX7_reinstate 1 = .ok (.iload_n 1, 1) := by decide +kernel
theorem dX7_reinstate_2 : decode cX7_reinstate 2 = .ok (.iconst 3, 1) := by decide +kernel
theorem dX7_reinstate_3 : decode cX7_reinstate 3 = .ok (.iconst 0, 1) := by decide +kernel
theorem dX7_reinstate_4 : decode cX7_reinstate 4 = .ok (.iload_n 2, 1) := by decide +kernel
theorem dX7_reinstate_5 : decode cX7_reinstate 5 = .ok (.iconst 0, 1) := by decide +kernel
theorem dX7_reinstate_6 : decode cX7_reinstate 6 = .ok (.iconst 1, 1) := by decide +kernel
theorem dX7_reinstate_7 : decode cX7_reinstate 7 = .ok (.invokevirtual 89, 3) := by decide +kernel
theorem dX7_reinstate_10 : decode cX7_reinstate 10 = .ok (.ireturn, 1) := by decide +kernel
set_option maxRecDepth 20000 in
theorem ggX7_isChange_X7_isIn : GoodIn wsX7_isChange wsX7_isIn := goodIn_r _ [6] (by decide +kernel) (by decide +kernel)
set_option maxRecDepth 20000 in
theorem gX7_isChange_X7_isIn : GoodIn wsX7_isChange (va_wsS RX7 63 yX7_isIn wsX7_isIn) := goodIn_app (goodIn_of _ (by decide +kernel)) ggX7_isChange_X7_isIn
theorem dX7_isChange_0 : decode cX7_isChange 0 = .ok (.aload_n 0, 1) := by decide +kernel
theorem dX7_isChange_1 : decode cX7_isChange 1 = .ok (.iload_n 1, 1) := by decide +kernel
theorem dX7_isChange_2 : decode cX7_isChange 2 = .ok (.iconst 0, 1) := by decide +kernel
theorem dX7_isChange_3 : decode cX7_isChange 3 = .ok (.aload_n 0, 1) := by decide +kernel
theorem dX7_isChange_4 : decode cX7_isChange 4 = .ok (.getfield 86, 3) := by decide +kernel
theorem dX7_isChange_7 : decode cX7_isChange 7 = .ok (.iconst 1, 1) := by decide +kernel
theorem dX7_isChange_8 : decode cX7_isChange 8 = .ok (.isub, 1) := by decide +kernel
theorem dX7_isChange_9 : decode cX7_isChange 9 = .ok (.invokestatic 63, 3) := by decide +kernel
theorem dX7_isChange_12 : decode cX7_isChange 12 = .ok (.ifCond .eq 7, 3) := by decide +kernel
theorem dX7_isChange_15 : decode cX7_isChange 15 = .ok (.iconst 0, 1) := by decide +kernel
theorem dX7_isChange_16 : decode cX7_isChange 16 = .ok (.goto 4, 3) := by decide +kernel
theorem dX7_isChange_19 : decode cX7_isChange 19 = .ok (.iconst 1, 1) := by decide +kernel
theorem dX7_isChange_20 : decode cX7_isChange 20 = .ok (.putfield 59, 3) := by decide +kernel
theorem dX7_isChange_23 : decode cX7_isChange 23 = .ok (.aload_n 0, 1) := by decide +kernel
theorem dX7_isChange_24 : decode cX7_isChange 24 = .ok (.getfield 59, 3) := by decide +kernel
theorem dX7_isChange_27 : decode cX7_isChange 27 = .ok (.ifCond .ne 7, 3) := by decide +kernel
theorem dX7_isChange_30 : decode cX7_isChange 30 = .ok (.iconst 1, 1) := by decide +kernel
theorem dX7_isChange_31 : decode cX7_isChange 31 = .ok (.goto 4, 3) := by decide +kernel
theorem dX7_isChange_34 : decode cX7_isChange 34 = .ok (.iconst 0, 1) := by decide +kernel
theorem dX7_isChange_35 : decode cX7_isChange 35 = .ok (.ireturn, 1) := by decide +kernel
set_option maxRecDepth 20000 in
theorem ggX7_takeBack_X7_isChange : GoodIn wsX7_takeBack wsX7_isChange := goodIn_r _ [9, 10, 2, 11, 12, 8, 13, 14, 15, 16, 17, 18, 19, 20, 21, 22, 23, 24, 25, 26, 27, 28, 29, 30, 31, 32, 33, 34] (by decide +kernel) (by decide +kernel)
set_option maxRecDepth 20000 in
theorem gX7_takeBack_X7_isChange : GoodIn wsX7_takeBack (wsV RX7 93 RX7 yX7_isChange wsX7_isChange) := goodIn_app (goodIn_of _ (by decide +kernel)) ggX7_takeBack_X7_isChange
theorem dX7_takeBack_0 : decode cX7_takeBack 0 = .ok (.aload_n 0, 1) := by decide +kernel
theorem dX7_takeBack_1 : decode cX7_takeBack 1 = .ok (.iload_n 1, 1) := by decide +kernel
theorem dX7_takeBack_2 : decode cX7_takeBack 2 = .ok (.invokevirtual 93, 3) := by decide +kernel
theorem dX7_takeBack_5 : decode cX7_takeBack 5 = .ok (.ifCond .ne 5, 3) := by decide +kernel
theorem dX7_takeBack_8 : decode cX7_takeBack 8 = .ok (.iconst 0, 1) := by decide +kernel
theorem dX7_takeBack_9 : decode cX7_takeBack 9 = .ok (.ireturn, 1) := by decide +kernel
theorem dX7_takeBack_10 : decode cX7_takeBack 10 = .ok (.aload_n 0, 1) := by decide +kernel
theorem dX7_takeBack_11 : decode cX7_takeBack 11 = .ok (.aload_n 0, 1) := by decide +kernel
theorem dX7_takeBack_12 : decode cX7_takeBack 12 = .ok (.getfield 43, 3) := by decide +kernel
theorem dX7_takeBack_15 : decode cX7_takeBack 15 = .ok (.iload_n 1, 1) := by decide +kernel
theorem dX7_takeBack_16 : decode cX7_takeBack 16 = .ok (.iaload, 1) := by decide +kernel
theorem dX7_takeBack_17 : decode cX7_takeBack 17 = .ok (.ifCond .lt 7, 3) := by decide +kernel
theorem dX7_takeBack_20 : decode cX7_takeBack 20 = .ok (.iconst 2, 1) := by decide +kernel
theorem dX7_takeBack_21 : decode cX7_takeBack 21 = .ok (.goto 4, 3) := by decide +kernel
theorem dX7_takeBack_24 : decode cX7_takeBack 24 = .ok (.iconst 0, 1) := by decide +kernel
theorem dX7_takeBack_25 : decode cX7_takeBack 25 = .ok (.putfield 59, 3) := by decide +kernel
theorem dX7_takeBack_28 : decode cX7_takeBack 28 = .ok (.aload_n 0, 1) := by decide +kernel
theorem dX7_takeBack_29 : decode cX7_takeBack 29 = .ok (.getfield 59, 3) := by decide +kernel
theorem dX7_takeBack_32 : decode cX7_takeBack 32 = .ok (.ifCond .le 5, 3) := by decide +kernel
theorem dX7_takeBack_35 : decode cX7_takeBack 35 = .ok (.iconst 0, 1) := by decide +kernel
theorem dX7_takeBack_36 : decode cX7_takeBack 36 = .ok (.ireturn, 1) := by decide +kernel
theorem dX7_takeBack_37 : decode cX7_takeBack 37 = .ok (.aload_n 0, 1) := by decide +kernel
theorem dX7_takeBack_38 : decode cX7_takeBack 38 = .ok (.getfield 43, 3) := by decide +kernel
theorem dX7_takeBack_41 : decode cX7_takeBack 41 = .ok (.iload_n 1, 1) := by decide +kernel
theorem dX7_takeBack_42 : decode cX7_takeBack 42 = .ok (.aload_n 0, 1) := by decide +kernel
theorem dX7_takeBack_43 : decode cX7_takeBack 43 = .ok (.getfield 80, 3) := by decide +kernel
theorem dX7_takeBack_46 : decode cX7_takeBack 46 = .ok (.iastore, 1) := by decide +kernel
theorem dX7_takeBack_47 : decode cX7_takeBack 47 = .ok (.aload_n 0, 1) := by decide +kernel
theorem dX7_takeBack_48 : decode cX7_takeBack 48 = .ok (.getfield 40, 3) := by decide +kernel
theorem dX7_takeBack_51 : decode cX7_takeBack 51 = .ok (.iload_n 1, 1) := by decide +kernel
theorem dX7_takeBack_52 : decode cX7_takeBack 52 = .ok (.iaload, 1) := by decide +kernel
theorem dX7_takeBack_53 : decode cX7_takeBack 53 = .ok (.ireturn, 1) := by decide +kernel
theorem dX7_changes_0 : decode cX7_changes 0 = .ok (.aload_n 0, 1) := by decide +kernel
theorem dX7_changes_1 : decode cX7_changes 1 = .ok (.iconst 0, 1) := by decide +kernel
theorem dX7_changes_2 : decode cX7_changes 2 = .ok (.putfield 59, 3) := by decide +kernel
theorem dX7_changes_5 : decode cX7_changes 5 = .ok (.aload_n 0, 1) := by decide +kernel
theorem dX7_changes_6 : decode cX7_changes 6 = .ok (.getfield 86, 3) := by decide +kernel
theorem dX7_changes_9 : decode cX7_changes 9 = .ok (.ireturn, 1) := by decide +kernel
theorem dX7_isKnown_0 : decode cX7_isKnown 0 = .ok (.aload_n 0, 1) := by decide +kernel
theorem dX7_isKnown_1 : decode cX7_isKnown 1 = .ok (.getfield 40, 3) := by decide +kernel
theorem dX7_isKnown_4 : decode cX7_isKnown 4 = .ok (.iload_n 1, 1) := by decide +kernel
theorem dX7_isKnown_5 : decode cX7_isKnown 5 = .ok (.iaload, 1) := by decide +kernel
theorem dX7_isKnown_6 : decode cX7_isKnown 6 = .ok (.iload_n 2, 1) := by decide +kernel
theorem dX7_isKnown_7 : decode cX7_isKnown 7 = .ok (.if_icmp .gt 26, 3) := by decide +kernel
theorem dX7_isKnown_10 : decode cX7_isKnown 10 = .ok (.aload_n 0, 1) := by decide +kernel
theorem dX7_isKnown_11 : decode cX7_isKnown 11 = .ok (.getfield 43, 3) := by decide +kernel
theorem dX7_isKnown_14 : decode cX7_isKnown 14 = .ok (.iload_n 1, 1) := by decide +kernel
theorem dX7_isKnown_15 : decode cX7_isKnown 15 = .ok (.iaload, 1) := by decide +kernel
theorem dX7_isKnown_16 : decode cX7_isKnown 16 = .ok (.ifCond .lt 13, 3) := by decide +kernel
theorem dX7_isKnown_19 : decode cX7_isKnown 19 = .ok (.aload_n 0, 1) := by decide +kernel
theorem dX7_isKnown_20 : decode cX7_isKnown 20 = .ok (.getfield 43, 3) := by decide +kernel
theorem dX7_isKnown_23 : decode cX7_isKnown 23 = .ok (.iload_n 1, 1) := by decide +kernel
theorem dX7_isKnown_24 : decode cX7_isKnown 24 = .ok (.iaload, 1) := by decide +kernel
theorem dX7_isKnown_25 : decode cX7_isKnown 25 = .ok (.iload_n 2, 1) := by decide +kernel
theorem dX7_isKnown_26 : decode cX7_isKnown 26 = .ok (.if_icmp .le 7, 3) := by decide +kernel
theorem dX7_isKnown_29 : decode cX7_isKnown 29 = .ok (.iconst 1, 1) := by decide +kernel
theorem dX7_isKnown_30 : decode cX7_isKnown 30 = .ok (.goto 4, 3) := by decide +kernel
theorem dX7_isKnown_33 : decode cX7_isKnown 33 = .ok (.iconst 0, 1) := by decide +kernel
theorem dX7_isKnown_34 : decode cX7_isKnown 34 = .ok (.ireturn, 1) := by decide +kernel
set_option maxRecDepth 20000 in
theorem ggX7_laidAnew_X7_isChange : GoodIn wsX7_laidAnew wsX7_isChange := goodIn_r _ [8, 9, 10, 11, 12, 7, 13, 20, 21, 22, 23, 24, 25, 26, 27, 28, 29, 30, 31, 32, 33, 34, 35, 36, 37, 38, 39, 40] (by decide +kernel) (by decide +kernel)
set_option maxRecDepth 20000 in
theorem gX7_laidAnew_X7_isChange : GoodIn wsX7_laidAnew (wsV RX7 93 RX7 yX7_isChange wsX7_isChange) := goodIn_app (goodIn_of _ (by decide +kernel)) ggX7_laidAnew_X7_isChange
set_option maxRecDepth 20000 in
theorem ggX7_laidAnew_X7_isKnown : GoodIn wsX7_laidAnew wsX7_isKnown := goodIn_r _ [17, 18, 19, 20, 21, 22, 23, 24, 25, 26, 27, 28, 29, 30, 31, 32, 33, 34, 35, 36, 37, 38, 39, 40] (by decide +kernel) (by decide +kernel)
set_option maxRecDepth 20000 in
theorem gX7_laidAnew_X7_isKnown : GoodIn wsX7_laidAnew (wsV RX7 96 RX7 yX7_isKnown wsX7_isKnown) := goodIn_app (goodIn_of _ (by decide +kernel)) ggX7_laidAnew_X7_isKnown
theorem dX7_laidAnew_0 : decode cX7_laidAnew 0 = .ok (.iconst 0, 1) := by decide +kernel
theorem dX7_laidAnew_1 : decode cX7_laidAnew 1 = .ok (.istore_n 2, 1) := by decide +kernel
theorem dX7_laidAnew_2 : decode cX7_laidAnew 2 = .ok (.aload_n 0, 1) := by decide +kernel
theorem dX7_laidAnew_3 : decode cX7_laidAnew 3 = .ok (.iload_n 1, 1) := by decide +kernel
theorem dX7_laidAnew_4 : decode cX7_laidAnew 4 = .ok (.invokevirtual 93, 3) := by decide +kernel
theorem dX7_laidAnew_7 : decode cX7_laidAnew 7 = .ok (.istore_n 3, 1) := by decide +kernel
theorem dX7_laidAnew_8 : decode cX7_laidAnew 8 = .ok (.iconst 0, 1) := by decide +kernel
theorem dX7_laidAnew_9 : decode cX7_laidAnew 9 = .ok (.istore 4, 2) := by decide +kernel
theorem dX7_laidAnew_11 : decode cX7_laidAnew 11 = .ok (.iload_n 3, 1) := by decide +kernel
theorem dX7_laidAnew_12 : decode cX7_laidAnew 12 = .ok (.ifCond .eq 68, 3) := by decide +kernel
theorem dX7_laidAnew_15 : decode cX7_laidAnew 15 = .ok (.iload 4, 2) := by decide +kernel
theorem dX7_laidAnew_17 : decode cX7_laidAnew 17 = .ok (.iload_n 1, 1) := by decide +kernel
theorem dX7_laidAnew_18 : decode cX7_laidAnew 18 = .ok (.if_icmp .ge 62, 3) := by decide +kernel
theorem dX7_laidAnew_21 : decode cX7_laidAnew 21 = .ok (.iload_n 2, 1) := by decide +kernel
theorem dX7_laidAnew_22 : decode cX7_laidAnew 22 = .ok (.aload_n 0, 1) := by decide +kernel
theorem dX7_laidAnew_23 : decode cX7_laidAnew 23 = .ok (.getfield 25, 3) := by decide +kernel
theorem dX7_laidAnew_26 : decode cX7_laidAnew 26 = .ok (.iload 4, 2) := by decide +kernel
theorem dX7_laidAnew_28 : decode cX7_laidAnew 28 = .ok (.iaload, 1) := by decide +kernel
theorem dX7_laidAnew_29 : decode cX7_laidAnew 29 = .ok (.aload_n 0, 1) := by decide +kernel
theorem dX7_laidAnew_30 : decode cX7_laidAnew 30 = .ok (.getfield 25, 3) := by decide +kernel
theorem dX7_laidAnew_33 : decode cX7_laidAnew 33 = .ok (.iload_n 1, 1) := by decide +kernel
theorem dX7_laidAnew_34 : decode cX7_laidAnew 34 = .ok (.iaload, 1) := by decide +kernel
theorem dX7_laidAnew_35 : decode cX7_laidAnew 35 = .ok (.if_icmp .ne 36, 3) := by decide +kernel
theorem dX7_laidAnew_38 : decode cX7_laidAnew 38 = .ok (.aload_n 0, 1) := by decide +kernel
theorem dX7_laidAnew_39 : decode cX7_laidAnew 39 = .ok (.iload 4, 2) := by decide +kernel
theorem dX7_laidAnew_41 : decode cX7_laidAnew 41 = .ok (.aload_n 0, 1) := by decide +kernel
theorem dX7_laidAnew_42 : decode cX7_laidAnew 42 = .ok (.getfield 80, 3) := by decide +kernel
theorem dX7_laidAnew_45 : decode cX7_laidAnew 45 = .ok (.invokevirtual 96, 3) := by decide +kernel
theorem dX7_laidAnew_48 : decode cX7_laidAnew 48 = .ok (.ifCond .eq 23, 3) := by decide +kernel
theorem dX7_laidAnew_51 : decode cX7_laidAnew 51 = .ok (.aload_n 0, 1) := by decide +kernel
theorem dX7_laidAnew_52 : decode cX7_laidAnew 52 = .ok (.getfield 34, 3) := by decide +kernel
theorem dX7_laidAnew_55 : decode cX7_laidAnew 55 = .ok (.iload 4, 2) := by decide +kernel
theorem dX7_laidAnew_57 : decode cX7_laidAnew 57 = .ok (.iaload, 1) := by decide +kernel
theorem dX7_laidAnew_58 : decode cX7_laidAnew 58 = .ok (.aload_n 0, 1) := by decide +kernel
theorem dX7_laidAnew_59 : decode cX7_laidAnew 59 = .ok (.getfield 34, 3) := by decide +kernel
theorem dX7_laidAnew_62 : decode cX7_laidAnew 62 = .ok (.iload_n 1, 1) := by decide +kernel
theorem dX7_laidAnew_63 : decode cX7_laidAnew 63 = .ok (.iaload, 1) := by decide +kernel
theorem dX7_laidAnew_64 : decode cX7_laidAnew 64 = .ok (.if_icmp .le 7, 3) := by decide +kernel
theorem dX7_laidAnew_67 : decode cX7_laidAnew 67 = .ok (.iconst 1, 1) := by decide +kernel
theorem dX7_laidAnew_68 : decode cX7_laidAnew 68 = .ok (.goto 4, 3) := by decide +kernel
theorem dX7_laidAnew_71 : decode cX7_laidAnew 71 = .ok (.iconst 0, 1) := by decide +kernel
theorem dX7_laidAnew_72 : decode cX7_laidAnew 72 = .ok (.iadd, 1) := by decide +kernel
theorem dX7_laidAnew_73 : decode cX7_laidAnew 73 = .ok (.istore_n 2, 1) := by decide +kernel
theorem dX7_laidAnew_74 : decode cX7_laidAnew 74 = .ok (.iinc 4 1, 3) := by decide +kernel
theorem dX7_laidAnew_77 : decode cX7_laidAnew 77 = .ok (.goto (-66), 3) := by decide +kernel
theorem dX7_laidAnew_80 : decode cX7_laidAnew 80 = .ok (.iload_n 2, 1) := by decide +kernel
theorem dX7_laidAnew_81 : decode cX7_laidAnew 81 = .ok (.ireturn, 1) := by decide +kernel
theorem dX7_weighs_0 : decode cX7_weighs 0 = .ok (.iconst (-1), 1) := by decide +kernel
theorem dX7_weighs_1 : decode cX7_weighs 1 = .ok (.istore_n 3, 1) := by decide +kernel
theorem dX7_weighs_2 : decode cX7_weighs 2 = .ok (.iconst 0, 1) := by decide +kernel
theorem dX7_weighs_3 : decode cX7_weighs 3 = .ok (.istore 4, 2) := by decide +kernel
theorem dX7_weighs_5 : decode cX7_weighs 5 = .ok (.iload 4, 2) := by decide +kernel
theorem dX7_weighs_7 : decode cX7_weighs 7 = .ok (.aload_n 0, 1) := by decide +kernel
theorem dX7_weighs_8 : decode cX7_weighs 8 = .ok (.getfield 77, 3) := by decide +kernel
theorem dX7_weighs_11 : decode cX7_weighs 11 = .ok (.if_icmp .ge 70, 3) := by decide +kernel
theorem dX7_weighs_14 : decode cX7_weighs 14 = .ok (.aload_n 0, 1) := by decide +kernel
theorem dX7_weighs_15 : decode cX7_weighs 15 = .ok (.getfield 16, 3) := by decide +kernel
theorem dX7_weighs_18 : decode cX7_weighs 18 = .ok (.iload 4, 2) := by decide +kernel
theorem dX7_weighs_20 : decode cX7_weighs 20 = .ok (.iaload, 1) := by decide +kernel
theorem dX7_weighs_21 : decode cX7_weighs 21 = .ok (.iload_n 1, 1) := by decide +kernel
theorem dX7_weighs_22 : decode cX7_weighs 22 = .ok (.if_icmp .ne 18, 3) := by decide +kernel
theorem dX7_weighs_25 : decode cX7_weighs 25 = .ok (.aload_n 0, 1) := by decide +kernel
theorem dX7_weighs_26 : decode cX7_weighs 26 = .ok (.getfield 22, 3) := by decide +kernel
theorem dX7_weighs_29 : decode cX7_weighs 29 = .ok (.iload 4, 2) := by decide +kernel
theorem dX7_weighs_31 : decode cX7_weighs 31 = .ok (.iaload, 1) := by decide +kernel
theorem dX7_weighs_32 : decode cX7_weighs 32 = .ok (.iload_n 2, 1) := by decide +kernel
theorem dX7_weighs_33 : decode cX7_weighs 33 = .ok (.if_icmp .gt 7, 3) := by decide +kernel
theorem dX7_weighs_36 : decode cX7_weighs 36 = .ok (.iconst 1, 1) := by decide +kernel
theorem dX7_weighs_37 : decode cX7_weighs 37 = .ok (.goto 4, 3) := by decide +kernel
theorem dX7_weighs_40 : decode cX7_weighs 40 = .ok (.iconst 0, 1) := by decide +kernel
theorem dX7_weighs_41 : decode cX7_weighs 41 = .ok (.istore 5, 2) := by decide +kernel
theorem dX7_weighs_43 : decode cX7_weighs 43 = .ok (.iload 5, 2) := by decide +kernel
theorem dX7_weighs_45 : decode cX7_weighs 45 = .ok (.ifCond .eq 28, 3) := by decide +kernel
theorem dX7_weighs_48 : decode cX7_weighs 48 = .ok (.iload_n 3, 1) := by decide +kernel
theorem dX7_weighs_49 : decode cX7_weighs 49 = .ok (.ifCond .lt 19, 3) := by decide +kernel
theorem dX7_weighs_52 : decode cX7_weighs 52 = .ok (.aload_n 0, 1) := by decide +kernel
theorem dX7_weighs_53 : decode cX7_weighs 53 = .ok (.getfield 22, 3) := by decide +kernel
theorem dX7_weighs_56 : decode cX7_weighs 56 = .ok (.iload 4, 2) := by decide +kernel
theorem dX7_weighs_58 : decode cX7_weighs 58 = .ok (.iaload, 1) := by decide +kernel
theorem dX7_weighs_59 : decode cX7_weighs 59 = .ok (.aload_n 0, 1) := by decide +kernel
theorem dX7_weighs_60 : decode cX7_weighs 60 = .ok (.getfield 22, 3) := by decide +kernel
theorem dX7_weighs_63 : decode cX7_weighs 63 = .ok (.iload_n 3, 1) := by decide +kernel
theorem dX7_weighs_64 : decode cX7_weighs 64 = .ok (.iaload, 1) := by decide +kernel
theorem dX7_weighs_65 : decode cX7_weighs 65 = .ok (.if_icmp .lt 8, 3) := by decide +kernel
theorem dX7_weighs_68 : decode cX7_weighs 68 = .ok (.iload 4, 2) := by decide +kernel
theorem dX7_weighs_70 : decode cX7_weighs 70 = .ok (.goto 4, 3) := by decide +kernel
theorem dX7_weighs_73 : decode cX7_weighs 73 = .ok (.iload_n 3, 1) := by decide +kernel
theorem dX7_weighs_74 : decode cX7_weighs 74 = .ok (.istore_n 3, 1) := by decide +kernel
theorem dX7_weighs_75 : decode cX7_weighs 75 = .ok (.iinc 4 1, 3) := by decide +kernel
theorem dX7_weighs_78 : decode cX7_weighs 78 = .ok (.goto (-73), 3) := by decide +kernel
theorem dX7_weighs_81 : decode cX7_weighs 81 = .ok (.iload_n 3, 1) := by decide +kernel
theorem dX7_weighs_82 : decode cX7_weighs 82 = .ok (.ifCond .ge 7, 3) := by decide +kernel
theorem dX7_weighs_85 : decode cX7_weighs 85 = .ok (.iconst 1, 1) := by decide +kernel
theorem dX7_weighs_86 : decode cX7_weighs 86 = .ok (.goto 9, 3) := by decide +kernel
theorem dX7_weighs_89 : decode cX7_weighs 89 = .ok (.aload_n 0, 1) := by decide +kernel
theorem dX7_weighs_90 : decode cX7_weighs 90 = .ok (.getfield 19, 3) := by decide +kernel
theorem dX7_weighs_93 : decode cX7_weighs 93 = .ok (.iload_n 3, 1) := by decide +kernel
theorem dX7_weighs_94 : decode cX7_weighs 94 = .ok (.iaload, 1) := by decide +kernel
theorem dX7_weighs_95 : decode cX7_weighs 95 = .ok (.ireturn, 1) := by decide +kernel
theorem dX7_bounded_0 : decode cX7_bounded 0 = .ok (.iload_n 0, 1) := by decide +kernel
theorem dX7_bounded_1 : decode cX7_bounded 1 = .ok (.ifCond .ge 7, 3) := by decide +kernel
theorem dX7_bounded_4 : decode cX7_bounded 4 = .ok (.iconst 0, 1) := by decide +kernel
theorem dX7_bounded_5 : decode cX7_bounded 5 = .ok (.goto 15, 3) := by decide +kernel
theorem dX7_bounded_8 : decode cX7_bounded 8 = .ok (.iload_n 0, 1) := by decide +kernel
theorem dX7_bounded_9 : decode cX7_bounded 9 = .ok (.bipush 20, 2) := by decide +kernel
theorem dX7_bounded_11 : decode cX7_bounded 11 = .ok (.if_icmp .le 8, 3) := by decide +kernel
theorem dX7_bounded_14 : decode cX7_bounded 14 = .ok (.bipush 20, 2) := by decide +kernel
theorem dX7_bounded_16 : decode cX7_bounded 16 = .ok (.goto 4, 3) := by decide +kernel
theorem dX7_bounded_19 : decode cX7_bounded 19 = .ok (.iload_n 0, 1) := by decide +kernel
theorem dX7_bounded_20 : decode cX7_bounded 20 = .ok (.ireturn, 1) := by decide +kernel
set_option maxRecDepth 20000 in
theorem ggX7_goes_X7_isKnown : GoodIn wsX7_goes wsX7_isKnown := goodIn_r _ [16, 17, 18, 30, 31, 32, 33, 34, 35, 36, 37, 38, 39, 40, 41, 42, 43, 44, 45, 46, 47, 48, 49, 50] (by decide +kernel) (by decide +kernel)
set_option maxRecDepth 20000 in
theorem gX7_goes_X7_isKnown : GoodIn wsX7_goes (wsV RX7 96 RX7 yX7_isKnown wsX7_isKnown) := goodIn_app (goodIn_of _ (by decide +kernel)) ggX7_goes_X7_isKnown
set_option maxRecDepth 20000 in
theorem ggX7_goes_X7_bounded : GoodIn wsX7_goes wsX7_bounded := goodIn_r _ [21] (by decide +kernel) (by decide +kernel)
set_option maxRecDepth 20000 in
theorem gX7_goes_X7_bounded : GoodIn wsX7_goes (va_wsS RX7 100 yX7_bounded wsX7_bounded) := goodIn_app (goodIn_of _ (by decide +kernel)) ggX7_goes_X7_bounded
set_option maxRecDepth 20000 in
theorem ggX7_goes_X7_weighs : GoodIn wsX7_goes wsX7_weighs := goodIn_r _ [25, 26, 27, 28, 29, 30, 31, 32, 33, 34, 35, 36, 37, 38, 39, 40, 41, 42, 43, 44, 45, 46, 47, 48, 49, 50] (by decide +kernel) (by decide +kernel)
set_option maxRecDepth 20000 in
theorem gX7_goes_X7_weighs : GoodIn wsX7_goes (wsV RX7 104 RX7 yX7_weighs wsX7_weighs) := goodIn_app (goodIn_of _ (by decide +kernel)) ggX7_goes_X7_weighs
theorem dX7_goes_0 : decode cX7_goes 0 = .ok (.iconst 1, 1) := by decide +kernel
theorem dX7_goes_1 : decode cX7_goes 1 = .ok (.istore_n 3, 1) := by decide +kernel
theorem dX7_goes_2 : decode cX7_goes 2 = .ok (.aload_n 0, 1) := by decide +kernel
theorem dX7_goes_3 : decode cX7_goes 3 = .ok (.getfield 56, 3) := by decide +kernel
theorem dX7_goes_6 : decode cX7_goes 6 = .ok (.iconst 0, 1) := by decide +kernel
theorem dX7_goes_7 : decode cX7_goes 7 = .ok (.iconst 0, 1) := by decide +kernel
theorem dX7_goes_8 : decode cX7_goes 8 = .ok (.iastore, 1) := by decide +kernel
theorem dX7_goes_9 : decode cX7_goes 9 = .ok (.iconst 0, 1) := by decide +kernel
theorem dX7_goes_10 : decode cX7_goes 10 = .ok (.istore 4, 2) := by decide +kernel
theorem dX7_goes_12 : decode cX7_goes 12 = .ok (.iload 4, 2) := by decide +kernel
theorem dX7_goes_14 : decode cX7_goes 14 = .ok (.sipush 365, 3) := by decide +kernel
theorem dX7_goes_17 : decode cX7_goes 17 = .ok (.if_icmp .ge 320, 3) := by decide +kernel
theorem dX7_goes_20 : decode cX7_goes 20 = .ok (.iconst 0, 1) := by decide +kernel
theorem dX7_goes_21 : decode cX7_goes 21 = .ok (.istore 5, 2) := by decide +kernel
theorem dX7_goes_23 : decode cX7_goes 23 = .ok (.iload 5, 2) := by decide +kernel
theorem dX7_goes_25 : decode cX7_goes 25 = .ok (.iconst 3, 1) := by decide +kernel
theorem dX7_goes_26 : decode cX7_goes 26 = .ok (.if_icmp .ge 44, 3) := by decide +kernel
theorem dX7_goes_29 : decode cX7_goes 29 = .ok (.aload_n 0, 1) := by decide +kernel
theorem dX7_goes_30 : decode cX7_goes 30 = .ok (.getfield 46, 3) := by decide +kernel
theorem dX7_goes_33 : decode cX7_goes 33 = .ok (.iconst 3, 1) := by decide +kernel
theorem dX7_goes_34 : decode cX7_goes 34 = .ok (.iload 4, 2) := by decide +kernel
theorem dX7_goes_36 : decode cX7_goes 36 = .ok (.imul, 1) := by decide +kernel
theorem dX7_goes_37 : decode cX7_goes 37 = .ok (.iload 5, 2) := by decide +kernel
theorem dX7_goes_39 : decode cX7_goes 39 = .ok (.iadd, 1) := by decide +kernel
theorem dX7_goes_40 : decode cX7_goes 40 = .ok (.iload 4, 2) := by decide +kernel
theorem dX7_goes_42 : decode cX7_goes 42 = .ok (.ifCond .ne 7, 3) := by decide +kernel
theorem dX7_goes_45 : decode cX7_goes 45 = .ok (.iconst 0, 1) := by decide +kernel
theorem dX7_goes_46 : decode cX7_goes 46 = .ok (.goto 17, 3) := by decide +kernel
theorem dX7_goes_49 : decode cX7_goes 49 = .ok (.aload_n 0, 1) := by decide +kernel
theorem dX7_goes_50 : decode cX7_goes 50 = .ok (.getfield 46, 3) := by decide +kernel
theorem dX7_goes_53 : decode cX7_goes 53 = .ok (.iconst 3, 1) := by decide +kernel
theorem dX7_goes_54 : decode cX7_goes 54 = .ok (.iload 4, 2) := by decide +kernel
theorem dX7_goes_56 : decode cX7_goes 56 = .ok (.imul, 1) := by decide +kernel
theorem dX7_goes_57 : decode cX7_goes 57 = .ok (.iconst 3, 1) := by decide +kernel
theorem dX7_goes_58 : decode cX7_goes 58 = .ok (.isub, 1) := by decide +kernel
theorem dX7_goes_59 : decode cX7_goes 59 = .ok (.iload 5, 2) := by decide +kernel
theorem dX7_goes_61 : decode cX7_goes 61 = .ok (.iadd, 1) := by decide +kernel
theorem dX7_goes_62 : decode cX7_goes 62 = .ok (.iaload, 1) := by decide +kernel
theorem dX7_goes_63 : decode cX7_goes 63 = .ok (.iastore, 1) := by decide +kernel
theorem dX7_goes_64 : decode cX7_goes 64 = .ok (.iinc 5 1, 3) := by decide +kernel
theorem dX7_goes_67 : decode cX7_goes 67 = .ok (.goto (-44), 3) := by decide +kernel
theorem dX7_goes_70 : decode cX7_goes 70 = .ok (.iconst 0, 1) := by decide +kernel
theorem dX7_goes_71 : decode cX7_goes 71 = .ok (.istore 5, 2) := by decide +kernel
theorem dX7_goes_73 : decode cX7_goes 73 = .ok (.iload 5, 2) := by decide +kernel
theorem dX7_goes_75 : decode cX7_goes 75 = .ok (.aload_n 0, 1) := by decide +kernel
theorem dX7_goes_76 : decode cX7_goes 76 = .ok (.getfield 86, 3) := by decide +kernel
theorem dX7_goes_79 : decode cX7_goes 79 = .ok (.if_icmp .ge 154, 3) := by decide +kernel
theorem dX7_goes_82 : decode cX7_goes 82 = .ok (.aload_n 0, 1) := by decide +kernel
theorem dX7_goes_83 : decode cX7_goes 83 = .ok (.getfield 25, 3) := by decide +kernel
theorem dX7_goes_86 : decode cX7_goes 86 = .ok (.iload 5, 2) := by decide +kernel
theorem dX7_goes_88 : decode cX7_goes 88 = .ok (.iaload, 1) := by decide +kernel
theorem dX7_goes_89 : decode cX7_goes 89 = .ok (.iload_n 1, 1) := by decide +kernel
theorem dX7_goes_90 : decode cX7_goes 90 = .ok (.if_icmp .ne 137, 3) := by decide +kernel
theorem dX7_goes_93 : decode cX7_goes 93 = .ok (.aload_n 0, 1) := by decide +kernel
theorem dX7_goes_94 : decode cX7_goes 94 = .ok (.getfield 34, 3) := by decide +kernel
theorem dX7_goes_97 : decode cX7_goes 97 = .ok (.iload 5, 2) := by decide +kernel
theorem dX7_goes_99 : decode cX7_goes 99 = .ok (.iaload, 1) := by decide +kernel
theorem dX7_goes_100 : decode cX7_goes 100 = .ok (.iload 4, 2) := by decide +kernel
theorem dX7_goes_102 : decode cX7_goes 102 = .ok (.if_icmp .ne 125, 3) := by decide +kernel
theorem dX7_goes_105 : decode cX7_goes 105 = .ok (.aload_n 0, 1) := by decide +kernel
theorem dX7_goes_106 : decode cX7_goes 106 = .ok (.iload 5, 2) := by decide +kernel
theorem dX7_goes_108 : decode cX7_goes 108 = .ok (.iload_n 2, 1) := by decide +kernel
theorem dX7_goes_109 : decode cX7_goes 109 = .ok (.invokevirtual 96, 3) := by decide +kernel
theorem dX7_goes_112 : decode cX7_goes 112 = .ok (.ifCond .eq 115, 3) := by decide +kernel
theorem dX7_goes_115 : decode cX7_goes 115 = .ok (.iconst 3, 1) := by decide +kernel
theorem dX7_goes_116 : decode cX7_goes 116 = .ok (.iload 4, 2) := by decide +kernel
theorem dX7_goes_118 : decode cX7_goes 118 = .ok (.imul, 1) := by decide +kernel
theorem dX7_goes_119 : decode cX7_goes 119 = .ok (.aload_n 0, 1) := by decide +kernel
theorem dX7_goes_120 : decode cX7_goes 120 = .ok (.getfield 31, 3) := by decide +kernel
theorem dX7_goes_123 : decode cX7_goes 123 = .ok (.iload 5, 2) := by decide +kernel
theorem dX7_goes_125 : decode cX7_goes 125 = .ok (.iaload, 1) := by decide +kernel
theorem dX7_goes_126 : decode cX7_goes 126 = .ok (.iadd, 1) := by decide +kernel
theorem dX7_goes_127 : decode cX7_goes 127 = .ok (.istore 6, 2) := by decide +kernel
theorem dX7_goes_129 : decode cX7_goes 129 = .ok (.aload_n 0, 1) := by decide +kernel
theorem dX7_goes_130 : decode cX7_goes 130 = .ok (.getfield 46, 3) := by decide +kernel
theorem dX7_goes_133 : decode cX7_goes 133 = .ok (.iload 6, 2) := by decide +kernel
theorem dX7_goes_135 : decode cX7_goes 135 = .ok (.aload_n 0, 1) := by decide +kernel
theorem dX7_goes_136 : decode cX7_goes 136 = .ok (.getfield 28, 3) := by decide +kernel
theorem dX7_goes_139 : decode cX7_goes 139 = .ok (.iload 5, 2) := by decide +kernel
theorem dX7_goes_141 : decode cX7_goes 141 = .ok (.iaload, 1) := by decide +kernel
theorem dX7_goes_142 : decode cX7_goes 142 = .ok (.ifCond .ne 13, 3) := by decide +kernel
theorem dX7_goes_145 : decode cX7_goes 145 = .ok (.aload_n 0, 1) := by decide +kernel
theorem dX7_goes_146 : decode cX7_goes 146 = .ok (.getfield 37, 3) := by decide +kernel
theorem dX7_goes_149 : decode cX7_goes 149 = .ok (.iload 5, 2) := by decide +kernel
theorem dX7_goes_151 : decode cX7_goes 151 = .ok (.iaload, 1) := by decide +kernel
theorem dX7_goes_152 : decode cX7_goes 152 = .ok (.goto 42, 3) := by decide +kernel
theorem dX7_goes_155 : decode cX7_goes 155 = .ok (.aload_n 0, 1) := by decide +kernel
theorem dX7_goes_156 : decode cX7_goes 156 = .ok (.getfield 28, 3) := by decide +kernel
theorem dX7_goes_159 : decode cX7_goes 159 = .ok (.iload 5, 2) := by decide +kernel
theorem dX7_goes_161 : decode cX7_goes 161 = .ok (.iaload, 1) := by decide +kernel
theorem dX7_goes_162 : decode cX7_goes 162 = .ok (.iconst 1, 1) := by decide +kernel
theorem dX7_goes_163 : decode cX7_goes 163 = .ok (.if_icmp .ne 24, 3) := by decide +kernel
theorem dX7_goes_166 : decode cX7_goes 166 = .ok (.aload_n 0, 1) := by decide +kernel
theorem dX7_goes_167 : decode cX7_goes 167 = .ok (.getfield 46, 3) := by decide +kernel
theorem dX7_goes_170 : decode cX7_goes 170 = .ok (.iload 6, 2) := by decide +kernel
theorem dX7_goes_172 : decode cX7_goes 172 = .ok (.iaload, 1) := by decide +kernel
theorem dX7_goes_173 : decode cX7_goes 173 = .ok (.aload_n 0, 1) := by decide +kernel
theorem dX7_goes_174 : decode cX7_goes 174 = .ok (.getfield 37, 3) := by decide +kernel
theorem dX7_goes_177 : decode cX7_goes 177 = .ok (.iload 5, 2) := by decide +kernel
theorem dX7_goes_179 : decode cX7_goes 179 = .ok (.iaload, 1) := by decide +kernel
theorem dX7_goes_180 : decode cX7_goes 180 = .ok (.iadd, 1) := by decide +kernel
theorem dX7_goes_181 : decode cX7_goes 181 = .ok (.invokestatic 100, 3) := by decide +kernel
theorem dX7_goes_184 : decode cX7_goes 184 = .ok (.goto 10, 3) := by decide +kernel
theorem dX7_goes_187 : decode cX7_goes 187 = .ok (.aload_n 0, 1) := by decide +kernel
theorem dX7_goes_188 : decode cX7_goes 188 = .ok (.getfield 46, 3) := by decide +kernel
theorem dX7_goes_191 : decode cX7_goes 191 = .ok (.iload 6, 2) := by decide +kernel
theorem dX7_goes_193 : decode cX7_goes 193 = .ok (.iaload, 1) := by decide +kernel
theorem dX7_goes_194 : decode cX7_goes 194 = .ok (.iastore, 1) := by decide +kernel
theorem dX7_goes_195 : decode cX7_goes 195 = .ok (.aload_n 0, 1) := by decide +kernel
theorem dX7_goes_196 : decode cX7_goes 196 = .ok (.getfield 28, 3) := by decide +kernel
theorem dX7_goes_199 : decode cX7_goes 199 = .ok (.iload 5, 2) := by decide +kernel
theorem dX7_goes_201 : decode cX7_goes 201 = .ok (.iaload, 1) := by decide +kernel
theorem dX7_goes_202 : decode cX7_goes 202 = .ok (.iconst 3, 1) := by decide +kernel
theorem dX7_goes_203 : decode cX7_goes 203 = .ok (.if_icmp .eq 18, 3) := by decide +kernel
theorem dX7_goes_206 : decode cX7_goes 206 = .ok (.aload_n 0, 1) := by decide +kernel
theorem dX7_goes_207 : decode cX7_goes 207 = .ok (.getfield 28, 3) := by decide +kernel
theorem dX7_goes_210 : decode cX7_goes 210 = .ok (.iload 5, 2) := by decide +kernel
theorem dX7_goes_212 : decode cX7_goes 212 = .ok (.iaload, 1) := by decide +kernel
theorem dX7_goes_213 : decode cX7_goes 213 = .ok (.iconst 2, 1) := by decide +kernel
theorem dX7_goes_214 : decode cX7_goes 214 = .ok (.if_icmp .eq 11, 3) := by decide +kernel
theorem dX7_goes_217 : decode cX7_goes 217 = .ok (.iload_n 3, 1) := by decide +kernel
theorem dX7_goes_218 : decode cX7_goes 218 = .ok (.ifCond .eq 7, 3) := by decide +kernel
theorem dX7_goes_221 : decode cX7_goes 221 = .ok (.iconst 1, 1) := by decide +kernel
theorem dX7_goes_222 : decode cX7_goes 222 = .ok (.goto 4, 3) := by decide +kernel
theorem dX7_goes_225 : decode cX7_goes 225 = .ok (.iconst 0, 1) := by decide +kernel
theorem dX7_goes_226 : decode cX7_goes 226 = .ok (.istore_n 3, 1) := by decide +kernel
theorem dX7_goes_227 : decode cX7_goes 227 = .ok (.iinc 5 1, 3) := by decide +kernel
theorem dX7_goes_230 : decode cX7_goes 230 = .ok (.goto (-157), 3) := by decide +kernel
theorem dX7_goes_233 : decode cX7_goes 233 = .ok (.aload_n 0, 1) := by decide +kernel
theorem dX7_goes_234 : decode cX7_goes 234 = .ok (.getfield 49, 3) := by decide +kernel
theorem dX7_goes_237 : decode cX7_goes 237 = .ok (.iload 4, 2) := by decide +kernel
theorem dX7_goes_239 : decode cX7_goes 239 = .ok (.iload_n 3, 1) := by decide +kernel
theorem dX7_goes_240 : decode cX7_goes 240 = .ok (.bastore, 1) := by decide +kernel
theorem dX7_goes_241 : decode cX7_goes 241 = .ok (.aload_n 0, 1) := by decide +kernel
theorem dX7_goes_242 : decode cX7_goes 242 = .ok (.getfield 7, 3) := by decide +kernel
theorem dX7_goes_245 : decode cX7_goes 245 = .ok (.iload_n 1, 1) := by decide +kernel
theorem dX7_goes_246 : decode cX7_goes 246 = .ok (.iaload, 1) := by decide +kernel
theorem dX7_goes_247 : decode cX7_goes 247 = .ok (.istore 5, 2) := by decide +kernel
theorem dX7_goes_249 : decode cX7_goes 249 = .ok (.iconst 0, 1) := by decide +kernel
theorem dX7_goes_250 : decode cX7_goes 250 = .ok (.istore 6, 2) := by decide +kernel
theorem dX7_goes_252 : decode cX7_goes 252 = .ok (.iload 6, 2) := by decide +kernel
theorem dX7_goes_254 : decode cX7_goes 254 = .ok (.iconst 3, 1) := by decide +kernel
theorem dX7_goes_255 : decode cX7_goes 255 = .ok (.if_icmp .ge 35, 3) := by decide +kernel
theorem dX7_goes_258 : decode cX7_goes 258 = .ok (.iload 5, 2) := by decide +kernel
theorem dX7_goes_260 : decode cX7_goes 260 = .ok (.aload_n 0, 1) := by decide +kernel
theorem dX7_goes_261 : decode cX7_goes 261 = .ok (.getfield 46, 3) := by decide +kernel
theorem dX7_goes_264 : decode cX7_goes 264 = .ok (.iconst 3, 1) := by decide +kernel
theorem dX7_goes_265 : decode cX7_goes 265 = .ok (.iload 4, 2) := by decide +kernel
theorem dX7_goes_267 : decode cX7_goes 267 = .ok (.imul, 1) := by decide +kernel
theorem dX7_goes_268 : decode cX7_goes 268 = .ok (.iload 6, 2) := by decide +kernel
theorem dX7_goes_270 : decode cX7_goes 270 = .ok (.iadd, 1) := by decide +kernel
theorem dX7_goes_271 : decode cX7_goes 271 = .ok (.iaload, 1) := by decide +kernel
theorem dX7_goes_272 : decode cX7_goes 272 = .ok (.aload_n 0, 1) := by decide +kernel
theorem dX7_goes_273 : decode cX7_goes 273 = .ok (.iload 6, 2) := by decide +kernel
theorem dX7_goes_275 : decode cX7_goes 275 = .ok (.iload 4, 2) := by decide +kernel
theorem dX7_goes_277 : decode cX7_goes 277 = .ok (.invokevirtual 104, 3) := by decide +kernel
theorem dX7_goes_280 : decode cX7_goes 280 = .ok (.imul, 1) := by decide +kernel
theorem dX7_goes_281 : decode cX7_goes 281 = .ok (.iadd, 1) := by decide +kernel
theorem dX7_goes_282 : decode cX7_goes 282 = .ok (.istore 5, 2) := by decide +kernel
theorem dX7_goes_284 : decode cX7_goes 284 = .ok (.iinc 6 1, 3) := by decide +kernel
theorem dX7_goes_287 : decode cX7_goes 287 = .ok (.goto (-35), 3) := by decide +kernel
theorem dX7_goes_290 : decode cX7_goes 290 = .ok (.aload_n 0, 1) := by decide +kernel
theorem dX7_goes_291 : decode cX7_goes 291 = .ok (.getfield 53, 3) := by decide +kernel
theorem dX7_goes_294 : decode cX7_goes 294 = .ok (.iload 4, 2) := by decide +kernel
theorem dX7_goes_296 : decode cX7_goes 296 = .ok (.iload_n 3, 1) := by decide +kernel
theorem dX7_goes_297 : decode cX7_goes 297 = .ok (.ifCond .eq 8, 3) := by decide +kernel
theorem dX7_goes_300 : decode cX7_goes 300 = .ok (.iload 5, 2) := by decide +kernel
theorem dX7_goes_302 : decode cX7_goes 302 = .ok (.goto 4, 3) := by decide +kernel
theorem dX7_goes_305 : decode cX7_goes 305 = .ok (.iconst 0, 1) := by decide +kernel
theorem dX7_goes_306 : decode cX7_goes 306 = .ok (.iastore, 1) := by decide +kernel
theorem dX7_goes_307 : decode cX7_goes 307 = .ok (.aload_n 0, 1) := by decide +kernel
theorem dX7_goes_308 : decode cX7_goes 308 = .ok (.getfield 56, 3) := by decide +kernel
theorem dX7_goes_311 : decode cX7_goes 311 = .ok (.iload 4, 2) := by decide +kernel
theorem dX7_goes_313 : decode cX7_goes 313 = .ok (.iconst 1, 1) := by decide +kernel
theorem dX7_goes_314 : decode cX7_goes 314 = .ok (.iadd, 1) := by decide +kernel
theorem dX7_goes_315 : decode cX7_goes 315 = .ok (.aload_n 0, 1) := by decide +kernel
theorem dX7_goes_316 : decode cX7_goes 316 = .ok (.getfield 56, 3) := by decide +kernel
theorem dX7_goes_319 : decode cX7_goes 319 = .ok (.iload 4, 2) := by decide +kernel
theorem dX7_goes_321 : decode cX7_goes 321 = .ok (.iaload, 1) := by decide +kernel
theorem dX7_goes_322 : decode cX7_goes 322 = .ok (.aload_n 0, 1) := by decide +kernel
theorem dX7_goes_323 : decode cX7_goes 323 = .ok (.getfield 53, 3) := by decide +kernel
theorem dX7_goes_326 : decode cX7_goes 326 = .ok (.iload 4, 2) := by decide +kernel
theorem dX7_goes_328 : decode cX7_goes 328 = .ok (.iaload, 1) := by decide +kernel
theorem dX7_goes_329 : decode cX7_goes 329 = .ok (.iadd, 1) := by decide +kernel
theorem dX7_goes_330 : decode cX7_goes 330 = .ok (.iastore, 1) := by decide +kernel
theorem dX7_goes_331 : decode cX7_goes 331 = .ok (.iinc 4 1, 3) := by decide +kernel
theorem dX7_goes_334 : decode cX7_goes 334 = .ok (.goto (-322), 3) := by decide +kernel
theorem dX7_goes_337 : decode cX7_goes 337 = .ok (.return_, 1) := by decide +kernel
set_option maxRecDepth 20000 in
theorem ggX7_looks_X7_isPolicy : GoodIn wsX7_looks wsX7_isPolicy := goodIn_r _ [7, 8, 9, 10, 6, 11, 50, 51, 52, 53, 54, 55, 56, 57, 58, 59, 60, 61, 62, 63, 64, 65, 66, 67, 68, 69, 70] (by decide +kernel) (by decide +kernel)
set_option maxRecDepth 20000 in
theorem gX7_looks_X7_isPolicy : GoodIn wsX7_looks (wsV RX7 83 RX7 yX7_isPolicy wsX7_isPolicy) := goodIn_app (goodIn_of _ (by decide +kernel)) ggX7_looks_X7_isPolicy
set_option maxRecDepth 20000 in
theorem ggX7_looks_X7_isField : GoodIn wsX7_looks wsX7_isField := goodIn_r _ [14, 9, 10, 6, 11] (by decide +kernel) (by decide +kernel)
set_option maxRecDepth 20000 in
theorem gX7_looks_X7_isField : GoodIn wsX7_looks (va_wsS RX7 70 yX7_isField wsX7_isField) := goodIn_app (goodIn_of _ (by decide +kernel)) ggX7_looks_X7_isField
set_option maxRecDepth 20000 in
theorem ggX7_looks_X7_isDay : GoodIn wsX7_looks wsX7_isDay := goodIn_r _ [17, 9, 10, 6, 11] (by decide +kernel) (by decide +kernel)
set_option maxRecDepth 20000 in
theorem gX7_looks_X7_isDay : GoodIn wsX7_looks (va_wsS RX7 74 yX7_isDay wsX7_isDay) := goodIn_app (goodIn_of _ (by decide +kernel)) ggX7_looks_X7_isDay
set_option maxRecDepth 20000 in
theorem ggX7_looks_X7_isIn : GoodIn wsX7_looks wsX7_isIn := goodIn_r _ [11] (by decide +kernel) (by decide +kernel)
set_option maxRecDepth 20000 in
theorem gX7_looks_X7_isIn : GoodIn wsX7_looks (va_wsS RX7 63 yX7_isIn wsX7_isIn) := goodIn_app (goodIn_of _ (by decide +kernel)) ggX7_looks_X7_isIn
set_option maxRecDepth 20000 in
theorem ggX7_looks_X7_goes : GoodIn wsX7_looks wsX7_goes := goodIn_r _ [21, 22, 23, 24, 25, 26, 27, 28, 29, 30, 31, 32, 33, 34, 35, 6, 36, 37, 38, 39, 40, 41, 42, 43, 44, 45, 46, 47, 48, 49, 50, 51, 52, 53, 54, 55, 56, 57, 58, 59, 60, 61, 62, 63, 64, 65, 66, 67, 68, 69, 70] (by decide +kernel) (by decide +kernel)
set_option maxRecDepth 20000 in
theorem gX7_looks_X7_goes : GoodIn wsX7_looks (wsV RX7 108 RX7 yX7_goes wsX7_goes) := goodIn_app (goodIn_of _ (by decide +kernel)) ggX7_looks_X7_goes
theorem dX7_looks_0 : decode cX7_looks 0 = .ok (.aload_n 0, 1) := by decide +kernel
theorem dX7_looks_1 : decode cX7_looks 1 = .ok (.aload_n 0, 1) := by decide +kernel
theorem dX7_looks_2 : decode cX7_looks 2 = .ok (.iload_n 1, 1) := by decide +kernel
theorem dX7_looks_3 : decode cX7_looks 3 = .ok (.invokevirtual 83, 3) := by decide +kernel
theorem dX7_looks_6 : decode cX7_looks 6 = .ok (.ifCond .eq 10, 3) := by decide +kernel
theorem dX7_looks_9 : decode cX7_looks 9 = .ok (.iload_n 2, 1) := by decide +kernel
theorem dX7_looks_10 : decode cX7_looks 10 = .ok (.invokestatic 70, 3) := by decide +kernel
theorem dX7_looks_13 : decode cX7_looks 13 = .ok (.ifCond .ne 7, 3) := by decide +kernel
theorem dX7_looks_16 : decode cX7_looks 16 = .ok (.iconst 1, 1) := by decide +kernel
theorem dX7_looks_17 : decode cX7_looks 17 = .ok (.goto 28, 3) := by decide +kernel
theorem dX7_looks_20 : decode cX7_looks 20 = .ok (.iload_n 3, 1) := by decide +kernel
theorem dX7_looks_21 : decode cX7_looks 21 = .ok (.invokestatic 74, 3) := by decide +kernel
theorem dX7_looks_24 : decode cX7_looks 24 = .ok (.ifCond .eq 20, 3) := by decide +kernel
theorem dX7_looks_27 : decode cX7_looks 27 = .ok (.iload 4, 2) := by decide +kernel
theorem dX7_looks_29 : decode cX7_looks 29 = .ok (.iconst 0, 1) := by decide +kernel
theorem dX7_looks_30 : decode cX7_looks 30 = .ok (.aload_n 0, 1) := by decide +kernel
theorem dX7_looks_31 : decode cX7_looks 31 = .ok (.getfield 80, 3) := by decide +kernel
theorem dX7_looks_34 : decode cX7_looks 34 = .ok (.invokestatic 63, 3) := by decide +kernel
theorem dX7_looks_37 : decode cX7_looks 37 = .ok (.ifCond .eq 7, 3) := by decide +kernel
theorem dX7_looks_40 : decode cX7_looks 40 = .ok (.iconst 0, 1) := by decide +kernel
theorem dX7_looks_41 : decode cX7_looks 41 = .ok (.goto 4, 3) := by decide +kernel
theorem dX7_looks_44 : decode cX7_looks 44 = .ok (.iconst 2, 1) := by decide +kernel
theorem dX7_looks_45 : decode cX7_looks 45 = .ok (.putfield 59, 3) := by decide +kernel
theorem dX7_looks_48 : decode cX7_looks 48 = .ok (.aload_n 0, 1) := by decide +kernel
theorem dX7_looks_49 : decode cX7_looks 49 = .ok (.getfield 59, 3) := by decide +kernel
theorem dX7_looks_52 : decode cX7_looks 52 = .ok (.ifCond .ne 10, 3) := by decide +kernel
theorem dX7_looks_55 : decode cX7_looks 55 = .ok (.aload_n 0, 1) := by decide +kernel
theorem dX7_looks_56 : decode cX7_looks 56 = .ok (.iload_n 1, 1) := by decide +kernel
theorem dX7_looks_57 : decode cX7_looks 57 = .ok (.iload 4, 2) := by decide +kernel
theorem dX7_looks_59 : decode cX7_looks 59 = .ok (.invokevirtual 108, 3) := by decide +kernel
theorem dX7_looks_62 : decode cX7_looks 62 = .ok (.aload_n 0, 1) := by decide +kernel
theorem dX7_looks_63 : decode cX7_looks 63 = .ok (.getfield 59, 3) := by decide +kernel
theorem dX7_looks_66 : decode cX7_looks 66 = .ok (.ifCond .ne 7, 3) := by decide +kernel
theorem dX7_looks_69 : decode cX7_looks 69 = .ok (.iconst 1, 1) := by decide +kernel
theorem dX7_looks_70 : decode cX7_looks 70 = .ok (.goto 4, 3) := by decide +kernel
theorem dX7_looks_73 : decode cX7_looks 73 = .ok (.iconst 0, 1) := by decide +kernel
theorem dX7_looks_74 : decode cX7_looks 74 = .ok (.ireturn, 1) := by decide +kernel
set_option maxRecDepth 20000 in
theorem ggX7_value_X7_looks : GoodIn wsX7_value wsX7_looks := goodIn_r _ [6, 7, 8, 9, 10, 11, 5, 12, 13, 14, 15, 16, 17, 18, 19, 20, 21, 22, 23, 24, 25, 26, 27, 1, 28, 29, 30, 31, 32, 33, 34, 35, 36, 37, 38, 39, 40, 41, 42, 43, 44, 45, 46, 47, 48, 49, 50, 51, 52, 53, 54, 55, 56, 57, 58, 59, 60, 61, 62, 63, 64, 65, 66, 67, 68, 69, 70, 71, 72, 73, 74] (by decide +kernel) (by decide +kernel)
set_option maxRecDepth 20000 in
theorem gX7_value_X7_looks : GoodIn wsX7_value (wsV RX7 112 RX7 yX7_looks wsX7_looks) := goodIn_app (goodIn_of _ (by decide +kernel)) ggX7_value_X7_looks
theorem dX7_value_0 : decode cX7_value 0 = .ok (.aload_n 0, 1) := by decide +kernel
theorem dX7_value_1 : decode cX7_value 1 = .ok (.iload_n 1, 1) := by decide +kernel
theorem dX7_value_2 : decode cX7_value 2 = .ok (.iload_n 2, 1) := by decide +kernel
theorem dX7_value_3 : decode cX7_value 3 = .ok (.iload_n 3, 1) := by decide +kernel
theorem dX7_value_4 : decode cX7_value 4 = .ok (.iload 4, 2) := by decide +kernel
theorem dX7_value_6 : decode cX7_value 6 = .ok (.invokevirtual 112, 3) := by decide +kernel
theorem dX7_value_9 : decode cX7_value 9 = .ok (.ifCond .eq 16, 3) := by decide +kernel
theorem dX7_value_12 : decode cX7_value 12 = .ok (.aload_n 0, 1) := by decide +kernel
theorem dX7_value_13 : decode cX7_value 13 = .ok (.getfield 46, 3) := by decide +kernel
theorem dX7_value_16 : decode cX7_value 16 = .ok (.iconst 3, 1) := by decide +kernel
theorem dX7_value_17 : decode cX7_value 17 = .ok (.iload_n 3, 1) := by decide +kernel
theorem dX7_value_18 : decode cX7_value 18 = .ok (.imul, 1) := by decide +kernel
theorem dX7_value_19 : decode cX7_value 19 = .ok (.iload_n 2, 1) := by decide +kernel
theorem dX7_value_20 : decode cX7_value 20 = .ok (.iadd, 1) := by decide +kernel
theorem dX7_value_21 : decode cX7_value 21 = .ok (.iaload, 1) := by decide +kernel
theorem dX7_value_22 : decode cX7_value 22 = .ok (.goto 4, 3) := by decide +kernel
theorem dX7_value_25 : decode cX7_value 25 = .ok (.iconst 0, 1) := by decide +kernel
theorem dX7_value_26 : decode cX7_value 26 = .ok (.ireturn, 1) := by decide +kernel
set_option maxRecDepth 20000 in
theorem ggX7_isCovered_X7_looks : GoodIn wsX7_isCovered wsX7_looks := goodIn_r _ [6, 7, 8, 9, 10, 11, 5, 12, 13, 14, 15, 16, 17, 18, 19, 20, 21, 22, 23, 24, 25, 26, 27, 28, 29, 30, 31, 32, 33, 34, 1, 35, 36, 37, 38, 39, 40, 41, 42, 43, 44, 45, 46, 47, 48, 49, 50, 51, 52, 53, 54, 55, 56, 57, 58, 59, 60, 61, 62, 63, 64, 65, 66, 67, 68, 69, 70, 71, 72, 73, 74] (by decide +kernel) (by decide +kernel)
set_option maxRecDepth 20000 in
theorem gX7_isCovered_X7_looks : GoodIn wsX7_isCovered (wsV RX7 112 RX7 yX7_looks wsX7_looks) := goodIn_app (goodIn_of _ (by decide +kernel)) ggX7_isCovered_X7_looks
theorem dX7_isCovered_0 : decode cX7_isCovered 0 = .ok (.aload_n 0, 1) := by decide +kernel
theorem dX7_isCovered_1 : decode cX7_isCovered 1 = .ok (.iload_n 1, 1) := by decide +kernel
theorem dX7_isCovered_2 : decode cX7_isCovered 2 = .ok (.iconst 0, 1) := by decide +kernel
theorem dX7_isCovered_3 : decode cX7_isCovered 3 = .ok (.iload_n 2, 1) := by decide +kernel
theorem dX7_isCovered_4 : decode cX7_isCovered 4 = .ok (.iload_n 3, 1) := by decide +kernel
theorem dX7_isCovered_5 : decode cX7_isCovered 5 = .ok (.invokevirtual 112, 3) := by decide +kernel
theorem dX7_isCovered_8 : decode cX7_isCovered 8 = .ok (.ifCond .eq 16, 3) := by decide +kernel
theorem dX7_isCovered_11 : decode cX7_isCovered 11 = .ok (.aload_n 0, 1) := by decide +kernel
theorem dX7_isCovered_12 : decode cX7_isCovered 12 = .ok (.getfield 49, 3) := by decide +kernel
theorem dX7_isCovered_15 : decode cX7_isCovered 15 = .ok (.iload_n 2, 1) := by decide +kernel
theorem dX7_isCovered_16 : decode cX7_isCovered 16 = .ok (.baload, 1) := by decide +kernel
theorem dX7_isCovered_17 : decode cX7_isCovered 17 = .ok (.ifCond .eq 7, 3) := by decide +kernel
theorem dX7_isCovered_20 : decode cX7_isCovered 20 = .ok (.iconst 1, 1) := by decide +kernel
theorem dX7_isCovered_21 : decode cX7_isCovered 21 = .ok (.goto 4, 3) := by decide +kernel
theorem dX7_isCovered_24 : decode cX7_isCovered 24 = .ok (.iconst 0, 1) := by decide +kernel
theorem dX7_isCovered_25 : decode cX7_isCovered 25 = .ok (.ireturn, 1) := by decide +kernel
set_option maxRecDepth 20000 in
theorem ggX7_rate_X7_looks : GoodIn wsX7_rate wsX7_looks := goodIn_r _ [6, 7, 8, 9, 10, 11, 5, 12, 13, 14, 15, 16, 17, 18, 19, 20, 21, 22, 23, 24, 25, 26, 27, 28, 29, 30, 31, 32, 33, 34, 35, 36, 1, 37, 38, 39, 40, 41, 42, 43, 44, 45, 46, 47, 48, 49, 50, 51, 52, 53, 54, 55, 56, 57, 58, 59, 60, 61, 62, 63, 64, 65, 66, 67, 68, 69, 70, 71, 72, 73, 74] (by decide +kernel) (by decide +kernel)
set_option maxRecDepth 20000 in
theorem gX7_rate_X7_looks : GoodIn wsX7_rate (wsV RX7 112 RX7 yX7_looks wsX7_looks) := goodIn_app (goodIn_of _ (by decide +kernel)) ggX7_rate_X7_looks
theorem dX7_rate_0 : decode cX7_rate 0 = .ok (.aload_n 0, 1) := by decide +kernel
theorem dX7_rate_1 : decode cX7_rate 1 = .ok (.iload_n 1, 1) := by decide +kernel
theorem dX7_rate_2 : decode cX7_rate 2 = .ok (.iconst 0, 1) := by decide +kernel
theorem dX7_rate_3 : decode cX7_rate 3 = .ok (.iload_n 2, 1) := by decide +kernel
theorem dX7_rate_4 : decode cX7_rate 4 = .ok (.iload_n 3, 1) := by decide +kernel
theorem dX7_rate_5 : decode cX7_rate 5 = .ok (.invokevirtual 112, 3) := by decide +kernel
theorem dX7_rate_8 : decode cX7_rate 8 = .ok (.ifCond .eq 12, 3) := by decide +kernel
theorem dX7_rate_11 : decode cX7_rate 11 = .ok (.aload_n 0, 1) := by decide +kernel
theorem dX7_rate_12 : decode cX7_rate 12 = .ok (.getfield 53, 3) := by decide +kernel
theorem dX7_rate_15 : decode cX7_rate 15 = .ok (.iload_n 2, 1) := by decide +kernel
theorem dX7_rate_16 : decode cX7_rate 16 = .ok (.iaload, 1) := by decide +kernel
theorem dX7_rate_17 : decode cX7_rate 17 = .ok (.goto 4, 3) := by decide +kernel
theorem dX7_rate_20 : decode cX7_rate 20 = .ok (.iconst 0, 1) := by decide +kernel
theorem dX7_rate_21 : decode cX7_rate 21 = .ok (.ireturn, 1) := by decide +kernel
theorem dX7_begins_0 : decode cX7_begins 0 = .ok (.aload_n 0, 1) := by decide +kernel
theorem dX7_begins_1 : decode cX7_begins 1 = .ok (.getfield 53, 3) := by decide +kernel
theorem dX7_begins_4 : decode cX7_begins 4 = .ok (.iload_n 1, 1) := by decide +kernel
theorem dX7_begins_5 : decode cX7_begins 5 = .ok (.iaload, 1) := by decide +kernel
theorem dX7_begins_6 : decode cX7_begins 6 = .ok (.ifCond .le 28, 3) := by decide +kernel
theorem dX7_begins_9 : decode cX7_begins 9 = .ok (.iload_n 1, 1) := by decide +kernel
theorem dX7_begins_10 : decode cX7_begins 10 = .ok (.ifCond .eq 20, 3) := by decide +kernel
theorem dX7_begins_13 : decode cX7_begins 13 = .ok (.aload_n 0, 1) := by decide +kernel
theorem dX7_begins_14 : decode cX7_begins 14 = .ok (.getfield 53, 3) := by decide +kernel
theorem dX7_begins_17 : decode cX7_begins 17 = .ok (.iload_n 1, 1) := by decide +kernel
theorem dX7_begins_18 : decode cX7_begins 18 = .ok (.iconst 1, 1) := by decide +kernel
theorem dX7_begins_19 : decode cX7_begins 19 = .ok (.isub, 1) := by decide +kernel
theorem dX7_begins_20 : decode cX7_begins 20 = .ok (.iaload, 1) := by decide +kernel
theorem dX7_begins_21 : decode cX7_begins 21 = .ok (.aload_n 0, 1) := by decide +kernel
theorem dX7_begins_22 : decode cX7_begins 22 = .ok (.getfield 53, 3) := by decide +kernel
theorem dX7_begins_25 : decode cX7_begins 25 = .ok (.iload_n 1, 1) := by decide +kernel
theorem dX7_begins_26 : decode cX7_begins 26 = .ok (.iaload, 1) := by decide +kernel
theorem dX7_begins_27 : decode cX7_begins 27 = .ok (.if_icmp .eq 7, 3) := by decide +kernel
theorem dX7_begins_30 : decode cX7_begins 30 = .ok (.iconst 1, 1) := by decide +kernel
theorem dX7_begins_31 : decode cX7_begins 31 = .ok (.goto 4, 3) := by decide +kernel
theorem dX7_begins_34 : decode cX7_begins 34 = .ok (.iconst 0, 1) := by decide +kernel
theorem dX7_begins_35 : decode cX7_begins 35 = .ok (.ireturn, 1) := by decide +kernel
set_option maxRecDepth 20000 in
theorem ggX7_segments_X7_looks : GoodIn wsX7_segments wsX7_looks := goodIn_r _ [5, 6, 7, 8, 9, 10, 4, 11, 12, 13, 14, 15, 16, 17, 18, 19, 20, 21, 22, 23, 24, 25, 26, 27, 28, 29, 30, 31, 32, 33, 34, 35, 36, 37, 38, 39, 40, 41, 42, 43, 44, 45, 46, 47, 48, 49, 50, 51, 52, 53, 58, 59, 60, 61, 62, 63, 64, 65, 66, 67, 68, 69, 70, 71, 72, 73, 74, 75, 76, 77, 78] (by decide +kernel) (by decide +kernel)
set_option maxRecDepth 20000 in
theorem gX7_segments_X7_looks : GoodIn wsX7_segments (wsV RX7 112 RX7 yX7_looks wsX7_looks) := goodIn_app (goodIn_of _ (by decide +kernel)) ggX7_segments_X7_looks
set_option maxRecDepth 20000 in
theorem ggX7_segments_X7_begins : GoodIn wsX7_segments wsX7_begins := goodIn_r _ [57, 36, 58, 59, 60, 61, 62, 63, 64, 65, 66, 67, 68, 69, 70, 71, 72, 73, 74, 75, 76, 77, 78] (by decide +kernel) (by decide +kernel)
set_option maxRecDepth 20000 in
theorem gX7_segments_X7_begins : GoodIn wsX7_segments (wsV RX7 116 RX7 yX7_begins wsX7_begins) := goodIn_app (goodIn_of _ (by decide +kernel)) ggX7_segments_X7_begins
theorem dX7_segments_0 : decode cX7_segments 0 = .ok (.iconst 0, 1) := by decide +kernel
theorem dX7_segments_1 : decode cX7_segments 1 = .ok (.istore_n 3, 1) := by decide +kernel
theorem dX7_segments_2 : decode cX7_segments 2 = .ok (.aload_n 0, 1) := by decide +kernel
theorem dX7_segments_3 : decode cX7_segments 3 = .ok (.iload_n 1, 1) := by decide +kernel
theorem dX7_segments_4 : decode cX7_segments 4 = .ok (.iconst 0, 1) := by decide +kernel
theorem dX7_segments_5 : decode cX7_segments 5 = .ok (.iconst 0, 1) := by decide +kernel
theorem dX7_segments_6 : decode cX7_segments 6 = .ok (.iload_n 2, 1) := by decide +kernel
theorem dX7_segments_7 : decode cX7_segments 7 = .ok (.invokevirtual 112, 3) := by decide +kernel
theorem dX7_segments_10 : decode cX7_segments 10 = .ok (.istore 4, 2) := by decide +kernel
theorem dX7_segments_12 : decode cX7_segments 12 = .ok (.iconst 0, 1) := by decide +kernel
theorem dX7_segments_13 : decode cX7_segments 13 = .ok (.istore 5, 2) := by decide +kernel
theorem dX7_segments_15 : decode cX7_segments 15 = .ok (.iload 4, 2) := by decide +kernel
theorem dX7_segments_17 : decode cX7_segments 17 = .ok (.ifCond .eq 34, 3) := by decide +kernel
theorem dX7_segments_20 : decode cX7_segments 20 = .ok (.iload 5, 2) := by decide +kernel
theorem dX7_segments_22 : decode cX7_segments 22 = .ok (.sipush 365, 3) := by decide +kernel
theorem dX7_segments_25 : decode cX7_segments 25 = .ok (.if_icmp .ge 26, 3) := by decide +kernel
theorem dX7_segments_28 : decode cX7_segments 28 = .ok (.iload_n 3, 1) := by decide +kernel
theorem dX7_segments_29 : decode cX7_segments 29 = .ok (.aload_n 0, 1) := by decide +kernel
theorem dX7_segments_30 : decode cX7_segments 30 = .ok (.iload 5, 2) := by decide +kernel
theorem dX7_segments_32 : decode cX7_segments 32 = .ok (.invokevirtual 116, 3) := by decide +kernel
theorem dX7_segments_35 : decode cX7_segments 35 = .ok (.ifCond .eq 7, 3) := by decide +kernel
theorem dX7_segments_38 : decode cX7_segments 38 = .ok (.iconst 1, 1) := by decide +kernel
theorem dX7_segments_39 : decode cX7_segments 39 = .ok (.goto 4, 3) := by decide +kernel
theorem dX7_segments_42 : decode cX7_segments 42 = .ok (.iconst 0, 1) := by decide +kernel
theorem dX7_segments_43 : decode cX7_segments 43 = .ok (.iadd, 1) := by decide +kernel
theorem dX7_segments_44 : decode cX7_segments 44 = .ok (.istore_n 3, 1) := by decide +kernel
theorem dX7_segments_45 : decode cX7_segments 45 = .ok (.iinc 5 1, 3) := by decide +kernel
theorem dX7_segments_48 : decode cX7_segments 48 = .ok (.goto (-33), 3) := by decide +kernel
theorem dX7_segments_51 : decode cX7_segments 51 = .ok (.iload_n 3, 1) := by decide +kernel
theorem dX7_segments_52 : decode cX7_segments 52 = .ok (.ireturn, 1) := by decide +kernel
set_option maxRecDepth 20000 in
theorem ggX7_found_X7_isIn : GoodIn wsX7_found wsX7_isIn := goodIn_r _ [6] (by decide +kernel) (by decide +kernel)
set_option maxRecDepth 20000 in
theorem gX7_found_X7_isIn : GoodIn wsX7_found (va_wsS RX7 63 yX7_isIn wsX7_isIn) := goodIn_app (goodIn_of _ (by decide +kernel)) ggX7_found_X7_isIn
set_option maxRecDepth 20000 in
theorem ggX7_found_X7_looks : GoodIn wsX7_found wsX7_looks := goodIn_r _ [10, 1, 2, 11, 12, 13, 5, 14, 15, 3, 4, 6, 16, 17, 18, 19, 20, 21, 22, 23, 24, 25, 26, 27, 28, 29, 30, 31, 32, 33, 34, 35, 36, 37, 38, 39, 40, 41, 42, 43, 44, 45, 46, 47, 48, 49, 50, 51, 52, 53, 58, 59, 60, 61, 62, 63, 64, 65, 66, 67, 68, 69, 70, 71, 72, 73, 74, 75, 76, 77, 78] (by decide +kernel) (by decide +kernel)
set_option maxRecDepth 20000 in
theorem gX7_found_X7_looks : GoodIn wsX7_found (wsV RX7 112 RX7 yX7_looks wsX7_looks) := goodIn_app (goodIn_of _ (by decide +kernel)) ggX7_found_X7_looks
set_option maxRecDepth 20000 in
theorem ggX7_found_X7_begins : GoodIn wsX7_found wsX7_begins := goodIn_r _ [57, 36, 58, 59, 60, 61, 62, 63, 64, 65, 66, 67, 68, 69, 70, 71, 72, 73, 74, 75, 76, 77, 78] (by decide +kernel) (by decide +kernel)
set_option maxRecDepth 20000 in
theorem gX7_found_X7_begins : GoodIn wsX7_found (wsV RX7 116 RX7 yX7_begins wsX7_begins) := goodIn_app (goodIn_of _ (by decide +kernel)) ggX7_found_X7_begins
theorem dX7_found_0 : decode cX7_found 0 = .ok (.iconst (-1), 1) := by decide +kernel
theorem dX7_found_1 : decode cX7_found 1 = .ok (.istore 4, 2) := by decide +kernel
theorem dX7_found_3 : decode cX7_found 3 = .ok (.iload_n 3, 1) := by decide +kernel
theorem dX7_found_4 : decode cX7_found 4 = .ok (.iconst 0, 1) := by decide +kernel
theorem dX7_found_5 : decode cX7_found 5 = .ok (.aload_n 0, 1) := by decide +kernel
theorem dX7_found_6 : decode cX7_found 6 = .ok (.getfield 80, 3) := by decide +kernel
theorem dX7_found_9 : decode cX7_found 9 = .ok (.invokestatic 63, 3) := by decide +kernel
theorem dX7_found_12 : decode cX7_found 12 = .ok (.istore 5, 2) := by decide +kernel
theorem dX7_found_14 : decode cX7_found 14 = .ok (.iload 5, 2) := by decide +kernel
theorem dX7_found_16 : decode cX7_found 16 = .ok (.ifCond .eq 18, 3) := by decide +kernel
theorem dX7_found_19 : decode cX7_found 19 = .ok (.aload_n 0, 1) := by decide +kernel
theorem dX7_found_20 : decode cX7_found 20 = .ok (.iload_n 1, 1) := by decide +kernel
theorem dX7_found_21 : decode cX7_found 21 = .ok (.iconst 0, 1) := by decide +kernel
theorem dX7_found_22 : decode cX7_found 22 = .ok (.iconst 0, 1) := by decide +kernel
theorem dX7_found_23 : decode cX7_found 23 = .ok (.iload_n 3, 1) := by decide +kernel
theorem dX7_found_24 : decode cX7_found 24 = .ok (.invokevirtual 112, 3) := by decide +kernel
theorem dX7_found_27 : decode cX7_found 27 = .ok (.ifCond .eq 7, 3) := by decide +kernel
theorem dX7_found_30 : decode cX7_found 30 = .ok (.iconst 1, 1) := by decide +kernel
theorem dX7_found_31 : decode cX7_found 31 = .ok (.goto 4, 3) := by decide +kernel
theorem dX7_found_34 : decode cX7_found 34 = .ok (.iconst 0, 1) := by decide +kernel
theorem dX7_found_35 : decode cX7_found 35 = .ok (.istore 6, 2) := by decide +kernel
theorem dX7_found_37 : decode cX7_found 37 = .ok (.iconst 0, 1) := by decide +kernel
theorem dX7_found_38 : decode cX7_found 38 = .ok (.istore 7, 2) := by decide +kernel
theorem dX7_found_40 : decode cX7_found 40 = .ok (.iconst 0, 1) := by decide +kernel
theorem dX7_found_41 : decode cX7_found 41 = .ok (.istore 8, 2) := by decide +kernel
theorem dX7_found_43 : decode cX7_found 43 = .ok (.iload 6, 2) := by decide +kernel
theorem dX7_found_45 : decode cX7_found 45 = .ok (.ifCond .eq 60, 3) := by decide +kernel
theorem dX7_found_48 : decode cX7_found 48 = .ok (.iload 8, 2) := by decide +kernel
theorem dX7_found_50 : decode cX7_found 50 = .ok (.sipush 365, 3) := by decide +kernel
theorem dX7_found_53 : decode cX7_found 53 = .ok (.if_icmp .ge 52, 3) := by decide +kernel
theorem dX7_found_56 : decode cX7_found 56 = .ok (.aload_n 0, 1) := by decide +kernel
theorem dX7_found_57 : decode cX7_found 57 = .ok (.iload 8, 2) := by decide +kernel
theorem dX7_found_59 : decode cX7_found 59 = .ok (.invokevirtual 116, 3) := by decide +kernel
theorem dX7_found_62 : decode cX7_found 62 = .ok (.ifCond .eq 14, 3) := by decide +kernel
theorem dX7_found_65 : decode cX7_found 65 = .ok (.iload 7, 2) := by decide +kernel
theorem dX7_found_67 : decode cX7_found 67 = .ok (.iload_n 2, 1) := by decide +kernel
theorem dX7_found_68 : decode cX7_found 68 = .ok (.if_icmp .ne 8, 3) := by decide +kernel
theorem dX7_found_71 : decode cX7_found 71 = .ok (.iload 8, 2) := by decide +kernel
theorem dX7_found_73 : decode cX7_found 73 = .ok (.goto 5, 3) := by decide +kernel
theorem dX7_found_76 : decode cX7_found 76 = .ok (.iload 4, 2) := by decide +kernel
theorem dX7_found_78 : decode cX7_found 78 = .ok (.istore 4, 2) := by decide +kernel
theorem dX7_found_80 : decode cX7_found 80 = .ok (.iload 7, 2) := by decide +kernel
theorem dX7_found_82 : decode cX7_found 82 = .ok (.aload_n 0, 1) := by decide +kernel
theorem dX7_found_83 : decode cX7_found 83 = .ok (.iload 8, 2) := by decide +kernel
theorem dX7_found_85 : decode cX7_found 85 = .ok (.invokevirtual 116, 3) := by decide +kernel
theorem dX7_found_88 : decode cX7_found 88 = .ok (.ifCond .eq 7, 3) := by decide +kernel
theorem dX7_found_91 : decode cX7_found 91 = .ok (.iconst 1, 1) := by decide +kernel
theorem dX7_found_92 : decode cX7_found 92 = .ok (.goto 4, 3) := by decide +kernel
theorem dX7_found_95 : decode cX7_found 95 = .ok (.iconst 0, 1) := by decide +kernel
theorem dX7_found_96 : decode cX7_found 96 = .ok (.iadd, 1) := by decide +kernel
theorem dX7_found_97 : decode cX7_found 97 = .ok (.istore 7, 2) := by decide +kernel
theorem dX7_found_99 : decode cX7_found 99 = .ok (.iinc 8 1, 3) := by decide +kernel
theorem dX7_found_102 : decode cX7_found 102 = .ok (.goto (-59), 3) := by decide +kernel
theorem dX7_found_105 : decode cX7_found 105 = .ok (.aload_n 0, 1) := by decide +kernel
theorem dX7_found_106 : decode cX7_found 106 = .ok (.iload 5, 2) := by decide +kernel
theorem dX7_found_108 : decode cX7_found 108 = .ok (.ifCond .ne 7, 3) := by decide +kernel
theorem dX7_found_111 : decode cX7_found 111 = .ok (.iconst 1, 1) := by decide +kernel
theorem dX7_found_112 : decode cX7_found 112 = .ok (.goto 13, 3) := by decide +kernel
theorem dX7_found_115 : decode cX7_found 115 = .ok (.iload 4, 2) := by decide +kernel
theorem dX7_found_117 : decode cX7_found 117 = .ok (.ifCond .ge 7, 3) := by decide +kernel
theorem dX7_found_120 : decode cX7_found 120 = .ok (.iconst 2, 1) := by decide +kernel
theorem dX7_found_121 : decode cX7_found 121 = .ok (.goto 4, 3) := by decide +kernel
theorem dX7_found_124 : decode cX7_found 124 = .ok (.iconst 0, 1) := by decide +kernel
theorem dX7_found_125 : decode cX7_found 125 = .ok (.putfield 59, 3) := by decide +kernel
theorem dX7_found_128 : decode cX7_found 128 = .ok (.iload 4, 2) := by decide +kernel
theorem dX7_found_130 : decode cX7_found 130 = .ok (.ireturn, 1) := by decide +kernel
set_option maxRecDepth 20000 in
theorem ggX7_segmentStart_X7_found : GoodIn wsX7_segmentStart wsX7_found := goodIn_r _ [5, 6, 7, 8, 9, 4, 10, 11, 12, 13, 14, 15, 16, 17, 18, 19, 20, 21, 22, 23, 24, 25, 26, 27, 28, 29, 30, 31, 32, 33, 34, 35, 36, 37, 38, 39, 40, 41, 42, 43, 44, 45, 46, 47, 48, 49, 50, 51, 52, 53, 54, 55, 56, 57, 58, 59, 60, 61, 62, 63, 64, 65, 66, 67, 68, 69, 70, 71, 72, 73, 74, 75, 76, 77, 78, 79, 80, 81, 82] (by decide +kernel) (by decide +kernel)
set_option maxRecDepth 20000 in
theorem gX7_segmentStart_X7_found : GoodIn wsX7_segmentStart (wsV RX7 119 RX7 yX7_found wsX7_found) := goodIn_app (goodIn_of _ (by decide +kernel)) ggX7_segmentStart_X7_found
theorem dX7_segmentStart_0 : decode cX7_segmentStart 0 = .ok (.aload_n 0, 1) := by decide +kernel
theorem dX7_segmentStart_1 : decode cX7_segmentStart 1 = .ok (.iload_n 1, 1) := by decide +kernel
theorem dX7_segmentStart_2 : decode cX7_segmentStart 2 = .ok (.iload_n 2, 1) := by decide +kernel
theorem dX7_segmentStart_3 : decode cX7_segmentStart 3 = .ok (.iload_n 3, 1) := by decide +kernel
theorem dX7_segmentStart_4 : decode cX7_segmentStart 4 = .ok (.invokevirtual 119, 3) := by decide +kernel
theorem dX7_segmentStart_7 : decode cX7_segmentStart 7 = .ok (.istore 4, 2) := by decide +kernel
theorem dX7_segmentStart_9 : decode cX7_segmentStart 9 = .ok (.iload 4, 2) := by decide +kernel
theorem dX7_segmentStart_11 : decode cX7_segmentStart 11 = .ok (.ifCond .ge 7, 3) := by decide +kernel
theorem dX7_segmentStart_14 : decode cX7_segmentStart 14 = .ok (.iconst 0, 1) := by decide +kernel
theorem dX7_segmentStart_15 : decode cX7_segmentStart 15 = .ok (.goto 5, 3) := by decide +kernel
theorem dX7_segmentStart_18 : decode cX7_segmentStart 18 = .ok (.iload 4, 2) := by decide +kernel
theorem dX7_segmentStart_20 : decode cX7_segmentStart 20 = .ok (.ireturn, 1) := by decide +kernel
theorem dX7_charge_0 : decode cX7_charge 0 = .ok (.aload_n 0, 1) := by decide +kernel
theorem dX7_charge_1 : decode cX7_charge 1 = .ok (.getfield 56, 3) := by decide +kernel
theorem dX7_charge_4 : decode cX7_charge 4 = .ok (.iload_n 1, 1) := by decide +kernel
theorem dX7_charge_5 : decode cX7_charge 5 = .ok (.iaload, 1) := by decide +kernel
theorem dX7_charge_6 : decode cX7_charge 6 = .ok (.sipush 365, 3) := by decide +kernel
theorem dX7_charge_9 : decode cX7_charge 9 = .ok (.idiv, 1) := by decide +kernel
theorem dX7_charge_10 : decode cX7_charge 10 = .ok (.ireturn, 1) := by decide +kernel
set_option maxRecDepth 20000 in
theorem ggX7_segmentPremium_X7_found : GoodIn wsX7_segmentPremium wsX7_found := goodIn_r _ [6, 7, 8, 9, 10, 5, 11, 12, 13, 14, 15, 16, 17, 18, 19, 20, 21, 22, 23, 24, 25, 26, 27, 28, 29, 30, 31, 32, 33, 34, 35, 36, 37, 38, 39, 40, 1, 41, 42, 43, 44, 45, 46, 47, 48, 49, 50, 51, 52, 53, 54, 55, 56, 57, 58, 59, 60, 61, 66, 67, 68, 69, 70, 71, 72, 73, 74, 75, 76, 77, 78, 79, 80, 81, 82, 83, 84, 85, 86] (by decide +kernel) (by decide +kernel)
set_option maxRecDepth 20000 in
theorem gX7_segmentPremium_X7_found : GoodIn wsX7_segmentPremium (wsV RX7 119 RX7 yX7_found wsX7_found) := goodIn_app (goodIn_of _ (by decide +kernel)) ggX7_segmentPremium_X7_found
set_option maxRecDepth 20000 in
theorem ggX7_segmentPremium_X7_charge : GoodIn wsX7_segmentPremium wsX7_charge := goodIn_r _ [65, 31, 66, 67, 68, 69, 70, 71, 72, 73, 74, 75, 76, 77, 78, 79, 80, 81, 82, 83, 84, 85, 86] (by decide +kernel) (by decide +kernel)
set_option maxRecDepth 20000 in
theorem gX7_segmentPremium_X7_charge : GoodIn wsX7_segmentPremium (wsV RX7 123 RX7 yX7_charge wsX7_charge) := goodIn_app (goodIn_of _ (by decide +kernel)) ggX7_segmentPremium_X7_charge
theorem dX7_segmentPremium_0 : decode cX7_segmentPremium 0 = .ok (.aload_n 0, 1) := by decide +kernel
theorem dX7_segmentPremium_1 : decode cX7_segmentPremium 1 = .ok (.iload_n 1, 1) := by decide +kernel
theorem dX7_segmentPremium_2 : decode cX7_segmentPremium 2 = .ok (.iload_n 2, 1) := by decide +kernel
theorem dX7_segmentPremium_3 : decode cX7_segmentPremium 3 = .ok (.iload_n 3, 1) := by decide +kernel
theorem dX7_segmentPremium_4 : decode cX7_segmentPremium 4 = .ok (.invokevirtual 119, 3) := by decide +kernel
theorem dX7_segmentPremium_7 : decode cX7_segmentPremium 7 = .ok (.istore 4, 2) := by decide +kernel
theorem dX7_segmentPremium_9 : decode cX7_segmentPremium 9 = .ok (.iload 4, 2) := by decide +kernel
theorem dX7_segmentPremium_11 : decode cX7_segmentPremium 11 = .ok (.ifCond .ge 5, 3) := by decide +kernel
theorem dX7_segmentPremium_14 : decode cX7_segmentPremium 14 = .ok (.iconst 0, 1) := by decide +kernel
theorem dX7_segmentPremium_15 : decode cX7_segmentPremium 15 = .ok (.ireturn, 1) := by decide +kernel
theorem dX7_segmentPremium_16 : decode cX7_segmentPremium 16 = .ok (.iload 4, 2) := by decide +kernel
theorem dX7_segmentPremium_18 : decode cX7_segmentPremium 18 = .ok (.istore 5, 2) := by decide +kernel
theorem dX7_segmentPremium_20 : decode cX7_segmentPremium 20 = .ok (.iload 5, 2) := by decide +kernel
theorem dX7_segmentPremium_22 : decode cX7_segmentPremium 22 = .ok (.sipush 365, 3) := by decide +kernel
theorem dX7_segmentPremium_25 : decode cX7_segmentPremium 25 = .ok (.if_icmp .ge 26, 3) := by decide +kernel
theorem dX7_segmentPremium_28 : decode cX7_segmentPremium 28 = .ok (.aload_n 0, 1) := by decide +kernel
theorem dX7_segmentPremium_29 : decode cX7_segmentPremium 29 = .ok (.getfield 53, 3) := by decide +kernel
theorem dX7_segmentPremium_32 : decode cX7_segmentPremium 32 = .ok (.iload 5, 2) := by decide +kernel
theorem dX7_segmentPremium_34 : decode cX7_segmentPremium 34 = .ok (.iaload, 1) := by decide +kernel
theorem dX7_segmentPremium_35 : decode cX7_segmentPremium 35 = .ok (.aload_n 0, 1) := by decide +kernel
theorem dX7_segmentPremium_36 : decode cX7_segmentPremium 36 = .ok (.getfield 53, 3) := by decide +kernel
theorem dX7_segmentPremium_39 : decode cX7_segmentPremium 39 = .ok (.iload 4, 2) := by decide +kernel
theorem dX7_segmentPremium_41 : decode cX7_segmentPremium 41 = .ok (.iaload, 1) := by decide +kernel
theorem dX7_segmentPremium_42 : decode cX7_segmentPremium 42 = .ok (.if_icmp .ne 9, 3) := by decide +kernel
theorem dX7_segmentPremium_45 : decode cX7_segmentPremium 45 = .ok (.iinc 5 1, 3) := by decide +kernel
theorem dX7_segmentPremium_48 : decode cX7_segmentPremium 48 = .ok (.goto (-28), 3) := by decide +kernel
theorem dX7_segmentPremium_51 : decode cX7_segmentPremium 51 = .ok (.aload_n 0, 1) := by decide +kernel
theorem dX7_segmentPremium_52 : decode cX7_segmentPremium 52 = .ok (.iload 5, 2) := by decide +kernel
theorem dX7_segmentPremium_54 : decode cX7_segmentPremium 54 = .ok (.invokevirtual 123, 3) := by decide +kernel
theorem dX7_segmentPremium_57 : decode cX7_segmentPremium 57 = .ok (.aload_n 0, 1) := by decide +kernel
theorem dX7_segmentPremium_58 : decode cX7_segmentPremium 58 = .ok (.iload 4, 2) := by decide +kernel
theorem dX7_segmentPremium_60 : decode cX7_segmentPremium 60 = .ok (.invokevirtual 123, 3) := by decide +kernel
theorem dX7_segmentPremium_63 : decode cX7_segmentPremium 63 = .ok (.isub, 1) := by decide +kernel
theorem dX7_segmentPremium_64 : decode cX7_segmentPremium 64 = .ok (.ireturn, 1) := by decide +kernel
set_option maxRecDepth 20000 in
theorem ggX7_all_X7_looks : GoodIn wsX7_all wsX7_looks := goodIn_r _ [5, 6, 7, 8, 9, 10, 4, 11, 12, 13, 14, 15, 16, 17, 18, 19, 20, 21, 22, 23, 24, 25, 26, 27, 28, 29, 30, 31, 32, 33, 34, 35, 36, 37, 38, 39, 40, 41, 42, 43, 44, 45, 46, 47, 48, 49, 50, 51, 52, 53, 58, 59, 60, 61, 62, 63, 64, 65, 66, 67, 68, 69, 70, 71, 72, 73, 74, 75, 76, 77, 78] (by decide +kernel) (by decide +kernel)
set_option maxRecDepth 20000 in
theorem gX7_all_X7_looks : GoodIn wsX7_all (wsV RX7 112 RX7 yX7_looks wsX7_looks) := goodIn_app (goodIn_of _ (by decide +kernel)) ggX7_all_X7_looks
set_option maxRecDepth 20000 in
theorem ggX7_all_X7_charge : GoodIn wsX7_all wsX7_charge := goodIn_r _ [57, 26, 58, 59, 60, 61, 62, 63, 64, 65, 66, 67, 68, 69, 70, 71, 72, 73, 74, 75, 76, 77, 78] (by decide +kernel) (by decide +kernel)
set_option maxRecDepth 20000 in
theorem gX7_all_X7_charge : GoodIn wsX7_all (wsV RX7 123 RX7 yX7_charge wsX7_charge) := goodIn_app (goodIn_of _ (by decide +kernel)) ggX7_all_X7_charge
theorem dX7_all_0 : decode cX7_all 0 = .ok (.aload_n 0, 1) := by decide +kernel
theorem dX7_all_1 : decode cX7_all 1 = .ok (.iload_n 1, 1) := by decide +kernel
theorem dX7_all_2 : decode cX7_all 2 = .ok (.iconst 0, 1) := by decide +kernel
theorem dX7_all_3 : decode cX7_all 3 = .ok (.iconst 0, 1) := by decide +kernel
theorem dX7_all_4 : decode cX7_all 4 = .ok (.iload_n 2, 1) := by decide +kernel
theorem dX7_all_5 : decode cX7_all 5 = .ok (.invokevirtual 112, 3) := by decide +kernel
theorem dX7_all_8 : decode cX7_all 8 = .ok (.ifCond .eq 13, 3) := by decide +kernel
theorem dX7_all_11 : decode cX7_all 11 = .ok (.aload_n 0, 1) := by decide +kernel
theorem dX7_all_12 : decode cX7_all 12 = .ok (.sipush 365, 3) := by decide +kernel
theorem dX7_all_15 : decode cX7_all 15 = .ok (.invokevirtual 123, 3) := by decide +kernel
theorem dX7_all_18 : decode cX7_all 18 = .ok (.goto 4, 3) := by decide +kernel
theorem dX7_all_21 : decode cX7_all 21 = .ok (.iconst 0, 1) := by decide +kernel
theorem dX7_all_22 : decode cX7_all 22 = .ok (.ireturn, 1) := by decide +kernel
set_option maxRecDepth 20000 in
theorem ggX7_premium_X7_all : GoodIn wsX7_premium wsX7_all := goodIn_r _ [5, 6, 7, 8, 4, 9, 10, 11, 12, 13, 14, 15, 16, 17, 18, 19, 20, 21, 22, 23, 24, 25, 26, 27, 28, 29, 30, 31, 32, 33, 34, 35, 36, 37, 38, 39, 40, 41, 42, 43, 44, 45, 46, 47, 48, 49, 50, 51, 52, 53, 54, 55, 56, 57, 58, 59, 60, 61, 62, 63, 64, 65, 66, 67, 68, 69, 70, 71, 72, 73, 74, 75, 76, 77, 78, 79, 80, 81, 82] (by decide +kernel) (by decide +kernel)
set_option maxRecDepth 20000 in
theorem gX7_premium_X7_all : GoodIn wsX7_premium (wsV RX7 126 RX7 yX7_all wsX7_all) := goodIn_app (goodIn_of _ (by decide +kernel)) ggX7_premium_X7_all
theorem dX7_premium_0 : decode cX7_premium 0 = .ok (.aload_n 0, 1) := by decide +kernel
theorem dX7_premium_1 : decode cX7_premium 1 = .ok (.iload_n 1, 1) := by decide +kernel
theorem dX7_premium_2 : decode cX7_premium 2 = .ok (.iload_n 2, 1) := by decide +kernel
theorem dX7_premium_3 : decode cX7_premium 3 = .ok (.invokevirtual 126, 3) := by decide +kernel
theorem dX7_premium_6 : decode cX7_premium 6 = .ok (.ireturn, 1) := by decide +kernel
set_option maxRecDepth 20000 in
theorem ggX7_premiumByDays_X7_all : GoodIn wsX7_premiumByDays wsX7_all := goodIn_r _ [5, 6, 7, 8, 4, 9, 10, 11, 12, 13, 14, 15, 16, 17, 18, 19, 20, 21, 22, 23, 24, 25, 26, 27, 28, 29, 30, 31, 32, 33, 34, 35, 36, 37, 38, 39, 40, 41, 42, 43, 44, 45, 46, 47, 48, 49, 50, 51, 52, 53, 54, 55, 56, 57, 58, 59, 60, 61, 62, 63, 64, 65, 66, 67, 68, 69, 70, 71, 72, 73, 74, 75, 76, 77, 78, 79, 80, 81, 82] (by decide +kernel) (by decide +kernel)
set_option maxRecDepth 20000 in
theorem gX7_premiumByDays_X7_all : GoodIn wsX7_premiumByDays (wsV RX7 126 RX7 yX7_all wsX7_all) := goodIn_app (goodIn_of _ (by decide +kernel)) ggX7_premiumByDays_X7_all
theorem dX7_premiumByDays_0 : decode cX7_premiumByDays 0 = .ok (.aload_n 0, 1) := by decide +kernel
theorem dX7_premiumByDays_1 : decode cX7_premiumByDays 1 = .ok (.iload_n 1, 1) := by decide +kernel
theorem dX7_premiumByDays_2 : decode cX7_premiumByDays 2 = .ok (.iload_n 2, 1) := by decide +kernel
theorem dX7_premiumByDays_3 : decode cX7_premiumByDays 3 = .ok (.invokevirtual 126, 3) := by decide +kernel
theorem dX7_premiumByDays_6 : decode cX7_premiumByDays 6 = .ok (.ireturn, 1) := by decide +kernel
set_option maxRecDepth 20000 in
theorem ggX7_bill_X7_all : GoodIn wsX7_bill wsX7_all := goodIn_r _ [8, 9, 10, 11, 7, 12, 1, 2, 13, 14, 15, 16, 17, 18, 19, 20, 21, 22, 23, 24, 25, 26, 27, 28, 29, 30, 31, 32, 33, 34, 35, 36, 37, 38, 39, 40, 41, 42, 43, 44, 45, 46, 47, 48, 49, 50, 51, 52, 53, 54, 55, 56, 57, 58, 59, 60, 61, 62, 63, 64, 65, 66, 67, 68, 69, 70, 71, 72, 73, 74, 75, 76, 77, 78, 79, 80, 81, 82, 83] (by decide +kernel) (by decide +kernel)
set_option maxRecDepth 20000 in
theorem gX7_bill_X7_all : GoodIn wsX7_bill (wsV RX7 126 RX7 yX7_all wsX7_all) := goodIn_app (goodIn_of _ (by decide +kernel)) ggX7_bill_X7_all
theorem dX7_bill_0 : decode cX7_bill 0 = .ok (.aload_n 0, 1) := by decide +kernel
theorem dX7_bill_1 : decode cX7_bill 1 = .ok (.iload_n 1, 1) := by decide +kernel
theorem dX7_bill_2 : decode cX7_bill 2 = .ok (.aload_n 0, 1) := by decide +kernel
theorem dX7_bill_3 : decode cX7_bill 3 = .ok (.getfield 80, 3) := by decide +kernel
theorem dX7_bill_6 : decode cX7_bill 6 = .ok (.invokevirtual 126, 3) := by decide +kernel
theorem dX7_bill_9 : decode cX7_bill 9 = .ok (.istore_n 2, 1) := by decide +kernel
theorem dX7_bill_10 : decode cX7_bill 10 = .ok (.aload_n 0, 1) := by decide +kernel
theorem dX7_bill_11 : decode cX7_bill 11 = .ok (.getfield 59, 3) := by decide +kernel
theorem dX7_bill_14 : decode cX7_bill 14 = .ok (.ifCond .le 5, 3) := by decide +kernel
theorem dX7_bill_17 : decode cX7_bill 17 = .ok (.iconst 0, 1) := by decide +kernel
theorem dX7_bill_18 : decode cX7_bill 18 = .ok (.ireturn, 1) := by decide +kernel
theorem dX7_bill_19 : decode cX7_bill 19 = .ok (.iload_n 2, 1) := by decide +kernel
theorem dX7_bill_20 : decode cX7_bill 20 = .ok (.aload_n 0, 1) := by decide +kernel
theorem dX7_bill_21 : decode cX7_bill 21 = .ok (.getfield 13, 3) := by decide +kernel
theorem dX7_bill_24 : decode cX7_bill 24 = .ok (.iload_n 1, 1) := by decide +kernel
theorem dX7_bill_25 : decode cX7_bill 25 = .ok (.iaload, 1) := by decide +kernel
theorem dX7_bill_26 : decode cX7_bill 26 = .ok (.isub, 1) := by decide +kernel
theorem dX7_bill_27 : decode cX7_bill 27 = .ok (.istore_n 3, 1) := by decide +kernel
theorem dX7_bill_28 : decode cX7_bill 28 = .ok (.aload_n 0, 1) := by decide +kernel
theorem dX7_bill_29 : decode cX7_bill 29 = .ok (.getfield 13, 3) := by decide +kernel
theorem dX7_bill_32 : decode cX7_bill 32 = .ok (.iload_n 1, 1) := by decide +kernel
theorem dX7_bill_33 : decode cX7_bill 33 = .ok (.iload_n 2, 1) := by decide +kernel
theorem dX7_bill_34 : decode cX7_bill 34 = .ok (.iastore, 1) := by decide +kernel
theorem dX7_bill_35 : decode cX7_bill 35 = .ok (.iload_n 3, 1) := by decide +kernel
theorem dX7_bill_36 : decode cX7_bill 36 = .ok (.ireturn, 1) := by decide +kernel
set_option maxRecDepth 20000 in
theorem ggX7_billed_X7_isPolicy : GoodIn wsX7_billed wsX7_isPolicy := goodIn_r _ [7, 8, 9, 10, 6, 11, 12, 13, 14, 15, 16, 17, 18, 19, 20, 21, 22, 23, 24, 25, 26, 27, 28, 29, 30, 31, 32] (by decide +kernel) (by decide +kernel)
set_option maxRecDepth 20000 in
theorem gX7_billed_X7_isPolicy : GoodIn wsX7_billed (wsV RX7 83 RX7 yX7_isPolicy wsX7_isPolicy) := goodIn_app (goodIn_of _ (by decide +kernel)) ggX7_billed_X7_isPolicy
theorem dX7_billed_0 : decode cX7_billed 0 = .ok (.aload_n 0, 1) := by decide +kernel
theorem dX7_billed_1 : decode cX7_billed 1 = .ok (.aload_n 0, 1) := by decide +kernel
theorem dX7_billed_2 : decode cX7_billed 2 = .ok (.iload_n 1, 1) := by decide +kernel
theorem dX7_billed_3 : decode cX7_billed 3 = .ok (.invokevirtual 83, 3) := by decide +kernel
theorem dX7_billed_6 : decode cX7_billed 6 = .ok (.ifCond .eq 7, 3) := by decide +kernel
theorem dX7_billed_9 : decode cX7_billed 9 = .ok (.iconst 0, 1) := by decide +kernel
theorem dX7_billed_10 : decode cX7_billed 10 = .ok (.goto 4, 3) := by decide +kernel
theorem dX7_billed_13 : decode cX7_billed 13 = .ok (.iconst 1, 1) := by decide +kernel
theorem dX7_billed_14 : decode cX7_billed 14 = .ok (.putfield 59, 3) := by decide +kernel
theorem dX7_billed_17 : decode cX7_billed 17 = .ok (.aload_n 0, 1) := by decide +kernel
theorem dX7_billed_18 : decode cX7_billed 18 = .ok (.getfield 59, 3) := by decide +kernel
theorem dX7_billed_21 : decode cX7_billed 21 = .ok (.ifCond .le 7, 3) := by decide +kernel
theorem dX7_billed_24 : decode cX7_billed 24 = .ok (.iconst 0, 1) := by decide +kernel
theorem dX7_billed_25 : decode cX7_billed 25 = .ok (.goto 9, 3) := by decide +kernel
theorem dX7_billed_28 : decode cX7_billed 28 = .ok (.aload_n 0, 1) := by decide +kernel
theorem dX7_billed_29 : decode cX7_billed 29 = .ok (.getfield 13, 3) := by decide +kernel
theorem dX7_billed_32 : decode cX7_billed 32 = .ok (.iload_n 1, 1) := by decide +kernel
theorem dX7_billed_33 : decode cX7_billed 33 = .ok (.iaload, 1) := by decide +kernel
theorem dX7_billed_34 : decode cX7_billed 34 = .ok (.ireturn, 1) := by decide +kernel
