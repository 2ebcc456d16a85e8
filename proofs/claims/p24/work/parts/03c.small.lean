theorem dX0_init_0 : decode cX0_init 0 = .ok (.aload_n 0, 1) := by decide +kernel
theorem dX0_init_1 : decode cX0_init 1 = .ok (.invokespecial 3, 3) := by decide +kernel
theorem dX0_init_4 : decode cX0_init 4 = .ok (.aload_n 0, 1) := by decide +kernel
theorem dX0_init_5 : decode cX0_init 5 = .ok (.iconst (-1), 1) := by decide +kernel
theorem dX0_init_6 : decode cX0_init 6 = .ok (.putfield 9, 3) := by decide +kernel
theorem dX0_init_9 : decode cX0_init 9 = .ok (.aload_n 0, 1) := by decide +kernel
theorem dX0_init_10 : decode cX0_init 10 = .ok (.iload_n 1, 1) := by decide +kernel
theorem dX0_init_11 : decode cX0_init 11 = .ok (.putfield 15, 3) := by decide +kernel
theorem dX0_init_14 : decode cX0_init 14 = .ok (.aload_n 0, 1) := by decide +kernel
theorem dX0_init_15 : decode cX0_init 15 = .ok (.aload_n 2, 1) := by decide +kernel
theorem dX0_init_16 : decode cX0_init 16 = .ok (.putfield 18, 3) := by decide +kernel
theorem dX0_init_19 : decode cX0_init 19 = .ok (.aload_n 0, 1) := by decide +kernel
theorem dX0_init_20 : decode cX0_init 20 = .ok (.aload_n 3, 1) := by decide +kernel
theorem dX0_init_21 : decode cX0_init 21 = .ok (.putfield 22, 3) := by decide +kernel
theorem dX0_init_24 : decode cX0_init 24 = .ok (.aload_n 0, 1) := by decide +kernel
theorem dX0_init_25 : decode cX0_init 25 = .ok (.iload 4, 2) := by decide +kernel
theorem dX0_init_27 : decode cX0_init 27 = .ok (.putfield 26, 3) := by decide +kernel
theorem dX0_init_30 : decode cX0_init 30 = .ok (.aload_n 0, 1) := by decide +kernel
theorem dX0_init_31 : decode cX0_init 31 = .ok (.iload 5, 2) := by decide +kernel
theorem dX0_init_33 : decode cX0_init 33 = .ok (.putfield 29, 3) := by decide +kernel
theorem dX0_init_36 : decode cX0_init 36 = .ok (.aload_n 0, 1) := by decide +kernel
theorem dX0_init_37 : decode cX0_init 37 = .ok (.iload 6, 2) := by decide +kernel
theorem dX0_init_39 : decode cX0_init 39 = .ok (.putfield 32, 3) := by decide +kernel
theorem dX0_init_42 : decode cX0_init 42 = .ok (.aload_n 0, 1) := by decide +kernel
theorem dX0_init_43 : decode cX0_init 43 = .ok (.iload 7, 2) := by decide +kernel
theorem dX0_init_45 : decode cX0_init 45 = .ok (.putfield 35, 3) := by decide +kernel
theorem dX0_init_48 : decode cX0_init 48 = .ok (.return_, 1) := by decide +kernel
theorem dX0_isKnownOn_0 : decode cX0_isKnownOn 0 = .ok (.aload_n 0, 1) := by decide +kernel
theorem dX0_isKnownOn_1 : decode cX0_isKnownOn 1 = .ok (.getfield 35, 3) := by decide +kernel
theorem dX0_isKnownOn_4 : decode cX0_isKnownOn 4 = .ok (.iload_n 1, 1) := by decide +kernel
theorem dX0_isKnownOn_5 : decode cX0_isKnownOn 5 = .ok (.if_icmp .gt 23, 3) := by decide +kernel
theorem dX0_isKnownOn_8 : decode cX0_isKnownOn 8 = .ok (.aload_n 0, 1) := by decide +kernel
theorem dX0_isKnownOn_9 : decode cX0_isKnownOn 9 = .ok (.getfield 9, 3) := by decide +kernel
theorem dX0_isKnownOn_12 : decode cX0_isKnownOn 12 = .ok (.iconst (-1), 1) := by decide +kernel
theorem dX0_isKnownOn_13 : decode cX0_isKnownOn 13 = .ok (.if_icmp .eq 11, 3) := by decide +kernel
theorem dX0_isKnownOn_16 : decode cX0_isKnownOn 16 = .ok (.aload_n 0, 1) := by decide +kernel
theorem dX0_isKnownOn_17 : decode cX0_isKnownOn 17 = .ok (.getfield 9, 3) := by decide +kernel
theorem dX0_isKnownOn_20 : decode cX0_isKnownOn 20 = .ok (.iload_n 1, 1) := by decide +kernel
theorem dX0_isKnownOn_21 : decode cX0_isKnownOn 21 = .ok (.if_icmp .le 7, 3) := by decide +kernel
theorem dX0_isKnownOn_24 : decode cX0_isKnownOn 24 = .ok (.iconst 1, 1) := by decide +kernel
theorem dX0_isKnownOn_25 : decode cX0_isKnownOn 25 = .ok (.goto 4, 3) := by decide +kernel
theorem dX0_isKnownOn_28 : decode cX0_isKnownOn 28 = .ok (.iconst 0, 1) := by decide +kernel
theorem dX0_isKnownOn_29 : decode cX0_isKnownOn 29 = .ok (.ireturn, 1) := by decide +kernel
set_option maxRecDepth 20000 in
theorem ggX2_init_Jx4a65c_init_da8c8 : GoodIn wsX2_init wsJx4a65c_init_da8c8 := goodIn_r _ [12, 13, 14, 15, 16, 17, 18, 19, 20, 21, 22, 23, 24, 2, 3, 25, 26, 27] (by decide +kernel) (by decide +kernel)
set_option maxRecDepth 20000 in
theorem gX2_init_Jx4a65c_init_da8c8 : GoodIn wsX2_init (wsJx4a65c_init_da8c8) := ggX2_init_Jx4a65c_init_da8c8
theorem dX2_init_0 : decode cX2_init 0 = .ok (.aload_n 0, 1) := by decide +kernel
theorem dX2_init_1 : decode cX2_init 1 = .ok (.invokespecial 1, 3) := by decide +kernel
theorem dX2_init_4 : decode cX2_init 4 = .ok (.aload_n 0, 1) := by decide +kernel
theorem dX2_init_5 : decode cX2_init 5 = .ok (.new 7, 3) := by decide +kernel
theorem dX2_init_8 : decode cX2_init 8 = .ok (.dup, 1) := by decide +kernel
theorem dX2_init_9 : decode cX2_init 9 = .ok (.invokespecial 9, 3) := by decide +kernel
theorem dX2_init_12 : decode cX2_init 12 = .ok (.putfield 10, 3) := by decide +kernel
theorem dX2_init_15 : decode cX2_init 15 = .ok (.aload_n 0, 1) := by decide +kernel
theorem dX2_init_16 : decode cX2_init 16 = .ok (.iconst 0, 1) := by decide +kernel
theorem dX2_init_17 : decode cX2_init 17 = .ok (.putfield 16, 3) := by decide +kernel
theorem dX2_init_20 : decode cX2_init 20 = .ok (.aload_n 0, 1) := by decide +kernel
theorem dX2_init_21 : decode cX2_init 21 = .ok (.iload_n 1, 1) := by decide +kernel
theorem dX2_init_22 : decode cX2_init 22 = .ok (.putfield 20, 3) := by decide +kernel
theorem dX2_init_25 : decode cX2_init 25 = .ok (.return_, 1) := by decide +kernel
set_option maxRecDepth 20000 in
theorem ggX2_putInOrder_Jx4a65c_size_8abf5 : GoodIn wsX2_putInOrder wsJx4a65c_size_8abf5 := goodIn_r _ [8, 9, 92, 93, 94] (by decide +kernel) (by decide +kernel)
set_option maxRecDepth 20000 in
theorem gX2_putInOrder_Jx4a65c_size_8abf5_f23Jx4a65c : GoodIn wsX2_putInOrder (va_wsF RX2 23 RJx4a65c ⟨"java/util/List", "size", "()I"⟩ yJx4a65c_size_8abf5 wsJx4a65c_size_8abf5) := goodIn_app (goodIn_of _ (by decide +kernel)) ggX2_putInOrder_Jx4a65c_size_8abf5
set_option maxRecDepth 20000 in
theorem ggX2_putInOrder_Jx4a65c_get_915e3 : GoodIn wsX2_putInOrder wsJx4a65c_get_915e3 := goodIn_r _ [13, 9, 14, 15, 16, 17, 18, 19, 20, 21, 22, 23, 24, 7, 25, 26, 92, 93, 94] (by decide +kernel) (by decide +kernel)
set_option maxRecDepth 20000 in
theorem gX2_putInOrder_Jx4a65c_get_915e3_f29Jx4a65c : GoodIn wsX2_putInOrder (va_wsF RX2 29 RJx4a65c ⟨"java/util/List", "get", "(I)Ljava/lang/Object;"⟩ yJx4a65c_get_915e3 wsJx4a65c_get_915e3) := goodIn_app (goodIn_of _ (by decide +kernel)) ggX2_putInOrder_Jx4a65c_get_915e3
set_option maxRecDepth 20000 in
theorem ggX2_putInOrder_Jx4a65c_add_7a177 : GoodIn wsX2_putInOrder wsJx4a65c_add_7a177 := goodIn_r _ [30, 31, 32, 9, 26, 33, 34, 35, 36, 37, 38, 39, 7, 40, 41, 42, 43, 44, 45, 46, 47, 48, 49, 50, 51, 52, 53, 54, 55, 56, 57, 58, 59, 60, 61, 62, 63, 64, 65, 66, 67, 68, 69, 70, 71, 72, 73, 74, 75, 76, 77, 78, 79, 80, 92, 93, 94] (by decide +kernel) (by decide +kernel)
set_option maxRecDepth 20000 in
theorem gX2_putInOrder_Jx4a65c_add_7a177_f38Jx4a65c : GoodIn wsX2_putInOrder (va_wsF RX2 38 RJx4a65c ⟨"java/util/List", "add", "(ILjava/lang/Object;)V"⟩ yJx4a65c_add_7a177 wsJx4a65c_add_7a177) := goodIn_app (goodIn_of _ (by decide +kernel)) ggX2_putInOrder_Jx4a65c_add_7a177
theorem dX2_putInOrder_0 : decode cX2_putInOrder 0 = .ok (.aload_n 0, 1) := by decide +kernel
theorem dX2_putInOrder_1 : decode cX2_putInOrder 1 = .ok (.getfield 10, 3) := by decide +kernel
theorem dX2_putInOrder_4 : decode cX2_putInOrder 4 = .ok (.invokeinterface 23 1, 5) := by decide +kernel
theorem dX2_putInOrder_9 : decode cX2_putInOrder 9 = .ok (.istore_n 2, 1) := by decide +kernel
theorem dX2_putInOrder_10 : decode cX2_putInOrder 10 = .ok (.iload_n 2, 1) := by decide +kernel
theorem dX2_putInOrder_11 : decode cX2_putInOrder 11 = .ok (.ifCond .le 34, 3) := by decide +kernel
theorem dX2_putInOrder_14 : decode cX2_putInOrder 14 = .ok (.aload_n 0, 1) := by decide +kernel
theorem dX2_putInOrder_15 : decode cX2_putInOrder 15 = .ok (.getfield 10, 3) := by decide +kernel
theorem dX2_putInOrder_18 : decode cX2_putInOrder 18 = .ok (.iload_n 2, 1) := by decide +kernel
theorem dX2_putInOrder_19 : decode cX2_putInOrder 19 = .ok (.iconst 1, 1) := by decide +kernel
theorem dX2_putInOrder_20 : decode cX2_putInOrder 20 = .ok (.isub, 1) := by decide +kernel
theorem dX2_putInOrder_21 : decode cX2_putInOrder 21 = .ok (.invokeinterface 29 2, 5) := by decide +kernel
theorem dX2_putInOrder_26 : decode cX2_putInOrder 26 = .ok (.checkcast 33, 3) := by decide +kernel
theorem dX2_putInOrder_29 : decode cX2_putInOrder 29 = .ok (.getfield 35, 3) := by decide +kernel
theorem dX2_putInOrder_32 : decode cX2_putInOrder 32 = .ok (.aload_n 1, 1) := by decide +kernel
theorem dX2_putInOrder_33 : decode cX2_putInOrder 33 = .ok (.getfield 35, 3) := by decide +kernel
theorem dX2_putInOrder_36 : decode cX2_putInOrder 36 = .ok (.if_icmp .le 9, 3) := by decide +kernel
theorem dX2_putInOrder_39 : decode cX2_putInOrder 39 = .ok (.iinc 2 (-1), 3) := by decide +kernel
theorem dX2_putInOrder_42 : decode cX2_putInOrder 42 = .ok (.goto (-32), 3) := by decide +kernel
theorem dX2_putInOrder_45 : decode cX2_putInOrder 45 = .ok (.aload_n 0, 1) := by decide +kernel
theorem dX2_putInOrder_46 : decode cX2_putInOrder 46 = .ok (.getfield 10, 3) := by decide +kernel
theorem dX2_putInOrder_49 : decode cX2_putInOrder 49 = .ok (.iload_n 2, 1) := by decide +kernel
theorem dX2_putInOrder_50 : decode cX2_putInOrder 50 = .ok (.aload_n 1, 1) := by decide +kernel
theorem dX2_putInOrder_51 : decode cX2_putInOrder 51 = .ok (.invokeinterface 38 3, 5) := by decide +kernel
theorem dX2_putInOrder_56 : decode cX2_putInOrder 56 = .ok (.return_, 1) := by decide +kernel
set_option maxRecDepth 20000 in
theorem ggX3_init_J7_fill_53178 : GoodIn wsX3_init wsJ7_fill_53178 := goodIn_r _ [12] (by decide +kernel) (by decide +kernel)
set_option maxRecDepth 20000 in
theorem gX3_init_J7_fill_53178 : GoodIn wsX3_init (va_wsS RX3 23 yJ7_fill_53178 wsJ7_fill_53178) := goodIn_app (goodIn_of _ (by decide +kernel)) ggX3_init_J7_fill_53178
theorem dX3_init_0 : decode cX3_init 0 = .ok (.aload_n 0, 1) := by decide +kernel
theorem dX3_init_1 : decode cX3_init 1 = .ok (.invokespecial 3, 3) := by decide +kernel
theorem dX3_init_4 : decode cX3_init 4 = .ok (.aload_n 0, 1) := by decide +kernel
theorem dX3_init_5 : decode cX3_init 5 = .ok (.iconst 3, 1) := by decide +kernel
theorem dX3_init_6 : decode cX3_init 6 = .ok (.sipush 365, 3) := by decide +kernel
theorem dX3_init_9 : decode cX3_init 9 = .ok (.multianewarray 9 2, 4) := by decide +kernel
theorem dX3_init_13 : decode cX3_init 13 = .ok (.putfield 11, 3) := by decide +kernel
theorem dX3_init_16 : decode cX3_init 16 = .ok (.aload_n 0, 1) := by decide +kernel
theorem dX3_init_17 : decode cX3_init 17 = .ok (.iconst 3, 1) := by decide +kernel
theorem dX3_init_18 : decode cX3_init 18 = .ok (.sipush 365, 3) := by decide +kernel
theorem dX3_init_21 : decode cX3_init 21 = .ok (.multianewarray 9 2, 4) := by decide +kernel
theorem dX3_init_25 : decode cX3_init 25 = .ok (.putfield 16, 3) := by decide +kernel
theorem dX3_init_28 : decode cX3_init 28 = .ok (.aload_n 0, 1) := by decide +kernel
theorem dX3_init_29 : decode cX3_init 29 = .ok (.iconst 0, 1) := by decide +kernel
theorem dX3_init_30 : decode cX3_init 30 = .ok (.putfield 19, 3) := by decide +kernel
theorem dX3_init_33 : decode cX3_init 33 = .ok (.iconst 0, 1) := by decide +kernel
theorem dX3_init_34 : decode cX3_init 34 = .ok (.istore_n 1, 1) := by decide +kernel
theorem dX3_init_35 : decode cX3_init 35 = .ok (.iload_n 1, 1) := by decide +kernel
theorem dX3_init_36 : decode cX3_init 36 = .ok (.iconst 3, 1) := by decide +kernel
theorem dX3_init_37 : decode cX3_init 37 = .ok (.if_icmp .ge 19, 3) := by decide +kernel
theorem dX3_init_40 : decode cX3_init 40 = .ok (.aload_n 0, 1) := by decide +kernel
theorem dX3_init_41 : decode cX3_init 41 = .ok (.getfield 11, 3) := by decide +kernel
theorem dX3_init_44 : decode cX3_init 44 = .ok (.iload_n 1, 1) := by decide +kernel
theorem dX3_init_45 : decode cX3_init 45 = .ok (.aaload, 1) := by decide +kernel
theorem dX3_init_46 : decode cX3_init 46 = .ok (.iconst 1, 1) := by decide +kernel
theorem dX3_init_47 : decode cX3_init 47 = .ok (.invokestatic 23, 3) := by decide +kernel
theorem dX3_init_50 : decode cX3_init 50 = .ok (.iinc 1 1, 3) := by decide +kernel
theorem dX3_init_53 : decode cX3_init 53 = .ok (.goto (-18), 3) := by decide +kernel
theorem dX3_init_56 : decode cX3_init 56 = .ok (.return_, 1) := by decide +kernel
set_option maxRecDepth 20000 in
theorem ggX3_tell_X6_isField : GoodIn wsX3_tell wsX6_isField := goodIn_r _ [6] (by decide +kernel) (by decide +kernel)
set_option maxRecDepth 20000 in
theorem gX3_tell_X6_isField_n29 : GoodIn wsX3_tell (wsX6_isField) := ggX3_tell_X6_isField
theorem dX3_tell_0 : decode cX3_tell 0 = .ok (.iload_n 1, 1) := by decide +kernel
theorem dX3_tell_1 : decode cX3_tell 1 = .ok (.invokestatic 29, 3) := by decide +kernel
theorem dX3_tell_4 : decode cX3_tell 4 = .ok (.ifCond .ne 4, 3) := by decide +kernel
theorem dX3_tell_7 : decode cX3_tell 7 = .ok (.return_, 1) := by decide +kernel
theorem dX3_tell_8 : decode cX3_tell 8 = .ok (.iconst 0, 1) := by decide +kernel
theorem dX3_tell_9 : decode cX3_tell 9 = .ok (.istore 4, 2) := by decide +kernel
theorem dX3_tell_11 : decode cX3_tell 11 = .ok (.iload 4, 2) := by decide +kernel
theorem dX3_tell_13 : decode cX3_tell 13 = .ok (.sipush 365, 3) := by decide +kernel
theorem dX3_tell_16 : decode cX3_tell 16 = .ok (.if_icmp .ge 48, 3) := by decide +kernel
theorem dX3_tell_19 : decode cX3_tell 19 = .ok (.iload_n 3, 1) := by decide +kernel
theorem dX3_tell_20 : decode cX3_tell 20 = .ok (.iload 4, 2) := by decide +kernel
theorem dX3_tell_22 : decode cX3_tell 22 = .ok (.if_icmp .gt 36, 3) := by decide +kernel
theorem dX3_tell_25 : decode cX3_tell 25 = .ok (.iload_n 3, 1) := by decide +kernel
theorem dX3_tell_26 : decode cX3_tell 26 = .ok (.aload_n 0, 1) := by decide +kernel
theorem dX3_tell_27 : decode cX3_tell 27 = .ok (.getfield 16, 3) := by decide +kernel
theorem dX3_tell_30 : decode cX3_tell 30 = .ok (.iload_n 1, 1) := by decide +kernel
theorem dX3_tell_31 : decode cX3_tell 31 = .ok (.aaload, 1) := by decide +kernel
theorem dX3_tell_32 : decode cX3_tell 32 = .ok (.iload 4, 2) := by decide +kernel
theorem dX3_tell_34 : decode cX3_tell 34 = .ok (.iaload, 1) := by decide +kernel
theorem dX3_tell_35 : decode cX3_tell 35 = .ok (.if_icmp .lt 23, 3) := by decide +kernel
theorem dX3_tell_38 : decode cX3_tell 38 = .ok (.aload_n 0, 1) := by decide +kernel
theorem dX3_tell_39 : decode cX3_tell 39 = .ok (.getfield 11, 3) := by decide +kernel
theorem dX3_tell_42 : decode cX3_tell 42 = .ok (.iload_n 1, 1) := by decide +kernel
theorem dX3_tell_43 : decode cX3_tell 43 = .ok (.aaload, 1) := by decide +kernel
theorem dX3_tell_44 : decode cX3_tell 44 = .ok (.iload 4, 2) := by decide +kernel
theorem dX3_tell_46 : decode cX3_tell 46 = .ok (.iload_n 2, 1) := by decide +kernel
theorem dX3_tell_47 : decode cX3_tell 47 = .ok (.iastore, 1) := by decide +kernel
theorem dX3_tell_48 : decode cX3_tell 48 = .ok (.aload_n 0, 1) := by decide +kernel
theorem dX3_tell_49 : decode cX3_tell 49 = .ok (.getfield 16, 3) := by decide +kernel
theorem dX3_tell_52 : decode cX3_tell 52 = .ok (.iload_n 1, 1) := by decide +kernel
theorem dX3_tell_53 : decode cX3_tell 53 = .ok (.aaload, 1) := by decide +kernel
theorem dX3_tell_54 : decode cX3_tell 54 = .ok (.iload 4, 2) := by decide +kernel
theorem dX3_tell_56 : decode cX3_tell 56 = .ok (.iload_n 3, 1) := by decide +kernel
theorem dX3_tell_57 : decode cX3_tell 57 = .ok (.iastore, 1) := by decide +kernel
theorem dX3_tell_58 : decode cX3_tell 58 = .ok (.iinc 4 1, 3) := by decide +kernel
theorem dX3_tell_61 : decode cX3_tell 61 = .ok (.goto (-50), 3) := by decide +kernel
theorem dX3_tell_64 : decode cX3_tell 64 = .ok (.aload_n 0, 1) := by decide +kernel
theorem dX3_tell_65 : decode cX3_tell 65 = .ok (.dup, 1) := by decide +kernel
theorem dX3_tell_66 : decode cX3_tell 66 = .ok (.getfield 19, 3) := by decide +kernel
theorem dX3_tell_69 : decode cX3_tell 69 = .ok (.iconst 1, 1) := by decide +kernel
theorem dX3_tell_70 : decode cX3_tell 70 = .ok (.iadd, 1) := by decide +kernel
theorem dX3_tell_71 : decode cX3_tell 71 = .ok (.putfield 19, 3) := by decide +kernel
theorem dX3_tell_74 : decode cX3_tell 74 = .ok (.return_, 1) := by decide +kernel
set_option maxRecDepth 20000 in
theorem ggX3_weightOn_X6_isField : GoodIn wsX3_weightOn wsX6_isField := goodIn_r _ [4] (by decide +kernel) (by decide +kernel)
set_option maxRecDepth 20000 in
theorem gX3_weightOn_X6_isField_n29 : GoodIn wsX3_weightOn (wsX6_isField) := ggX3_weightOn_X6_isField
set_option maxRecDepth 20000 in
theorem ggX3_weightOn_X6_isDay : GoodIn wsX3_weightOn wsX6_isDay := goodIn_r _ [6] (by decide +kernel) (by decide +kernel)
set_option maxRecDepth 20000 in
theorem gX3_weightOn_X6_isDay_n33 : GoodIn wsX3_weightOn (wsX6_isDay) := ggX3_weightOn_X6_isDay
theorem dX3_weightOn_0 : decode cX3_weightOn 0 = .ok (.iload_n 1, 1) := by decide +kernel
theorem dX3_weightOn_1 : decode cX3_weightOn 1 = .ok (.invokestatic 29, 3) := by decide +kernel
theorem dX3_weightOn_4 : decode cX3_weightOn 4 = .ok (.ifCond .eq 21, 3) := by decide +kernel
theorem dX3_weightOn_7 : decode cX3_weightOn 7 = .ok (.iload_n 2, 1) := by decide +kernel
theorem dX3_weightOn_8 : decode cX3_weightOn 8 = .ok (.invokestatic 33, 3) := by decide +kernel
theorem dX3_weightOn_11 : decode cX3_weightOn 11 = .ok (.ifCond .eq 14, 3) := by decide +kernel
theorem dX3_weightOn_14 : decode cX3_weightOn 14 = .ok (.aload_n 0, 1) := by decide +kernel
theorem dX3_weightOn_15 : decode cX3_weightOn 15 = .ok (.getfield 11, 3) := by decide +kernel
theorem dX3_weightOn_18 : decode cX3_weightOn 18 = .ok (.iload_n 1, 1) := by decide +kernel
theorem dX3_weightOn_19 : decode cX3_weightOn 19 = .ok (.aaload, 1) := by decide +kernel
theorem dX3_weightOn_20 : decode cX3_weightOn 20 = .ok (.iload_n 2, 1) := by decide +kernel
theorem dX3_weightOn_21 : decode cX3_weightOn 21 = .ok (.iaload, 1) := by decide +kernel
theorem dX3_weightOn_22 : decode cX3_weightOn 22 = .ok (.goto 4, 3) := by decide +kernel
theorem dX3_weightOn_25 : decode cX3_weightOn 25 = .ok (.iconst 1, 1) := by decide +kernel
theorem dX3_weightOn_26 : decode cX3_weightOn 26 = .ok (.ireturn, 1) := by decide +kernel
theorem dX4_init_0 : decode cX4_init 0 = .ok (.aload_n 0, 1) := by decide +kernel
theorem dX4_init_1 : decode cX4_init 1 = .ok (.invokespecial 3, 3) := by decide +kernel
theorem dX4_init_4 : decode cX4_init 4 = .ok (.aload_n 0, 1) := by decide +kernel
theorem dX4_init_5 : decode cX4_init 5 = .ok (.iconst 3, 1) := by decide +kernel
theorem dX4_init_6 : decode cX4_init 6 = .ok (.newarray .int, 2) := by decide +kernel
theorem dX4_init_8 : decode cX4_init 8 = .ok (.putfield 9, 3) := by decide +kernel
theorem dX4_init_11 : decode cX4_init 11 = .ok (.aload_n 0, 1) := by decide +kernel
theorem dX4_init_12 : decode cX4_init 12 = .ok (.iconst 1, 1) := by decide +kernel
theorem dX4_init_13 : decode cX4_init 13 = .ok (.putfield 15, 3) := by decide +kernel
theorem dX4_init_16 : decode cX4_init 16 = .ok (.return_, 1) := by decide +kernel
set_option maxRecDepth 20000 in
theorem ggX4_begin_J7_fill_53178 : GoodIn wsX4_begin wsJ7_fill_53178 := goodIn_r _ [6] (by decide +kernel) (by decide +kernel)
set_option maxRecDepth 20000 in
theorem gX4_begin_J7_fill_53178 : GoodIn wsX4_begin (va_wsS RX4 19 yJ7_fill_53178 wsJ7_fill_53178) := goodIn_app (goodIn_of _ (by decide +kernel)) ggX4_begin_J7_fill_53178
theorem dX4_begin_0 : decode cX4_begin 0 = .ok (.aload_n 0, 1) := by decide +kernel
theorem dX4_begin_1 : decode cX4_begin 1 = .ok (.getfield 9, 3) := by decide +kernel
theorem dX4_begin_4 : decode cX4_begin 4 = .ok (.iconst 0, 1) := by decide +kernel
theorem dX4_begin_5 : decode cX4_begin 5 = .ok (.invokestatic 19, 3) := by decide +kernel
theorem dX4_begin_8 : decode cX4_begin 8 = .ok (.aload_n 0, 1) := by decide +kernel
theorem dX4_begin_9 : decode cX4_begin 9 = .ok (.iconst 1, 1) := by decide +kernel
theorem dX4_begin_10 : decode cX4_begin 10 = .ok (.putfield 15, 3) := by decide +kernel
theorem dX4_begin_13 : decode cX4_begin 13 = .ok (.return_, 1) := by decide +kernel
set_option maxRecDepth 20000 in
theorem ggX4_layIn_X4_putValue : GoodIn wsX4_layIn wsX4_putValue := goodIn_r _ [19, 20, 21, 22, 23, 36, 37] (by decide +kernel) (by decide +kernel)
set_option maxRecDepth 20000 in
theorem gX4_layIn_X4_putValue : GoodIn wsX4_layIn (wsV RX4 43 RX4 yX4_putValue wsX4_putValue) := goodIn_app (goodIn_of _ (by decide +kernel)) ggX4_layIn_X4_putValue
set_option maxRecDepth 20000 in
theorem ggX4_layIn_X4_valueOf : GoodIn wsX4_layIn wsX4_valueOf := goodIn_r _ [27, 20, 21, 22, 23, 36, 37] (by decide +kernel) (by decide +kernel)
set_option maxRecDepth 20000 in
theorem gX4_layIn_X4_valueOf : GoodIn wsX4_layIn (wsV RX4 50 RX4 yX4_valueOf wsX4_valueOf) := goodIn_app (goodIn_of _ (by decide +kernel)) ggX4_layIn_X4_valueOf
theorem dX4_layIn_0 : decode cX4_layIn 0 = .ok (.aload_n 1, 1) := by decide +kernel
theorem dX4_layIn_1 : decode cX4_layIn 1 = .ok (.getfield 25, 3) := by decide +kernel
theorem dX4_layIn_4 : decode cX4_layIn 4 = .ok (.getstatic 31, 3) := by decide +kernel
theorem dX4_layIn_7 : decode cX4_layIn 7 = .ok (.if_acmp .ne 18, 3) := by decide +kernel
theorem dX4_layIn_10 : decode cX4_layIn 10 = .ok (.aload_n 0, 1) := by decide +kernel
theorem dX4_layIn_11 : decode cX4_layIn 11 = .ok (.aload_n 1, 1) := by decide +kernel
theorem dX4_layIn_12 : decode cX4_layIn 12 = .ok (.getfield 36, 3) := by decide +kernel
theorem dX4_layIn_15 : decode cX4_layIn 15 = .ok (.aload_n 1, 1) := by decide +kernel
theorem dX4_layIn_16 : decode cX4_layIn 16 = .ok (.getfield 40, 3) := by decide +kernel
theorem dX4_layIn_19 : decode cX4_layIn 19 = .ok (.invokevirtual 43, 3) := by decide +kernel
theorem dX4_layIn_22 : decode cX4_layIn 22 = .ok (.goto 67, 3) := by decide +kernel
theorem dX4_layIn_25 : decode cX4_layIn 25 = .ok (.aload_n 1, 1) := by decide +kernel
theorem dX4_layIn_26 : decode cX4_layIn 26 = .ok (.getfield 25, 3) := by decide +kernel
theorem dX4_layIn_29 : decode cX4_layIn 29 = .ok (.getstatic 47, 3) := by decide +kernel
theorem dX4_layIn_32 : decode cX4_layIn 32 = .ok (.if_acmp .ne 38, 3) := by decide +kernel
theorem dX4_layIn_35 : decode cX4_layIn 35 = .ok (.aload_n 0, 1) := by decide +kernel
theorem dX4_layIn_36 : decode cX4_layIn 36 = .ok (.aload_n 1, 1) := by decide +kernel
theorem dX4_layIn_37 : decode cX4_layIn 37 = .ok (.getfield 36, 3) := by decide +kernel
theorem dX4_layIn_40 : decode cX4_layIn 40 = .ok (.invokevirtual 50, 3) := by decide +kernel
theorem dX4_layIn_43 : decode cX4_layIn 43 = .ok (.aload_n 1, 1) := by decide +kernel
theorem dX4_layIn_44 : decode cX4_layIn 44 = .ok (.getfield 40, 3) := by decide +kernel
theorem dX4_layIn_47 : decode cX4_layIn 47 = .ok (.iadd, 1) := by decide +kernel
theorem dX4_layIn_48 : decode cX4_layIn 48 = .ok (.istore_n 2, 1) := by decide +kernel
theorem dX4_layIn_49 : decode cX4_layIn 49 = .ok (.aload_n 0, 1) := by decide +kernel
theorem dX4_layIn_50 : decode cX4_layIn 50 = .ok (.aload_n 1, 1) := by decide +kernel
theorem dX4_layIn_51 : decode cX4_layIn 51 = .ok (.getfield 36, 3) := by decide +kernel
theorem dX4_layIn_54 : decode cX4_layIn 54 = .ok (.iload_n 2, 1) := by decide +kernel
theorem dX4_layIn_55 : decode cX4_layIn 55 = .ok (.iconst 0, 1) := by decide +kernel
theorem dX4_layIn_56 : decode cX4_layIn 56 = .ok (.invokestatic 54, 3) := by decide +kernel
theorem dX4_layIn_59 : decode cX4_layIn 59 = .ok (.bipush 20, 2) := by decide +kernel
theorem dX4_layIn_61 : decode cX4_layIn 61 = .ok (.invokestatic 60, 3) := by decide +kernel
theorem dX4_layIn_64 : decode cX4_layIn 64 = .ok (.invokevirtual 43, 3) := by decide +kernel
theorem dX4_layIn_67 : decode cX4_layIn 67 = .ok (.goto 22, 3) := by decide +kernel
theorem dX4_layIn_70 : decode cX4_layIn 70 = .ok (.aload_n 0, 1) := by decide +kernel
theorem dX4_layIn_71 : decode cX4_layIn 71 = .ok (.aload_n 1, 1) := by decide +kernel
theorem dX4_layIn_72 : decode cX4_layIn 72 = .ok (.getfield 25, 3) := by decide +kernel
theorem dX4_layIn_75 : decode cX4_layIn 75 = .ok (.getstatic 63, 3) := by decide +kernel
theorem dX4_layIn_78 : decode cX4_layIn 78 = .ok (.if_acmp .ne 7, 3) := by decide +kernel
theorem dX4_layIn_81 : decode cX4_layIn 81 = .ok (.iconst 1, 1) := by decide +kernel
theorem dX4_layIn_82 : decode cX4_layIn 82 = .ok (.goto 4, 3) := by decide +kernel
theorem dX4_layIn_85 : decode cX4_layIn 85 = .ok (.iconst 0, 1) := by decide +kernel
theorem dX4_layIn_86 : decode cX4_layIn 86 = .ok (.putfield 15, 3) := by decide +kernel
theorem dX4_layIn_89 : decode cX4_layIn 89 = .ok (.return_, 1) := by decide +kernel
set_option maxRecDepth 20000 in
theorem ggX4_valueOf_X6_isField : GoodIn wsX4_valueOf wsX6_isField := goodIn_r _ [4] (by decide +kernel) (by decide +kernel)
set_option maxRecDepth 20000 in
theorem gX4_valueOf_X6_isField_n66 : GoodIn wsX4_valueOf (wsX6_isField) := ggX4_valueOf_X6_isField
theorem dX4_valueOf_0 : decode cX4_valueOf 0 = .ok (.iload_n 1, 1) := by decide +kernel
theorem dX4_valueOf_1 : decode cX4_valueOf 1 = .ok (.invokestatic 66, 3) := by decide +kernel
theorem dX4_valueOf_4 : decode cX4_valueOf 4 = .ok (.ifCond .eq 12, 3) := by decide +kernel
theorem dX4_valueOf_7 : decode cX4_valueOf 7 = .ok (.aload_n 0, 1) := by decide +kernel
theorem dX4_valueOf_8 : decode cX4_valueOf 8 = .ok (.getfield 9, 3) := by decide +kernel
theorem dX4_valueOf_11 : decode cX4_valueOf 11 = .ok (.iload_n 1, 1) := by decide +kernel
theorem dX4_valueOf_12 : decode cX4_valueOf 12 = .ok (.iaload, 1) := by decide +kernel
theorem dX4_valueOf_13 : decode cX4_valueOf 13 = .ok (.goto 4, 3) := by decide +kernel
theorem dX4_valueOf_16 : decode cX4_valueOf 16 = .ok (.iconst 0, 1) := by decide +kernel
theorem dX4_valueOf_17 : decode cX4_valueOf 17 = .ok (.ireturn, 1) := by decide +kernel
set_option maxRecDepth 20000 in
theorem ggX4_putValue_X6_isField : GoodIn wsX4_putValue wsX6_isField := goodIn_r _ [4] (by decide +kernel) (by decide +kernel)
set_option maxRecDepth 20000 in
theorem gX4_putValue_X6_isField_n66 : GoodIn wsX4_putValue (wsX6_isField) := ggX4_putValue_X6_isField
theorem dX4_putValue_0 : decode cX4_putValue 0 = .ok (.iload_n 1, 1) := by decide +kernel
theorem dX4_putValue_1 : decode cX4_putValue 1 = .ok (.invokestatic 66, 3) := by decide +kernel
theorem dX4_putValue_4 : decode cX4_putValue 4 = .ok (.ifCond .eq 10, 3) := by decide +kernel
theorem dX4_putValue_7 : decode cX4_putValue 7 = .ok (.aload_n 0, 1) := by decide +kernel
theorem dX4_putValue_8 : decode cX4_putValue 8 = .ok (.getfield 9, 3) := by decide +kernel
theorem dX4_putValue_11 : decode cX4_putValue 11 = .ok (.iload_n 1, 1) := by decide +kernel
theorem dX4_putValue_12 : decode cX4_putValue 12 = .ok (.iload_n 2, 1) := by decide +kernel
theorem dX4_putValue_13 : decode cX4_putValue 13 = .ok (.iastore, 1) := by decide +kernel
theorem dX4_putValue_14 : decode cX4_putValue 14 = .ok (.return_, 1) := by decide +kernel
theorem dX5_init_0 : decode cX5_init 0 = .ok (.aload_n 0, 1) := by decide +kernel
theorem dX5_init_1 : decode cX5_init 1 = .ok (.invokespecial 3, 3) := by decide +kernel
theorem dX5_init_4 : decode cX5_init 4 = .ok (.aload_n 0, 1) := by decide +kernel
theorem dX5_init_5 : decode cX5_init 5 = .ok (.sipush 365, 3) := by decide +kernel
theorem dX5_init_8 : decode cX5_init 8 = .ok (.newarray .int, 2) := by decide +kernel
theorem dX5_init_10 : decode cX5_init 10 = .ok (.putfield 9, 3) := by decide +kernel
theorem dX5_init_13 : decode cX5_init 13 = .ok (.aload_n 0, 1) := by decide +kernel
theorem dX5_init_14 : decode cX5_init 14 = .ok (.sipush 366, 3) := by decide +kernel
theorem dX5_init_17 : decode cX5_init 17 = .ok (.newarray .int, 2) := by decide +kernel
theorem dX5_init_19 : decode cX5_init 19 = .ok (.putfield 15, 3) := by decide +kernel
theorem dX5_init_22 : decode cX5_init 22 = .ok (.return_, 1) := by decide +kernel
set_option maxRecDepth 20000 in
theorem ggX5_putRate_X6_isDay : GoodIn wsX5_putRate wsX6_isDay := goodIn_r _ [5] (by decide +kernel) (by decide +kernel)
set_option maxRecDepth 20000 in
theorem gX5_putRate_X6_isDay_n18 : GoodIn wsX5_putRate (wsX6_isDay) := ggX5_putRate_X6_isDay
theorem dX5_putRate_0 : decode cX5_putRate 0 = .ok (.iload_n 1, 1) := by decide +kernel
theorem dX5_putRate_1 : decode cX5_putRate 1 = .ok (.invokestatic 18, 3) := by decide +kernel
theorem dX5_putRate_4 : decode cX5_putRate 4 = .ok (.ifCond .eq 26, 3) := by decide +kernel
theorem dX5_putRate_7 : decode cX5_putRate 7 = .ok (.aload_n 0, 1) := by decide +kernel
theorem dX5_putRate_8 : decode cX5_putRate 8 = .ok (.getfield 9, 3) := by decide +kernel
theorem dX5_putRate_11 : decode cX5_putRate 11 = .ok (.iload_n 1, 1) := by decide +kernel
theorem dX5_putRate_12 : decode cX5_putRate 12 = .ok (.iload_n 2, 1) := by decide +kernel
theorem dX5_putRate_13 : decode cX5_putRate 13 = .ok (.iastore, 1) := by decide +kernel
theorem dX5_putRate_14 : decode cX5_putRate 14 = .ok (.aload_n 0, 1) := by decide +kernel
theorem dX5_putRate_15 : decode cX5_putRate 15 = .ok (.getfield 15, 3) := by decide +kernel
theorem dX5_putRate_18 : decode cX5_putRate 18 = .ok (.iload_n 1, 1) := by decide +kernel
theorem dX5_putRate_19 : decode cX5_putRate 19 = .ok (.iconst 1, 1) := by decide +kernel
theorem dX5_putRate_20 : decode cX5_putRate 20 = .ok (.iadd, 1) := by decide +kernel
theorem dX5_putRate_21 : decode cX5_putRate 21 = .ok (.aload_n 0, 1) := by decide +kernel
theorem dX5_putRate_22 : decode cX5_putRate 22 = .ok (.getfield 15, 3) := by decide +kernel
theorem dX5_putRate_25 : decode cX5_putRate 25 = .ok (.iload_n 1, 1) := by decide +kernel
theorem dX5_putRate_26 : decode cX5_putRate 26 = .ok (.iaload, 1) := by decide +kernel
theorem dX5_putRate_27 : decode cX5_putRate 27 = .ok (.iload_n 2, 1) := by decide +kernel
theorem dX5_putRate_28 : decode cX5_putRate 28 = .ok (.iadd, 1) := by decide +kernel
theorem dX5_putRate_29 : decode cX5_putRate 29 = .ok (.iastore, 1) := by decide +kernel
theorem dX5_putRate_30 : decode cX5_putRate 30 = .ok (.return_, 1) := by decide +kernel
set_option maxRecDepth 20000 in
theorem ggX5_isStart_X6_isDay : GoodIn wsX5_isStart wsX6_isDay := goodIn_r _ [4] (by decide +kernel) (by decide +kernel)
set_option maxRecDepth 20000 in
theorem gX5_isStart_X6_isDay_n18 : GoodIn wsX5_isStart (wsX6_isDay) := ggX5_isStart_X6_isDay
theorem dX5_isStart_0 : decode cX5_isStart 0 = .ok (.iload_n 1, 1) := by decide +kernel
theorem dX5_isStart_1 : decode cX5_isStart 1 = .ok (.invokestatic 18, 3) := by decide +kernel
theorem dX5_isStart_4 : decode cX5_isStart 4 = .ok (.ifCond .eq 37, 3) := by decide +kernel
theorem dX5_isStart_7 : decode cX5_isStart 7 = .ok (.aload_n 0, 1) := by decide +kernel
theorem dX5_isStart_8 : decode cX5_isStart 8 = .ok (.getfield 9, 3) := by decide +kernel
theorem dX5_isStart_11 : decode cX5_isStart 11 = .ok (.iload_n 1, 1) := by decide +kernel
theorem dX5_isStart_12 : decode cX5_isStart 12 = .ok (.iaload, 1) := by decide +kernel
theorem dX5_isStart_13 : decode cX5_isStart 13 = .ok (.ifCond .le 28, 3) := by decide +kernel
theorem dX5_isStart_16 : decode cX5_isStart 16 = .ok (.iload_n 1, 1) := by decide +kernel
theorem dX5_isStart_17 : decode cX5_isStart 17 = .ok (.ifCond .eq 20, 3) := by decide +kernel
theorem dX5_isStart_20 : decode cX5_isStart 20 = .ok (.aload_n 0, 1) := by decide +kernel
theorem dX5_isStart_21 : decode cX5_isStart 21 = .ok (.getfield 9, 3) := by decide +kernel
theorem dX5_isStart_24 : decode cX5_isStart 24 = .ok (.iload_n 1, 1) := by decide +kernel
theorem dX5_isStart_25 : decode cX5_isStart 25 = .ok (.iconst 1, 1) := by decide +kernel
theorem dX5_isStart_26 : decode cX5_isStart 26 = .ok (.isub, 1) := by decide +kernel
theorem dX5_isStart_27 : decode cX5_isStart 27 = .ok (.iaload, 1) := by decide +kernel
theorem dX5_isStart_28 : decode cX5_isStart 28 = .ok (.aload_n 0, 1) := by decide +kernel
theorem dX5_isStart_29 : decode cX5_isStart 29 = .ok (.getfield 9, 3) := by decide +kernel
theorem dX5_isStart_32 : decode cX5_isStart 32 = .ok (.iload_n 1, 1) := by decide +kernel
theorem dX5_isStart_33 : decode cX5_isStart 33 = .ok (.iaload, 1) := by decide +kernel
theorem dX5_isStart_34 : decode cX5_isStart 34 = .ok (.if_icmp .eq 7, 3) := by decide +kernel
theorem dX5_isStart_37 : decode cX5_isStart 37 = .ok (.iconst 1, 1) := by decide +kernel
theorem dX5_isStart_38 : decode cX5_isStart 38 = .ok (.goto 4, 3) := by decide +kernel
theorem dX5_isStart_41 : decode cX5_isStart 41 = .ok (.iconst 0, 1) := by decide +kernel
theorem dX5_isStart_42 : decode cX5_isStart 42 = .ok (.ireturn, 1) := by decide +kernel
set_option maxRecDepth 20000 in
theorem ggX5_countSegments_X5_isStart : GoodIn wsX5_countSegments wsX5_isStart := goodIn_r _ [5, 6, 7, 8, 9, 10, 11] (by decide +kernel) (by decide +kernel)
set_option maxRecDepth 20000 in
theorem gX5_countSegments_X5_isStart : GoodIn wsX5_countSegments (wsV RX5 22 RX5 yX5_isStart wsX5_isStart) := goodIn_app (goodIn_of _ (by decide +kernel)) ggX5_countSegments_X5_isStart
theorem dX5_countSegments_0 : decode cX5_countSegments 0 = .ok (.iconst 0, 1) := by decide +kernel
theorem dX5_countSegments_1 : decode cX5_countSegments 1 = .ok (.istore_n 1, 1) := by decide +kernel
theorem dX5_countSegments_2 : decode cX5_countSegments 2 = .ok (.iconst 0, 1) := by decide +kernel
theorem dX5_countSegments_3 : decode cX5_countSegments 3 = .ok (.istore_n 2, 1) := by decide +kernel
theorem dX5_countSegments_4 : decode cX5_countSegments 4 = .ok (.iload_n 2, 1) := by decide +kernel
theorem dX5_countSegments_5 : decode cX5_countSegments 5 = .ok (.sipush 365, 3) := by decide +kernel
theorem dX5_countSegments_8 : decode cX5_countSegments 8 = .ok (.if_icmp .ge 20, 3) := by decide +kernel
theorem dX5_countSegments_11 : decode cX5_countSegments 11 = .ok (.aload_n 0, 1) := by decide +kernel
theorem dX5_countSegments_12 : decode cX5_countSegments 12 = .ok (.iload_n 2, 1) := by decide +kernel
theorem dX5_countSegments_13 : decode cX5_countSegments 13 = .ok (.invokevirtual 22, 3) := by decide +kernel
theorem dX5_countSegments_16 : decode cX5_countSegments 16 = .ok (.ifCond .eq 6, 3) := by decide +kernel
theorem dX5_countSegments_19 : decode cX5_countSegments 19 = .ok (.iinc 1 1, 3) := by decide +kernel
theorem dX5_countSegments_22 : decode cX5_countSegments 22 = .ok (.iinc 2 1, 3) := by decide +kernel
theorem dX5_countSegments_25 : decode cX5_countSegments 25 = .ok (.goto (-21), 3) := by decide +kernel
theorem dX5_countSegments_28 : decode cX5_countSegments 28 = .ok (.iload_n 1, 1) := by decide +kernel
theorem dX5_countSegments_29 : decode cX5_countSegments 29 = .ok (.ireturn, 1) := by decide +kernel
set_option maxRecDepth 20000 in
theorem ggX5_startOf_X5_isStart : GoodIn wsX5_startOf wsX5_isStart := goodIn_r _ [5, 6, 7, 8, 9, 10, 11] (by decide +kernel) (by decide +kernel)
set_option maxRecDepth 20000 in
theorem gX5_startOf_X5_isStart : GoodIn wsX5_startOf (wsV RX5 22 RX5 yX5_isStart wsX5_isStart) := goodIn_app (goodIn_of _ (by decide +kernel)) ggX5_startOf_X5_isStart
theorem dX5_startOf_0 : decode cX5_startOf 0 = .ok (.iconst 0, 1) := by decide +kernel
theorem dX5_startOf_1 : decode cX5_startOf 1 = .ok (.istore_n 2, 1) := by decide +kernel
theorem dX5_startOf_2 : decode cX5_startOf 2 = .ok (.iconst 0, 1) := by decide +kernel
theorem dX5_startOf_3 : decode cX5_startOf 3 = .ok (.istore_n 3, 1) := by decide +kernel
theorem dX5_startOf_4 : decode cX5_startOf 4 = .ok (.iload_n 3, 1) := by decide +kernel
theorem dX5_startOf_5 : decode cX5_startOf 5 = .ok (.sipush 365, 3) := by decide +kernel
theorem dX5_startOf_8 : decode cX5_startOf 8 = .ok (.if_icmp .ge 27, 3) := by decide +kernel
theorem dX5_startOf_11 : decode cX5_startOf 11 = .ok (.aload_n 0, 1) := by decide +kernel
theorem dX5_startOf_12 : decode cX5_startOf 12 = .ok (.iload_n 3, 1) := by decide +kernel
theorem dX5_startOf_13 : decode cX5_startOf 13 = .ok (.invokevirtual 22, 3) := by decide +kernel
theorem dX5_startOf_16 : decode cX5_startOf 16 = .ok (.ifCond .eq 13, 3) := by decide +kernel
theorem dX5_startOf_19 : decode cX5_startOf 19 = .ok (.iload_n 2, 1) := by decide +kernel
theorem dX5_startOf_20 : decode cX5_startOf 20 = .ok (.iload_n 1, 1) := by decide +kernel
theorem dX5_startOf_21 : decode cX5_startOf 21 = .ok (.if_icmp .ne 5, 3) := by decide +kernel
theorem dX5_startOf_24 : decode cX5_startOf 24 = .ok (.iload_n 3, 1) := by decide +kernel
theorem dX5_startOf_25 : decode cX5_startOf 25 = .ok (.ireturn, 1) := by decide +kernel
theorem dX5_startOf_26 : decode cX5_startOf 26 = .ok (.iinc 2 1, 3) := by decide +kernel
theorem dX5_startOf_29 : decode cX5_startOf 29 = .ok (.iinc 3 1, 3) := by decide +kernel
theorem dX5_startOf_32 : decode cX5_startOf 32 = .ok (.goto (-28), 3) := by decide +kernel
theorem dX5_startOf_35 : decode cX5_startOf 35 = .ok (.iconst (-1), 1) := by decide +kernel
theorem dX5_startOf_36 : decode cX5_startOf 36 = .ok (.ireturn, 1) := by decide +kernel
set_option maxRecDepth 20000 in
theorem ggX5_dayBehindSegmentFrom_X6_isDay : GoodIn wsX5_dayBehindSegmentFrom wsX6_isDay := goodIn_r _ [4] (by decide +kernel) (by decide +kernel)
set_option maxRecDepth 20000 in
theorem gX5_dayBehindSegmentFrom_X6_isDay_n18 : GoodIn wsX5_dayBehindSegmentFrom (wsX6_isDay) := ggX5_dayBehindSegmentFrom_X6_isDay
theorem dX5_dayBehindSegmentFrom_0 : decode cX5_dayBehindSegmentFrom 0 = .ok (.iload_n 1, 1) := by decide +kernel
theorem dX5_dayBehindSegmentFrom_1 : decode cX5_dayBehindSegmentFrom 1 = .ok (.invokestatic 18, 3) := by decide +kernel
theorem dX5_dayBehindSegmentFrom_4 : decode cX5_dayBehindSegmentFrom 4 = .ok (.ifCond .ne 5, 3) := by decide +kernel
theorem dX5_dayBehindSegmentFrom_7 : decode cX5_dayBehindSegmentFrom 7 = .ok (.iload_n 1, 1) := by decide +kernel
theorem dX5_dayBehindSegmentFrom_8 : decode cX5_dayBehindSegmentFrom 8 = .ok (.ireturn, 1) := by decide +kernel
theorem dX5_dayBehindSegmentFrom_9 : decode cX5_dayBehindSegmentFrom 9 = .ok (.iload_n 1, 1) := by decide +kernel
theorem dX5_dayBehindSegmentFrom_10 : decode cX5_dayBehindSegmentFrom 10 = .ok (.iconst 1, 1) := by decide +kernel
theorem dX5_dayBehindSegmentFrom_11 : decode cX5_dayBehindSegmentFrom 11 = .ok (.iadd, 1) := by decide +kernel
theorem dX5_dayBehindSegmentFrom_12 : decode cX5_dayBehindSegmentFrom 12 = .ok (.istore_n 2, 1) := by decide +kernel
theorem dX5_dayBehindSegmentFrom_13 : decode cX5_dayBehindSegmentFrom 13 = .ok (.iload_n 2, 1) := by decide +kernel
theorem dX5_dayBehindSegmentFrom_14 : decode cX5_dayBehindSegmentFrom 14 = .ok (.sipush 365, 3) := by decide +kernel
theorem dX5_dayBehindSegmentFrom_17 : decode cX5_dayBehindSegmentFrom 17 = .ok (.if_icmp .ge 26, 3) := by decide +kernel
theorem dX5_dayBehindSegmentFrom_20 : decode cX5_dayBehindSegmentFrom 20 = .ok (.aload_n 0, 1) := by decide +kernel
theorem dX5_dayBehindSegmentFrom_21 : decode cX5_dayBehindSegmentFrom 21 = .ok (.getfield 9, 3) := by decide +kernel
theorem dX5_dayBehindSegmentFrom_24 : decode cX5_dayBehindSegmentFrom 24 = .ok (.iload_n 2, 1) := by decide +kernel
theorem dX5_dayBehindSegmentFrom_25 : decode cX5_dayBehindSegmentFrom 25 = .ok (.iaload, 1) := by decide +kernel
theorem dX5_dayBehindSegmentFrom_26 : decode cX5_dayBehindSegmentFrom 26 = .ok (.aload_n 0, 1) := by decide +kernel
theorem dX5_dayBehindSegmentFrom_27 : decode cX5_dayBehindSegmentFrom 27 = .ok (.getfield 9, 3) := by decide +kernel
theorem dX5_dayBehindSegmentFrom_30 : decode cX5_dayBehindSegmentFrom 30 = .ok (.iload_n 1, 1) := by decide +kernel
theorem dX5_dayBehindSegmentFrom_31 : decode cX5_dayBehindSegmentFrom 31 = .ok (.iaload, 1) := by decide +kernel
theorem dX5_dayBehindSegmentFrom_32 : decode cX5_dayBehindSegmentFrom 32 = .ok (.if_icmp .eq 5, 3) := by decide +kernel
theorem dX5_dayBehindSegmentFrom_35 : decode cX5_dayBehindSegmentFrom 35 = .ok (.iload_n 2, 1) := by decide +kernel
theorem dX5_dayBehindSegmentFrom_36 : decode cX5_dayBehindSegmentFrom 36 = .ok (.ireturn, 1) := by decide +kernel
theorem dX5_dayBehindSegmentFrom_37 : decode cX5_dayBehindSegmentFrom 37 = .ok (.iinc 2 1, 3) := by decide +kernel
theorem dX5_dayBehindSegmentFrom_40 : decode cX5_dayBehindSegmentFrom 40 = .ok (.goto (-27), 3) := by decide +kernel
theorem dX5_dayBehindSegmentFrom_43 : decode cX5_dayBehindSegmentFrom 43 = .ok (.sipush 365, 3) := by decide +kernel
theorem dX5_dayBehindSegmentFrom_46 : decode cX5_dayBehindSegmentFrom 46 = .ok (.ireturn, 1) := by decide +kernel
theorem dX5_chargeUpTo_0 : decode cX5_chargeUpTo 0 = .ok (.iload_n 1, 1) := by decide +kernel
theorem dX5_chargeUpTo_1 : decode cX5_chargeUpTo 1 = .ok (.ifCond .lt 23, 3) := by decide +kernel
theorem dX5_chargeUpTo_4 : decode cX5_chargeUpTo 4 = .ok (.iload_n 1, 1) := by decide +kernel
theorem dX5_chargeUpTo_5 : decode cX5_chargeUpTo 5 = .ok (.sipush 365, 3) := by decide +kernel
theorem dX5_chargeUpTo_8 : decode cX5_chargeUpTo 8 = .ok (.if_icmp .gt 16, 3) := by decide +kernel
theorem dX5_chargeUpTo_11 : decode cX5_chargeUpTo 11 = .ok (.aload_n 0, 1) := by decide +kernel
theorem dX5_chargeUpTo_12 : decode cX5_chargeUpTo 12 = .ok (.getfield 15, 3) := by decide +kernel
theorem dX5_chargeUpTo_15 : decode cX5_chargeUpTo 15 = .ok (.iload_n 1, 1) := by decide +kernel
theorem dX5_chargeUpTo_16 : decode cX5_chargeUpTo 16 = .ok (.iaload, 1) := by decide +kernel
theorem dX5_chargeUpTo_17 : decode cX5_chargeUpTo 17 = .ok (.sipush 365, 3) := by decide +kernel
theorem dX5_chargeUpTo_20 : decode cX5_chargeUpTo 20 = .ok (.idiv, 1) := by decide +kernel
theorem dX5_chargeUpTo_21 : decode cX5_chargeUpTo 21 = .ok (.goto 4, 3) := by decide +kernel
theorem dX5_chargeUpTo_24 : decode cX5_chargeUpTo 24 = .ok (.iconst 0, 1) := by decide +kernel
theorem dX5_chargeUpTo_25 : decode cX5_chargeUpTo 25 = .ok (.ireturn, 1) := by decide +kernel
set_option maxRecDepth 20000 in
theorem ggX5_premiumOfSegmentFrom_X5_dayBehindSegmentFrom : GoodIn wsX5_premiumOfSegmentFrom wsX5_dayBehindSegmentFrom := goodIn_r _ [5, 6, 7, 8, 9, 15, 16] (by decide +kernel) (by decide +kernel)
set_option maxRecDepth 20000 in
theorem gX5_premiumOfSegmentFrom_X5_dayBehindSegmentFrom : GoodIn wsX5_premiumOfSegmentFrom (wsV RX5 25 RX5 yX5_dayBehindSegmentFrom wsX5_dayBehindSegmentFrom) := goodIn_app (goodIn_of _ (by decide +kernel)) ggX5_premiumOfSegmentFrom_X5_dayBehindSegmentFrom
set_option maxRecDepth 20000 in
theorem ggX5_premiumOfSegmentFrom_X5_chargeUpTo : GoodIn wsX5_premiumOfSegmentFrom wsX5_chargeUpTo := goodIn_r _ [13, 14, 15, 16] (by decide +kernel) (by decide +kernel)
set_option maxRecDepth 20000 in
theorem gX5_premiumOfSegmentFrom_X5_chargeUpTo : GoodIn wsX5_premiumOfSegmentFrom (wsV RX5 29 RX5 yX5_chargeUpTo wsX5_chargeUpTo) := goodIn_app (goodIn_of _ (by decide +kernel)) ggX5_premiumOfSegmentFrom_X5_chargeUpTo
theorem dX5_premiumOfSegmentFrom_0 : decode cX5_premiumOfSegmentFrom 0 = .ok (.aload_n 0, 1) := by decide +kernel
theorem dX5_premiumOfSegmentFrom_1 : decode cX5_premiumOfSegmentFrom 1 = .ok (.aload_n 0, 1) := by decide +kernel
theorem dX5_premiumOfSegmentFrom_2 : decode cX5_premiumOfSegmentFrom 2 = .ok (.iload_n 1, 1) := by decide +kernel
theorem dX5_premiumOfSegmentFrom_3 : decode cX5_premiumOfSegmentFrom 3 = .ok (.invokevirtual 25, 3) := by decide +kernel
theorem dX5_premiumOfSegmentFrom_6 : decode cX5_premiumOfSegmentFrom 6 = .ok (.invokevirtual 29, 3) := by decide +kernel
theorem dX5_premiumOfSegmentFrom_9 : decode cX5_premiumOfSegmentFrom 9 = .ok (.aload_n 0, 1) := by decide +kernel
theorem dX5_premiumOfSegmentFrom_10 : decode cX5_premiumOfSegmentFrom 10 = .ok (.iload_n 1, 1) := by decide +kernel
theorem dX5_premiumOfSegmentFrom_11 : decode cX5_premiumOfSegmentFrom 11 = .ok (.invokevirtual 29, 3) := by decide +kernel
theorem dX5_premiumOfSegmentFrom_14 : decode cX5_premiumOfSegmentFrom 14 = .ok (.isub, 1) := by decide +kernel
theorem dX5_premiumOfSegmentFrom_15 : decode cX5_premiumOfSegmentFrom 15 = .ok (.ireturn, 1) := by decide +kernel
set_option maxRecDepth 20000 in
theorem ggX5_sumOfPremiums_X5_isStart : GoodIn wsX5_sumOfPremiums wsX5_isStart := goodIn_r _ [5, 6, 7, 8, 9, 23, 24] (by decide +kernel) (by decide +kernel)
set_option maxRecDepth 20000 in
theorem gX5_sumOfPremiums_X5_isStart : GoodIn wsX5_sumOfPremiums (wsV RX5 22 RX5 yX5_isStart wsX5_isStart) := goodIn_app (goodIn_of _ (by decide +kernel)) ggX5_sumOfPremiums_X5_isStart
set_option maxRecDepth 20000 in
theorem ggX5_sumOfPremiums_X5_premiumOfSegmentFrom : GoodIn wsX5_sumOfPremiums wsX5_premiumOfSegmentFrom := goodIn_r _ [13, 14, 15, 16, 4, 17, 6, 7, 8, 9, 18, 19, 20, 21, 22, 23, 24] (by decide +kernel) (by decide +kernel)
set_option maxRecDepth 20000 in
theorem gX5_sumOfPremiums_X5_premiumOfSegmentFrom : GoodIn wsX5_sumOfPremiums (wsV RX5 32 RX5 yX5_premiumOfSegmentFrom wsX5_premiumOfSegmentFrom) := goodIn_app (goodIn_of _ (by decide +kernel)) ggX5_sumOfPremiums_X5_premiumOfSegmentFrom
theorem dX5_sumOfPremiums_0 : decode cX5_sumOfPremiums 0 = .ok (.iconst 0, 1) := by decide +kernel
theorem dX5_sumOfPremiums_1 : decode cX5_sumOfPremiums 1 = .ok (.istore_n 1, 1) := by decide +kernel
theorem dX5_sumOfPremiums_2 : decode cX5_sumOfPremiums 2 = .ok (.iconst 0, 1) := by decide +kernel
theorem dX5_sumOfPremiums_3 : decode cX5_sumOfPremiums 3 = .ok (.istore_n 2, 1) := by decide +kernel
theorem dX5_sumOfPremiums_4 : decode cX5_sumOfPremiums 4 = .ok (.iload_n 2, 1) := by decide +kernel
theorem dX5_sumOfPremiums_5 : decode cX5_sumOfPremiums 5 = .ok (.sipush 365, 3) := by decide +kernel
theorem dX5_sumOfPremiums_8 : decode cX5_sumOfPremiums 8 = .ok (.if_icmp .ge 25, 3) := by decide +kernel
theorem dX5_sumOfPremiums_11 : decode cX5_sumOfPremiums 11 = .ok (.aload_n 0, 1) := by decide +kernel
theorem dX5_sumOfPremiums_12 : decode cX5_sumOfPremiums 12 = .ok (.iload_n 2, 1) := by decide +kernel
theorem dX5_sumOfPremiums_13 : decode cX5_sumOfPremiums 13 = .ok (.invokevirtual 22, 3) := by decide +kernel
theorem dX5_sumOfPremiums_16 : decode cX5_sumOfPremiums 16 = .ok (.ifCond .eq 11, 3) := by decide +kernel
theorem dX5_sumOfPremiums_19 : decode cX5_sumOfPremiums 19 = .ok (.iload_n 1, 1) := by decide +kernel
theorem dX5_sumOfPremiums_20 : decode cX5_sumOfPremiums 20 = .ok (.aload_n 0, 1) := by decide +kernel
theorem dX5_sumOfPremiums_21 : decode cX5_sumOfPremiums 21 = .ok (.iload_n 2, 1) := by decide +kernel
theorem dX5_sumOfPremiums_22 : decode cX5_sumOfPremiums 22 = .ok (.invokevirtual 32, 3) := by decide +kernel
theorem dX5_sumOfPremiums_25 : decode cX5_sumOfPremiums 25 = .ok (.iadd, 1) := by decide +kernel
theorem dX5_sumOfPremiums_26 : decode cX5_sumOfPremiums 26 = .ok (.istore_n 1, 1) := by decide +kernel
theorem dX5_sumOfPremiums_27 : decode cX5_sumOfPremiums 27 = .ok (.iinc 2 1, 3) := by decide +kernel
theorem dX5_sumOfPremiums_30 : decode cX5_sumOfPremiums 30 = .ok (.goto (-26), 3) := by decide +kernel
theorem dX5_sumOfPremiums_33 : decode cX5_sumOfPremiums 33 = .ok (.iload_n 1, 1) := by decide +kernel
theorem dX5_sumOfPremiums_34 : decode cX5_sumOfPremiums 34 = .ok (.ireturn, 1) := by decide +kernel
