set_option maxRecDepth 20000 in
theorem ggX6_init_Jx4a65c_init_da8c8 : GoodIn wsX6_init wsJx4a65c_init_da8c8 := goodIn_r _ [24, 25, 26, 27, 28, 29, 30, 31, 32, 33, 34, 35, 36, 2, 3, 60, 61, 62] (by decide +kernel) (by decide +kernel)
set_option maxRecDepth 20000 in
theorem gX6_init_Jx4a65c_init_da8c8 : GoodIn wsX6_init (wsJx4a65c_init_da8c8) := ggX6_init_Jx4a65c_init_da8c8
set_option maxRecDepth 20000 in
theorem ggX6_init_X3_init : GoodIn wsX6_init wsX3_init := goodIn_r _ [39, 40, 2, 3, 41, 42, 43, 44, 45, 46, 47, 48, 49, 69, 70, 71] (by decide +kernel) (by decide +kernel)
set_option maxRecDepth 20000 in
theorem gX6_init_X3_init : GoodIn wsX6_init (wsX3_init) := ggX6_init_X3_init
set_option maxRecDepth 20000 in
theorem ggX6_init_X4_init : GoodIn wsX6_init wsX4_init := goodIn_r _ [51, 52, 2, 3, 42, 53, 54, 72, 73] (by decide +kernel) (by decide +kernel)
set_option maxRecDepth 20000 in
theorem gX6_init_X4_init_n28 : GoodIn wsX6_init (wsX4_init) := ggX6_init_X4_init
set_option maxRecDepth 20000 in
theorem ggX6_init_X5_init : GoodIn wsX6_init wsX5_init := goodIn_r _ [56, 57, 2, 3, 42, 58, 59, 74, 75] (by decide +kernel) (by decide +kernel)
set_option maxRecDepth 20000 in
theorem gX6_init_X5_init_n35 : GoodIn wsX6_init (wsX5_init) := ggX6_init_X5_init
theorem dX6_init_0 : decode cX6_init 0 = .ok (.aload_n 0, 1) := by decide +kernel
theorem dX6_init_1 : decode cX6_init 1 = .ok (.invokespecial 1, 3) := by decide +kernel
theorem dX6_init_4 : decode cX6_init 4 = .ok (.aload_n 0, 1) := by decide +kernel
theorem dX6_init_5 : decode cX6_init 5 = .ok (.new 7, 3) := by decide +kernel
theorem dX6_init_8 : decode cX6_init 8 = .ok (.dup, 1) := by decide +kernel
theorem dX6_init_9 : decode cX6_init 9 = .ok (.invokespecial 9, 3) := by decide +kernel
theorem dX6_init_12 : decode cX6_init 12 = .ok (.putfield 10, 3) := by decide +kernel
theorem dX6_init_15 : decode cX6_init 15 = .ok (.aload_n 0, 1) := by decide +kernel
theorem dX6_init_16 : decode cX6_init 16 = .ok (.new 7, 3) := by decide +kernel
theorem dX6_init_19 : decode cX6_init 19 = .ok (.dup, 1) := by decide +kernel
theorem dX6_init_20 : decode cX6_init 20 = .ok (.invokespecial 9, 3) := by decide +kernel
theorem dX6_init_23 : decode cX6_init 23 = .ok (.putfield 16, 3) := by decide +kernel
theorem dX6_init_26 : decode cX6_init 26 = .ok (.aload_n 0, 1) := by decide +kernel
theorem dX6_init_27 : decode cX6_init 27 = .ok (.new 19, 3) := by decide +kernel
theorem dX6_init_30 : decode cX6_init 30 = .ok (.dup, 1) := by decide +kernel
theorem dX6_init_31 : decode cX6_init 31 = .ok (.invokespecial 21, 3) := by decide +kernel
theorem dX6_init_34 : decode cX6_init 34 = .ok (.putfield 22, 3) := by decide +kernel
theorem dX6_init_37 : decode cX6_init 37 = .ok (.aload_n 0, 1) := by decide +kernel
theorem dX6_init_38 : decode cX6_init 38 = .ok (.new 26, 3) := by decide +kernel
theorem dX6_init_41 : decode cX6_init 41 = .ok (.dup, 1) := by decide +kernel
theorem dX6_init_42 : decode cX6_init 42 = .ok (.invokespecial 28, 3) := by decide +kernel
theorem dX6_init_45 : decode cX6_init 45 = .ok (.putfield 29, 3) := by decide +kernel
theorem dX6_init_48 : decode cX6_init 48 = .ok (.aload_n 0, 1) := by decide +kernel
theorem dX6_init_49 : decode cX6_init 49 = .ok (.new 33, 3) := by decide +kernel
theorem dX6_init_52 : decode cX6_init 52 = .ok (.dup, 1) := by decide +kernel
theorem dX6_init_53 : decode cX6_init 53 = .ok (.invokespecial 35, 3) := by decide +kernel
theorem dX6_init_56 : decode cX6_init 56 = .ok (.putfield 36, 3) := by decide +kernel
theorem dX6_init_59 : decode cX6_init 59 = .ok (.aload_n 0, 1) := by decide +kernel
theorem dX6_init_60 : decode cX6_init 60 = .ok (.iconst 0, 1) := by decide +kernel
theorem dX6_init_61 : decode cX6_init 61 = .ok (.putfield 40, 3) := by decide +kernel
theorem dX6_init_64 : decode cX6_init 64 = .ok (.return_, 1) := by decide +kernel
set_option maxRecDepth 20000 in
theorem ggX6_open_X6_demandWithin : GoodIn wsX6_open wsX6_demandWithin := goodIn_ca (goodIn_r _ [10, 11, 12] (by decide +kernel) (by decide +kernel)) (goodIn_sub (fun _ h => List.mem_cons_of_mem _ (List.mem_append_right _ h)) (by decide +kernel))
set_option maxRecDepth 20000 in
theorem gX6_open_X6_demandWithin : GoodIn wsX6_open (va_wsS RX6 44 yX6_demandWithin wsX6_demandWithin) := goodIn_app (goodIn_of _ (by decide +kernel)) ggX6_open_X6_demandWithin
set_option maxRecDepth 20000 in
theorem ggX6_open_Jx4a65c_size_8abf5 : GoodIn wsX6_open wsJx4a65c_size_8abf5 := goodIn_r _ [17, 18, 106, 107, 108] (by decide +kernel) (by decide +kernel)
set_option maxRecDepth 20000 in
theorem gX6_open_Jx4a65c_size_8abf5_f48Jx4a65c : GoodIn wsX6_open (va_wsF RX6 48 RJx4a65c ⟨"java/util/List", "size", "()I"⟩ yJx4a65c_size_8abf5 wsJx4a65c_size_8abf5) := goodIn_app (goodIn_of _ (by decide +kernel)) ggX6_open_Jx4a65c_size_8abf5
set_option maxRecDepth 20000 in
theorem ggX6_open_X2_init : GoodIn wsX6_open wsX2_init := goodIn_r _ [21, 22, 23, 24, 25, 26, 16, 27, 28, 29, 30, 31, 32, 33, 34, 35, 36, 37, 38, 39, 40, 41, 42, 43, 44, 106, 107, 108, 103, 104, 105] (by decide +kernel) (by decide +kernel)
set_option maxRecDepth 20000 in
theorem gX6_open_X2_init : GoodIn wsX6_open (wsX2_init) := ggX6_open_X2_init
set_option maxRecDepth 20000 in
theorem ggX6_open_Jx4a65c_add_9ea2d : GoodIn wsX6_open wsJx4a65c_add_9ea2d := goodIn_r _ [48, 49, 50, 34, 18, 51, 52, 53, 16, 54, 55, 56, 57, 58, 59, 60, 61, 62, 33, 63, 64, 65, 66, 67, 68, 69, 70, 71, 72, 73, 74, 75, 76, 77, 78, 79, 80, 81, 82, 83, 84, 85, 86, 87, 88, 89, 90, 91, 92, 93, 94, 95, 96, 106, 107, 108] (by decide +kernel) (by decide +kernel)
set_option maxRecDepth 20000 in
theorem gX6_open_Jx4a65c_add_9ea2d_f66Jx4a65c : GoodIn wsX6_open (va_wsF RX6 66 RJx4a65c ⟨"java/util/List", "add", "(Ljava/lang/Object;)Z"⟩ yJx4a65c_add_9ea2d wsJx4a65c_add_9ea2d) := goodIn_app (goodIn_of _ (by decide +kernel)) ggX6_open_Jx4a65c_add_9ea2d
theorem dX6_open_0 : decode cX6_open 0 = .ok (.iload_n 1, 1) := by decide +kernel
theorem dX6_open_1 : decode cX6_open 1 = .ok (.iconst 1, 1) := by decide +kernel
theorem dX6_open_2 : decode cX6_open 2 = .ok (.sipush 1000, 3) := by decide +kernel
theorem dX6_open_5 : decode cX6_open 5 = .ok (.invokestatic 44, 3) := by decide +kernel
theorem dX6_open_8 : decode cX6_open 8 = .ok (.aload_n 0, 1) := by decide +kernel
theorem dX6_open_9 : decode cX6_open 9 = .ok (.getfield 10, 3) := by decide +kernel
theorem dX6_open_12 : decode cX6_open 12 = .ok (.invokeinterface 48 1, 5) := by decide +kernel
theorem dX6_open_17 : decode cX6_open 17 = .ok (.iconst 4, 1) := by decide +kernel
theorem dX6_open_18 : decode cX6_open 18 = .ok (.if_icmp .lt 13, 3) := by decide +kernel
theorem dX6_open_21 : decode cX6_open 21 = .ok (.new 54, 3) := by decide +kernel
theorem dX6_open_24 : decode cX6_open 24 = .ok (.dup, 1) := by decide +kernel
theorem dX6_open_25 : decode cX6_open 25 = .ok (.ldc 56, 2) := by decide +kernel
theorem dX6_open_27 : decode cX6_open 27 = .ok (.invokespecial 58, 3) := by decide +kernel
theorem dX6_open_30 : decode cX6_open 30 = .ok (.athrow, 1) := by decide +kernel
theorem dX6_open_31 : decode cX6_open 31 = .ok (.aload_n 0, 1) := by decide +kernel
theorem dX6_open_32 : decode cX6_open 32 = .ok (.getfield 10, 3) := by decide +kernel
theorem dX6_open_35 : decode cX6_open 35 = .ok (.new 61, 3) := by decide +kernel
theorem dX6_open_38 : decode cX6_open 38 = .ok (.dup, 1) := by decide +kernel
theorem dX6_open_39 : decode cX6_open 39 = .ok (.iload_n 1, 1) := by decide +kernel
theorem dX6_open_40 : decode cX6_open 40 = .ok (.invokespecial 63, 3) := by decide +kernel
theorem dX6_open_43 : decode cX6_open 43 = .ok (.invokeinterface 66 2, 5) := by decide +kernel
theorem dX6_open_48 : decode cX6_open 48 = .ok (.pop, 1) := by decide +kernel
theorem dX6_open_49 : decode cX6_open 49 = .ok (.aload_n 0, 1) := by decide +kernel
theorem dX6_open_50 : decode cX6_open 50 = .ok (.getfield 10, 3) := by decide +kernel
theorem dX6_open_53 : decode cX6_open 53 = .ok (.invokeinterface 48 1, 5) := by decide +kernel
theorem dX6_open_58 : decode cX6_open 58 = .ok (.iconst 1, 1) := by decide +kernel
theorem dX6_open_59 : decode cX6_open 59 = .ok (.isub, 1) := by decide +kernel
theorem dX6_open_60 : decode cX6_open 60 = .ok (.ireturn, 1) := by decide +kernel
set_option maxRecDepth 20000 in
theorem ggX6_setWeight_X6_demandField : GoodIn wsX6_setWeight wsX6_demandField := goodIn_ca (goodIn_r _ [8, 9, 10, 11, 12, 7, 13] (by decide +kernel) (by decide +kernel)) (goodIn_sub (fun _ h => List.mem_cons_of_mem _ (List.mem_append_left _ (List.mem_append_right _ h))) (by decide +kernel))
set_option maxRecDepth 20000 in
theorem gX6_setWeight_X6_demandField : GoodIn wsX6_setWeight (va_wsS RX6 70 yX6_demandField wsX6_demandField) := goodIn_app (goodIn_of _ (by decide +kernel)) ggX6_setWeight_X6_demandField
set_option maxRecDepth 20000 in
theorem ggX6_setWeight_X6_demandWithin : GoodIn wsX6_setWeight wsX6_demandWithin := goodIn_ca (goodIn_r _ [16, 17, 18] (by decide +kernel) (by decide +kernel)) (goodIn_sub (fun _ h => List.mem_cons_of_mem _ (List.mem_append_right _ h)) (by decide +kernel))
set_option maxRecDepth 20000 in
theorem gX6_setWeight_X6_demandWithin : GoodIn wsX6_setWeight (va_wsS RX6 44 yX6_demandWithin wsX6_demandWithin) := goodIn_app (goodIn_of _ (by decide +kernel)) ggX6_setWeight_X6_demandWithin
set_option maxRecDepth 20000 in
theorem ggX6_setWeight_X6_demandDay : GoodIn wsX6_setWeight wsX6_demandDay := goodIn_ca (goodIn_r _ [21, 14, 15, 7, 16, 17, 18] (by decide +kernel) (by decide +kernel)) (goodIn_sub (fun _ h => List.mem_cons_of_mem _ (List.mem_append_right _ h)) (by decide +kernel))
set_option maxRecDepth 20000 in
theorem gX6_setWeight_X6_demandDay : GoodIn wsX6_setWeight (va_wsS RX6 73 yX6_demandDay wsX6_demandDay) := goodIn_app (goodIn_of _ (by decide +kernel)) ggX6_setWeight_X6_demandDay
set_option maxRecDepth 20000 in
theorem ggX6_setWeight_X3_tell : GoodIn wsX6_setWeight wsX3_tell := goodIn_r _ [26, 27, 28, 29, 12, 7, 13, 36, 37, 38] (by decide +kernel) (by decide +kernel)
set_option maxRecDepth 20000 in
theorem gX6_setWeight_X3_tell : GoodIn wsX6_setWeight (wsV RX6 81 RX3 yX3_tell wsX3_tell) := goodIn_app (goodIn_of _ (by decide +kernel)) ggX6_setWeight_X3_tell
theorem dX6_setWeight_0 : decode cX6_setWeight 0 = .ok (.iload_n 1, 1) := by decide +kernel
theorem dX6_setWeight_1 : decode cX6_setWeight 1 = .ok (.invokestatic 70, 3) := by decide +kernel
theorem dX6_setWeight_4 : decode cX6_setWeight 4 = .ok (.iload_n 2, 1) := by decide +kernel
theorem dX6_setWeight_5 : decode cX6_setWeight 5 = .ok (.iconst 0, 1) := by decide +kernel
theorem dX6_setWeight_6 : decode cX6_setWeight 6 = .ok (.bipush 100, 2) := by decide +kernel
theorem dX6_setWeight_8 : decode cX6_setWeight 8 = .ok (.invokestatic 44, 3) := by decide +kernel
theorem dX6_setWeight_11 : decode cX6_setWeight 11 = .ok (.iload_n 3, 1) := by decide +kernel
theorem dX6_setWeight_12 : decode cX6_setWeight 12 = .ok (.invokestatic 73, 3) := by decide +kernel
theorem dX6_setWeight_15 : decode cX6_setWeight 15 = .ok (.aload_n 0, 1) := by decide +kernel
theorem dX6_setWeight_16 : decode cX6_setWeight 16 = .ok (.getfield 22, 3) := by decide +kernel
theorem dX6_setWeight_19 : decode cX6_setWeight 19 = .ok (.getfield 76, 3) := by decide +kernel
theorem dX6_setWeight_22 : decode cX6_setWeight 22 = .ok (.bipush 20, 2) := by decide +kernel
theorem dX6_setWeight_24 : decode cX6_setWeight 24 = .ok (.if_icmp .lt 13, 3) := by decide +kernel
theorem dX6_setWeight_27 : decode cX6_setWeight 27 = .ok (.new 54, 3) := by decide +kernel
theorem dX6_setWeight_30 : decode cX6_setWeight 30 = .ok (.dup, 1) := by decide +kernel
theorem dX6_setWeight_31 : decode cX6_setWeight 31 = .ok (.ldc 79, 2) := by decide +kernel
theorem dX6_setWeight_33 : decode cX6_setWeight 33 = .ok (.invokespecial 58, 3) := by decide +kernel
theorem dX6_setWeight_36 : decode cX6_setWeight 36 = .ok (.athrow, 1) := by decide +kernel
theorem dX6_setWeight_37 : decode cX6_setWeight 37 = .ok (.aload_n 0, 1) := by decide +kernel
theorem dX6_setWeight_38 : decode cX6_setWeight 38 = .ok (.getfield 22, 3) := by decide +kernel
theorem dX6_setWeight_41 : decode cX6_setWeight 41 = .ok (.iload_n 1, 1) := by decide +kernel
theorem dX6_setWeight_42 : decode cX6_setWeight 42 = .ok (.iload_n 2, 1) := by decide +kernel
theorem dX6_setWeight_43 : decode cX6_setWeight 43 = .ok (.iload_n 3, 1) := by decide +kernel
theorem dX6_setWeight_44 : decode cX6_setWeight 44 = .ok (.invokevirtual 81, 3) := by decide +kernel
theorem dX6_setWeight_47 : decode cX6_setWeight 47 = .ok (.aload_n 0, 1) := by decide +kernel
theorem dX6_setWeight_48 : decode cX6_setWeight 48 = .ok (.getfield 22, 3) := by decide +kernel
theorem dX6_setWeight_51 : decode cX6_setWeight 51 = .ok (.getfield 76, 3) := by decide +kernel
theorem dX6_setWeight_54 : decode cX6_setWeight 54 = .ok (.ireturn, 1) := by decide +kernel
set_option maxRecDepth 20000 in
theorem ggX6_pass_X6_demandWithin : GoodIn wsX6_pass wsX6_demandWithin := goodIn_ca (goodIn_r _ [5, 6, 7] (by decide +kernel) (by decide +kernel)) (goodIn_sub (fun _ h => List.mem_cons_of_mem _ (List.mem_append_right _ h)) (by decide +kernel))
set_option maxRecDepth 20000 in
theorem gX6_pass_X6_demandWithin : GoodIn wsX6_pass (va_wsS RX6 44 yX6_demandWithin wsX6_demandWithin) := goodIn_app (goodIn_of _ (by decide +kernel)) ggX6_pass_X6_demandWithin
theorem dX6_pass_0 : decode cX6_pass 0 = .ok (.iload_n 1, 1) := by decide +kernel
theorem dX6_pass_1 : decode cX6_pass 1 = .ok (.iconst 1, 1) := by decide +kernel
theorem dX6_pass_2 : decode cX6_pass 2 = .ok (.bipush 100, 2) := by decide +kernel
theorem dX6_pass_4 : decode cX6_pass 4 = .ok (.invokestatic 44, 3) := by decide +kernel
theorem dX6_pass_7 : decode cX6_pass 7 = .ok (.aload_n 0, 1) := by decide +kernel
theorem dX6_pass_8 : decode cX6_pass 8 = .ok (.dup, 1) := by decide +kernel
theorem dX6_pass_9 : decode cX6_pass 9 = .ok (.getfield 40, 3) := by decide +kernel
theorem dX6_pass_12 : decode cX6_pass 12 = .ok (.iload_n 1, 1) := by decide +kernel
theorem dX6_pass_13 : decode cX6_pass 13 = .ok (.iadd, 1) := by decide +kernel
theorem dX6_pass_14 : decode cX6_pass 14 = .ok (.putfield 40, 3) := by decide +kernel
theorem dX6_pass_17 : decode cX6_pass 17 = .ok (.aload_n 0, 1) := by decide +kernel
theorem dX6_pass_18 : decode cX6_pass 18 = .ok (.getfield 40, 3) := by decide +kernel
theorem dX6_pass_21 : decode cX6_pass 21 = .ok (.ireturn, 1) := by decide +kernel
theorem dX6_today_0 : decode cX6_today 0 = .ok (.aload_n 0, 1) := by decide +kernel
theorem dX6_today_1 : decode cX6_today 1 = .ok (.getfield 40, 3) := by decide +kernel
theorem dX6_today_4 : decode cX6_today 4 = .ok (.ireturn, 1) := by decide +kernel
set_option maxRecDepth 20000 in
theorem ggX6_change_X6_policyNumbered : GoodIn wsX6_change wsX6_policyNumbered := goodIn_ca (goodIn_r _ [6, 7, 8, 9, 10, 11, 12, 13, 14, 15, 16, 17, 18, 19, 20, 21, 22, 23, 24, 25, 26, 27, 28, 29, 30, 31, 32, 33, 146, 147, 148, 149, 150, 151, 152, 153, 154] (by decide +kernel) (by decide +kernel)) (goodIn_sub (fun _ h => List.mem_cons_of_mem _ (List.mem_append_left _ (List.mem_append_left _ (List.mem_append_right _ h)))) (by decide +kernel))
set_option maxRecDepth 20000 in
theorem gX6_change_X6_policyNumbered : GoodIn wsX6_change (wsV RX6 84 RX6 yX6_policyNumbered wsX6_policyNumbered) := goodIn_app (goodIn_of _ (by decide +kernel)) ggX6_change_X6_policyNumbered
set_option maxRecDepth 20000 in
theorem ggX6_change_X6_demandField : GoodIn wsX6_change wsX6_demandField := goodIn_ca (goodIn_r _ [36, 7, 8, 37, 38, 5, 39] (by decide +kernel) (by decide +kernel)) (goodIn_sub (fun _ h => List.mem_cons_of_mem _ (List.mem_append_left _ (List.mem_append_left _ (List.mem_append_right _ h)))) (by decide +kernel))
set_option maxRecDepth 20000 in
theorem gX6_change_X6_demandField : GoodIn wsX6_change (va_wsS RX6 70 yX6_demandField wsX6_demandField) := goodIn_app (goodIn_of _ (by decide +kernel)) ggX6_change_X6_demandField
set_option maxRecDepth 20000 in
theorem ggX6_change_X6_demandDay : GoodIn wsX6_change wsX6_demandDay := goodIn_ca (goodIn_r _ [42, 43, 44, 5, 45, 46, 47] (by decide +kernel) (by decide +kernel)) (goodIn_sub (fun _ h => List.mem_cons_of_mem _ (List.mem_append_left _ (List.mem_append_right _ h))) (by decide +kernel))
set_option maxRecDepth 20000 in
theorem gX6_change_X6_demandDay : GoodIn wsX6_change (va_wsS RX6 73 yX6_demandDay wsX6_demandDay) := goodIn_app (goodIn_of _ (by decide +kernel)) ggX6_change_X6_demandDay
set_option maxRecDepth 20000 in
theorem ggX6_change_X6_demandWithin : GoodIn wsX6_change wsX6_demandWithin := goodIn_ca (goodIn_r _ [45, 46, 47] (by decide +kernel) (by decide +kernel)) (goodIn_sub (fun _ h => List.mem_cons_of_mem _ (List.mem_append_left _ (List.mem_append_right _ h))) (by decide +kernel))
set_option maxRecDepth 20000 in
theorem gX6_change_X6_demandWithin : GoodIn wsX6_change (va_wsS RX6 44 yX6_demandWithin wsX6_demandWithin) := goodIn_app (goodIn_of _ (by decide +kernel)) ggX6_change_X6_demandWithin
set_option maxRecDepth 20000 in
theorem ggX6_change_X6_tell : GoodIn wsX6_change wsX6_tell := goodIn_ca (goodIn_r _ [51, 52, 53, 54, 55, 56, 57, 58, 59, 11, 12, 13, 14, 15, 16, 60, 61, 62, 63, 64, 65, 66, 67, 68, 69, 70, 71, 72, 73, 74, 75, 76, 77, 78, 79, 33, 80, 81, 82, 83, 84, 85, 86, 87, 88, 89, 90, 91, 92, 93, 94, 95, 96, 97, 98, 99, 100, 101, 102, 103, 104, 105, 106, 107, 108, 109, 110, 111, 112, 113, 114, 115, 116, 117, 118, 119, 120, 121, 122, 123, 124, 125, 126, 127, 128, 129, 130, 131, 132, 133, 134, 135, 136, 18, 19, 20, 21, 22, 23, 24, 25, 26, 27, 28, 29, 30, 31, 32, 137, 138, 139, 140, 141, 142, 143, 144, 145, 146, 147, 148, 149, 150, 151, 155, 156, 157, 158, 159, 160, 161, 162, 152, 153, 154, 163, 164, 165] (by decide +kernel) (by decide +kernel)) (goodIn_sub (fun _ h => List.mem_cons_of_mem _ (List.mem_append_right _ h)) (by decide +kernel))
set_option maxRecDepth 20000 in
theorem gX6_change_X6_tell : GoodIn wsX6_change (wsV RX6 94 RX6 yX6_tell wsX6_tell) := goodIn_app (goodIn_of _ (by decide +kernel)) ggX6_change_X6_tell
theorem dX6_change_0 : decode cX6_change 0 = .ok (.aload_n 0, 1) := by decide +kernel
theorem dX6_change_1 : decode cX6_change 1 = .ok (.iload_n 1, 1) := by decide +kernel
theorem dX6_change_2 : decode cX6_change 2 = .ok (.invokevirtual 84, 3) := by decide +kernel
theorem dX6_change_5 : decode cX6_change 5 = .ok (.astore 5, 2) := by decide +kernel
theorem dX6_change_7 : decode cX6_change 7 = .ok (.iload_n 2, 1) := by decide +kernel
theorem dX6_change_8 : decode cX6_change 8 = .ok (.invokestatic 70, 3) := by decide +kernel
theorem dX6_change_11 : decode cX6_change 11 = .ok (.iload_n 3, 1) := by decide +kernel
theorem dX6_change_12 : decode cX6_change 12 = .ok (.invokestatic 73, 3) := by decide +kernel
theorem dX6_change_15 : decode cX6_change 15 = .ok (.iload 4, 2) := by decide +kernel
theorem dX6_change_17 : decode cX6_change 17 = .ok (.iconst 0, 1) := by decide +kernel
theorem dX6_change_18 : decode cX6_change 18 = .ok (.bipush 20, 2) := by decide +kernel
theorem dX6_change_20 : decode cX6_change 20 = .ok (.invokestatic 44, 3) := by decide +kernel
theorem dX6_change_23 : decode cX6_change 23 = .ok (.aload_n 0, 1) := by decide +kernel
theorem dX6_change_24 : decode cX6_change 24 = .ok (.aload 5, 2) := by decide +kernel
theorem dX6_change_26 : decode cX6_change 26 = .ok (.getstatic 88, 3) := by decide +kernel
theorem dX6_change_29 : decode cX6_change 29 = .ok (.iload_n 2, 1) := by decide +kernel
theorem dX6_change_30 : decode cX6_change 30 = .ok (.iload_n 3, 1) := by decide +kernel
theorem dX6_change_31 : decode cX6_change 31 = .ok (.iload 4, 2) := by decide +kernel
theorem dX6_change_33 : decode cX6_change 33 = .ok (.invokevirtual 94, 3) := by decide +kernel
theorem dX6_change_36 : decode cX6_change 36 = .ok (.ireturn, 1) := by decide +kernel
set_option maxRecDepth 20000 in
theorem ggX6_add_X6_policyNumbered : GoodIn wsX6_add wsX6_policyNumbered := goodIn_ca (goodIn_r _ [6, 7, 8, 9, 10, 11, 12, 13, 14, 15, 16, 17, 18, 19, 20, 21, 22, 23, 24, 25, 26, 27, 28, 29, 30, 31, 32, 33, 146, 147, 148, 149, 150, 151, 152, 153, 154] (by decide +kernel) (by decide +kernel)) (goodIn_sub (fun _ h => List.mem_cons_of_mem _ (List.mem_append_left _ (List.mem_append_left _ (List.mem_append_right _ h)))) (by decide +kernel))
set_option maxRecDepth 20000 in
theorem gX6_add_X6_policyNumbered : GoodIn wsX6_add (wsV RX6 84 RX6 yX6_policyNumbered wsX6_policyNumbered) := goodIn_app (goodIn_of _ (by decide +kernel)) ggX6_add_X6_policyNumbered
set_option maxRecDepth 20000 in
theorem ggX6_add_X6_demandField : GoodIn wsX6_add wsX6_demandField := goodIn_ca (goodIn_r _ [36, 7, 8, 37, 38, 5, 39] (by decide +kernel) (by decide +kernel)) (goodIn_sub (fun _ h => List.mem_cons_of_mem _ (List.mem_append_left _ (List.mem_append_left _ (List.mem_append_right _ h)))) (by decide +kernel))
set_option maxRecDepth 20000 in
theorem gX6_add_X6_demandField : GoodIn wsX6_add (va_wsS RX6 70 yX6_demandField wsX6_demandField) := goodIn_app (goodIn_of _ (by decide +kernel)) ggX6_add_X6_demandField
set_option maxRecDepth 20000 in
theorem ggX6_add_X6_demandDay : GoodIn wsX6_add wsX6_demandDay := goodIn_ca (goodIn_r _ [42, 43, 44, 5, 45, 46, 47] (by decide +kernel) (by decide +kernel)) (goodIn_sub (fun _ h => List.mem_cons_of_mem _ (List.mem_append_left _ (List.mem_append_right _ h))) (by decide +kernel))
set_option maxRecDepth 20000 in
theorem gX6_add_X6_demandDay : GoodIn wsX6_add (va_wsS RX6 73 yX6_demandDay wsX6_demandDay) := goodIn_app (goodIn_of _ (by decide +kernel)) ggX6_add_X6_demandDay
set_option maxRecDepth 20000 in
theorem ggX6_add_X6_demandWithin : GoodIn wsX6_add wsX6_demandWithin := goodIn_ca (goodIn_r _ [45, 46, 47] (by decide +kernel) (by decide +kernel)) (goodIn_sub (fun _ h => List.mem_cons_of_mem _ (List.mem_append_left _ (List.mem_append_right _ h))) (by decide +kernel))
set_option maxRecDepth 20000 in
theorem gX6_add_X6_demandWithin : GoodIn wsX6_add (va_wsS RX6 44 yX6_demandWithin wsX6_demandWithin) := goodIn_app (goodIn_of _ (by decide +kernel)) ggX6_add_X6_demandWithin
set_option maxRecDepth 20000 in
theorem ggX6_add_X6_tell : GoodIn wsX6_add wsX6_tell := goodIn_ca (goodIn_r _ [51, 52, 53, 54, 55, 56, 57, 58, 59, 11, 12, 13, 14, 15, 16, 60, 61, 62, 63, 64, 65, 66, 67, 68, 69, 70, 71, 72, 73, 74, 75, 76, 77, 78, 79, 33, 80, 81, 82, 83, 84, 85, 86, 87, 88, 89, 90, 91, 92, 93, 94, 95, 96, 97, 98, 99, 100, 101, 102, 103, 104, 105, 106, 107, 108, 109, 110, 111, 112, 113, 114, 115, 116, 117, 118, 119, 120, 121, 122, 123, 124, 125, 126, 127, 128, 129, 130, 131, 132, 133, 134, 135, 136, 18, 19, 20, 21, 22, 23, 24, 25, 26, 27, 28, 29, 30, 31, 32, 137, 138, 139, 140, 141, 142, 143, 144, 145, 146, 147, 148, 149, 150, 151, 155, 156, 157, 158, 159, 160, 161, 162, 152, 153, 154, 163, 164, 165] (by decide +kernel) (by decide +kernel)) (goodIn_sub (fun _ h => List.mem_cons_of_mem _ (List.mem_append_right _ h)) (by decide +kernel))
set_option maxRecDepth 20000 in
theorem gX6_add_X6_tell : GoodIn wsX6_add (wsV RX6 94 RX6 yX6_tell wsX6_tell) := goodIn_app (goodIn_of _ (by decide +kernel)) ggX6_add_X6_tell
theorem dX6_add_0 : decode cX6_add 0 = .ok (.aload_n 0, 1) := by decide +kernel
theorem dX6_add_1 : decode cX6_add 1 = .ok (.iload_n 1, 1) := by decide +kernel
theorem dX6_add_2 : decode cX6_add 2 = .ok (.invokevirtual 84, 3) := by decide +kernel
theorem dX6_add_5 : decode cX6_add 5 = .ok (.astore 5, 2) := by decide +kernel
theorem dX6_add_7 : decode cX6_add 7 = .ok (.iload_n 2, 1) := by decide +kernel
theorem dX6_add_8 : decode cX6_add 8 = .ok (.invokestatic 70, 3) := by decide +kernel
theorem dX6_add_11 : decode cX6_add 11 = .ok (.iload_n 3, 1) := by decide +kernel
theorem dX6_add_12 : decode cX6_add 12 = .ok (.invokestatic 73, 3) := by decide +kernel
theorem dX6_add_15 : decode cX6_add 15 = .ok (.iload 4, 2) := by decide +kernel
theorem dX6_add_17 : decode cX6_add 17 = .ok (.bipush (-20), 2) := by decide +kernel
theorem dX6_add_19 : decode cX6_add 19 = .ok (.bipush 20, 2) := by decide +kernel
theorem dX6_add_21 : decode cX6_add 21 = .ok (.invokestatic 44, 3) := by decide +kernel
theorem dX6_add_24 : decode cX6_add 24 = .ok (.aload_n 0, 1) := by decide +kernel
theorem dX6_add_25 : decode cX6_add 25 = .ok (.aload 5, 2) := by decide +kernel
theorem dX6_add_27 : decode cX6_add 27 = .ok (.getstatic 97, 3) := by decide +kernel
theorem dX6_add_30 : decode cX6_add 30 = .ok (.iload_n 2, 1) := by decide +kernel
theorem dX6_add_31 : decode cX6_add 31 = .ok (.iload_n 3, 1) := by decide +kernel
theorem dX6_add_32 : decode cX6_add 32 = .ok (.iload 4, 2) := by decide +kernel
theorem dX6_add_34 : decode cX6_add 34 = .ok (.invokevirtual 94, 3) := by decide +kernel
theorem dX6_add_37 : decode cX6_add 37 = .ok (.ireturn, 1) := by decide +kernel
set_option maxRecDepth 20000 in
theorem ggX6_cancel_X6_policyNumbered : GoodIn wsX6_cancel wsX6_policyNumbered := goodIn_ca (goodIn_r _ [6, 7, 8, 9, 10, 11, 12, 13, 14, 15, 16, 17, 18, 19, 20, 21, 22, 23, 24, 25, 26, 27, 28, 29, 30, 31, 32, 33, 140, 141, 142, 143, 144, 145, 146, 147, 148] (by decide +kernel) (by decide +kernel)) (goodIn_sub (fun _ h => List.mem_cons_of_mem _ (List.mem_append_left _ (List.mem_append_left _ (List.mem_append_right _ h)))) (by decide +kernel))
set_option maxRecDepth 20000 in
theorem gX6_cancel_X6_policyNumbered : GoodIn wsX6_cancel (wsV RX6 84 RX6 yX6_policyNumbered wsX6_policyNumbered) := goodIn_app (goodIn_of _ (by decide +kernel)) ggX6_cancel_X6_policyNumbered
set_option maxRecDepth 20000 in
theorem ggX6_cancel_X6_demandDay : GoodIn wsX6_cancel wsX6_demandDay := goodIn_ca (goodIn_r _ [36, 37, 38, 5, 39, 40, 41] (by decide +kernel) (by decide +kernel)) (goodIn_sub (fun _ h => List.mem_cons_of_mem _ (List.mem_append_left _ (List.mem_append_right _ h))) (by decide +kernel))
set_option maxRecDepth 20000 in
theorem gX6_cancel_X6_demandDay : GoodIn wsX6_cancel (va_wsS RX6 73 yX6_demandDay wsX6_demandDay) := goodIn_app (goodIn_of _ (by decide +kernel)) ggX6_cancel_X6_demandDay
set_option maxRecDepth 20000 in
theorem ggX6_cancel_X6_tell : GoodIn wsX6_cancel wsX6_tell := goodIn_ca (goodIn_r _ [45, 46, 47, 48, 49, 50, 51, 52, 53, 11, 12, 13, 14, 15, 16, 54, 55, 56, 57, 58, 59, 60, 61, 62, 63, 64, 65, 66, 67, 68, 69, 70, 71, 72, 73, 33, 74, 75, 76, 77, 78, 79, 80, 81, 82, 83, 84, 85, 86, 87, 88, 89, 90, 91, 92, 93, 94, 95, 96, 97, 98, 99, 100, 101, 102, 103, 104, 105, 106, 107, 108, 109, 110, 111, 112, 113, 114, 115, 116, 117, 118, 119, 120, 121, 122, 123, 124, 125, 126, 127, 128, 129, 130, 18, 19, 20, 21, 22, 23, 24, 25, 26, 27, 28, 29, 30, 31, 32, 131, 132, 133, 134, 135, 136, 137, 138, 139, 140, 141, 142, 143, 144, 145, 149, 150, 151, 152, 153, 154, 155, 156, 146, 147, 148, 157, 158, 159] (by decide +kernel) (by decide +kernel)) (goodIn_sub (fun _ h => List.mem_cons_of_mem _ (List.mem_append_right _ h)) (by decide +kernel))
set_option maxRecDepth 20000 in
theorem gX6_cancel_X6_tell : GoodIn wsX6_cancel (wsV RX6 94 RX6 yX6_tell wsX6_tell) := goodIn_app (goodIn_of _ (by decide +kernel)) ggX6_cancel_X6_tell
theorem dX6_cancel_0 : decode cX6_cancel 0 = .ok (.aload_n 0, 1) := by decide +kernel
theorem dX6_cancel_1 : decode cX6_cancel 1 = .ok (.iload_n 1, 1) := by decide +kernel
theorem dX6_cancel_2 : decode cX6_cancel 2 = .ok (.invokevirtual 84, 3) := by decide +kernel
theorem dX6_cancel_5 : decode cX6_cancel 5 = .ok (.astore_n 3, 1) := by decide +kernel
theorem dX6_cancel_6 : decode cX6_cancel 6 = .ok (.iload_n 2, 1) := by decide +kernel
theorem dX6_cancel_7 : decode cX6_cancel 7 = .ok (.invokestatic 73, 3) := by decide +kernel
theorem dX6_cancel_10 : decode cX6_cancel 10 = .ok (.aload_n 0, 1) := by decide +kernel
theorem dX6_cancel_11 : decode cX6_cancel 11 = .ok (.aload_n 3, 1) := by decide +kernel
theorem dX6_cancel_12 : decode cX6_cancel 12 = .ok (.getstatic 100, 3) := by decide +kernel
theorem dX6_cancel_15 : decode cX6_cancel 15 = .ok (.iconst (-1), 1) := by decide +kernel
theorem dX6_cancel_16 : decode cX6_cancel 16 = .ok (.iload_n 2, 1) := by decide +kernel
theorem dX6_cancel_17 : decode cX6_cancel 17 = .ok (.iconst 0, 1) := by decide +kernel
theorem dX6_cancel_18 : decode cX6_cancel 18 = .ok (.invokevirtual 94, 3) := by decide +kernel
theorem dX6_cancel_21 : decode cX6_cancel 21 = .ok (.ireturn, 1) := by decide +kernel
set_option maxRecDepth 20000 in
theorem ggX6_reinstate_X6_policyNumbered : GoodIn wsX6_reinstate wsX6_policyNumbered := goodIn_ca (goodIn_r _ [6, 7, 8, 9, 10, 11, 12, 13, 14, 15, 16, 17, 18, 19, 20, 21, 22, 23, 24, 25, 26, 27, 28, 29, 30, 31, 32, 33, 140, 141, 142, 143, 144, 145, 146, 147, 148] (by decide +kernel) (by decide +kernel)) (goodIn_sub (fun _ h => List.mem_cons_of_mem _ (List.mem_append_left _ (List.mem_append_left _ (List.mem_append_right _ h)))) (by decide +kernel))
set_option maxRecDepth 20000 in
theorem gX6_reinstate_X6_policyNumbered : GoodIn wsX6_reinstate (wsV RX6 84 RX6 yX6_policyNumbered wsX6_policyNumbered) := goodIn_app (goodIn_of _ (by decide +kernel)) ggX6_reinstate_X6_policyNumbered
set_option maxRecDepth 20000 in
theorem ggX6_reinstate_X6_demandDay : GoodIn wsX6_reinstate wsX6_demandDay := goodIn_ca (goodIn_r _ [36, 37, 38, 5, 39, 40, 41] (by decide +kernel) (by decide +kernel)) (goodIn_sub (fun _ h => List.mem_cons_of_mem _ (List.mem_append_left _ (List.mem_append_right _ h))) (by decide +kernel))
set_option maxRecDepth 20000 in
theorem gX6_reinstate_X6_demandDay : GoodIn wsX6_reinstate (va_wsS RX6 73 yX6_demandDay wsX6_demandDay) := goodIn_app (goodIn_of _ (by decide +kernel)) ggX6_reinstate_X6_demandDay
set_option maxRecDepth 20000 in
theorem ggX6_reinstate_X6_tell : GoodIn wsX6_reinstate wsX6_tell := goodIn_ca (goodIn_r _ [45, 46, 47, 48, 49, 50, 51, 52, 53, 11, 12, 13, 14, 15, 16, 54, 55, 56, 57, 58, 59, 60, 61, 62, 63, 64, 65, 66, 67, 68, 69, 70, 71, 72, 73, 33, 74, 75, 76, 77, 78, 79, 80, 81, 82, 83, 84, 85, 86, 87, 88, 89, 90, 91, 92, 93, 94, 95, 96, 97, 98, 99, 100, 101, 102, 103, 104, 105, 106, 107, 108, 109, 110, 111, 112, 113, 114, 115, 116, 117, 118, 119, 120, 121, 122, 123, 124, 125, 126, 127, 128, 129, 130, 18, 19, 20, 21, 22, 23, 24, 25, 26, 27, 28, 29, 30, 31, 32, 131, 132, 133, 134, 135, 136, 137, 138, 139, 140, 141, 142, 143, 144, 145, 149, 150, 151, 152, 153, 154, 155, 156, 146, 147, 148, 157, 158, 159] (by decide +kernel) (by decide +kernel)) (goodIn_sub (fun _ h => List.mem_cons_of_mem _ (List.mem_append_right _ h)) (by decide +kernel))
set_option maxRecDepth 20000 in
theorem gX6_reinstate_X6_tell : GoodIn wsX6_reinstate (wsV RX6 94 RX6 yX6_tell wsX6_tell) := goodIn_app (goodIn_of _ (by decide +kernel)) ggX6_reinstate_X6_tell
theorem dX6_reinstate_0 : decode cX6_reinstate 0 = .ok (.aload_n 0, 1) := by decide +kernel
theorem dX6_reinstate_1 : decode cX6_reinstate 1 = .ok (.iload_n 1, 1) := by decide +kernel
theorem dX6_reinstate_2 : decode cX6_reinstate 2 = .ok (.invokevirtual 84, 3) := by decide +kernel
theorem dX6_reinstate_5 : decode cX6_reinstate 5 = .ok (.astore_n 3, 1) := by decide +kernel
theorem dX6_reinstate_6 : decode cX6_reinstate 6 = .ok (.iload_n 2, 1) := by decide +kernel
theorem dX6_reinstate_7 : decode cX6_reinstate 7 = .ok (.invokestatic 73, 3) := by decide +kernel
theorem dX6_reinstate_10 : decode cX6_reinstate 10 = .ok (.aload_n 0, 1) := by decide +kernel
theorem dX6_reinstate_11 : decode cX6_reinstate 11 = .ok (.aload_n 3, 1) := by decide +kernel
theorem dX6_reinstate_12 : decode cX6_reinstate 12 = .ok (.getstatic 103, 3) := by decide +kernel
theorem dX6_reinstate_15 : decode cX6_reinstate 15 = .ok (.iconst (-1), 1) := by decide +kernel
theorem dX6_reinstate_16 : decode cX6_reinstate 16 = .ok (.iload_n 2, 1) := by decide +kernel
theorem dX6_reinstate_17 : decode cX6_reinstate 17 = .ok (.iconst 0, 1) := by decide +kernel
theorem dX6_reinstate_18 : decode cX6_reinstate 18 = .ok (.invokevirtual 94, 3) := by decide +kernel
theorem dX6_reinstate_21 : decode cX6_reinstate 21 = .ok (.ireturn, 1) := by decide +kernel
set_option maxRecDepth 20000 in
theorem ggX6_takeBack_X6_changeNumbered : GoodIn wsX6_takeBack wsX6_changeNumbered := goodIn_ca (goodIn_r _ [10, 11, 12, 13, 14, 15, 16, 17, 18, 19, 20, 21, 22, 23, 24, 25, 26, 27, 28, 29, 30, 31, 32, 33, 34, 35, 36, 37, 46, 47, 48, 49, 50, 51, 52, 53, 54] (by decide +kernel) (by decide +kernel)) (goodIn_sub (fun _ h => List.mem_cons_of_mem _ (List.mem_append_right _ h)) (by decide +kernel))
set_option maxRecDepth 20000 in
theorem gX6_takeBack_X6_changeNumbered : GoodIn wsX6_takeBack (wsV RX6 106 RX6 yX6_changeNumbered wsX6_changeNumbered) := goodIn_app (goodIn_of _ (by decide +kernel)) ggX6_takeBack_X6_changeNumbered
theorem dX6_takeBack_0 : decode cX6_takeBack 0 = .ok (.aload_n 0, 1) := by decide +kernel
theorem dX6_takeBack_1 : decode cX6_takeBack 1 = .ok (.iload_n 1, 1) := by decide +kernel
theorem dX6_takeBack_2 : decode cX6_takeBack 2 = .ok (.invokevirtual 106, 3) := by decide +kernel
theorem dX6_takeBack_5 : decode cX6_takeBack 5 = .ok (.astore_n 2, 1) := by decide +kernel
theorem dX6_takeBack_6 : decode cX6_takeBack 6 = .ok (.aload_n 2, 1) := by decide +kernel
theorem dX6_takeBack_7 : decode cX6_takeBack 7 = .ok (.getfield 110, 3) := by decide +kernel
theorem dX6_takeBack_10 : decode cX6_takeBack 10 = .ok (.iconst (-1), 1) := by decide +kernel
theorem dX6_takeBack_11 : decode cX6_takeBack 11 = .ok (.if_icmp .eq 13, 3) := by decide +kernel
theorem dX6_takeBack_14 : decode cX6_takeBack 14 = .ok (.new 54, 3) := by decide +kernel
theorem dX6_takeBack_17 : decode cX6_takeBack 17 = .ok (.dup, 1) := by decide +kernel
theorem dX6_takeBack_18 : decode cX6_takeBack 18 = .ok (.ldc 115, 2) := by decide +kernel
theorem dX6_takeBack_20 : decode cX6_takeBack 20 = .ok (.invokespecial 58, 3) := by decide +kernel
theorem dX6_takeBack_23 : decode cX6_takeBack 23 = .ok (.athrow, 1) := by decide +kernel
theorem dX6_takeBack_24 : decode cX6_takeBack 24 = .ok (.aload_n 2, 1) := by decide +kernel
theorem dX6_takeBack_25 : decode cX6_takeBack 25 = .ok (.aload_n 0, 1) := by decide +kernel
theorem dX6_takeBack_26 : decode cX6_takeBack 26 = .ok (.getfield 40, 3) := by decide +kernel
theorem dX6_takeBack_29 : decode cX6_takeBack 29 = .ok (.putfield 110, 3) := by decide +kernel
theorem dX6_takeBack_32 : decode cX6_takeBack 32 = .ok (.aload_n 2, 1) := by decide +kernel
theorem dX6_takeBack_33 : decode cX6_takeBack 33 = .ok (.getfield 117, 3) := by decide +kernel
theorem dX6_takeBack_36 : decode cX6_takeBack 36 = .ok (.ireturn, 1) := by decide +kernel
set_option maxRecDepth 20000 in
theorem ggX6_changes_Jx4a65c_size_8abf5 : GoodIn wsX6_changes wsJx4a65c_size_8abf5 := goodIn_r _ [6, 7, 14, 15, 16] (by decide +kernel) (by decide +kernel)
set_option maxRecDepth 20000 in
theorem gX6_changes_Jx4a65c_size_8abf5_f48Jx4a65c : GoodIn wsX6_changes (va_wsF RX6 48 RJx4a65c ⟨"java/util/List", "size", "()I"⟩ yJx4a65c_size_8abf5 wsJx4a65c_size_8abf5) := goodIn_app (goodIn_of _ (by decide +kernel)) ggX6_changes_Jx4a65c_size_8abf5
theorem dX6_changes_0 : decode cX6_changes 0 = .ok (.aload_n 0, 1) := by decide +kernel
theorem dX6_changes_1 : decode cX6_changes 1 = .ok (.getfield 16, 3) := by decide +kernel
theorem dX6_changes_4 : decode cX6_changes 4 = .ok (.invokeinterface 48 1, 5) := by decide +kernel
theorem dX6_changes_9 : decode cX6_changes 9 = .ok (.ireturn, 1) := by decide +kernel
set_option maxRecDepth 20000 in
theorem ggX6_laidAnew_X6_changeNumbered : GoodIn wsX6_laidAnew wsX6_changeNumbered := goodIn_ca (goodIn_r _ [11, 12, 13, 14, 3, 15, 16, 17, 18, 19, 20, 21, 22, 23, 24, 25, 26, 27, 28, 29, 30, 31, 32, 33, 34, 35, 36, 37, 56, 57, 58, 59, 60, 61, 62, 63, 64] (by decide +kernel) (by decide +kernel)) (goodIn_sub (fun _ h => List.mem_cons_of_mem _ (List.mem_append_right _ h)) (by decide +kernel))
set_option maxRecDepth 20000 in
theorem gX6_laidAnew_X6_changeNumbered : GoodIn wsX6_laidAnew (wsV RX6 106 RX6 yX6_changeNumbered wsX6_changeNumbered) := goodIn_app (goodIn_of _ (by decide +kernel)) ggX6_laidAnew_X6_changeNumbered
set_option maxRecDepth 20000 in
theorem ggX6_laidAnew_Jx4a65c_size_8abf5 : GoodIn wsX6_laidAnew wsJx4a65c_size_8abf5 := goodIn_r _ [19, 20, 62, 63, 64] (by decide +kernel) (by decide +kernel)
set_option maxRecDepth 20000 in
theorem gX6_laidAnew_Jx4a65c_size_8abf5_f48Jx4a65c : GoodIn wsX6_laidAnew (va_wsF RX6 48 RJx4a65c ⟨"java/util/List", "size", "()I"⟩ yJx4a65c_size_8abf5 wsJx4a65c_size_8abf5) := goodIn_app (goodIn_of _ (by decide +kernel)) ggX6_laidAnew_Jx4a65c_size_8abf5
set_option maxRecDepth 20000 in
theorem ggX6_laidAnew_Jx4a65c_get_915e3 : GoodIn wsX6_laidAnew wsJx4a65c_get_915e3 := goodIn_r _ [24, 20, 25, 26, 27, 28, 29, 30, 31, 32, 33, 34, 35, 18, 36, 37, 62, 63, 64] (by decide +kernel) (by decide +kernel)
set_option maxRecDepth 20000 in
theorem gX6_laidAnew_Jx4a65c_get_915e3_f127Jx4a65c : GoodIn wsX6_laidAnew (va_wsF RX6 127 RJx4a65c ⟨"java/util/List", "get", "(I)Ljava/lang/Object;"⟩ yJx4a65c_get_915e3 wsJx4a65c_get_915e3) := goodIn_app (goodIn_of _ (by decide +kernel)) ggX6_laidAnew_Jx4a65c_get_915e3
set_option maxRecDepth 20000 in
theorem ggX6_laidAnew_X0_isKnownOn : GoodIn wsX6_laidAnew wsX0_isKnownOn := goodIn_r _ [42, 43, 44, 45, 46, 47, 48, 49, 50, 51, 52] (by decide +kernel) (by decide +kernel)
set_option maxRecDepth 20000 in
theorem gX6_laidAnew_X0_isKnownOn : GoodIn wsX6_laidAnew (wsV RX6 137 RX0 yX0_isKnownOn wsX0_isKnownOn) := goodIn_app (goodIn_of _ (by decide +kernel)) ggX6_laidAnew_X0_isKnownOn
theorem dX6_laidAnew_0 : decode cX6_laidAnew 0 = .ok (.aload_n 0, 1) := by decide +kernel
theorem dX6_laidAnew_1 : decode cX6_laidAnew 1 = .ok (.iload_n 1, 1) := by decide +kernel
theorem dX6_laidAnew_2 : decode cX6_laidAnew 2 = .ok (.invokevirtual 106, 3) := by decide +kernel
theorem dX6_laidAnew_5 : decode cX6_laidAnew 5 = .ok (.astore_n 2, 1) := by decide +kernel
theorem dX6_laidAnew_6 : decode cX6_laidAnew 6 = .ok (.aload_n 2, 1) := by decide +kernel
theorem dX6_laidAnew_7 : decode cX6_laidAnew 7 = .ok (.getfield 120, 3) := by decide +kernel
theorem dX6_laidAnew_10 : decode cX6_laidAnew 10 = .ok (.getfield 124, 3) := by decide +kernel
theorem dX6_laidAnew_13 : decode cX6_laidAnew 13 = .ok (.astore_n 3, 1) := by decide +kernel
theorem dX6_laidAnew_14 : decode cX6_laidAnew 14 = .ok (.iconst 0, 1) := by decide +kernel
theorem dX6_laidAnew_15 : decode cX6_laidAnew 15 = .ok (.istore 4, 2) := by decide +kernel
theorem dX6_laidAnew_17 : decode cX6_laidAnew 17 = .ok (.iconst 0, 1) := by decide +kernel
theorem dX6_laidAnew_18 : decode cX6_laidAnew 18 = .ok (.istore 5, 2) := by decide +kernel
theorem dX6_laidAnew_20 : decode cX6_laidAnew 20 = .ok (.iload 5, 2) := by decide +kernel
theorem dX6_laidAnew_22 : decode cX6_laidAnew 22 = .ok (.aload_n 3, 1) := by decide +kernel
theorem dX6_laidAnew_23 : decode cX6_laidAnew 23 = .ok (.invokeinterface 48 1, 5) := by decide +kernel
theorem dX6_laidAnew_28 : decode cX6_laidAnew 28 = .ok (.if_icmp .ge 61, 3) := by decide +kernel
theorem dX6_laidAnew_31 : decode cX6_laidAnew 31 = .ok (.aload_n 3, 1) := by decide +kernel
theorem dX6_laidAnew_32 : decode cX6_laidAnew 32 = .ok (.iload 5, 2) := by decide +kernel
theorem dX6_laidAnew_34 : decode cX6_laidAnew 34 = .ok (.invokeinterface 127 2, 5) := by decide +kernel
theorem dX6_laidAnew_39 : decode cX6_laidAnew 39 = .ok (.checkcast 111, 3) := by decide +kernel
theorem dX6_laidAnew_42 : decode cX6_laidAnew 42 = .ok (.astore 6, 2) := by decide +kernel
theorem dX6_laidAnew_44 : decode cX6_laidAnew 44 = .ok (.aload 6, 2) := by decide +kernel
theorem dX6_laidAnew_46 : decode cX6_laidAnew 46 = .ok (.getfield 131, 3) := by decide +kernel
theorem dX6_laidAnew_49 : decode cX6_laidAnew 49 = .ok (.aload_n 2, 1) := by decide +kernel
theorem dX6_laidAnew_50 : decode cX6_laidAnew 50 = .ok (.getfield 131, 3) := by decide +kernel
theorem dX6_laidAnew_53 : decode cX6_laidAnew 53 = .ok (.if_icmp .ge 30, 3) := by decide +kernel
theorem dX6_laidAnew_56 : decode cX6_laidAnew 56 = .ok (.aload 6, 2) := by decide +kernel
theorem dX6_laidAnew_58 : decode cX6_laidAnew 58 = .ok (.getfield 134, 3) := by decide +kernel
theorem dX6_laidAnew_61 : decode cX6_laidAnew 61 = .ok (.aload_n 2, 1) := by decide +kernel
theorem dX6_laidAnew_62 : decode cX6_laidAnew 62 = .ok (.getfield 134, 3) := by decide +kernel
theorem dX6_laidAnew_65 : decode cX6_laidAnew 65 = .ok (.if_icmp .le 18, 3) := by decide +kernel
theorem dX6_laidAnew_68 : decode cX6_laidAnew 68 = .ok (.aload 6, 2) := by decide +kernel
theorem dX6_laidAnew_70 : decode cX6_laidAnew 70 = .ok (.aload_n 0, 1) := by decide +kernel
theorem dX6_laidAnew_71 : decode cX6_laidAnew 71 = .ok (.getfield 40, 3) := by decide +kernel
theorem dX6_laidAnew_74 : decode cX6_laidAnew 74 = .ok (.invokevirtual 137, 3) := by decide +kernel
theorem dX6_laidAnew_77 : decode cX6_laidAnew 77 = .ok (.ifCond .eq 6, 3) := by decide +kernel
theorem dX6_laidAnew_80 : decode cX6_laidAnew 80 = .ok (.iinc 4 1, 3) := by decide +kernel
theorem dX6_laidAnew_83 : decode cX6_laidAnew 83 = .ok (.iinc 5 1, 3) := by decide +kernel
theorem dX6_laidAnew_86 : decode cX6_laidAnew 86 = .ok (.goto (-66), 3) := by decide +kernel
theorem dX6_laidAnew_89 : decode cX6_laidAnew 89 = .ok (.iload 4, 2) := by decide +kernel
theorem dX6_laidAnew_91 : decode cX6_laidAnew 91 = .ok (.ireturn, 1) := by decide +kernel
set_option maxRecDepth 20000 in
theorem ggX6_value_X6_policyNumbered : GoodIn wsX6_value wsX6_policyNumbered := goodIn_ca (goodIn_r _ [6, 7, 8, 9, 10, 11, 12, 13, 14, 15, 16, 17, 18, 19, 20, 21, 22, 23, 24, 25, 26, 27, 28, 29, 30, 31, 32, 33, 109, 110, 111, 112, 113, 114, 115, 116, 117] (by decide +kernel) (by decide +kernel)) (goodIn_sub (fun _ h => List.mem_cons_of_mem _ (List.mem_append_left _ (List.mem_append_right _ h))) (by decide +kernel))
set_option maxRecDepth 20000 in
theorem gX6_value_X6_policyNumbered : GoodIn wsX6_value (wsV RX6 84 RX6 yX6_policyNumbered wsX6_policyNumbered) := goodIn_app (goodIn_of _ (by decide +kernel)) ggX6_value_X6_policyNumbered
set_option maxRecDepth 20000 in
theorem ggX6_value_X6_demandField : GoodIn wsX6_value wsX6_demandField := goodIn_ca (goodIn_r _ [36, 7, 8, 37, 38, 5, 39] (by decide +kernel) (by decide +kernel)) (goodIn_sub (fun _ h => List.mem_cons_of_mem _ (List.mem_append_left _ (List.mem_append_right _ h))) (by decide +kernel))
set_option maxRecDepth 20000 in
theorem gX6_value_X6_demandField : GoodIn wsX6_value (va_wsS RX6 70 yX6_demandField wsX6_demandField) := goodIn_app (goodIn_of _ (by decide +kernel)) ggX6_value_X6_demandField
set_option maxRecDepth 20000 in
theorem ggX6_value_X6_demandDay : GoodIn wsX6_value wsX6_demandDay := goodIn_ca (goodIn_r _ [42, 43, 44, 5, 45, 46, 47] (by decide +kernel) (by decide +kernel)) (goodIn_sub (fun _ h => List.mem_cons_of_mem _ (List.mem_append_right _ h)) (by decide +kernel))
set_option maxRecDepth 20000 in
theorem gX6_value_X6_demandDay : GoodIn wsX6_value (va_wsS RX6 73 yX6_demandDay wsX6_demandDay) := goodIn_app (goodIn_of _ (by decide +kernel)) ggX6_value_X6_demandDay
set_option maxRecDepth 20000 in
theorem ggX6_value_X6_demandKnown : GoodIn wsX6_value wsX6_demandKnown := goodIn_ca (goodIn_r _ [51, 52, 43, 44, 5, 45, 46, 47, 109, 110, 111, 112, 113, 114] (by decide +kernel) (by decide +kernel)) (goodIn_sub (fun _ h => List.mem_cons_of_mem _ (List.mem_append_right _ h)) (by decide +kernel))
set_option maxRecDepth 20000 in
theorem gX6_value_X6_demandKnown : GoodIn wsX6_value (wsV RX6 141 RX6 yX6_demandKnown wsX6_demandKnown) := goodIn_app (goodIn_of _ (by decide +kernel)) ggX6_value_X6_demandKnown
set_option maxRecDepth 20000 in
theorem ggX6_value_X6_layVersion : GoodIn wsX6_value wsX6_layVersion := goodIn_r _ [56, 1, 57, 58, 59, 60, 61, 62, 63, 64, 65, 66, 67, 68, 69, 70, 5, 71, 72, 73, 74, 75, 76, 77, 78, 11, 12, 13, 14, 15, 16, 17, 18, 19, 20, 21, 22, 23, 24, 25, 26, 27, 28, 29, 30, 31, 32, 33, 79, 80, 81, 82, 83, 84, 85, 86, 87, 88, 89, 90, 91, 92, 93, 94, 95, 96, 97, 98, 99, 100, 101, 102, 103, 38, 39, 104, 105, 106, 107, 109, 110, 111, 112, 113, 114, 118, 119, 120, 121, 122, 123, 124, 125, 126, 127, 128, 129, 130, 115, 116, 117] (by decide +kernel) (by decide +kernel)
set_option maxRecDepth 20000 in
theorem gX6_value_X6_layVersion : GoodIn wsX6_value (wsV RX6 144 RX6 yX6_layVersion wsX6_layVersion) := goodIn_app (goodIn_of _ (by decide +kernel)) ggX6_value_X6_layVersion
set_option maxRecDepth 20000 in
theorem ggX6_value_X4_valueOf : GoodIn wsX6_value wsX4_valueOf := goodIn_r _ [107, 62, 38, 5, 39, 118, 119] (by decide +kernel) (by decide +kernel)
set_option maxRecDepth 20000 in
theorem gX6_value_X4_valueOf : GoodIn wsX6_value (wsV RX6 148 RX4 yX4_valueOf wsX4_valueOf) := goodIn_app (goodIn_of _ (by decide +kernel)) ggX6_value_X4_valueOf
theorem dX6_value_0 : decode cX6_value 0 = .ok (.aload_n 0, 1) := by decide +kernel
theorem dX6_value_1 : decode cX6_value 1 = .ok (.iload_n 1, 1) := by decide +kernel
theorem dX6_value_2 : decode cX6_value 2 = .ok (.invokevirtual 84, 3) := by decide +kernel
theorem dX6_value_5 : decode cX6_value 5 = .ok (.astore 5, 2) := by decide +kernel
theorem dX6_value_7 : decode cX6_value 7 = .ok (.iload_n 2, 1) := by decide +kernel
theorem dX6_value_8 : decode cX6_value 8 = .ok (.invokestatic 70, 3) := by decide +kernel
theorem dX6_value_11 : decode cX6_value 11 = .ok (.iload_n 3, 1) := by decide +kernel
theorem dX6_value_12 : decode cX6_value 12 = .ok (.invokestatic 73, 3) := by decide +kernel
theorem dX6_value_15 : decode cX6_value 15 = .ok (.aload_n 0, 1) := by decide +kernel
theorem dX6_value_16 : decode cX6_value 16 = .ok (.iload 4, 2) := by decide +kernel
theorem dX6_value_18 : decode cX6_value 18 = .ok (.invokevirtual 141, 3) := by decide +kernel
theorem dX6_value_21 : decode cX6_value 21 = .ok (.aload_n 0, 1) := by decide +kernel
theorem dX6_value_22 : decode cX6_value 22 = .ok (.aload 5, 2) := by decide +kernel
theorem dX6_value_24 : decode cX6_value 24 = .ok (.iload_n 3, 1) := by decide +kernel
theorem dX6_value_25 : decode cX6_value 25 = .ok (.iload 4, 2) := by decide +kernel
theorem dX6_value_27 : decode cX6_value 27 = .ok (.invokevirtual 144, 3) := by decide +kernel
theorem dX6_value_30 : decode cX6_value 30 = .ok (.aload_n 0, 1) := by decide +kernel
theorem dX6_value_31 : decode cX6_value 31 = .ok (.getfield 29, 3) := by decide +kernel
theorem dX6_value_34 : decode cX6_value 34 = .ok (.iload_n 2, 1) := by decide +kernel
theorem dX6_value_35 : decode cX6_value 35 = .ok (.invokevirtual 148, 3) := by decide +kernel
theorem dX6_value_38 : decode cX6_value 38 = .ok (.ireturn, 1) := by decide +kernel
set_option maxRecDepth 20000 in
theorem ggX6_isCovered_X6_policyNumbered : GoodIn wsX6_isCovered wsX6_policyNumbered := goodIn_ca (goodIn_r _ [7, 8, 9, 10, 11, 12, 13, 14, 15, 16, 17, 18, 19, 20, 21, 22, 23, 24, 25, 26, 27, 28, 29, 30, 31, 32, 33, 34, 105, 106, 107, 108, 109, 110, 113, 114, 115] (by decide +kernel) (by decide +kernel)) (goodIn_sub (fun _ h => List.mem_cons_of_mem _ (List.mem_append_left _ (List.mem_append_right _ h))) (by decide +kernel))
set_option maxRecDepth 20000 in
theorem gX6_isCovered_X6_policyNumbered : GoodIn wsX6_isCovered (wsV RX6 84 RX6 yX6_policyNumbered wsX6_policyNumbered) := goodIn_app (goodIn_of _ (by decide +kernel)) ggX6_isCovered_X6_policyNumbered
set_option maxRecDepth 20000 in
theorem ggX6_isCovered_X6_demandDay : GoodIn wsX6_isCovered wsX6_demandDay := goodIn_ca (goodIn_r _ [37, 38, 39, 6, 40, 41, 42] (by decide +kernel) (by decide +kernel)) (goodIn_sub (fun _ h => List.mem_cons_of_mem _ (List.mem_append_right _ h)) (by decide +kernel))
set_option maxRecDepth 20000 in
theorem gX6_isCovered_X6_demandDay : GoodIn wsX6_isCovered (va_wsS RX6 73 yX6_demandDay wsX6_demandDay) := goodIn_app (goodIn_of _ (by decide +kernel)) ggX6_isCovered_X6_demandDay
set_option maxRecDepth 20000 in
theorem ggX6_isCovered_X6_demandKnown : GoodIn wsX6_isCovered wsX6_demandKnown := goodIn_ca (goodIn_r _ [46, 47, 38, 39, 6, 40, 41, 42, 105, 106, 107, 108, 109, 110] (by decide +kernel) (by decide +kernel)) (goodIn_sub (fun _ h => List.mem_cons_of_mem _ (List.mem_append_right _ h)) (by decide +kernel))
set_option maxRecDepth 20000 in
theorem gX6_isCovered_X6_demandKnown : GoodIn wsX6_isCovered (wsV RX6 141 RX6 yX6_demandKnown wsX6_demandKnown) := goodIn_app (goodIn_of _ (by decide +kernel)) ggX6_isCovered_X6_demandKnown
set_option maxRecDepth 20000 in
theorem ggX6_isCovered_X6_layVersion : GoodIn wsX6_isCovered wsX6_layVersion := goodIn_r _ [51, 1, 52, 53, 54, 55, 56, 57, 58, 59, 60, 61, 62, 63, 64, 65, 6, 66, 67, 68, 69, 70, 71, 72, 73, 12, 13, 14, 15, 16, 17, 18, 19, 20, 21, 22, 23, 24, 25, 26, 27, 28, 29, 30, 31, 32, 33, 34, 74, 75, 76, 77, 78, 79, 80, 81, 82, 83, 84, 85, 86, 87, 88, 89, 90, 91, 92, 93, 94, 95, 96, 97, 98, 99, 100, 101, 102, 103, 104, 105, 106, 107, 108, 109, 110, 111, 112, 116, 117, 118, 119, 120, 121, 122, 123, 124, 125, 126, 113, 114, 115] (by decide +kernel) (by decide +kernel)
set_option maxRecDepth 20000 in
theorem gX6_isCovered_X6_layVersion : GoodIn wsX6_isCovered (wsV RX6 144 RX6 yX6_layVersion wsX6_layVersion) := goodIn_app (goodIn_of _ (by decide +kernel)) ggX6_isCovered_X6_layVersion
theorem dX6_isCovered_0 : decode cX6_isCovered 0 = .ok (.aload_n 0, 1) := by decide +kernel
theorem dX6_isCovered_1 : decode cX6_isCovered 1 = .ok (.iload_n 1, 1) := by decide +kernel
theorem dX6_isCovered_2 : decode cX6_isCovered 2 = .ok (.invokevirtual 84, 3) := by decide +kernel
theorem dX6_isCovered_5 : decode cX6_isCovered 5 = .ok (.astore 4, 2) := by decide +kernel
theorem dX6_isCovered_7 : decode cX6_isCovered 7 = .ok (.iload_n 2, 1) := by decide +kernel
theorem dX6_isCovered_8 : decode cX6_isCovered 8 = .ok (.invokestatic 73, 3) := by decide +kernel
theorem dX6_isCovered_11 : decode cX6_isCovered 11 = .ok (.aload_n 0, 1) := by decide +kernel
theorem dX6_isCovered_12 : decode cX6_isCovered 12 = .ok (.iload_n 3, 1) := by decide +kernel
theorem dX6_isCovered_13 : decode cX6_isCovered 13 = .ok (.invokevirtual 141, 3) := by decide +kernel
theorem dX6_isCovered_16 : decode cX6_isCovered 16 = .ok (.aload_n 0, 1) := by decide +kernel
theorem dX6_isCovered_17 : decode cX6_isCovered 17 = .ok (.aload 4, 2) := by decide +kernel
theorem dX6_isCovered_19 : decode cX6_isCovered 19 = .ok (.iload_n 2, 1) := by decide +kernel
theorem dX6_isCovered_20 : decode cX6_isCovered 20 = .ok (.iload_n 3, 1) := by decide +kernel
theorem dX6_isCovered_21 : decode cX6_isCovered 21 = .ok (.invokevirtual 144, 3) := by decide +kernel
theorem dX6_isCovered_24 : decode cX6_isCovered 24 = .ok (.aload_n 0, 1) := by decide +kernel
theorem dX6_isCovered_25 : decode cX6_isCovered 25 = .ok (.getfield 29, 3) := by decide +kernel
theorem dX6_isCovered_28 : decode cX6_isCovered 28 = .ok (.getfield 152, 3) := by decide +kernel
theorem dX6_isCovered_31 : decode cX6_isCovered 31 = .ok (.ireturn, 1) := by decide +kernel
set_option maxRecDepth 20000 in
theorem ggX6_rate_X6_policyNumbered : GoodIn wsX6_rate wsX6_policyNumbered := goodIn_ca (goodIn_r _ [5, 6, 7, 8, 9, 10, 11, 12, 13, 14, 15, 16, 17, 18, 19, 20, 21, 22, 23, 24, 25, 26, 27, 28, 29, 30, 31, 32, 120, 121, 122, 123, 124, 125, 126, 127, 128] (by decide +kernel) (by decide +kernel)) (goodIn_sub (fun _ h => List.mem_cons_of_mem _ (List.mem_append_left _ (List.mem_append_right _ h))) (by decide +kernel))
set_option maxRecDepth 20000 in
theorem gX6_rate_X6_policyNumbered : GoodIn wsX6_rate (wsV RX6 84 RX6 yX6_policyNumbered wsX6_policyNumbered) := goodIn_app (goodIn_of _ (by decide +kernel)) ggX6_rate_X6_policyNumbered
set_option maxRecDepth 20000 in
theorem ggX6_rate_X6_demandDay : GoodIn wsX6_rate wsX6_demandDay := goodIn_ca (goodIn_r _ [35, 36, 37, 4, 38, 39, 40] (by decide +kernel) (by decide +kernel)) (goodIn_sub (fun _ h => List.mem_cons_of_mem _ (List.mem_append_right _ h)) (by decide +kernel))
set_option maxRecDepth 20000 in
theorem gX6_rate_X6_demandDay : GoodIn wsX6_rate (va_wsS RX6 73 yX6_demandDay wsX6_demandDay) := goodIn_app (goodIn_of _ (by decide +kernel)) ggX6_rate_X6_demandDay
set_option maxRecDepth 20000 in
theorem ggX6_rate_X6_demandKnown : GoodIn wsX6_rate wsX6_demandKnown := goodIn_ca (goodIn_r _ [44, 45, 36, 37, 4, 38, 39, 40, 120, 121, 122, 123, 124, 125] (by decide +kernel) (by decide +kernel)) (goodIn_sub (fun _ h => List.mem_cons_of_mem _ (List.mem_append_right _ h)) (by decide +kernel))
set_option maxRecDepth 20000 in
theorem gX6_rate_X6_demandKnown : GoodIn wsX6_rate (wsV RX6 141 RX6 yX6_demandKnown wsX6_demandKnown) := goodIn_app (goodIn_of _ (by decide +kernel)) ggX6_rate_X6_demandKnown
set_option maxRecDepth 20000 in
theorem ggX6_rate_X6_layVersion : GoodIn wsX6_rate wsX6_layVersion := goodIn_r _ [49, 50, 51, 52, 53, 54, 55, 56, 57, 58, 59, 60, 61, 62, 63, 64, 4, 65, 66, 67, 68, 69, 70, 71, 72, 10, 11, 12, 13, 14, 15, 16, 17, 18, 19, 20, 21, 22, 23, 24, 25, 26, 27, 28, 29, 30, 31, 32, 73, 74, 75, 76, 77, 78, 79, 80, 81, 82, 83, 84, 85, 86, 87, 88, 89, 90, 91, 92, 93, 94, 95, 96, 97, 98, 99, 100, 101, 102, 103, 120, 121, 122, 123, 124, 125, 129, 130, 131, 132, 133, 134, 135, 136, 137, 138, 139, 140, 141, 126, 127, 128] (by decide +kernel) (by decide +kernel)
set_option maxRecDepth 20000 in
theorem gX6_rate_X6_layVersion : GoodIn wsX6_rate (wsV RX6 144 RX6 yX6_layVersion wsX6_layVersion) := goodIn_app (goodIn_of _ (by decide +kernel)) ggX6_rate_X6_layVersion
set_option maxRecDepth 20000 in
theorem ggX6_rate_X6_rateOfVersion : GoodIn wsX6_rate wsX6_rateOfVersion := goodIn_r _ [107, 50, 108, 109, 110, 111, 101, 102, 54, 103, 56, 98, 4, 99, 112, 113, 114, 115, 116, 117, 118, 119, 120, 121, 122, 123, 124, 125, 129, 130, 131, 132, 133, 142, 143, 144] (by decide +kernel) (by decide +kernel)
set_option maxRecDepth 20000 in
theorem gX6_rate_X6_rateOfVersion : GoodIn wsX6_rate (wsV RX6 156 RX6 yX6_rateOfVersion wsX6_rateOfVersion) := goodIn_app (goodIn_of _ (by decide +kernel)) ggX6_rate_X6_rateOfVersion
theorem dX6_rate_0 : decode cX6_rate 0 = .ok (.aload_n 0, 1) := by decide +kernel
theorem dX6_rate_1 : decode cX6_rate 1 = .ok (.iload_n 1, 1) := by decide +kernel
theorem dX6_rate_2 : decode cX6_rate 2 = .ok (.invokevirtual 84, 3) := by decide +kernel
theorem dX6_rate_5 : decode cX6_rate 5 = .ok (.astore 4, 2) := by decide +kernel
theorem dX6_rate_7 : decode cX6_rate 7 = .ok (.iload_n 2, 1) := by decide +kernel
theorem dX6_rate_8 : decode cX6_rate 8 = .ok (.invokestatic 73, 3) := by decide +kernel
theorem dX6_rate_11 : decode cX6_rate 11 = .ok (.aload_n 0, 1) := by decide +kernel
theorem dX6_rate_12 : decode cX6_rate 12 = .ok (.iload_n 3, 1) := by decide +kernel
theorem dX6_rate_13 : decode cX6_rate 13 = .ok (.invokevirtual 141, 3) := by decide +kernel
theorem dX6_rate_16 : decode cX6_rate 16 = .ok (.aload_n 0, 1) := by decide +kernel
theorem dX6_rate_17 : decode cX6_rate 17 = .ok (.aload 4, 2) := by decide +kernel
theorem dX6_rate_19 : decode cX6_rate 19 = .ok (.iload_n 2, 1) := by decide +kernel
theorem dX6_rate_20 : decode cX6_rate 20 = .ok (.iload_n 3, 1) := by decide +kernel
theorem dX6_rate_21 : decode cX6_rate 21 = .ok (.invokevirtual 144, 3) := by decide +kernel
theorem dX6_rate_24 : decode cX6_rate 24 = .ok (.aload_n 0, 1) := by decide +kernel
theorem dX6_rate_25 : decode cX6_rate 25 = .ok (.aload 4, 2) := by decide +kernel
theorem dX6_rate_27 : decode cX6_rate 27 = .ok (.iload_n 2, 1) := by decide +kernel
theorem dX6_rate_28 : decode cX6_rate 28 = .ok (.invokevirtual 156, 3) := by decide +kernel
theorem dX6_rate_31 : decode cX6_rate 31 = .ok (.ireturn, 1) := by decide +kernel
set_option maxRecDepth 20000 in
theorem ggX6_segments_X6_policyNumbered : GoodIn wsX6_segments wsX6_policyNumbered := goodIn_ca (goodIn_r _ [6, 7, 8, 9, 10, 11, 12, 13, 14, 15, 16, 17, 18, 19, 20, 21, 22, 23, 24, 25, 26, 27, 28, 29, 30, 31, 32, 33, 133, 134, 135, 136, 137, 138, 139, 140, 141] (by decide +kernel) (by decide +kernel)) (goodIn_sub (fun _ h => List.mem_cons_of_mem _ (List.mem_append_left _ (List.mem_append_right _ h))) (by decide +kernel))
set_option maxRecDepth 20000 in
theorem gX6_segments_X6_policyNumbered : GoodIn wsX6_segments (wsV RX6 84 RX6 yX6_policyNumbered wsX6_policyNumbered) := goodIn_app (goodIn_of _ (by decide +kernel)) ggX6_segments_X6_policyNumbered
set_option maxRecDepth 20000 in
theorem ggX6_segments_X6_demandKnown : GoodIn wsX6_segments wsX6_demandKnown := goodIn_ca (goodIn_r _ [37, 38, 39, 40, 5, 41, 42, 43, 133, 134, 135, 136, 137, 138] (by decide +kernel) (by decide +kernel)) (goodIn_sub (fun _ h => List.mem_cons_of_mem _ (List.mem_append_right _ h)) (by decide +kernel))
set_option maxRecDepth 20000 in
theorem gX6_segments_X6_demandKnown : GoodIn wsX6_segments (wsV RX6 141 RX6 yX6_demandKnown wsX6_demandKnown) := goodIn_app (goodIn_of _ (by decide +kernel)) ggX6_segments_X6_demandKnown
set_option maxRecDepth 20000 in
theorem ggX6_segments_X6_layYear : GoodIn wsX6_segments wsX6_layYear := goodIn_r _ [47, 48, 1, 49, 50, 51, 52, 53, 54, 55, 56, 57, 58, 59, 60, 61, 62, 5, 63, 64, 65, 66, 67, 68, 69, 70, 11, 12, 13, 14, 15, 16, 17, 18, 19, 20, 21, 22, 23, 24, 25, 26, 27, 28, 29, 30, 31, 32, 33, 71, 72, 73, 74, 75, 76, 77, 78, 79, 80, 81, 82, 83, 84, 85, 86, 87, 88, 89, 90, 91, 92, 93, 94, 95, 96, 97, 98, 99, 100, 101, 102, 103, 104, 105, 106, 107, 108, 109, 110, 111, 112, 113, 114, 115, 116, 117, 118, 119, 120, 121, 122, 123, 124, 133, 134, 135, 136, 137, 138, 142, 143, 144, 145, 146, 147, 148, 149, 150, 151, 152, 153, 154, 139, 140, 141, 155, 156, 157, 158, 159] (by decide +kernel) (by decide +kernel)
set_option maxRecDepth 20000 in
theorem gX6_segments_X6_layYear : GoodIn wsX6_segments (wsV RX6 160 RX6 yX6_layYear wsX6_layYear) := goodIn_app (goodIn_of _ (by decide +kernel)) ggX6_segments_X6_layYear
set_option maxRecDepth 20000 in
theorem ggX6_segments_X5_countSegments : GoodIn wsX6_segments wsX5_countSegments := goodIn_r _ [128, 129, 130, 131, 121, 132, 123, 116, 5, 117, 158, 159] (by decide +kernel) (by decide +kernel)
set_option maxRecDepth 20000 in
theorem gX6_segments_X5_countSegments : GoodIn wsX6_segments (wsV RX6 164 RX5 yX5_countSegments wsX5_countSegments) := goodIn_app (goodIn_of _ (by decide +kernel)) ggX6_segments_X5_countSegments
theorem dX6_segments_0 : decode cX6_segments 0 = .ok (.aload_n 0, 1) := by decide +kernel
theorem dX6_segments_1 : decode cX6_segments 1 = .ok (.iload_n 1, 1) := by decide +kernel
theorem dX6_segments_2 : decode cX6_segments 2 = .ok (.invokevirtual 84, 3) := by decide +kernel
theorem dX6_segments_5 : decode cX6_segments 5 = .ok (.astore_n 3, 1) := by decide +kernel
theorem dX6_segments_6 : decode cX6_segments 6 = .ok (.aload_n 0, 1) := by decide +kernel
theorem dX6_segments_7 : decode cX6_segments 7 = .ok (.iload_n 2, 1) := by decide +kernel
theorem dX6_segments_8 : decode cX6_segments 8 = .ok (.invokevirtual 141, 3) := by decide +kernel
theorem dX6_segments_11 : decode cX6_segments 11 = .ok (.aload_n 0, 1) := by decide +kernel
theorem dX6_segments_12 : decode cX6_segments 12 = .ok (.aload_n 3, 1) := by decide +kernel
theorem dX6_segments_13 : decode cX6_segments 13 = .ok (.iload_n 2, 1) := by decide +kernel
theorem dX6_segments_14 : decode cX6_segments 14 = .ok (.invokevirtual 160, 3) := by decide +kernel
theorem dX6_segments_17 : decode cX6_segments 17 = .ok (.aload_n 0, 1) := by decide +kernel
theorem dX6_segments_18 : decode cX6_segments 18 = .ok (.getfield 36, 3) := by decide +kernel
theorem dX6_segments_21 : decode cX6_segments 21 = .ok (.invokevirtual 164, 3) := by decide +kernel
theorem dX6_segments_24 : decode cX6_segments 24 = .ok (.ireturn, 1) := by decide +kernel
set_option maxRecDepth 20000 in
theorem ggX6_segmentStart_X6_demandKnown : GoodIn wsX6_segmentStart wsX6_demandKnown := goodIn_ca (goodIn_r _ [5, 6, 7, 8, 4, 9, 10, 11, 137, 138, 139, 140, 141, 142] (by decide +kernel) (by decide +kernel)) (goodIn_sub (fun _ h => List.mem_cons_of_mem _ (List.mem_append_left _ (List.mem_append_right _ h))) (by decide +kernel))
set_option maxRecDepth 20000 in
theorem gX6_segmentStart_X6_demandKnown : GoodIn wsX6_segmentStart (wsV RX6 141 RX6 yX6_demandKnown wsX6_demandKnown) := goodIn_app (goodIn_of _ (by decide +kernel)) ggX6_segmentStart_X6_demandKnown
set_option maxRecDepth 20000 in
theorem ggX6_segmentStart_X6_startOfSegment : GoodIn wsX6_segmentStart wsX6_startOfSegment := goodIn_ca (goodIn_r _ [15, 16, 17, 18, 19, 20, 21, 4, 22, 23, 24, 25, 26, 27, 28, 29, 30, 31, 32, 33, 34, 35, 36, 37, 38, 39, 40, 41, 42, 43, 44, 45, 46, 47, 48, 49, 50, 51, 52, 53, 54, 55, 56, 57, 58, 59, 60, 61, 62, 63, 64, 65, 66, 67, 68, 69, 70, 71, 72, 73, 74, 75, 76, 77, 78, 79, 80, 81, 82, 83, 84, 85, 86, 87, 88, 89, 90, 91, 92, 93, 94, 95, 96, 97, 98, 99, 100, 101, 102, 103, 104, 105, 106, 107, 108, 109, 110, 111, 112, 113, 114, 115, 116, 117, 118, 119, 120, 121, 122, 123, 124, 125, 126, 127, 128, 129, 130, 131, 132, 133, 134, 135, 136, 137, 138, 139, 140, 141, 142, 143, 144, 145, 146, 147, 148, 149, 150, 151, 152, 153, 154, 155, 156, 157, 158, 159, 160, 161, 162, 163] (by decide +kernel) (by decide +kernel)) (goodIn_sub (fun _ h => List.mem_cons_of_mem _ (List.mem_append_right _ h)) (by decide +kernel))
set_option maxRecDepth 20000 in
theorem gX6_segmentStart_X6_startOfSegment : GoodIn wsX6_segmentStart (wsV RX6 167 RX6 yX6_startOfSegment wsX6_startOfSegment) := goodIn_app (goodIn_of _ (by decide +kernel)) ggX6_segmentStart_X6_startOfSegment
theorem dX6_segmentStart_0 : decode cX6_segmentStart 0 = .ok (.aload_n 0, 1) := by decide +kernel
theorem dX6_segmentStart_1 : decode cX6_segmentStart 1 = .ok (.iload_n 3, 1) := by decide +kernel
theorem dX6_segmentStart_2 : decode cX6_segmentStart 2 = .ok (.invokevirtual 141, 3) := by decide +kernel
theorem dX6_segmentStart_5 : decode cX6_segmentStart 5 = .ok (.aload_n 0, 1) := by decide +kernel
theorem dX6_segmentStart_6 : decode cX6_segmentStart 6 = .ok (.iload_n 1, 1) := by decide +kernel
theorem dX6_segmentStart_7 : decode cX6_segmentStart 7 = .ok (.iload_n 2, 1) := by decide +kernel
theorem dX6_segmentStart_8 : decode cX6_segmentStart 8 = .ok (.iload_n 3, 1) := by decide +kernel
theorem dX6_segmentStart_9 : decode cX6_segmentStart 9 = .ok (.invokevirtual 167, 3) := by decide +kernel
theorem dX6_segmentStart_12 : decode cX6_segmentStart 12 = .ok (.ireturn, 1) := by decide +kernel
set_option maxRecDepth 20000 in
theorem ggX6_segmentPremium_X6_demandKnown : GoodIn wsX6_segmentPremium wsX6_demandKnown := goodIn_ca (goodIn_r _ [6, 7, 8, 9, 5, 10, 11, 12, 149, 150, 151, 152, 153, 154] (by decide +kernel) (by decide +kernel)) (goodIn_sub (fun _ h => List.mem_cons_of_mem _ (List.mem_append_left _ (List.mem_append_right _ h))) (by decide +kernel))
set_option maxRecDepth 20000 in
theorem gX6_segmentPremium_X6_demandKnown : GoodIn wsX6_segmentPremium (wsV RX6 141 RX6 yX6_demandKnown wsX6_demandKnown) := goodIn_app (goodIn_of _ (by decide +kernel)) ggX6_segmentPremium_X6_demandKnown
set_option maxRecDepth 20000 in
theorem ggX6_segmentPremium_X6_startOfSegment : GoodIn wsX6_segmentPremium wsX6_startOfSegment := goodIn_ca (goodIn_r _ [16, 17, 18, 1, 19, 20, 21, 5, 22, 23, 24, 25, 26, 27, 28, 29, 30, 31, 32, 33, 34, 35, 36, 37, 38, 39, 40, 41, 42, 43, 44, 45, 46, 47, 48, 49, 50, 51, 52, 53, 54, 55, 56, 57, 58, 59, 60, 61, 62, 63, 64, 65, 66, 67, 68, 69, 70, 71, 72, 73, 74, 75, 76, 77, 78, 79, 80, 81, 82, 83, 84, 85, 86, 87, 88, 89, 90, 91, 92, 93, 94, 95, 96, 97, 98, 99, 100, 101, 102, 103, 104, 105, 106, 107, 108, 109, 110, 111, 112, 113, 114, 115, 116, 117, 118, 119, 120, 121, 122, 123, 124, 125, 126, 127, 128, 129, 130, 131, 132, 133, 134, 135, 136, 149, 150, 151, 152, 153, 154, 155, 156, 157, 158, 159, 160, 161, 162, 163, 164, 165, 166, 167, 168, 169, 170, 171, 172, 173, 174, 175] (by decide +kernel) (by decide +kernel)) (goodIn_sub (fun _ h => List.mem_cons_of_mem _ (List.mem_append_right _ h)) (by decide +kernel))
set_option maxRecDepth 20000 in
theorem gX6_segmentPremium_X6_startOfSegment : GoodIn wsX6_segmentPremium (wsV RX6 167 RX6 yX6_startOfSegment wsX6_startOfSegment) := goodIn_app (goodIn_of _ (by decide +kernel)) ggX6_segmentPremium_X6_startOfSegment
set_option maxRecDepth 20000 in
theorem ggX6_segmentPremium_X5_premiumOfSegmentFrom : GoodIn wsX6_segmentPremium wsX5_premiumOfSegmentFrom := goodIn_r _ [140, 141, 142, 143, 125, 144, 127, 120, 5, 121, 145, 146, 147, 148, 128, 174, 175] (by decide +kernel) (by decide +kernel)
set_option maxRecDepth 20000 in
theorem gX6_segmentPremium_X5_premiumOfSegmentFrom : GoodIn wsX6_segmentPremium (wsV RX6 171 RX5 yX5_premiumOfSegmentFrom wsX5_premiumOfSegmentFrom) := goodIn_app (goodIn_of _ (by decide +kernel)) ggX6_segmentPremium_X5_premiumOfSegmentFrom
theorem dX6_segmentPremium_0 : decode cX6_segmentPremium 0 = .ok (.aload_n 0, 1) := by decide +kernel
theorem dX6_segmentPremium_1 : decode cX6_segmentPremium 1 = .ok (.iload_n 3, 1) := by decide +kernel
theorem dX6_segmentPremium_2 : decode cX6_segmentPremium 2 = .ok (.invokevirtual 141, 3) := by decide +kernel
theorem dX6_segmentPremium_5 : decode cX6_segmentPremium 5 = .ok (.aload_n 0, 1) := by decide +kernel
theorem dX6_segmentPremium_6 : decode cX6_segmentPremium 6 = .ok (.getfield 36, 3) := by decide +kernel
theorem dX6_segmentPremium_9 : decode cX6_segmentPremium 9 = .ok (.aload_n 0, 1) := by decide +kernel
theorem dX6_segmentPremium_10 : decode cX6_segmentPremium 10 = .ok (.iload_n 1, 1) := by decide +kernel
theorem dX6_segmentPremium_11 : decode cX6_segmentPremium 11 = .ok (.iload_n 2, 1) := by decide +kernel
theorem dX6_segmentPremium_12 : decode cX6_segmentPremium 12 = .ok (.iload_n 3, 1) := by decide +kernel
theorem dX6_segmentPremium_13 : decode cX6_segmentPremium 13 = .ok (.invokevirtual 167, 3) := by decide +kernel
theorem dX6_segmentPremium_16 : decode cX6_segmentPremium 16 = .ok (.invokevirtual 171, 3) := by decide +kernel
theorem dX6_segmentPremium_19 : decode cX6_segmentPremium 19 = .ok (.ireturn, 1) := by decide +kernel
set_option maxRecDepth 20000 in
theorem ggX6_premium_X6_policyNumbered : GoodIn wsX6_premium wsX6_policyNumbered := goodIn_ca (goodIn_r _ [5, 6, 7, 8, 9, 10, 11, 12, 13, 14, 15, 16, 17, 18, 19, 20, 21, 22, 23, 24, 25, 26, 27, 28, 29, 30, 31, 32, 149, 150, 151, 152, 153, 154, 155, 156, 157] (by decide +kernel) (by decide +kernel)) (goodIn_sub (fun _ h => List.mem_cons_of_mem _ (List.mem_append_left _ (List.mem_append_right _ h))) (by decide +kernel))
set_option maxRecDepth 20000 in
theorem gX6_premium_X6_policyNumbered : GoodIn wsX6_premium (wsV RX6 84 RX6 yX6_policyNumbered wsX6_policyNumbered) := goodIn_app (goodIn_of _ (by decide +kernel)) ggX6_premium_X6_policyNumbered
set_option maxRecDepth 20000 in
theorem ggX6_premium_X6_demandKnown : GoodIn wsX6_premium wsX6_demandKnown := goodIn_ca (goodIn_r _ [36, 37, 38, 39, 4, 40, 41, 42, 149, 150, 151, 152, 153, 154] (by decide +kernel) (by decide +kernel)) (goodIn_sub (fun _ h => List.mem_cons_of_mem _ (List.mem_append_right _ h)) (by decide +kernel))
set_option maxRecDepth 20000 in
theorem gX6_premium_X6_demandKnown : GoodIn wsX6_premium (wsV RX6 141 RX6 yX6_demandKnown wsX6_demandKnown) := goodIn_app (goodIn_of _ (by decide +kernel)) ggX6_premium_X6_demandKnown
set_option maxRecDepth 20000 in
theorem ggX6_premium_X6_premiumBySegments : GoodIn wsX6_premium wsX6_premiumBySegments := goodIn_r _ [46, 47, 48, 49, 50, 4, 51, 52, 53, 54, 55, 56, 57, 58, 59, 60, 61, 62, 63, 64, 65, 66, 67, 68, 69, 70, 71, 72, 73, 74, 10, 11, 12, 13, 14, 15, 16, 17, 18, 19, 20, 21, 22, 23, 24, 25, 26, 27, 28, 29, 30, 31, 32, 75, 76, 77, 78, 79, 80, 81, 82, 83, 84, 85, 86, 87, 88, 89, 90, 91, 92, 93, 94, 95, 96, 97, 98, 99, 100, 101, 102, 103, 104, 105, 106, 107, 108, 109, 110, 111, 112, 113, 114, 115, 116, 117, 118, 119, 120, 121, 122, 123, 124, 125, 126, 127, 128, 129, 130, 131, 132, 133, 134, 135, 136, 137, 138, 139, 140, 141, 142, 143, 144, 145, 146, 147, 148, 149, 150, 151, 152, 153, 154, 158, 159, 160, 161, 162, 163, 164, 165, 166, 167, 168, 169, 170, 155, 156, 157, 171, 172, 173, 174, 175] (by decide +kernel) (by decide +kernel)
set_option maxRecDepth 20000 in
theorem gX6_premium_X6_premiumBySegments : GoodIn wsX6_premium (wsV RX6 174 RX6 yX6_premiumBySegments wsX6_premiumBySegments) := goodIn_app (goodIn_of _ (by decide +kernel)) ggX6_premium_X6_premiumBySegments
theorem dX6_premium_0 : decode cX6_premium 0 = .ok (.aload_n 0, 1) := by decide +kernel
theorem dX6_premium_1 : decode cX6_premium 1 = .ok (.iload_n 1, 1) := by decide +kernel
theorem dX6_premium_2 : decode cX6_premium 2 = .ok (.invokevirtual 84, 3) := by decide +kernel
theorem dX6_premium_5 : decode cX6_premium 5 = .ok (.astore_n 3, 1) := by decide +kernel
theorem dX6_premium_6 : decode cX6_premium 6 = .ok (.aload_n 0, 1) := by decide +kernel
theorem dX6_premium_7 : decode cX6_premium 7 = .ok (.iload_n 2, 1) := by decide +kernel
theorem dX6_premium_8 : decode cX6_premium 8 = .ok (.invokevirtual 141, 3) := by decide +kernel
theorem dX6_premium_11 : decode cX6_premium 11 = .ok (.aload_n 0, 1) := by decide +kernel
theorem dX6_premium_12 : decode cX6_premium 12 = .ok (.aload_n 3, 1) := by decide +kernel
theorem dX6_premium_13 : decode cX6_premium 13 = .ok (.iload_n 2, 1) := by decide +kernel
theorem dX6_premium_14 : decode cX6_premium 14 = .ok (.invokevirtual 174, 3) := by decide +kernel
theorem dX6_premium_17 : decode cX6_premium 17 = .ok (.ireturn, 1) := by decide +kernel
set_option maxRecDepth 20000 in
theorem ggX6_premiumByDays_X6_policyNumbered : GoodIn wsX6_premiumByDays wsX6_policyNumbered := goodIn_ca (goodIn_r _ [5, 6, 7, 8, 9, 10, 11, 12, 13, 14, 15, 16, 17, 18, 19, 20, 21, 22, 23, 24, 25, 26, 27, 28, 29, 30, 31, 32, 117, 118, 119, 120, 121, 122, 123, 124, 125] (by decide +kernel) (by decide +kernel)) (goodIn_sub (fun _ h => List.mem_cons_of_mem _ (List.mem_append_left _ (List.mem_append_right _ h))) (by decide +kernel))
set_option maxRecDepth 20000 in
theorem gX6_premiumByDays_X6_policyNumbered : GoodIn wsX6_premiumByDays (wsV RX6 84 RX6 yX6_policyNumbered wsX6_policyNumbered) := goodIn_app (goodIn_of _ (by decide +kernel)) ggX6_premiumByDays_X6_policyNumbered
set_option maxRecDepth 20000 in
theorem ggX6_premiumByDays_X6_demandKnown : GoodIn wsX6_premiumByDays wsX6_demandKnown := goodIn_ca (goodIn_r _ [36, 37, 38, 39, 4, 40, 41, 42, 117, 118, 119, 120, 121, 122] (by decide +kernel) (by decide +kernel)) (goodIn_sub (fun _ h => List.mem_cons_of_mem _ (List.mem_append_right _ h)) (by decide +kernel))
set_option maxRecDepth 20000 in
theorem gX6_premiumByDays_X6_demandKnown : GoodIn wsX6_premiumByDays (wsV RX6 141 RX6 yX6_demandKnown wsX6_demandKnown) := goodIn_app (goodIn_of _ (by decide +kernel)) ggX6_premiumByDays_X6_demandKnown
set_option maxRecDepth 20000 in
theorem ggX6_premiumByDays_X6_layVersion : GoodIn wsX6_premiumByDays wsX6_layVersion := goodIn_r _ [46, 47, 48, 49, 50, 51, 52, 53, 54, 55, 56, 57, 58, 59, 60, 61, 4, 62, 63, 64, 65, 66, 67, 68, 69, 10, 11, 12, 13, 14, 15, 16, 17, 18, 19, 20, 21, 22, 23, 24, 25, 26, 27, 28, 29, 30, 31, 32, 70, 71, 72, 73, 74, 75, 76, 77, 78, 79, 80, 81, 82, 83, 84, 85, 86, 87, 88, 89, 90, 91, 92, 93, 94, 95, 96, 97, 98, 99, 100, 117, 118, 119, 120, 121, 122, 126, 127, 128, 129, 130, 131, 132, 133, 134, 135, 136, 137, 138, 123, 124, 125] (by decide +kernel) (by decide +kernel)
set_option maxRecDepth 20000 in
theorem gX6_premiumByDays_X6_layVersion : GoodIn wsX6_premiumByDays (wsV RX6 144 RX6 yX6_layVersion wsX6_layVersion) := goodIn_app (goodIn_of _ (by decide +kernel)) ggX6_premiumByDays_X6_layVersion
set_option maxRecDepth 20000 in
theorem ggX6_premiumByDays_X6_rateOfVersion : GoodIn wsX6_premiumByDays wsX6_rateOfVersion := goodIn_r _ [104, 47, 105, 106, 107, 108, 98, 99, 51, 100, 53, 95, 4, 96, 109, 110, 111, 112, 113, 114, 115, 116, 117, 118, 119, 120, 121, 122, 126, 127, 128, 129, 130, 139, 140, 141] (by decide +kernel) (by decide +kernel)
set_option maxRecDepth 20000 in
theorem gX6_premiumByDays_X6_rateOfVersion : GoodIn wsX6_premiumByDays (wsV RX6 156 RX6 yX6_rateOfVersion wsX6_rateOfVersion) := goodIn_app (goodIn_of _ (by decide +kernel)) ggX6_premiumByDays_X6_rateOfVersion
theorem dX6_premiumByDays_0 : decode cX6_premiumByDays 0 = .ok (.aload_n 0, 1) := by decide +kernel
theorem dX6_premiumByDays_1 : decode cX6_premiumByDays 1 = .ok (.iload_n 1, 1) := by decide +kernel
theorem dX6_premiumByDays_2 : decode cX6_premiumByDays 2 = .ok (.invokevirtual 84, 3) := by decide +kernel
theorem dX6_premiumByDays_5 : decode cX6_premiumByDays 5 = .ok (.astore_n 3, 1) := by decide +kernel
theorem dX6_premiumByDays_6 : decode cX6_premiumByDays 6 = .ok (.aload_n 0, 1) := by decide +kernel
theorem dX6_premiumByDays_7 : decode cX6_premiumByDays 7 = .ok (.iload_n 2, 1) := by decide +kernel
theorem dX6_premiumByDays_8 : decode cX6_premiumByDays 8 = .ok (.invokevirtual 141, 3) := by decide +kernel
theorem dX6_premiumByDays_11 : decode cX6_premiumByDays 11 = .ok (.iconst 0, 1) := by decide +kernel
theorem dX6_premiumByDays_12 : decode cX6_premiumByDays 12 = .ok (.istore 4, 2) := by decide +kernel
theorem dX6_premiumByDays_14 : decode cX6_premiumByDays 14 = .ok (.iconst 0, 1) := by decide +kernel
theorem dX6_premiumByDays_15 : decode cX6_premiumByDays 15 = .ok (.istore 5, 2) := by decide +kernel
theorem dX6_premiumByDays_17 : decode cX6_premiumByDays 17 = .ok (.iload 5, 2) := by decide +kernel
theorem dX6_premiumByDays_19 : decode cX6_premiumByDays 19 = .ok (.sipush 365, 3) := by decide +kernel
theorem dX6_premiumByDays_22 : decode cX6_premiumByDays 22 = .ok (.if_icmp .ge 29, 3) := by decide +kernel
theorem dX6_premiumByDays_25 : decode cX6_premiumByDays 25 = .ok (.aload_n 0, 1) := by decide +kernel
theorem dX6_premiumByDays_26 : decode cX6_premiumByDays 26 = .ok (.aload_n 3, 1) := by decide +kernel
theorem dX6_premiumByDays_27 : decode cX6_premiumByDays 27 = .ok (.iload 5, 2) := by decide +kernel
theorem dX6_premiumByDays_29 : decode cX6_premiumByDays 29 = .ok (.iload_n 2, 1) := by decide +kernel
theorem dX6_premiumByDays_30 : decode cX6_premiumByDays 30 = .ok (.invokevirtual 144, 3) := by decide +kernel
theorem dX6_premiumByDays_33 : decode cX6_premiumByDays 33 = .ok (.iload 4, 2) := by decide +kernel
theorem dX6_premiumByDays_35 : decode cX6_premiumByDays 35 = .ok (.aload_n 0, 1) := by decide +kernel
theorem dX6_premiumByDays_36 : decode cX6_premiumByDays 36 = .ok (.aload_n 3, 1) := by decide +kernel
theorem dX6_premiumByDays_37 : decode cX6_premiumByDays 37 = .ok (.iload 5, 2) := by decide +kernel
theorem dX6_premiumByDays_39 : decode cX6_premiumByDays 39 = .ok (.invokevirtual 156, 3) := by decide +kernel
theorem dX6_premiumByDays_42 : decode cX6_premiumByDays 42 = .ok (.iadd, 1) := by decide +kernel
theorem dX6_premiumByDays_43 : decode cX6_premiumByDays 43 = .ok (.istore 4, 2) := by decide +kernel
theorem dX6_premiumByDays_45 : decode cX6_premiumByDays 45 = .ok (.iinc 5 1, 3) := by decide +kernel
theorem dX6_premiumByDays_48 : decode cX6_premiumByDays 48 = .ok (.goto (-31), 3) := by decide +kernel
theorem dX6_premiumByDays_51 : decode cX6_premiumByDays 51 = .ok (.iload 4, 2) := by decide +kernel
theorem dX6_premiumByDays_53 : decode cX6_premiumByDays 53 = .ok (.sipush 365, 3) := by decide +kernel
theorem dX6_premiumByDays_56 : decode cX6_premiumByDays 56 = .ok (.idiv, 1) := by decide +kernel
theorem dX6_premiumByDays_57 : decode cX6_premiumByDays 57 = .ok (.ireturn, 1) := by decide +kernel
set_option maxRecDepth 20000 in
theorem ggX6_bill_X6_policyNumbered : GoodIn wsX6_bill wsX6_policyNumbered := goodIn_ca (goodIn_r _ [7, 8, 9, 10, 11, 12, 13, 14, 15, 16, 17, 18, 19, 20, 21, 22, 23, 24, 25, 26, 27, 28, 29, 30, 31, 32, 33, 34, 141, 142, 143, 144, 145, 146, 150, 151, 152] (by decide +kernel) (by decide +kernel)) (goodIn_sub (fun _ h => List.mem_cons_of_mem _ (List.mem_append_right _ h)) (by decide +kernel))
set_option maxRecDepth 20000 in
theorem gX6_bill_X6_policyNumbered : GoodIn wsX6_bill (wsV RX6 84 RX6 yX6_policyNumbered wsX6_policyNumbered) := goodIn_app (goodIn_of _ (by decide +kernel)) ggX6_bill_X6_policyNumbered
set_option maxRecDepth 20000 in
theorem ggX6_bill_X6_premiumBySegments : GoodIn wsX6_bill wsX6_premiumBySegments := goodIn_r _ [38, 39, 40, 41, 42, 6, 43, 44, 45, 46, 47, 48, 49, 50, 51, 52, 53, 54, 55, 56, 57, 58, 59, 60, 61, 62, 63, 64, 65, 66, 12, 13, 14, 15, 16, 17, 18, 19, 20, 21, 22, 23, 24, 25, 26, 27, 28, 29, 30, 31, 32, 33, 34, 67, 68, 69, 70, 71, 72, 73, 74, 75, 76, 77, 78, 79, 80, 81, 82, 83, 84, 85, 86, 87, 88, 89, 90, 91, 92, 93, 94, 95, 96, 97, 98, 99, 100, 101, 102, 103, 104, 105, 106, 107, 108, 109, 110, 111, 112, 113, 114, 115, 116, 117, 118, 119, 120, 121, 122, 123, 124, 125, 126, 127, 128, 129, 130, 131, 132, 133, 134, 135, 136, 137, 138, 139, 140, 141, 142, 143, 144, 145, 146, 153, 154, 147, 148, 149, 155, 156, 157, 158, 159, 160, 161, 162, 150, 151, 152, 163, 164, 165, 166, 167] (by decide +kernel) (by decide +kernel)
set_option maxRecDepth 20000 in
theorem gX6_bill_X6_premiumBySegments : GoodIn wsX6_bill (wsV RX6 174 RX6 yX6_premiumBySegments wsX6_premiumBySegments) := goodIn_app (goodIn_of _ (by decide +kernel)) ggX6_bill_X6_premiumBySegments
theorem dX6_bill_0 : decode cX6_bill 0 = .ok (.aload_n 0, 1) := by decide +kernel
theorem dX6_bill_1 : decode cX6_bill 1 = .ok (.iload_n 1, 1) := by decide +kernel
theorem dX6_bill_2 : decode cX6_bill 2 = .ok (.invokevirtual 84, 3) := by decide +kernel
theorem dX6_bill_5 : decode cX6_bill 5 = .ok (.astore_n 2, 1) := by decide +kernel
theorem dX6_bill_6 : decode cX6_bill 6 = .ok (.aload_n 0, 1) := by decide +kernel
theorem dX6_bill_7 : decode cX6_bill 7 = .ok (.aload_n 2, 1) := by decide +kernel
theorem dX6_bill_8 : decode cX6_bill 8 = .ok (.aload_n 0, 1) := by decide +kernel
theorem dX6_bill_9 : decode cX6_bill 9 = .ok (.getfield 40, 3) := by decide +kernel
theorem dX6_bill_12 : decode cX6_bill 12 = .ok (.invokevirtual 174, 3) := by decide +kernel
theorem dX6_bill_15 : decode cX6_bill 15 = .ok (.aload_n 2, 1) := by decide +kernel
theorem dX6_bill_16 : decode cX6_bill 16 = .ok (.getfield 177, 3) := by decide +kernel
theorem dX6_bill_19 : decode cX6_bill 19 = .ok (.isub, 1) := by decide +kernel
theorem dX6_bill_20 : decode cX6_bill 20 = .ok (.istore_n 3, 1) := by decide +kernel
theorem dX6_bill_21 : decode cX6_bill 21 = .ok (.aload_n 2, 1) := by decide +kernel
theorem dX6_bill_22 : decode cX6_bill 22 = .ok (.dup, 1) := by decide +kernel
theorem dX6_bill_23 : decode cX6_bill 23 = .ok (.getfield 177, 3) := by decide +kernel
theorem dX6_bill_26 : decode cX6_bill 26 = .ok (.iload_n 3, 1) := by decide +kernel
theorem dX6_bill_27 : decode cX6_bill 27 = .ok (.iadd, 1) := by decide +kernel
theorem dX6_bill_28 : decode cX6_bill 28 = .ok (.putfield 177, 3) := by decide +kernel
theorem dX6_bill_31 : decode cX6_bill 31 = .ok (.iload_n 3, 1) := by decide +kernel
theorem dX6_bill_32 : decode cX6_bill 32 = .ok (.ireturn, 1) := by decide +kernel
set_option maxRecDepth 20000 in
theorem ggX6_billed_X6_policyNumbered : GoodIn wsX6_billed wsX6_policyNumbered := goodIn_ca (goodIn_r _ [6, 7, 8, 9, 10, 11, 12, 13, 14, 15, 16, 17, 18, 19, 20, 21, 22, 23, 24, 25, 26, 27, 28, 29, 30, 31, 32, 33, 37, 38, 39, 40, 41, 42, 43, 44, 45] (by decide +kernel) (by decide +kernel)) (goodIn_sub (fun _ h => List.mem_cons_of_mem _ (List.mem_append_right _ h)) (by decide +kernel))
set_option maxRecDepth 20000 in
theorem gX6_billed_X6_policyNumbered : GoodIn wsX6_billed (wsV RX6 84 RX6 yX6_policyNumbered wsX6_policyNumbered) := goodIn_app (goodIn_of _ (by decide +kernel)) ggX6_billed_X6_policyNumbered
theorem dX6_billed_0 : decode cX6_billed 0 = .ok (.aload_n 0, 1) := by decide +kernel
theorem dX6_billed_1 : decode cX6_billed 1 = .ok (.iload_n 1, 1) := by decide +kernel
theorem dX6_billed_2 : decode cX6_billed 2 = .ok (.invokevirtual 84, 3) := by decide +kernel
theorem dX6_billed_5 : decode cX6_billed 5 = .ok (.getfield 177, 3) := by decide +kernel
theorem dX6_billed_8 : decode cX6_billed 8 = .ok (.ireturn, 1) := by decide +kernel
theorem dX6_demandWithin_0 : decode cX6_demandWithin 0 = .ok (.iload_n 0, 1) := by decide +kernel
theorem dX6_demandWithin_1 : decode cX6_demandWithin 1 = .ok (.iload_n 1, 1) := by decide +kernel
theorem dX6_demandWithin_2 : decode cX6_demandWithin 2 = .ok (.if_icmp .lt 8, 3) := by decide +kernel
theorem dX6_demandWithin_5 : decode cX6_demandWithin 5 = .ok (.iload_n 0, 1) := by decide +kernel
theorem dX6_demandWithin_6 : decode cX6_demandWithin 6 = .ok (.iload_n 2, 1) := by decide +kernel
theorem dX6_demandWithin_7 : decode cX6_demandWithin 7 = .ok (.if_icmp .le 13, 3) := by decide +kernel
theorem dX6_demandWithin_10 : decode cX6_demandWithin 10 = .ok (.new 180, 3) := by decide +kernel
theorem dX6_demandWithin_13 : decode cX6_demandWithin 13 = .ok (.dup, 1) := by decide +kernel
theorem dX6_demandWithin_14 : decode cX6_demandWithin 14 = .ok (.ldc 182, 2) := by decide +kernel
theorem dX6_demandWithin_16 : decode cX6_demandWithin 16 = .ok (.invokespecial 184, 3) := by decide +kernel
theorem dX6_demandWithin_19 : decode cX6_demandWithin 19 = .ok (.athrow, 1) := by decide +kernel
theorem dX6_demandWithin_20 : decode cX6_demandWithin 20 = .ok (.return_, 1) := by decide +kernel
set_option maxRecDepth 20000 in
theorem ggX6_demandDay_X6_demandWithin : GoodIn wsX6_demandDay wsX6_demandWithin := goodIn_ca (goodIn_r _ [4, 5, 6] (by decide +kernel) (by decide +kernel)) (goodIn_sub (fun _ h => List.mem_cons_of_mem _ (List.mem_append_right _ h)) (by decide +kernel))
set_option maxRecDepth 20000 in
theorem gX6_demandDay_X6_demandWithin : GoodIn wsX6_demandDay (va_wsS RX6 44 yX6_demandWithin wsX6_demandWithin) := goodIn_app (goodIn_of _ (by decide +kernel)) ggX6_demandDay_X6_demandWithin
theorem dX6_demandDay_0 : decode cX6_demandDay 0 = .ok (.iload_n 0, 1) := by decide +kernel
theorem dX6_demandDay_1 : decode cX6_demandDay 1 = .ok (.iconst 0, 1) := by decide +kernel
theorem dX6_demandDay_2 : decode cX6_demandDay 2 = .ok (.sipush 364, 3) := by decide +kernel
theorem dX6_demandDay_5 : decode cX6_demandDay 5 = .ok (.invokestatic 44, 3) := by decide +kernel
theorem dX6_demandDay_8 : decode cX6_demandDay 8 = .ok (.return_, 1) := by decide +kernel
set_option maxRecDepth 20000 in
theorem ggX6_demandKnown_X6_demandWithin : GoodIn wsX6_demandKnown wsX6_demandWithin := goodIn_ca (goodIn_r _ [5, 6, 7] (by decide +kernel) (by decide +kernel)) (goodIn_sub (fun _ h => List.mem_cons_of_mem _ (List.mem_append_right _ h)) (by decide +kernel))
set_option maxRecDepth 20000 in
theorem gX6_demandKnown_X6_demandWithin : GoodIn wsX6_demandKnown (va_wsS RX6 44 yX6_demandWithin wsX6_demandWithin) := goodIn_app (goodIn_of _ (by decide +kernel)) ggX6_demandKnown_X6_demandWithin
theorem dX6_demandKnown_0 : decode cX6_demandKnown 0 = .ok (.iload_n 1, 1) := by decide +kernel
theorem dX6_demandKnown_1 : decode cX6_demandKnown 1 = .ok (.iconst 0, 1) := by decide +kernel
theorem dX6_demandKnown_2 : decode cX6_demandKnown 2 = .ok (.aload_n 0, 1) := by decide +kernel
theorem dX6_demandKnown_3 : decode cX6_demandKnown 3 = .ok (.getfield 40, 3) := by decide +kernel
theorem dX6_demandKnown_6 : decode cX6_demandKnown 6 = .ok (.invokestatic 44, 3) := by decide +kernel
theorem dX6_demandKnown_9 : decode cX6_demandKnown 9 = .ok (.return_, 1) := by decide +kernel
set_option maxRecDepth 20000 in
theorem ggX6_demandField_X6_isField : GoodIn wsX6_demandField wsX6_isField := goodIn_r _ [6] (by decide +kernel) (by decide +kernel)
set_option maxRecDepth 20000 in
theorem gX6_demandField_X6_isField : GoodIn wsX6_demandField (va_wsS RX6 185 yX6_isField wsX6_isField) := goodIn_app (goodIn_of _ (by decide +kernel)) ggX6_demandField_X6_isField
theorem dX6_demandField_0 : decode cX6_demandField 0 = .ok (.iload_n 0, 1) := by decide +kernel
theorem dX6_demandField_1 : decode cX6_demandField 1 = .ok (.invokestatic 185, 3) := by decide +kernel
theorem dX6_demandField_4 : decode cX6_demandField 4 = .ok (.ifCond .ne 13, 3) := by decide +kernel
theorem dX6_demandField_7 : decode cX6_demandField 7 = .ok (.new 188, 3) := by decide +kernel
theorem dX6_demandField_10 : decode cX6_demandField 10 = .ok (.dup, 1) := by decide +kernel
theorem dX6_demandField_11 : decode cX6_demandField 11 = .ok (.ldc 190, 2) := by decide +kernel
theorem dX6_demandField_13 : decode cX6_demandField 13 = .ok (.invokespecial 192, 3) := by decide +kernel
theorem dX6_demandField_16 : decode cX6_demandField 16 = .ok (.athrow, 1) := by decide +kernel
theorem dX6_demandField_17 : decode cX6_demandField 17 = .ok (.return_, 1) := by decide +kernel
theorem dX6_isField_0 : decode cX6_isField 0 = .ok (.iload_n 0, 1) := by decide +kernel
theorem dX6_isField_1 : decode cX6_isField 1 = .ok (.ifCond .lt 12, 3) := by decide +kernel
theorem dX6_isField_4 : decode cX6_isField 4 = .ok (.iload_n 0, 1) := by decide +kernel
theorem dX6_isField_5 : decode cX6_isField 5 = .ok (.iconst 3, 1) := by decide +kernel
theorem dX6_isField_6 : decode cX6_isField 6 = .ok (.if_icmp .ge 7, 3) := by decide +kernel
theorem dX6_isField_9 : decode cX6_isField 9 = .ok (.iconst 1, 1) := by decide +kernel
theorem dX6_isField_10 : decode cX6_isField 10 = .ok (.goto 4, 3) := by decide +kernel
theorem dX6_isField_13 : decode cX6_isField 13 = .ok (.iconst 0, 1) := by decide +kernel
theorem dX6_isField_14 : decode cX6_isField 14 = .ok (.ireturn, 1) := by decide +kernel
theorem dX6_isDay_0 : decode cX6_isDay 0 = .ok (.iload_n 0, 1) := by decide +kernel
theorem dX6_isDay_1 : decode cX6_isDay 1 = .ok (.ifCond .lt 14, 3) := by decide +kernel
theorem dX6_isDay_4 : decode cX6_isDay 4 = .ok (.iload_n 0, 1) := by decide +kernel
theorem dX6_isDay_5 : decode cX6_isDay 5 = .ok (.sipush 365, 3) := by decide +kernel
theorem dX6_isDay_8 : decode cX6_isDay 8 = .ok (.if_icmp .ge 7, 3) := by decide +kernel
theorem dX6_isDay_11 : decode cX6_isDay 11 = .ok (.iconst 1, 1) := by decide +kernel
theorem dX6_isDay_12 : decode cX6_isDay 12 = .ok (.goto 4, 3) := by decide +kernel
theorem dX6_isDay_15 : decode cX6_isDay 15 = .ok (.iconst 0, 1) := by decide +kernel
theorem dX6_isDay_16 : decode cX6_isDay 16 = .ok (.ireturn, 1) := by decide +kernel
set_option maxRecDepth 20000 in
theorem ggX6_policyNumbered_Jx4a65c_size_8abf5 : GoodIn wsX6_policyNumbered wsJx4a65c_size_8abf5 := goodIn_r _ [9, 10, 34, 35, 36] (by decide +kernel) (by decide +kernel)
set_option maxRecDepth 20000 in
theorem gX6_policyNumbered_Jx4a65c_size_8abf5_f48Jx4a65c : GoodIn wsX6_policyNumbered (va_wsF RX6 48 RJx4a65c ⟨"java/util/List", "size", "()I"⟩ yJx4a65c_size_8abf5 wsJx4a65c_size_8abf5) := goodIn_app (goodIn_of _ (by decide +kernel)) ggX6_policyNumbered_Jx4a65c_size_8abf5
set_option maxRecDepth 20000 in
theorem ggX6_policyNumbered_Jx4a65c_get_915e3 : GoodIn wsX6_policyNumbered wsJx4a65c_get_915e3 := goodIn_r _ [14, 10, 15, 16, 17, 18, 19, 20, 21, 22, 23, 24, 25, 8, 26, 27, 34, 35, 36] (by decide +kernel) (by decide +kernel)
set_option maxRecDepth 20000 in
theorem gX6_policyNumbered_Jx4a65c_get_915e3_f127Jx4a65c : GoodIn wsX6_policyNumbered (va_wsF RX6 127 RJx4a65c ⟨"java/util/List", "get", "(I)Ljava/lang/Object;"⟩ yJx4a65c_get_915e3 wsJx4a65c_get_915e3) := goodIn_app (goodIn_of _ (by decide +kernel)) ggX6_policyNumbered_Jx4a65c_get_915e3
theorem dX6_policyNumbered_0 : decode cX6_policyNumbered 0 = .ok (.iload_n 1, 1) := by decide +kernel
theorem dX6_policyNumbered_1 : decode cX6_policyNumbered 1 = .ok (.ifCond .lt 16, 3) := by decide +kernel
theorem dX6_policyNumbered_4 : decode cX6_policyNumbered 4 = .ok (.iload_n 1, 1) := by decide +kernel
theorem dX6_policyNumbered_5 : decode cX6_policyNumbered 5 = .ok (.aload_n 0, 1) := by decide +kernel
theorem dX6_policyNumbered_6 : decode cX6_policyNumbered 6 = .ok (.getfield 10, 3) := by decide +kernel
theorem dX6_policyNumbered_9 : decode cX6_policyNumbered 9 = .ok (.invokeinterface 48 1, 5) := by decide +kernel
theorem dX6_policyNumbered_14 : decode cX6_policyNumbered 14 = .ok (.if_icmp .lt 13, 3) := by decide +kernel
theorem dX6_policyNumbered_17 : decode cX6_policyNumbered 17 = .ok (.new 188, 3) := by decide +kernel
theorem dX6_policyNumbered_20 : decode cX6_policyNumbered 20 = .ok (.dup, 1) := by decide +kernel
theorem dX6_policyNumbered_21 : decode cX6_policyNumbered 21 = .ok (.ldc 193, 2) := by decide +kernel
theorem dX6_policyNumbered_23 : decode cX6_policyNumbered 23 = .ok (.invokespecial 192, 3) := by decide +kernel
theorem dX6_policyNumbered_26 : decode cX6_policyNumbered 26 = .ok (.athrow, 1) := by decide +kernel
theorem dX6_policyNumbered_27 : decode cX6_policyNumbered 27 = .ok (.aload_n 0, 1) := by decide +kernel
theorem dX6_policyNumbered_28 : decode cX6_policyNumbered 28 = .ok (.getfield 10, 3) := by decide +kernel
theorem dX6_policyNumbered_31 : decode cX6_policyNumbered 31 = .ok (.iload_n 1, 1) := by decide +kernel
theorem dX6_policyNumbered_32 : decode cX6_policyNumbered 32 = .ok (.invokeinterface 127 2, 5) := by decide +kernel
theorem dX6_policyNumbered_37 : decode cX6_policyNumbered 37 = .ok (.checkcast 61, 3) := by decide +kernel
theorem dX6_policyNumbered_40 : decode cX6_policyNumbered 40 = .ok (.areturn, 1) := by decide +kernel
set_option maxRecDepth 20000 in
theorem ggX6_changeNumbered_Jx4a65c_size_8abf5 : GoodIn wsX6_changeNumbered wsJx4a65c_size_8abf5 := goodIn_r _ [9, 10, 34, 35, 36] (by decide +kernel) (by decide +kernel)
set_option maxRecDepth 20000 in
theorem gX6_changeNumbered_Jx4a65c_size_8abf5_f48Jx4a65c : GoodIn wsX6_changeNumbered (va_wsF RX6 48 RJx4a65c ⟨"java/util/List", "size", "()I"⟩ yJx4a65c_size_8abf5 wsJx4a65c_size_8abf5) := goodIn_app (goodIn_of _ (by decide +kernel)) ggX6_changeNumbered_Jx4a65c_size_8abf5
set_option maxRecDepth 20000 in
theorem ggX6_changeNumbered_Jx4a65c_get_915e3 : GoodIn wsX6_changeNumbered wsJx4a65c_get_915e3 := goodIn_r _ [14, 10, 15, 16, 17, 18, 19, 20, 21, 22, 23, 24, 25, 8, 26, 27, 34, 35, 36] (by decide +kernel) (by decide +kernel)
set_option maxRecDepth 20000 in
theorem gX6_changeNumbered_Jx4a65c_get_915e3_f127Jx4a65c : GoodIn wsX6_changeNumbered (va_wsF RX6 127 RJx4a65c ⟨"java/util/List", "get", "(I)Ljava/lang/Object;"⟩ yJx4a65c_get_915e3 wsJx4a65c_get_915e3) := goodIn_app (goodIn_of _ (by decide +kernel)) ggX6_changeNumbered_Jx4a65c_get_915e3
theorem dX6_changeNumbered_0 : decode cX6_changeNumbered 0 = .ok (.iload_n 1, 1) := by decide +kernel
theorem dX6_changeNumbered_1 : decode cX6_changeNumbered 1 = .ok (.ifCond .lt 16, 3) := by decide +kernel
theorem dX6_changeNumbered_4 : decode cX6_changeNumbered 4 = .ok (.iload_n 1, 1) := by decide +kernel
theorem dX6_changeNumbered_5 : decode cX6_changeNumbered 5 = .ok (.aload_n 0, 1) := by decide +kernel
theorem dX6_changeNumbered_6 : decode cX6_changeNumbered 6 = .ok (.getfield 16, 3) := by decide +kernel
theorem dX6_changeNumbered_9 : decode cX6_changeNumbered 9 = .ok (.invokeinterface 48 1, 5) := by decide +kernel
theorem dX6_changeNumbered_14 : decode cX6_changeNumbered 14 = .ok (.if_icmp .lt 13, 3) := by decide +kernel
theorem dX6_changeNumbered_17 : decode cX6_changeNumbered 17 = .ok (.new 188, 3) := by decide +kernel
theorem dX6_changeNumbered_20 : decode cX6_changeNumbered 20 = .ok (.dup, 1) := by decide +kernel
theorem dX6_changeNumbered_21 : decode cX6_changeNumbered 21 = .ok (.ldc 195, 2) := by decide +kernel
theorem dX6_changeNumbered_23 : decode cX6_changeNumbered 23 = .ok (.invokespecial 192, 3) := by decide +kernel
theorem dX6_changeNumbered_26 : decode cX6_changeNumbered 26 = .ok (.athrow, 1) := by decide +kernel
theorem dX6_changeNumbered_27 : decode cX6_changeNumbered 27 = .ok (.aload_n 0, 1) := by decide +kernel
theorem dX6_changeNumbered_28 : decode cX6_changeNumbered 28 = .ok (.getfield 16, 3) := by decide +kernel
theorem dX6_changeNumbered_31 : decode cX6_changeNumbered 31 = .ok (.iload_n 1, 1) := by decide +kernel
theorem dX6_changeNumbered_32 : decode cX6_changeNumbered 32 = .ok (.invokeinterface 127 2, 5) := by decide +kernel
theorem dX6_changeNumbered_37 : decode cX6_changeNumbered 37 = .ok (.checkcast 111, 3) := by decide +kernel
theorem dX6_changeNumbered_40 : decode cX6_changeNumbered 40 = .ok (.areturn, 1) := by decide +kernel
set_option maxRecDepth 20000 in
theorem ggX6_tell_Jx4a65c_size_8abf5 : GoodIn wsX6_tell wsJx4a65c_size_8abf5 := goodIn_r _ [13, 14, 131, 132, 133] (by decide +kernel) (by decide +kernel)
set_option maxRecDepth 20000 in
theorem gX6_tell_Jx4a65c_size_8abf5_f48Jx4a65c : GoodIn wsX6_tell (va_wsF RX6 48 RJx4a65c ⟨"java/util/List", "size", "()I"⟩ yJx4a65c_size_8abf5 wsJx4a65c_size_8abf5) := goodIn_app (goodIn_of _ (by decide +kernel)) ggX6_tell_Jx4a65c_size_8abf5
set_option maxRecDepth 20000 in
theorem ggX6_tell_X0_init : GoodIn wsX6_tell wsX0_init := goodIn_r _ [17, 18, 19, 20, 21, 22, 23, 24, 25, 26, 27, 28, 123, 124, 125, 126, 127, 128, 129, 130] (by decide +kernel) (by decide +kernel)
set_option maxRecDepth 20000 in
theorem gX6_tell_X0_init : GoodIn wsX6_tell (wsX0_init) := ggX6_tell_X0_init
set_option maxRecDepth 20000 in
theorem ggX6_tell_Jx4a65c_add_9ea2d : GoodIn wsX6_tell wsJx4a65c_add_9ea2d := goodIn_r _ [32, 33, 34, 35, 14, 36, 37, 38, 12, 39, 40, 41, 42, 43, 44, 45, 46, 47, 48, 49, 50, 51, 52, 53, 54, 55, 56, 57, 58, 59, 60, 61, 62, 63, 64, 65, 66, 67, 68, 69, 70, 71, 72, 73, 74, 75, 76, 77, 78, 79, 80, 81, 82, 131, 132, 133] (by decide +kernel) (by decide +kernel)
set_option maxRecDepth 20000 in
theorem gX6_tell_Jx4a65c_add_9ea2d_f66Jx4a65c : GoodIn wsX6_tell (va_wsF RX6 66 RJx4a65c ⟨"java/util/List", "add", "(Ljava/lang/Object;)Z"⟩ yJx4a65c_add_9ea2d wsJx4a65c_add_9ea2d) := goodIn_app (goodIn_of _ (by decide +kernel)) ggX6_tell_Jx4a65c_add_9ea2d
set_option maxRecDepth 20000 in
theorem ggX6_tell_X2_putInOrder : GoodIn wsX6_tell wsX2_putInOrder := goodIn_r _ [87, 88, 89, 90, 91, 10, 11, 12, 13, 14, 92, 93, 94, 95, 96, 97, 98, 99, 100, 101, 102, 103, 104, 105, 106, 107, 35, 108, 109, 110, 111, 33, 34, 112, 80, 81, 82, 113, 114, 115, 116, 40, 41, 42, 43, 44, 45, 46, 47, 48, 49, 50, 51, 52, 53, 54, 55, 56, 57, 58, 59, 60, 61, 62, 63, 64, 65, 66, 67, 68, 69, 70, 71, 72, 73, 74, 75, 76, 77, 78, 79, 134, 135, 136, 123, 124, 125, 126, 127, 128, 129, 130, 131, 132, 133] (by decide +kernel) (by decide +kernel)
set_option maxRecDepth 20000 in
theorem gX6_tell_X2_putInOrder : GoodIn wsX6_tell (wsV RX6 202 RX2 yX2_putInOrder wsX2_putInOrder) := goodIn_app (goodIn_of _ (by decide +kernel)) ggX6_tell_X2_putInOrder
theorem dX6_tell_0 : decode cX6_tell 0 = .ok (.aload_n 0, 1) := by decide +kernel
theorem dX6_tell_1 : decode cX6_tell 1 = .ok (.getfield 16, 3) := by decide +kernel
theorem dX6_tell_4 : decode cX6_tell 4 = .ok (.invokeinterface 48 1, 5) := by decide +kernel
theorem dX6_tell_9 : decode cX6_tell 9 = .ok (.bipush 60, 2) := by decide +kernel
theorem dX6_tell_11 : decode cX6_tell 11 = .ok (.if_icmp .lt 13, 3) := by decide +kernel
theorem dX6_tell_14 : decode cX6_tell 14 = .ok (.new 54, 3) := by decide +kernel
theorem dX6_tell_17 : decode cX6_tell 17 = .ok (.dup, 1) := by decide +kernel
theorem dX6_tell_18 : decode cX6_tell 18 = .ok (.ldc 197, 2) := by decide +kernel
theorem dX6_tell_20 : decode cX6_tell 20 = .ok (.invokespecial 58, 3) := by decide +kernel
theorem dX6_tell_23 : decode cX6_tell 23 = .ok (.athrow, 1) := by decide +kernel
theorem dX6_tell_24 : decode cX6_tell 24 = .ok (.new 111, 3) := by decide +kernel
theorem dX6_tell_27 : decode cX6_tell 27 = .ok (.dup, 1) := by decide +kernel
theorem dX6_tell_28 : decode cX6_tell 28 = .ok (.aload_n 0, 1) := by decide +kernel
theorem dX6_tell_29 : decode cX6_tell 29 = .ok (.getfield 16, 3) := by decide +kernel
theorem dX6_tell_32 : decode cX6_tell 32 = .ok (.invokeinterface 48 1, 5) := by decide +kernel
theorem dX6_tell_37 : decode cX6_tell 37 = .ok (.aload_n 1, 1) := by decide +kernel
theorem dX6_tell_38 : decode cX6_tell 38 = .ok (.aload_n 2, 1) := by decide +kernel
theorem dX6_tell_39 : decode cX6_tell 39 = .ok (.iload_n 3, 1) := by decide +kernel
theorem dX6_tell_40 : decode cX6_tell 40 = .ok (.iload 4, 2) := by decide +kernel
theorem dX6_tell_42 : decode cX6_tell 42 = .ok (.iload 5, 2) := by decide +kernel
theorem dX6_tell_44 : decode cX6_tell 44 = .ok (.aload_n 0, 1) := by decide +kernel
theorem dX6_tell_45 : decode cX6_tell 45 = .ok (.getfield 40, 3) := by decide +kernel
theorem dX6_tell_48 : decode cX6_tell 48 = .ok (.invokespecial 199, 3) := by decide +kernel
theorem dX6_tell_51 : decode cX6_tell 51 = .ok (.astore 6, 2) := by decide +kernel
theorem dX6_tell_53 : decode cX6_tell 53 = .ok (.aload_n 0, 1) := by decide +kernel
theorem dX6_tell_54 : decode cX6_tell 54 = .ok (.getfield 16, 3) := by decide +kernel
theorem dX6_tell_57 : decode cX6_tell 57 = .ok (.aload 6, 2) := by decide +kernel
theorem dX6_tell_59 : decode cX6_tell 59 = .ok (.invokeinterface 66 2, 5) := by decide +kernel
theorem dX6_tell_64 : decode cX6_tell 64 = .ok (.pop, 1) := by decide +kernel
theorem dX6_tell_65 : decode cX6_tell 65 = .ok (.aload_n 1, 1) := by decide +kernel
theorem dX6_tell_66 : decode cX6_tell 66 = .ok (.aload 6, 2) := by decide +kernel
theorem dX6_tell_68 : decode cX6_tell 68 = .ok (.invokevirtual 202, 3) := by decide +kernel
theorem dX6_tell_71 : decode cX6_tell 71 = .ok (.aload 6, 2) := by decide +kernel
theorem dX6_tell_73 : decode cX6_tell 73 = .ok (.getfield 131, 3) := by decide +kernel
theorem dX6_tell_76 : decode cX6_tell 76 = .ok (.ireturn, 1) := by decide +kernel
set_option maxRecDepth 20000 in
theorem ggX6_layVersion_X4_begin : GoodIn wsX6_layVersion wsX4_begin := goodIn_r _ [6, 7, 8, 9, 10, 11, 12, 85, 86] (by decide +kernel) (by decide +kernel)
set_option maxRecDepth 20000 in
theorem gX6_layVersion_X4_begin : GoodIn wsX6_layVersion (wsV RX6 206 RX4 yX4_begin wsX4_begin) := goodIn_app (goodIn_of _ (by decide +kernel)) ggX6_layVersion_X4_begin
set_option maxRecDepth 20000 in
theorem ggX6_layVersion_X6_layInFrom : GoodIn wsX6_layVersion wsX6_layInFrom := goodIn_r _ [17, 18, 19, 20, 21, 22, 23, 24, 1, 25, 26, 27, 28, 29, 30, 31, 32, 33, 34, 35, 36, 37, 38, 39, 40, 41, 42, 43, 44, 45, 46, 47, 48, 49, 50, 51, 52, 53, 54, 55, 56, 57, 5, 58, 59, 60, 61, 62, 63, 64, 65, 66, 67, 68, 8, 69, 70, 71, 72, 7, 73, 16, 74, 75, 76, 77, 78, 87, 88, 89, 90, 91, 92, 93, 94, 95, 96, 97, 79, 80, 81, 82, 83, 84, 98, 99, 100, 85, 86] (by decide +kernel) (by decide +kernel)
set_option maxRecDepth 20000 in
theorem gX6_layVersion_X6_layInFrom : GoodIn wsX6_layVersion (wsV RX6 209 RX6 yX6_layInFrom wsX6_layInFrom) := goodIn_app (goodIn_of _ (by decide +kernel)) ggX6_layVersion_X6_layInFrom
theorem dX6_layVersion_0 : decode cX6_layVersion 0 = .ok (.aload_n 0, 1) := by decide +kernel
theorem dX6_layVersion_1 : decode cX6_layVersion 1 = .ok (.getfield 29, 3) := by decide +kernel
theorem dX6_layVersion_4 : decode cX6_layVersion 4 = .ok (.invokevirtual 206, 3) := by decide +kernel
theorem dX6_layVersion_7 : decode cX6_layVersion 7 = .ok (.aload_n 0, 1) := by decide +kernel
theorem dX6_layVersion_8 : decode cX6_layVersion 8 = .ok (.aload_n 1, 1) := by decide +kernel
theorem dX6_layVersion_9 : decode cX6_layVersion 9 = .ok (.iconst 0, 1) := by decide +kernel
theorem dX6_layVersion_10 : decode cX6_layVersion 10 = .ok (.iload_n 2, 1) := by decide +kernel
theorem dX6_layVersion_11 : decode cX6_layVersion 11 = .ok (.iload_n 3, 1) := by decide +kernel
theorem dX6_layVersion_12 : decode cX6_layVersion 12 = .ok (.invokevirtual 209, 3) := by decide +kernel
theorem dX6_layVersion_15 : decode cX6_layVersion 15 = .ok (.pop, 1) := by decide +kernel
theorem dX6_layVersion_16 : decode cX6_layVersion 16 = .ok (.return_, 1) := by decide +kernel
set_option maxRecDepth 20000 in
theorem ggX6_layInFrom_Jx4a65c_size_8abf5 : GoodIn wsX6_layInFrom wsJx4a65c_size_8abf5 := goodIn_r _ [13, 14, 84, 85, 86] (by decide +kernel) (by decide +kernel)
set_option maxRecDepth 20000 in
theorem gX6_layInFrom_Jx4a65c_size_8abf5_f48Jx4a65c : GoodIn wsX6_layInFrom (va_wsF RX6 48 RJx4a65c ⟨"java/util/List", "size", "()I"⟩ yJx4a65c_size_8abf5 wsJx4a65c_size_8abf5) := goodIn_app (goodIn_of _ (by decide +kernel)) ggX6_layInFrom_Jx4a65c_size_8abf5
set_option maxRecDepth 20000 in
theorem ggX6_layInFrom_Jx4a65c_get_915e3 : GoodIn wsX6_layInFrom wsJx4a65c_get_915e3 := goodIn_r _ [18, 14, 19, 20, 21, 22, 23, 24, 25, 26, 27, 28, 29, 12, 30, 31, 84, 85, 86] (by decide +kernel) (by decide +kernel)
set_option maxRecDepth 20000 in
theorem gX6_layInFrom_Jx4a65c_get_915e3_f127Jx4a65c : GoodIn wsX6_layInFrom (va_wsF RX6 127 RJx4a65c ⟨"java/util/List", "get", "(I)Ljava/lang/Object;"⟩ yJx4a65c_get_915e3 wsJx4a65c_get_915e3) := goodIn_app (goodIn_of _ (by decide +kernel)) ggX6_layInFrom_Jx4a65c_get_915e3
set_option maxRecDepth 20000 in
theorem ggX6_layInFrom_X0_isKnownOn : GoodIn wsX6_layInFrom wsX0_isKnownOn := goodIn_r _ [36, 37, 38, 70, 71, 72, 73, 74, 75, 76, 77] (by decide +kernel) (by decide +kernel)
set_option maxRecDepth 20000 in
theorem gX6_layInFrom_X0_isKnownOn : GoodIn wsX6_layInFrom (wsV RX6 137 RX0 yX0_isKnownOn wsX0_isKnownOn) := goodIn_app (goodIn_of _ (by decide +kernel)) ggX6_layInFrom_X0_isKnownOn
set_option maxRecDepth 20000 in
theorem ggX6_layInFrom_X4_layIn : GoodIn wsX6_layInFrom wsX4_layIn := goodIn_r _ [43, 44, 45, 46, 47, 48, 49, 3, 4, 5, 50, 51, 52, 53, 54, 55, 56, 57, 42, 58, 59, 60, 61, 62, 63, 64, 65, 66, 70, 71, 72, 73, 74, 75, 76, 77, 87, 88] (by decide +kernel) (by decide +kernel)
set_option maxRecDepth 20000 in
theorem gX6_layInFrom_X4_layIn : GoodIn wsX6_layInFrom (wsV RX6 219 RX4 yX4_layIn wsX4_layIn) := goodIn_app (goodIn_of _ (by decide +kernel)) ggX6_layInFrom_X4_layIn
theorem dX6_layInFrom_0 : decode cX6_layInFrom 0 = .ok (.aload_n 1, 1) := by decide +kernel
theorem dX6_layInFrom_1 : decode cX6_layInFrom 1 = .ok (.getfield 124, 3) := by decide +kernel
theorem dX6_layInFrom_4 : decode cX6_layInFrom 4 = .ok (.astore 5, 2) := by decide +kernel
theorem dX6_layInFrom_6 : decode cX6_layInFrom 6 = .ok (.iload_n 2, 1) := by decide +kernel
theorem dX6_layInFrom_7 : decode cX6_layInFrom 7 = .ok (.iconst 0, 1) := by decide +kernel
theorem dX6_layInFrom_8 : decode cX6_layInFrom 8 = .ok (.invokestatic 213, 3) := by decide +kernel
theorem dX6_layInFrom_11 : decode cX6_layInFrom 11 = .ok (.istore 6, 2) := by decide +kernel
theorem dX6_layInFrom_13 : decode cX6_layInFrom 13 = .ok (.iload 6, 2) := by decide +kernel
theorem dX6_layInFrom_15 : decode cX6_layInFrom 15 = .ok (.aload 5, 2) := by decide +kernel
theorem dX6_layInFrom_17 : decode cX6_layInFrom 17 = .ok (.invokeinterface 48 1, 5) := by decide +kernel
theorem dX6_layInFrom_22 : decode cX6_layInFrom 22 = .ok (.if_icmp .ge 61, 3) := by decide +kernel
theorem dX6_layInFrom_25 : decode cX6_layInFrom 25 = .ok (.aload 5, 2) := by decide +kernel
theorem dX6_layInFrom_27 : decode cX6_layInFrom 27 = .ok (.iload 6, 2) := by decide +kernel
theorem dX6_layInFrom_29 : decode cX6_layInFrom 29 = .ok (.invokeinterface 127 2, 5) := by decide +kernel
theorem dX6_layInFrom_34 : decode cX6_layInFrom 34 = .ok (.checkcast 111, 3) := by decide +kernel
theorem dX6_layInFrom_37 : decode cX6_layInFrom 37 = .ok (.getfield 134, 3) := by decide +kernel
theorem dX6_layInFrom_40 : decode cX6_layInFrom 40 = .ok (.iload_n 3, 1) := by decide +kernel
theorem dX6_layInFrom_41 : decode cX6_layInFrom 41 = .ok (.if_icmp .gt 42, 3) := by decide +kernel
theorem dX6_layInFrom_44 : decode cX6_layInFrom 44 = .ok (.aload 5, 2) := by decide +kernel
theorem dX6_layInFrom_46 : decode cX6_layInFrom 46 = .ok (.iload 6, 2) := by decide +kernel
theorem dX6_layInFrom_48 : decode cX6_layInFrom 48 = .ok (.invokeinterface 127 2, 5) := by decide +kernel
theorem dX6_layInFrom_53 : decode cX6_layInFrom 53 = .ok (.checkcast 111, 3) := by decide +kernel
theorem dX6_layInFrom_56 : decode cX6_layInFrom 56 = .ok (.astore 7, 2) := by decide +kernel
theorem dX6_layInFrom_58 : decode cX6_layInFrom 58 = .ok (.aload 7, 2) := by decide +kernel
theorem dX6_layInFrom_60 : decode cX6_layInFrom 60 = .ok (.iload 4, 2) := by decide +kernel
theorem dX6_layInFrom_62 : decode cX6_layInFrom 62 = .ok (.invokevirtual 137, 3) := by decide +kernel
theorem dX6_layInFrom_65 : decode cX6_layInFrom 65 = .ok (.ifCond .eq 12, 3) := by decide +kernel
theorem dX6_layInFrom_68 : decode cX6_layInFrom 68 = .ok (.aload_n 0, 1) := by decide +kernel
theorem dX6_layInFrom_69 : decode cX6_layInFrom 69 = .ok (.getfield 29, 3) := by decide +kernel
theorem dX6_layInFrom_72 : decode cX6_layInFrom 72 = .ok (.aload 7, 2) := by decide +kernel
theorem dX6_layInFrom_74 : decode cX6_layInFrom 74 = .ok (.invokevirtual 219, 3) := by decide +kernel
theorem dX6_layInFrom_77 : decode cX6_layInFrom 77 = .ok (.iinc 6 1, 3) := by decide +kernel
theorem dX6_layInFrom_80 : decode cX6_layInFrom 80 = .ok (.goto (-67), 3) := by decide +kernel
theorem dX6_layInFrom_83 : decode cX6_layInFrom 83 = .ok (.iload 6, 2) := by decide +kernel
theorem dX6_layInFrom_85 : decode cX6_layInFrom 85 = .ok (.ireturn, 1) := by decide +kernel
set_option maxRecDepth 20000 in
theorem ggX6_rateOfVersion_X4_valueOf : GoodIn wsX6_rateOfVersion wsX4_valueOf := goodIn_r _ [9, 10, 11, 12, 13, 28, 29] (by decide +kernel) (by decide +kernel)
set_option maxRecDepth 20000 in
theorem gX6_rateOfVersion_X4_valueOf : GoodIn wsX6_rateOfVersion (wsV RX6 148 RX4 yX4_valueOf wsX4_valueOf) := goodIn_app (goodIn_of _ (by decide +kernel)) ggX6_rateOfVersion_X4_valueOf
set_option maxRecDepth 20000 in
theorem ggX6_rateOfVersion_X3_weightOn : GoodIn wsX6_rateOfVersion wsX3_weightOn := goodIn_r _ [18, 19, 11, 12, 13, 20, 21, 33, 34, 35] (by decide +kernel) (by decide +kernel)
set_option maxRecDepth 20000 in
theorem gX6_rateOfVersion_X3_weightOn : GoodIn wsX6_rateOfVersion (wsV RX6 225 RX3 yX3_weightOn wsX3_weightOn) := goodIn_app (goodIn_of _ (by decide +kernel)) ggX6_rateOfVersion_X3_weightOn
theorem dX6_rateOfVersion_0 : decode cX6_rateOfVersion 0 = .ok (.aload_n 0, 1) := by decide +kernel
theorem dX6_rateOfVersion_1 : decode cX6_rateOfVersion 1 = .ok (.getfield 29, 3) := by decide +kernel
theorem dX6_rateOfVersion_4 : decode cX6_rateOfVersion 4 = .ok (.getfield 152, 3) := by decide +kernel
theorem dX6_rateOfVersion_7 : decode cX6_rateOfVersion 7 = .ok (.ifCond .ne 5, 3) := by decide +kernel
theorem dX6_rateOfVersion_10 : decode cX6_rateOfVersion 10 = .ok (.iconst 0, 1) := by decide +kernel
theorem dX6_rateOfVersion_11 : decode cX6_rateOfVersion 11 = .ok (.ireturn, 1) := by decide +kernel
theorem dX6_rateOfVersion_12 : decode cX6_rateOfVersion 12 = .ok (.aload_n 1, 1) := by decide +kernel
theorem dX6_rateOfVersion_13 : decode cX6_rateOfVersion 13 = .ok (.getfield 222, 3) := by decide +kernel
theorem dX6_rateOfVersion_16 : decode cX6_rateOfVersion 16 = .ok (.istore_n 3, 1) := by decide +kernel
theorem dX6_rateOfVersion_17 : decode cX6_rateOfVersion 17 = .ok (.iconst 0, 1) := by decide +kernel
theorem dX6_rateOfVersion_18 : decode cX6_rateOfVersion 18 = .ok (.istore 4, 2) := by decide +kernel
theorem dX6_rateOfVersion_20 : decode cX6_rateOfVersion 20 = .ok (.iload 4, 2) := by decide +kernel
theorem dX6_rateOfVersion_22 : decode cX6_rateOfVersion 22 = .ok (.iconst 3, 1) := by decide +kernel
theorem dX6_rateOfVersion_23 : decode cX6_rateOfVersion 23 = .ok (.if_icmp .ge 32, 3) := by decide +kernel
theorem dX6_rateOfVersion_26 : decode cX6_rateOfVersion 26 = .ok (.iload_n 3, 1) := by decide +kernel
theorem dX6_rateOfVersion_27 : decode cX6_rateOfVersion 27 = .ok (.aload_n 0, 1) := by decide +kernel
theorem dX6_rateOfVersion_28 : decode cX6_rateOfVersion 28 = .ok (.getfield 29, 3) := by decide +kernel
theorem dX6_rateOfVersion_31 : decode cX6_rateOfVersion 31 = .ok (.iload 4, 2) := by decide +kernel
theorem dX6_rateOfVersion_33 : decode cX6_rateOfVersion 33 = .ok (.invokevirtual 148, 3) := by decide +kernel
theorem dX6_rateOfVersion_36 : decode cX6_rateOfVersion 36 = .ok (.aload_n 0, 1) := by decide +kernel
theorem dX6_rateOfVersion_37 : decode cX6_rateOfVersion 37 = .ok (.getfield 22, 3) := by decide +kernel
theorem dX6_rateOfVersion_40 : decode cX6_rateOfVersion 40 = .ok (.iload 4, 2) := by decide +kernel
theorem dX6_rateOfVersion_42 : decode cX6_rateOfVersion 42 = .ok (.iload_n 2, 1) := by decide +kernel
theorem dX6_rateOfVersion_43 : decode cX6_rateOfVersion 43 = .ok (.invokevirtual 225, 3) := by decide +kernel
theorem dX6_rateOfVersion_46 : decode cX6_rateOfVersion 46 = .ok (.imul, 1) := by decide +kernel
theorem dX6_rateOfVersion_47 : decode cX6_rateOfVersion 47 = .ok (.iadd, 1) := by decide +kernel
theorem dX6_rateOfVersion_48 : decode cX6_rateOfVersion 48 = .ok (.istore_n 3, 1) := by decide +kernel
theorem dX6_rateOfVersion_49 : decode cX6_rateOfVersion 49 = .ok (.iinc 4 1, 3) := by decide +kernel
theorem dX6_rateOfVersion_52 : decode cX6_rateOfVersion 52 = .ok (.goto (-32), 3) := by decide +kernel
theorem dX6_rateOfVersion_55 : decode cX6_rateOfVersion 55 = .ok (.iload_n 3, 1) := by decide +kernel
theorem dX6_rateOfVersion_56 : decode cX6_rateOfVersion 56 = .ok (.ireturn, 1) := by decide +kernel
set_option maxRecDepth 20000 in
theorem ggX6_layYear_X4_begin : GoodIn wsX6_layYear wsX4_begin := goodIn_r _ [7, 8, 9, 10, 11, 12, 13, 109, 110] (by decide +kernel) (by decide +kernel)
set_option maxRecDepth 20000 in
theorem gX6_layYear_X4_begin : GoodIn wsX6_layYear (wsV RX6 206 RX4 yX4_begin wsX4_begin) := goodIn_app (goodIn_of _ (by decide +kernel)) ggX6_layYear_X4_begin
set_option maxRecDepth 20000 in
theorem ggX6_layYear_X6_layInFrom : GoodIn wsX6_layYear wsX6_layInFrom := goodIn_r _ [18, 19, 20, 21, 22, 23, 24, 25, 1, 26, 27, 28, 29, 30, 31, 32, 33, 34, 35, 36, 37, 38, 39, 40, 41, 42, 43, 44, 45, 46, 47, 48, 49, 50, 51, 52, 53, 54, 55, 56, 57, 58, 6, 59, 60, 61, 62, 63, 64, 65, 66, 67, 68, 69, 9, 70, 71, 72, 73, 8, 74, 17, 75, 76, 77, 78, 79, 111, 112, 113, 114, 115, 116, 117, 118, 119, 120, 121, 103, 104, 105, 106, 107, 108, 122, 123, 124, 109, 110] (by decide +kernel) (by decide +kernel)
set_option maxRecDepth 20000 in
theorem gX6_layYear_X6_layInFrom : GoodIn wsX6_layYear (wsV RX6 209 RX6 yX6_layInFrom wsX6_layInFrom) := goodIn_app (goodIn_of _ (by decide +kernel)) ggX6_layYear_X6_layInFrom
set_option maxRecDepth 20000 in
theorem ggX6_layYear_X6_rateOfVersion : GoodIn wsX6_layYear wsX6_rateOfVersion := goodIn_r _ [83, 1, 84, 85, 86, 87, 77, 78, 6, 79, 8, 74, 17, 75, 88, 89, 90, 91, 92, 93, 94, 95, 103, 104, 105, 106, 107, 108, 109, 110, 111, 112, 113, 125, 126, 127] (by decide +kernel) (by decide +kernel)
set_option maxRecDepth 20000 in
theorem gX6_layYear_X6_rateOfVersion : GoodIn wsX6_layYear (wsV RX6 156 RX6 yX6_rateOfVersion wsX6_rateOfVersion) := goodIn_app (goodIn_of _ (by decide +kernel)) ggX6_layYear_X6_rateOfVersion
set_option maxRecDepth 20000 in
theorem ggX6_layYear_X5_putRate : GoodIn wsX6_layYear wsX5_putRate := goodIn_r _ [100, 101, 102, 94, 17, 95, 128, 129] (by decide +kernel) (by decide +kernel)
set_option maxRecDepth 20000 in
theorem gX6_layYear_X5_putRate : GoodIn wsX6_layYear (wsV RX6 228 RX5 yX5_putRate wsX5_putRate) := goodIn_app (goodIn_of _ (by decide +kernel)) ggX6_layYear_X5_putRate
theorem dX6_layYear_0 : decode cX6_layYear 0 = .ok (.aload_n 0, 1) := by decide +kernel
theorem dX6_layYear_1 : decode cX6_layYear 1 = .ok (.getfield 29, 3) := by decide +kernel
theorem dX6_layYear_4 : decode cX6_layYear 4 = .ok (.invokevirtual 206, 3) := by decide +kernel
theorem dX6_layYear_7 : decode cX6_layYear 7 = .ok (.iconst 0, 1) := by decide +kernel
theorem dX6_layYear_8 : decode cX6_layYear 8 = .ok (.istore_n 3, 1) := by decide +kernel
theorem dX6_layYear_9 : decode cX6_layYear 9 = .ok (.iconst 0, 1) := by decide +kernel
theorem dX6_layYear_10 : decode cX6_layYear 10 = .ok (.istore 4, 2) := by decide +kernel
theorem dX6_layYear_12 : decode cX6_layYear 12 = .ok (.iload 4, 2) := by decide +kernel
theorem dX6_layYear_14 : decode cX6_layYear 14 = .ok (.sipush 365, 3) := by decide +kernel
theorem dX6_layYear_17 : decode cX6_layYear 17 = .ok (.if_icmp .ge 35, 3) := by decide +kernel
theorem dX6_layYear_20 : decode cX6_layYear 20 = .ok (.aload_n 0, 1) := by decide +kernel
theorem dX6_layYear_21 : decode cX6_layYear 21 = .ok (.aload_n 1, 1) := by decide +kernel
theorem dX6_layYear_22 : decode cX6_layYear 22 = .ok (.iload_n 3, 1) := by decide +kernel
theorem dX6_layYear_23 : decode cX6_layYear 23 = .ok (.iload 4, 2) := by decide +kernel
theorem dX6_layYear_25 : decode cX6_layYear 25 = .ok (.iload_n 2, 1) := by decide +kernel
theorem dX6_layYear_26 : decode cX6_layYear 26 = .ok (.invokevirtual 209, 3) := by decide +kernel
theorem dX6_layYear_29 : decode cX6_layYear 29 = .ok (.istore_n 3, 1) := by decide +kernel
theorem dX6_layYear_30 : decode cX6_layYear 30 = .ok (.aload_n 0, 1) := by decide +kernel
theorem dX6_layYear_31 : decode cX6_layYear 31 = .ok (.getfield 36, 3) := by decide +kernel
theorem dX6_layYear_34 : decode cX6_layYear 34 = .ok (.iload 4, 2) := by decide +kernel
theorem dX6_layYear_36 : decode cX6_layYear 36 = .ok (.aload_n 0, 1) := by decide +kernel
theorem dX6_layYear_37 : decode cX6_layYear 37 = .ok (.aload_n 1, 1) := by decide +kernel
theorem dX6_layYear_38 : decode cX6_layYear 38 = .ok (.iload 4, 2) := by decide +kernel
theorem dX6_layYear_40 : decode cX6_layYear 40 = .ok (.invokevirtual 156, 3) := by decide +kernel
theorem dX6_layYear_43 : decode cX6_layYear 43 = .ok (.invokevirtual 228, 3) := by decide +kernel
theorem dX6_layYear_46 : decode cX6_layYear 46 = .ok (.iinc 4 1, 3) := by decide +kernel
theorem dX6_layYear_49 : decode cX6_layYear 49 = .ok (.goto (-37), 3) := by decide +kernel
theorem dX6_layYear_52 : decode cX6_layYear 52 = .ok (.return_, 1) := by decide +kernel
set_option maxRecDepth 20000 in
theorem ggX6_startOfSegment_X6_policyNumbered : GoodIn wsX6_startOfSegment wsX6_policyNumbered := goodIn_ca (goodIn_r _ [8, 1, 2, 9, 10, 11, 12, 13, 14, 15, 16, 17, 18, 19, 20, 21, 22, 23, 24, 25, 26, 27, 28, 29, 30, 31, 32, 33, 123, 124, 125, 126, 127, 128, 129, 130, 131] (by decide +kernel) (by decide +kernel)) (goodIn_sub (fun _ h => List.mem_cons_of_mem _ (List.mem_append_right _ h)) (by decide +kernel))
set_option maxRecDepth 20000 in
theorem gX6_startOfSegment_X6_policyNumbered : GoodIn wsX6_startOfSegment (wsV RX6 84 RX6 yX6_policyNumbered wsX6_policyNumbered) := goodIn_app (goodIn_of _ (by decide +kernel)) ggX6_startOfSegment_X6_policyNumbered
set_option maxRecDepth 20000 in
theorem ggX6_startOfSegment_X6_layYear : GoodIn wsX6_startOfSegment wsX6_layYear := goodIn_r _ [37, 38, 3, 39, 40, 41, 42, 43, 44, 45, 46, 47, 48, 49, 50, 51, 52, 7, 53, 54, 55, 56, 57, 58, 59, 60, 11, 12, 13, 14, 15, 16, 17, 18, 19, 20, 21, 22, 23, 24, 25, 26, 27, 28, 29, 30, 31, 32, 33, 61, 62, 63, 64, 65, 66, 67, 68, 69, 70, 71, 72, 73, 74, 75, 76, 77, 78, 79, 80, 81, 82, 83, 84, 85, 86, 87, 88, 89, 90, 91, 92, 93, 94, 95, 96, 97, 98, 99, 100, 101, 102, 103, 104, 105, 106, 107, 108, 109, 110, 111, 112, 113, 114, 123, 124, 125, 126, 127, 128, 132, 133, 134, 135, 136, 137, 138, 139, 140, 141, 142, 143, 144, 129, 130, 131, 145, 146, 147, 148, 149] (by decide +kernel) (by decide +kernel)
set_option maxRecDepth 20000 in
theorem gX6_startOfSegment_X6_layYear : GoodIn wsX6_startOfSegment (wsV RX6 160 RX6 yX6_layYear wsX6_layYear) := goodIn_app (goodIn_of _ (by decide +kernel)) ggX6_startOfSegment_X6_layYear
set_option maxRecDepth 20000 in
theorem ggX6_startOfSegment_X5_startOf : GoodIn wsX6_startOfSegment wsX5_startOf := goodIn_r _ [118, 119, 120, 121, 111, 122, 113, 106, 7, 107, 148, 149] (by decide +kernel) (by decide +kernel)
set_option maxRecDepth 20000 in
theorem gX6_startOfSegment_X5_startOf : GoodIn wsX6_startOfSegment (wsV RX6 232 RX5 yX5_startOf wsX5_startOf) := goodIn_app (goodIn_of _ (by decide +kernel)) ggX6_startOfSegment_X5_startOf
theorem dX6_startOfSegment_0 : decode cX6_startOfSegment 0 = .ok (.aload_n 0, 1) := by decide +kernel
theorem dX6_startOfSegment_1 : decode cX6_startOfSegment 1 = .ok (.aload_n 0, 1) := by decide +kernel
theorem dX6_startOfSegment_2 : decode cX6_startOfSegment 2 = .ok (.iload_n 1, 1) := by decide +kernel
theorem dX6_startOfSegment_3 : decode cX6_startOfSegment 3 = .ok (.invokevirtual 84, 3) := by decide +kernel
theorem dX6_startOfSegment_6 : decode cX6_startOfSegment 6 = .ok (.iload_n 3, 1) := by decide +kernel
theorem dX6_startOfSegment_7 : decode cX6_startOfSegment 7 = .ok (.invokevirtual 160, 3) := by decide +kernel
theorem dX6_startOfSegment_10 : decode cX6_startOfSegment 10 = .ok (.aload_n 0, 1) := by decide +kernel
theorem dX6_startOfSegment_11 : decode cX6_startOfSegment 11 = .ok (.getfield 36, 3) := by decide +kernel
theorem dX6_startOfSegment_14 : decode cX6_startOfSegment 14 = .ok (.iload_n 2, 1) := by decide +kernel
theorem dX6_startOfSegment_15 : decode cX6_startOfSegment 15 = .ok (.invokevirtual 232, 3) := by decide +kernel
theorem dX6_startOfSegment_18 : decode cX6_startOfSegment 18 = .ok (.istore 4, 2) := by decide +kernel
theorem dX6_startOfSegment_20 : decode cX6_startOfSegment 20 = .ok (.iload 4, 2) := by decide +kernel
theorem dX6_startOfSegment_22 : decode cX6_startOfSegment 22 = .ok (.iconst (-1), 1) := by decide +kernel
theorem dX6_startOfSegment_23 : decode cX6_startOfSegment 23 = .ok (.if_icmp .ne 13, 3) := by decide +kernel
theorem dX6_startOfSegment_26 : decode cX6_startOfSegment 26 = .ok (.new 188, 3) := by decide +kernel
theorem dX6_startOfSegment_29 : decode cX6_startOfSegment 29 = .ok (.dup, 1) := by decide +kernel
theorem dX6_startOfSegment_30 : decode cX6_startOfSegment 30 = .ok (.ldc 235, 2) := by decide +kernel
theorem dX6_startOfSegment_32 : decode cX6_startOfSegment 32 = .ok (.invokespecial 192, 3) := by decide +kernel
theorem dX6_startOfSegment_35 : decode cX6_startOfSegment 35 = .ok (.athrow, 1) := by decide +kernel
theorem dX6_startOfSegment_36 : decode cX6_startOfSegment 36 = .ok (.iload 4, 2) := by decide +kernel
theorem dX6_startOfSegment_38 : decode cX6_startOfSegment 38 = .ok (.ireturn, 1) := by decide +kernel
set_option maxRecDepth 20000 in
theorem ggX6_premiumBySegments_X6_layYear : GoodIn wsX6_premiumBySegments wsX6_layYear := goodIn_r _ [6, 7, 1, 8, 9, 10, 11, 12, 13, 14, 15, 16, 17, 18, 19, 20, 21, 5, 22, 23, 24, 25, 26, 27, 28, 29, 30, 31, 32, 33, 34, 35, 36, 37, 38, 39, 40, 41, 42, 43, 44, 45, 46, 47, 48, 49, 50, 51, 52, 53, 54, 55, 56, 57, 58, 59, 60, 61, 62, 63, 64, 65, 66, 67, 68, 69, 70, 71, 72, 73, 74, 75, 76, 77, 78, 79, 80, 81, 82, 83, 84, 85, 86, 87, 88, 89, 90, 91, 92, 93, 94, 95, 96, 97, 98, 99, 100, 101, 102, 103, 104, 105, 106, 127, 128, 129, 130, 131, 132, 133, 134, 135, 136, 137, 138, 139, 140, 141, 142, 143, 144, 145, 146, 147, 148, 149, 150, 151, 152, 153] (by decide +kernel) (by decide +kernel)
set_option maxRecDepth 20000 in
theorem gX6_premiumBySegments_X6_layYear : GoodIn wsX6_premiumBySegments (wsV RX6 160 RX6 yX6_layYear wsX6_layYear) := goodIn_app (goodIn_of _ (by decide +kernel)) ggX6_premiumBySegments_X6_layYear
set_option maxRecDepth 20000 in
theorem ggX6_premiumBySegments_X5_sumOfPremiums : GoodIn wsX6_premiumBySegments wsX5_sumOfPremiums := goodIn_r _ [110, 111, 112, 113, 103, 114, 105, 98, 5, 99, 115, 116, 117, 118, 119, 120, 121, 122, 123, 124, 125, 126, 106, 152, 153] (by decide +kernel) (by decide +kernel)
set_option maxRecDepth 20000 in
theorem gX6_premiumBySegments_X5_sumOfPremiums : GoodIn wsX6_premiumBySegments (wsV RX6 237 RX5 yX5_sumOfPremiums wsX5_sumOfPremiums) := goodIn_app (goodIn_of _ (by decide +kernel)) ggX6_premiumBySegments_X5_sumOfPremiums
theorem dX6_premiumBySegments_0 : decode cX6_premiumBySegments 0 = .ok (.aload_n 0, 1) := by decide +kernel
theorem dX6_premiumBySegments_1 : decode cX6_premiumBySegments 1 = .ok (.aload_n 1, 1) := by decide +kernel
theorem dX6_premiumBySegments_2 : decode cX6_premiumBySegments 2 = .ok (.iload_n 2, 1) := by decide +kernel
theorem dX6_premiumBySegments_3 : decode cX6_premiumBySegments 3 = .ok (.invokevirtual 160, 3) := by decide +kernel
theorem dX6_premiumBySegments_6 : decode cX6_premiumBySegments 6 = .ok (.aload_n 0, 1) := by decide +kernel
theorem dX6_premiumBySegments_7 : decode cX6_premiumBySegments 7 = .ok (.getfield 36, 3) := by decide +kernel
theorem dX6_premiumBySegments_10 : decode cX6_premiumBySegments 10 = .ok (.invokevirtual 237, 3) := by decide +kernel
theorem dX6_premiumBySegments_13 : decode cX6_premiumBySegments 13 = .ok (.ireturn, 1) := by decide +kernel
