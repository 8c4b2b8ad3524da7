theorem dX2_merge_7 : decode cX2_merge 7 = .ok (.aload_n 0, 1) := by decide +kernel
theorem dX2_merge_8 : decode cX2_merge 8 = .ok (.iload_n 2, 1) := by decide +kernel
theorem dX2_merge_9 : decode cX2_merge 9 = .ok (.invokevirtual 38, 3) := by decide +kernel
theorem dX2_merge_12 : decode cX2_merge 12 = .ok (.invokevirtual 96, 3) := by decide +kernel
theorem dX2_merge_15 : decode cX2_merge 15 = .ok (.invokestatic 100, 3) := by decide +kernel
theorem dX2_merge_18 : decode cX2_merge 18 = .ok (.ireturn, 1) := by decide +kernel
set_option maxRecDepth 20000 in
theorem ggX2_group_X2_deltaAt : GoodIn wsX2_group wsX2_deltaAt := goodIn_ca (goodIn_r _ [6, 7, 8, 9, 56, 57, 58, 59, 60, 61] (by decide +kernel) (by decide +kernel)) (goodIn_sub (fun _ h => List.mem_cons_of_mem _ (List.mem_append_left _ (List.mem_append_right _ h))) (by decide +kernel))
set_option maxRecDepth 20000 in
theorem gX2_group_X2_deltaAt : GoodIn wsX2_group (wsV RX2 93 RX2 yX2_deltaAt wsX2_deltaAt) := goodIn_app (goodIn_of _ (by decide +kernel)) ggX2_group_X2_deltaAt
set_option maxRecDepth 20000 in
theorem ggX2_group_X2_openDelta : GoodIn wsX2_group wsX2_openDelta := goodIn_ca (goodIn_r _ [13, 14, 15, 1, 9, 16, 17, 18, 19, 20, 21, 22, 23, 24, 25, 26, 27, 28, 29, 30, 56, 57, 58, 59, 60, 61, 62, 63, 64, 65, 66] (by decide +kernel) (by decide +kernel)) (goodIn_sub (fun _ h => List.mem_cons_of_mem _ (List.mem_append_right _ h)) (by decide +kernel))
set_option maxRecDepth 20000 in
theorem gX2_group_X2_openDelta : GoodIn wsX2_group (wsV RX2 57 RX2 yX2_openDelta wsX2_openDelta) := goodIn_app (goodIn_of _ (by decide +kernel)) ggX2_group_X2_openDelta
set_option maxRecDepth 20000 in
theorem ggX2_group_X1_become : GoodIn wsX2_group wsX1_become := goodIn_r _ [34, 25, 35, 36, 37, 38, 26, 28, 29, 30, 62, 63, 64, 65, 66] (by decide +kernel) (by decide +kernel)
set_option maxRecDepth 20000 in
theorem gX2_group_X1_become : GoodIn wsX2_group (wsV RX2 104 RX1 yX1_become wsX1_become) := goodIn_app (goodIn_of _ (by decide +kernel)) ggX2_group_X1_become
set_option maxRecDepth 20000 in
theorem ggX2_group_X1_take : GoodIn wsX2_group wsX1_take := goodIn_r _ [42, 43, 44, 45, 18, 46, 26, 25, 47, 48, 49, 50, 51, 29, 30, 52, 53, 54, 55, 28, 62, 63, 64, 65, 66] (by decide +kernel) (by decide +kernel)
set_option maxRecDepth 20000 in
theorem gX2_group_X1_take : GoodIn wsX2_group (wsV RX2 96 RX1 yX1_take wsX1_take) := goodIn_app (goodIn_of _ (by decide +kernel)) ggX2_group_X1_take
theorem dX2_group_0 : decode cX2_group 0 = .ok (.aload_n 0, 1) := by decide +kernel
theorem dX2_group_1 : decode cX2_group 1 = .ok (.iload_n 1, 1) := by decide +kernel
theorem dX2_group_2 : decode cX2_group 2 = .ok (.invokevirtual 93, 3) := by decide +kernel
theorem dX2_group_5 : decode cX2_group 5 = .ok (.astore_n 3, 1) := by decide +kernel
theorem dX2_group_6 : decode cX2_group 6 = .ok (.aload_n 0, 1) := by decide +kernel
theorem dX2_group_7 : decode cX2_group 7 = .ok (.iload_n 2, 1) := by decide +kernel
theorem dX2_group_8 : decode cX2_group 8 = .ok (.invokevirtual 93, 3) := by decide +kernel
theorem dX2_group_11 : decode cX2_group 11 = .ok (.astore 4, 2) := by decide +kernel
theorem dX2_group_13 : decode cX2_group 13 = .ok (.aload_n 0, 1) := by decide +kernel
theorem dX2_group_14 : decode cX2_group 14 = .ok (.invokevirtual 57, 3) := by decide +kernel
theorem dX2_group_17 : decode cX2_group 17 = .ok (.astore 5, 2) := by decide +kernel
theorem dX2_group_19 : decode cX2_group 19 = .ok (.aload 5, 2) := by decide +kernel
theorem dX2_group_21 : decode cX2_group 21 = .ok (.aload_n 3, 1) := by decide +kernel
theorem dX2_group_22 : decode cX2_group 22 = .ok (.invokevirtual 104, 3) := by decide +kernel
theorem dX2_group_25 : decode cX2_group 25 = .ok (.aload 5, 2) := by decide +kernel
theorem dX2_group_27 : decode cX2_group 27 = .ok (.aload 4, 2) := by decide +kernel
theorem dX2_group_29 : decode cX2_group 29 = .ok (.invokevirtual 96, 3) := by decide +kernel
theorem dX2_group_32 : decode cX2_group 32 = .ok (.pop, 1) := by decide +kernel
theorem dX2_group_33 : decode cX2_group 33 = .ok (.aload_n 0, 1) := by decide +kernel
theorem dX2_group_34 : decode cX2_group 34 = .ok (.getfield 34, 3) := by decide +kernel
theorem dX2_group_37 : decode cX2_group 37 = .ok (.iconst 1, 1) := by decide +kernel
theorem dX2_group_38 : decode cX2_group 38 = .ok (.isub, 1) := by decide +kernel
theorem dX2_group_39 : decode cX2_group 39 = .ok (.ireturn, 1) := by decide +kernel
set_option maxRecDepth 20000 in
theorem ggX2_whole_X2_replicaAt : GoodIn wsX2_whole wsX2_replicaAt := goodIn_ca (goodIn_r _ [6, 7, 8, 9, 40, 41, 42, 43, 44, 45] (by decide +kernel) (by decide +kernel)) (goodIn_sub (fun _ h => List.mem_cons_of_mem _ (List.mem_append_left _ (List.mem_append_right _ h))) (by decide +kernel))
set_option maxRecDepth 20000 in
theorem gX2_whole_X2_replicaAt : GoodIn wsX2_whole (wsV RX2 38 RX2 yX2_replicaAt wsX2_replicaAt) := goodIn_app (goodIn_of _ (by decide +kernel)) ggX2_whole_X2_replicaAt
set_option maxRecDepth 20000 in
theorem ggX2_whole_X2_openDelta : GoodIn wsX2_whole wsX2_openDelta := goodIn_ca (goodIn_r _ [13, 14, 15, 1, 16, 17, 18, 19, 20, 21, 22, 23, 24, 25, 26, 27, 28, 29, 30, 31, 40, 41, 42, 43, 44, 45, 46, 47, 48, 49, 50] (by decide +kernel) (by decide +kernel)) (goodIn_sub (fun _ h => List.mem_cons_of_mem _ (List.mem_append_right _ h)) (by decide +kernel))
set_option maxRecDepth 20000 in
theorem gX2_whole_X2_openDelta : GoodIn wsX2_whole (wsV RX2 57 RX2 yX2_openDelta wsX2_openDelta) := goodIn_app (goodIn_of _ (by decide +kernel)) ggX2_whole_X2_openDelta
set_option maxRecDepth 20000 in
theorem ggX2_whole_X1_become : GoodIn wsX2_whole wsX1_become := goodIn_r _ [35, 26, 36, 37, 38, 39, 27, 29, 30, 31, 46, 47, 48, 49, 50] (by decide +kernel) (by decide +kernel)
set_option maxRecDepth 20000 in
theorem gX2_whole_X1_become : GoodIn wsX2_whole (wsV RX2 104 RX1 yX1_become wsX1_become) := goodIn_app (goodIn_of _ (by decide +kernel)) ggX2_whole_X1_become
theorem dX2_whole_0 : decode cX2_whole 0 = .ok (.aload_n 0, 1) := by decide +kernel
theorem dX2_whole_1 : decode cX2_whole 1 = .ok (.iload_n 1, 1) := by decide +kernel
theorem dX2_whole_2 : decode cX2_whole 2 = .ok (.invokevirtual 38, 3) := by decide +kernel
theorem dX2_whole_5 : decode cX2_whole 5 = .ok (.astore_n 2, 1) := by decide +kernel
theorem dX2_whole_6 : decode cX2_whole 6 = .ok (.aload_n 0, 1) := by decide +kernel
theorem dX2_whole_7 : decode cX2_whole 7 = .ok (.invokevirtual 57, 3) := by decide +kernel
theorem dX2_whole_10 : decode cX2_whole 10 = .ok (.aload_n 2, 1) := by decide +kernel
theorem dX2_whole_11 : decode cX2_whole 11 = .ok (.invokevirtual 104, 3) := by decide +kernel
theorem dX2_whole_14 : decode cX2_whole 14 = .ok (.aload_n 0, 1) := by decide +kernel
theorem dX2_whole_15 : decode cX2_whole 15 = .ok (.getfield 34, 3) := by decide +kernel
theorem dX2_whole_18 : decode cX2_whole 18 = .ok (.iconst 1, 1) := by decide +kernel
theorem dX2_whole_19 : decode cX2_whole 19 = .ok (.isub, 1) := by decide +kernel
theorem dX2_whole_20 : decode cX2_whole 20 = .ok (.ireturn, 1) := by decide +kernel
theorem dX2_deltas_0 : decode cX2_deltas 0 = .ok (.aload_n 0, 1) := by decide +kernel
theorem dX2_deltas_1 : decode cX2_deltas 1 = .ok (.getfield 34, 3) := by decide +kernel
theorem dX2_deltas_4 : decode cX2_deltas 4 = .ok (.ireturn, 1) := by decide +kernel
set_option maxRecDepth 20000 in
theorem ggX2_has_X2_replicaAt : GoodIn wsX2_has wsX2_replicaAt := goodIn_ca (goodIn_r _ [7, 8, 9, 10, 28, 29, 30, 31, 32, 33] (by decide +kernel) (by decide +kernel)) (goodIn_sub (fun _ h => List.mem_cons_of_mem _ (List.mem_append_right _ h)) (by decide +kernel))
set_option maxRecDepth 20000 in
theorem gX2_has_X2_replicaAt : GoodIn wsX2_has (wsV RX2 38 RX2 yX2_replicaAt wsX2_replicaAt) := goodIn_app (goodIn_of _ (by decide +kernel)) ggX2_has_X2_replicaAt
set_option maxRecDepth 20000 in
theorem ggX2_has_X2_requireIndex : GoodIn wsX2_has wsX2_requireIndex := goodIn_ca (goodIn_r _ [13, 8, 9] (by decide +kernel) (by decide +kernel)) (goodIn_sub (fun _ h => List.mem_cons_of_mem _ (List.mem_append_right _ h)) (by decide +kernel))
set_option maxRecDepth 20000 in
theorem gX2_has_X2_requireIndex : GoodIn wsX2_has (va_wsS RX2 42 yX2_requireIndex wsX2_requireIndex) := goodIn_app (goodIn_of _ (by decide +kernel)) ggX2_has_X2_requireIndex
set_option maxRecDepth 20000 in
theorem ggX2_has_X1_isLive : GoodIn wsX2_has wsX1_isLive := goodIn_r _ [18, 19, 41, 42, 43, 44, 45] (by decide +kernel) (by decide +kernel)
set_option maxRecDepth 20000 in
theorem gX2_has_X1_isLive : GoodIn wsX2_has (wsV RX2 111 RX1 yX1_isLive wsX1_isLive) := goodIn_app (goodIn_of _ (by decide +kernel)) ggX2_has_X1_isLive
set_option maxRecDepth 20000 in
theorem ggX2_has_X0_fits : GoodIn wsX2_has wsX0_fits := goodIn_r _ [24, 25, 26, 27, 34, 35, 36, 37, 38, 39, 40] (by decide +kernel) (by decide +kernel)
set_option maxRecDepth 20000 in
theorem gX2_has_X0_fits : GoodIn wsX2_has (wsV RX2 115 RX0 yX0_fits wsX0_fits) := goodIn_app (goodIn_of _ (by decide +kernel)) ggX2_has_X0_fits
theorem dX2_has_0 : decode cX2_has 0 = .ok (.aload_n 0, 1) := by decide +kernel
theorem dX2_has_1 : decode cX2_has 1 = .ok (.iload_n 1, 1) := by decide +kernel
theorem dX2_has_2 : decode cX2_has 2 = .ok (.invokevirtual 38, 3) := by decide +kernel
theorem dX2_has_5 : decode cX2_has 5 = .ok (.astore 4, 2) := by decide +kernel
theorem dX2_has_7 : decode cX2_has 7 = .ok (.iload_n 2, 1) := by decide +kernel
theorem dX2_has_8 : decode cX2_has 8 = .ok (.bipush 16, 2) := by decide +kernel
theorem dX2_has_10 : decode cX2_has 10 = .ok (.invokestatic 42, 3) := by decide +kernel
theorem dX2_has_13 : decode cX2_has 13 = .ok (.iload_n 3, 1) := by decide +kernel
theorem dX2_has_14 : decode cX2_has 14 = .ok (.bipush 32, 2) := by decide +kernel
theorem dX2_has_16 : decode cX2_has 16 = .ok (.invokestatic 42, 3) := by decide +kernel
theorem dX2_has_19 : decode cX2_has 19 = .ok (.iconst 0, 1) := by decide +kernel
theorem dX2_has_20 : decode cX2_has 20 = .ok (.istore 5, 2) := by decide +kernel
theorem dX2_has_22 : decode cX2_has 22 = .ok (.iload 5, 2) := by decide +kernel
theorem dX2_has_24 : decode cX2_has 24 = .ok (.aload_n 0, 1) := by decide +kernel
theorem dX2_has_25 : decode cX2_has 25 = .ok (.getfield 21, 3) := by decide +kernel
theorem dX2_has_28 : decode cX2_has 28 = .ok (.getfield 108, 3) := by decide +kernel
theorem dX2_has_31 : decode cX2_has 31 = .ok (.if_icmp .ge 36, 3) := by decide +kernel
theorem dX2_has_34 : decode cX2_has 34 = .ok (.aload 4, 2) := by decide +kernel
theorem dX2_has_36 : decode cX2_has 36 = .ok (.iload 5, 2) := by decide +kernel
theorem dX2_has_38 : decode cX2_has 38 = .ok (.invokevirtual 111, 3) := by decide +kernel
theorem dX2_has_41 : decode cX2_has 41 = .ok (.ifCond .eq 20, 3) := by decide +kernel
theorem dX2_has_44 : decode cX2_has 44 = .ok (.aload_n 0, 1) := by decide +kernel
theorem dX2_has_45 : decode cX2_has 45 = .ok (.getfield 21, 3) := by decide +kernel
theorem dX2_has_48 : decode cX2_has 48 = .ok (.iload 5, 2) := by decide +kernel
theorem dX2_has_50 : decode cX2_has 50 = .ok (.iload_n 2, 1) := by decide +kernel
theorem dX2_has_51 : decode cX2_has 51 = .ok (.iload_n 3, 1) := by decide +kernel
theorem dX2_has_52 : decode cX2_has 52 = .ok (.iconst (-1), 1) := by decide +kernel
theorem dX2_has_53 : decode cX2_has 53 = .ok (.invokevirtual 115, 3) := by decide +kernel
theorem dX2_has_56 : decode cX2_has 56 = .ok (.ifCond .eq 5, 3) := by decide +kernel
theorem dX2_has_59 : decode cX2_has 59 = .ok (.iconst 1, 1) := by decide +kernel
theorem dX2_has_60 : decode cX2_has 60 = .ok (.ireturn, 1) := by decide +kernel
theorem dX2_has_61 : decode cX2_has 61 = .ok (.iinc 5 1, 3) := by decide +kernel
theorem dX2_has_64 : decode cX2_has 64 = .ok (.goto (-42), 3) := by decide +kernel
theorem dX2_has_67 : decode cX2_has 67 = .ok (.iconst 0, 1) := by decide +kernel
theorem dX2_has_68 : decode cX2_has 68 = .ok (.ireturn, 1) := by decide +kernel
set_option maxRecDepth 20000 in
theorem ggX2_values_X2_replicaAt : GoodIn wsX2_values wsX2_replicaAt := goodIn_ca (goodIn_r _ [5, 6, 7, 8, 38, 39, 40, 41, 42, 43] (by decide +kernel) (by decide +kernel)) (goodIn_sub (fun _ h => List.mem_cons_of_mem _ (List.mem_append_right _ h)) (by decide +kernel))
set_option maxRecDepth 20000 in
theorem gX2_values_X2_replicaAt : GoodIn wsX2_values (wsV RX2 38 RX2 yX2_replicaAt wsX2_replicaAt) := goodIn_app (goodIn_of _ (by decide +kernel)) ggX2_values_X2_replicaAt
set_option maxRecDepth 20000 in
theorem ggX2_values_X2_requireIndex : GoodIn wsX2_values wsX2_requireIndex := goodIn_ca (goodIn_r _ [11, 6, 7] (by decide +kernel) (by decide +kernel)) (goodIn_sub (fun _ h => List.mem_cons_of_mem _ (List.mem_append_right _ h)) (by decide +kernel))
set_option maxRecDepth 20000 in
theorem gX2_values_X2_requireIndex : GoodIn wsX2_values (va_wsS RX2 42 yX2_requireIndex wsX2_requireIndex) := goodIn_app (goodIn_of _ (by decide +kernel)) ggX2_values_X2_requireIndex
set_option maxRecDepth 20000 in
theorem ggX2_values_X2_orderValues : GoodIn wsX2_values wsX2_orderValues := goodIn_r _ [15, 16, 17, 18, 19, 20, 21, 22, 23, 24, 25, 26, 27, 28, 29, 30, 31, 32, 33, 34, 35, 4, 36, 37, 38, 39, 40, 41, 42, 43, 44, 45, 46, 47, 48, 49, 50, 51, 52, 53, 54, 55] (by decide +kernel) (by decide +kernel)
set_option maxRecDepth 20000 in
theorem gX2_values_X2_orderValues : GoodIn wsX2_values (wsV RX2 119 RX2 yX2_orderValues wsX2_orderValues) := goodIn_app (goodIn_of _ (by decide +kernel)) ggX2_values_X2_orderValues
theorem dX2_values_0 : decode cX2_values 0 = .ok (.aload_n 0, 1) := by decide +kernel
theorem dX2_values_1 : decode cX2_values 1 = .ok (.iload_n 1, 1) := by decide +kernel
theorem dX2_values_2 : decode cX2_values 2 = .ok (.invokevirtual 38, 3) := by decide +kernel
theorem dX2_values_5 : decode cX2_values 5 = .ok (.astore_n 3, 1) := by decide +kernel
theorem dX2_values_6 : decode cX2_values 6 = .ok (.iload_n 2, 1) := by decide +kernel
theorem dX2_values_7 : decode cX2_values 7 = .ok (.bipush 16, 2) := by decide +kernel
theorem dX2_values_9 : decode cX2_values 9 = .ok (.invokestatic 42, 3) := by decide +kernel
theorem dX2_values_12 : decode cX2_values 12 = .ok (.aload_n 0, 1) := by decide +kernel
theorem dX2_values_13 : decode cX2_values 13 = .ok (.aload_n 3, 1) := by decide +kernel
theorem dX2_values_14 : decode cX2_values 14 = .ok (.iload_n 2, 1) := by decide +kernel
theorem dX2_values_15 : decode cX2_values 15 = .ok (.invokevirtual 119, 3) := by decide +kernel
theorem dX2_values_18 : decode cX2_values 18 = .ok (.ireturn, 1) := by decide +kernel
set_option maxRecDepth 20000 in
theorem ggX2_value_X2_replicaAt : GoodIn wsX2_value wsX2_replicaAt := goodIn_ca (goodIn_r _ [6, 7, 8, 9, 38, 39, 40, 41, 42, 43] (by decide +kernel) (by decide +kernel)) (goodIn_sub (fun _ h => List.mem_cons_of_mem _ (List.mem_append_right _ h)) (by decide +kernel))
set_option maxRecDepth 20000 in
theorem gX2_value_X2_replicaAt : GoodIn wsX2_value (wsV RX2 38 RX2 yX2_replicaAt wsX2_replicaAt) := goodIn_app (goodIn_of _ (by decide +kernel)) ggX2_value_X2_replicaAt
set_option maxRecDepth 20000 in
theorem ggX2_value_X2_requireIndex : GoodIn wsX2_value wsX2_requireIndex := goodIn_ca (goodIn_r _ [12, 7, 8] (by decide +kernel) (by decide +kernel)) (goodIn_sub (fun _ h => List.mem_cons_of_mem _ (List.mem_append_right _ h)) (by decide +kernel))
set_option maxRecDepth 20000 in
theorem gX2_value_X2_requireIndex : GoodIn wsX2_value (va_wsS RX2 42 yX2_requireIndex wsX2_requireIndex) := goodIn_app (goodIn_of _ (by decide +kernel)) ggX2_value_X2_requireIndex
set_option maxRecDepth 20000 in
theorem ggX2_value_X2_orderValues : GoodIn wsX2_value wsX2_orderValues := goodIn_r _ [16, 17, 18, 19, 20, 21, 22, 23, 24, 25, 26, 27, 28, 29, 30, 31, 32, 33, 34, 35, 36, 5, 37, 1, 38, 39, 40, 41, 42, 43, 44, 45, 46, 47, 48, 49, 50, 51, 52, 53, 54, 55] (by decide +kernel) (by decide +kernel)
set_option maxRecDepth 20000 in
theorem gX2_value_X2_orderValues : GoodIn wsX2_value (wsV RX2 119 RX2 yX2_orderValues wsX2_orderValues) := goodIn_app (goodIn_of _ (by decide +kernel)) ggX2_value_X2_orderValues
theorem dX2_value_0 : decode cX2_value 0 = .ok (.aload_n 0, 1) := by decide +kernel
theorem dX2_value_1 : decode cX2_value 1 = .ok (.iload_n 1, 1) := by decide +kernel
theorem dX2_value_2 : decode cX2_value 2 = .ok (.invokevirtual 38, 3) := by decide +kernel
theorem dX2_value_5 : decode cX2_value 5 = .ok (.astore 4, 2) := by decide +kernel
theorem dX2_value_7 : decode cX2_value 7 = .ok (.iload_n 2, 1) := by decide +kernel
theorem dX2_value_8 : decode cX2_value 8 = .ok (.bipush 16, 2) := by decide +kernel
theorem dX2_value_10 : decode cX2_value 10 = .ok (.invokestatic 42, 3) := by decide +kernel
theorem dX2_value_13 : decode cX2_value 13 = .ok (.iload_n 3, 1) := by decide +kernel
theorem dX2_value_14 : decode cX2_value 14 = .ok (.aload_n 0, 1) := by decide +kernel
theorem dX2_value_15 : decode cX2_value 15 = .ok (.aload 4, 2) := by decide +kernel
theorem dX2_value_17 : decode cX2_value 17 = .ok (.iload_n 2, 1) := by decide +kernel
theorem dX2_value_18 : decode cX2_value 18 = .ok (.invokevirtual 119, 3) := by decide +kernel
theorem dX2_value_21 : decode cX2_value 21 = .ok (.invokestatic 42, 3) := by decide +kernel
theorem dX2_value_24 : decode cX2_value 24 = .ok (.aload_n 0, 1) := by decide +kernel
theorem dX2_value_25 : decode cX2_value 25 = .ok (.getfield 30, 3) := by decide +kernel
theorem dX2_value_28 : decode cX2_value 28 = .ok (.iload_n 3, 1) := by decide +kernel
theorem dX2_value_29 : decode cX2_value 29 = .ok (.laload, 1) := by decide +kernel
theorem dX2_value_30 : decode cX2_value 30 = .ok (.lreturn, 1) := by decide +kernel
set_option maxRecDepth 20000 in
theorem ggX2_sum_X2_replicaAt : GoodIn wsX2_sum wsX2_replicaAt := goodIn_ca (goodIn_r _ [8, 9, 10, 11, 29, 30, 31, 32, 33, 34] (by decide +kernel) (by decide +kernel)) (goodIn_sub (fun _ h => List.mem_cons_of_mem _ (List.mem_append_right _ h)) (by decide +kernel))
set_option maxRecDepth 20000 in
theorem gX2_sum_X2_replicaAt : GoodIn wsX2_sum (wsV RX2 38 RX2 yX2_replicaAt wsX2_replicaAt) := goodIn_app (goodIn_of _ (by decide +kernel)) ggX2_sum_X2_replicaAt
set_option maxRecDepth 20000 in
theorem ggX2_sum_X2_requireIndex : GoodIn wsX2_sum wsX2_requireIndex := goodIn_ca (goodIn_r _ [14, 9, 10] (by decide +kernel) (by decide +kernel)) (goodIn_sub (fun _ h => List.mem_cons_of_mem _ (List.mem_append_right _ h)) (by decide +kernel))
set_option maxRecDepth 20000 in
theorem gX2_sum_X2_requireIndex : GoodIn wsX2_sum (va_wsS RX2 42 yX2_requireIndex wsX2_requireIndex) := goodIn_app (goodIn_of _ (by decide +kernel)) ggX2_sum_X2_requireIndex
set_option maxRecDepth 20000 in
theorem ggX2_sum_X1_isLive : GoodIn wsX2_sum wsX1_isLive := goodIn_r _ [19, 20, 42, 43, 44, 45, 46] (by decide +kernel) (by decide +kernel)
set_option maxRecDepth 20000 in
theorem gX2_sum_X1_isLive : GoodIn wsX2_sum (wsV RX2 111 RX1 yX1_isLive wsX1_isLive) := goodIn_app (goodIn_of _ (by decide +kernel)) ggX2_sum_X1_isLive
set_option maxRecDepth 20000 in
theorem ggX2_sum_X0_fits : GoodIn wsX2_sum wsX0_fits := goodIn_r _ [25, 26, 27, 28, 35, 36, 37, 38, 39, 40, 41] (by decide +kernel) (by decide +kernel)
set_option maxRecDepth 20000 in
theorem gX2_sum_X0_fits : GoodIn wsX2_sum (wsV RX2 115 RX0 yX0_fits wsX0_fits) := goodIn_app (goodIn_of _ (by decide +kernel)) ggX2_sum_X0_fits
theorem dX2_sum_0 : decode cX2_sum 0 = .ok (.aload_n 0, 1) := by decide +kernel
theorem dX2_sum_1 : decode cX2_sum 1 = .ok (.iload_n 1, 1) := by decide +kernel
theorem dX2_sum_2 : decode cX2_sum 2 = .ok (.invokevirtual 38, 3) := by decide +kernel
theorem dX2_sum_5 : decode cX2_sum 5 = .ok (.astore_n 3, 1) := by decide +kernel
theorem dX2_sum_6 : decode cX2_sum 6 = .ok (.iload_n 2, 1) := by decide +kernel
theorem dX2_sum_7 : decode cX2_sum 7 = .ok (.bipush 16, 2) := by decide +kernel
theorem dX2_sum_9 : decode cX2_sum 9 = .ok (.invokestatic 42, 3) := by decide +kernel
theorem dX2_sum_12 : decode cX2_sum 12 = .ok (.lconst 0, 1) := by decide +kernel
theorem dX2_sum_13 : decode cX2_sum 13 = .ok (.lstore 4, 2) := by decide +kernel
theorem dX2_sum_15 : decode cX2_sum 15 = .ok (.iconst 0, 1) := by decide +kernel
theorem dX2_sum_16 : decode cX2_sum 16 = .ok (.istore 6, 2) := by decide +kernel
theorem dX2_sum_18 : decode cX2_sum 18 = .ok (.iload 6, 2) := by decide +kernel
theorem dX2_sum_20 : decode cX2_sum 20 = .ok (.aload_n 0, 1) := by decide +kernel
theorem dX2_sum_21 : decode cX2_sum 21 = .ok (.getfield 21, 3) := by decide +kernel
theorem dX2_sum_24 : decode cX2_sum 24 = .ok (.getfield 108, 3) := by decide +kernel
theorem dX2_sum_27 : decode cX2_sum 27 = .ok (.if_icmp .ge 48, 3) := by decide +kernel
theorem dX2_sum_30 : decode cX2_sum 30 = .ok (.aload_n 3, 1) := by decide +kernel
theorem dX2_sum_31 : decode cX2_sum 31 = .ok (.iload 6, 2) := by decide +kernel
theorem dX2_sum_33 : decode cX2_sum 33 = .ok (.invokevirtual 111, 3) := by decide +kernel
theorem dX2_sum_36 : decode cX2_sum 36 = .ok (.ifCond .eq 33, 3) := by decide +kernel
theorem dX2_sum_39 : decode cX2_sum 39 = .ok (.aload_n 0, 1) := by decide +kernel
theorem dX2_sum_40 : decode cX2_sum 40 = .ok (.getfield 21, 3) := by decide +kernel
theorem dX2_sum_43 : decode cX2_sum 43 = .ok (.iload 6, 2) := by decide +kernel
theorem dX2_sum_45 : decode cX2_sum 45 = .ok (.iload_n 2, 1) := by decide +kernel
theorem dX2_sum_46 : decode cX2_sum 46 = .ok (.iconst (-1), 1) := by decide +kernel
theorem dX2_sum_47 : decode cX2_sum 47 = .ok (.iconst (-1), 1) := by decide +kernel
theorem dX2_sum_48 : decode cX2_sum 48 = .ok (.invokevirtual 115, 3) := by decide +kernel
theorem dX2_sum_51 : decode cX2_sum 51 = .ok (.ifCond .eq 18, 3) := by decide +kernel
theorem dX2_sum_54 : decode cX2_sum 54 = .ok (.lload 4, 2) := by decide +kernel
theorem dX2_sum_56 : decode cX2_sum 56 = .ok (.aload_n 0, 1) := by decide +kernel
theorem dX2_sum_57 : decode cX2_sum 57 = .ok (.getfield 21, 3) := by decide +kernel
theorem dX2_sum_60 : decode cX2_sum 60 = .ok (.getfield 123, 3) := by decide +kernel
theorem dX2_sum_63 : decode cX2_sum 63 = .ok (.iload 6, 2) := by decide +kernel
theorem dX2_sum_65 : decode cX2_sum 65 = .ok (.laload, 1) := by decide +kernel
theorem dX2_sum_66 : decode cX2_sum 66 = .ok (.ladd, 1) := by decide +kernel
theorem dX2_sum_67 : decode cX2_sum 67 = .ok (.lstore 4, 2) := by decide +kernel
theorem dX2_sum_69 : decode cX2_sum 69 = .ok (.iinc 6 1, 3) := by decide +kernel
theorem dX2_sum_72 : decode cX2_sum 72 = .ok (.goto (-54), 3) := by decide +kernel
theorem dX2_sum_75 : decode cX2_sum 75 = .ok (.lload 4, 2) := by decide +kernel
theorem dX2_sum_77 : decode cX2_sum 77 = .ok (.lreturn, 1) := by decide +kernel
set_option maxRecDepth 20000 in
theorem ggX2_keys_X2_replicaAt : GoodIn wsX2_keys wsX2_replicaAt := goodIn_ca (goodIn_r _ [8, 9, 10, 11, 18, 19, 20, 21, 22, 23] (by decide +kernel) (by decide +kernel)) (goodIn_sub (fun _ h => List.mem_cons_of_mem _ (List.mem_append_right _ h)) (by decide +kernel))
set_option maxRecDepth 20000 in
theorem gX2_keys_X2_replicaAt : GoodIn wsX2_keys (wsV RX2 38 RX2 yX2_replicaAt wsX2_replicaAt) := goodIn_app (goodIn_of _ (by decide +kernel)) ggX2_keys_X2_replicaAt
set_option maxRecDepth 20000 in
theorem ggX2_keys_X1_isLive : GoodIn wsX2_keys wsX1_isLive := goodIn_r _ [16, 17, 31, 32, 33, 34, 35] (by decide +kernel) (by decide +kernel)
set_option maxRecDepth 20000 in
theorem gX2_keys_X1_isLive : GoodIn wsX2_keys (wsV RX2 111 RX1 yX1_isLive wsX1_isLive) := goodIn_app (goodIn_of _ (by decide +kernel)) ggX2_keys_X1_isLive
theorem dX2_keys_0 : decode cX2_keys 0 = .ok (.aload_n 0, 1) := by decide +kernel
theorem dX2_keys_1 : decode cX2_keys 1 = .ok (.iload_n 1, 1) := by decide +kernel
theorem dX2_keys_2 : decode cX2_keys 2 = .ok (.invokevirtual 38, 3) := by decide +kernel
theorem dX2_keys_5 : decode cX2_keys 5 = .ok (.astore_n 2, 1) := by decide +kernel
theorem dX2_keys_6 : decode cX2_keys 6 = .ok (.iconst 0, 1) := by decide +kernel
theorem dX2_keys_7 : decode cX2_keys 7 = .ok (.istore_n 3, 1) := by decide +kernel
theorem dX2_keys_8 : decode cX2_keys 8 = .ok (.iconst 0, 1) := by decide +kernel
theorem dX2_keys_9 : decode cX2_keys 9 = .ok (.istore 4, 2) := by decide +kernel
theorem dX2_keys_11 : decode cX2_keys 11 = .ok (.iload 4, 2) := by decide +kernel
theorem dX2_keys_13 : decode cX2_keys 13 = .ok (.aload_n 0, 1) := by decide +kernel
theorem dX2_keys_14 : decode cX2_keys 14 = .ok (.getfield 21, 3) := by decide +kernel
theorem dX2_keys_17 : decode cX2_keys 17 = .ok (.getfield 108, 3) := by decide +kernel
theorem dX2_keys_20 : decode cX2_keys 20 = .ok (.if_icmp .ge 33, 3) := by decide +kernel
theorem dX2_keys_23 : decode cX2_keys 23 = .ok (.aload_n 2, 1) := by decide +kernel
theorem dX2_keys_24 : decode cX2_keys 24 = .ok (.iload 4, 2) := by decide +kernel
theorem dX2_keys_26 : decode cX2_keys 26 = .ok (.invokevirtual 111, 3) := by decide +kernel
theorem dX2_keys_29 : decode cX2_keys 29 = .ok (.ifCond .eq 18, 3) := by decide +kernel
theorem dX2_keys_32 : decode cX2_keys 32 = .ok (.iload_n 3, 1) := by decide +kernel
theorem dX2_keys_33 : decode cX2_keys 33 = .ok (.iconst 1, 1) := by decide +kernel
theorem dX2_keys_34 : decode cX2_keys 34 = .ok (.aload_n 0, 1) := by decide +kernel
theorem dX2_keys_35 : decode cX2_keys 35 = .ok (.getfield 21, 3) := by decide +kernel
theorem dX2_keys_38 : decode cX2_keys 38 = .ok (.getfield 126, 3) := by decide +kernel
theorem dX2_keys_41 : decode cX2_keys 41 = .ok (.iload 4, 2) := by decide +kernel
theorem dX2_keys_43 : decode cX2_keys 43 = .ok (.iaload, 1) := by decide +kernel
theorem dX2_keys_44 : decode cX2_keys 44 = .ok (.ishl, 1) := by decide +kernel
theorem dX2_keys_45 : decode cX2_keys 45 = .ok (.ior, 1) := by decide +kernel
theorem dX2_keys_46 : decode cX2_keys 46 = .ok (.istore_n 3, 1) := by decide +kernel
theorem dX2_keys_47 : decode cX2_keys 47 = .ok (.iinc 4 1, 3) := by decide +kernel
theorem dX2_keys_50 : decode cX2_keys 50 = .ok (.goto (-39), 3) := by decide +kernel
theorem dX2_keys_53 : decode cX2_keys 53 = .ok (.iload_n 3, 1) := by decide +kernel
theorem dX2_keys_54 : decode cX2_keys 54 = .ok (.ireturn, 1) := by decide +kernel
set_option maxRecDepth 20000 in
theorem ggX2_inTwice_X2_replicaAt : GoodIn wsX2_inTwice wsX2_replicaAt := goodIn_ca (goodIn_r _ [7, 8, 9, 10, 19, 20, 21, 22, 23, 24] (by decide +kernel) (by decide +kernel)) (goodIn_sub (fun _ h => List.mem_cons_of_mem _ (List.mem_append_right _ h)) (by decide +kernel))
set_option maxRecDepth 20000 in
theorem gX2_inTwice_X2_replicaAt : GoodIn wsX2_inTwice (wsV RX2 38 RX2 yX2_replicaAt wsX2_replicaAt) := goodIn_app (goodIn_of _ (by decide +kernel)) ggX2_inTwice_X2_replicaAt
set_option maxRecDepth 20000 in
theorem ggX2_inTwice_X2_requireIndex : GoodIn wsX2_inTwice wsX2_requireIndex := goodIn_ca (goodIn_r _ [13, 8, 9] (by decide +kernel) (by decide +kernel)) (goodIn_sub (fun _ h => List.mem_cons_of_mem _ (List.mem_append_right _ h)) (by decide +kernel))
set_option maxRecDepth 20000 in
theorem gX2_inTwice_X2_requireIndex : GoodIn wsX2_inTwice (va_wsS RX2 42 yX2_requireIndex wsX2_requireIndex) := goodIn_app (goodIn_of _ (by decide +kernel)) ggX2_inTwice_X2_requireIndex
theorem dX2_inTwice_0 : decode cX2_inTwice 0 = .ok (.aload_n 0, 1) := by decide +kernel
theorem dX2_inTwice_1 : decode cX2_inTwice 1 = .ok (.iload_n 1, 1) := by decide +kernel
theorem dX2_inTwice_2 : decode cX2_inTwice 2 = .ok (.invokevirtual 38, 3) := by decide +kernel
theorem dX2_inTwice_5 : decode cX2_inTwice 5 = .ok (.astore_n 3, 1) := by decide +kernel
theorem dX2_inTwice_6 : decode cX2_inTwice 6 = .ok (.iload_n 2, 1) := by decide +kernel
theorem dX2_inTwice_7 : decode cX2_inTwice 7 = .ok (.bipush 32, 2) := by decide +kernel
theorem dX2_inTwice_9 : decode cX2_inTwice 9 = .ok (.invokestatic 42, 3) := by decide +kernel
theorem dX2_inTwice_12 : decode cX2_inTwice 12 = .ok (.aload_n 3, 1) := by decide +kernel
theorem dX2_inTwice_13 : decode cX2_inTwice 13 = .ok (.getfield 76, 3) := by decide +kernel
theorem dX2_inTwice_16 : decode cX2_inTwice 16 = .ok (.aload_n 3, 1) := by decide +kernel
theorem dX2_inTwice_17 : decode cX2_inTwice 17 = .ok (.getfield 79, 3) := by decide +kernel
theorem dX2_inTwice_20 : decode cX2_inTwice 20 = .ok (.iconst (-1), 1) := by decide +kernel
theorem dX2_inTwice_21 : decode cX2_inTwice 21 = .ok (.ixor, 1) := by decide +kernel
theorem dX2_inTwice_22 : decode cX2_inTwice 22 = .ok (.iand, 1) := by decide +kernel
theorem dX2_inTwice_23 : decode cX2_inTwice 23 = .ok (.iload_n 2, 1) := by decide +kernel
theorem dX2_inTwice_24 : decode cX2_inTwice 24 = .ok (.iushr, 1) := by decide +kernel
theorem dX2_inTwice_25 : decode cX2_inTwice 25 = .ok (.iconst 1, 1) := by decide +kernel
theorem dX2_inTwice_26 : decode cX2_inTwice 26 = .ok (.iand, 1) := by decide +kernel
theorem dX2_inTwice_27 : decode cX2_inTwice 27 = .ok (.ireturn, 1) := by decide +kernel
set_option maxRecDepth 20000 in
theorem ggX2_inTimed_X2_replicaAt : GoodIn wsX2_inTimed wsX2_replicaAt := goodIn_ca (goodIn_r _ [6, 7, 8, 9, 30, 31, 32, 33, 34, 35] (by decide +kernel) (by decide +kernel)) (goodIn_sub (fun _ h => List.mem_cons_of_mem _ (List.mem_append_right _ h)) (by decide +kernel))
set_option maxRecDepth 20000 in
theorem gX2_inTimed_X2_replicaAt : GoodIn wsX2_inTimed (wsV RX2 38 RX2 yX2_replicaAt wsX2_replicaAt) := goodIn_app (goodIn_of _ (by decide +kernel)) ggX2_inTimed_X2_replicaAt
set_option maxRecDepth 20000 in
theorem ggX2_inTimed_X2_requireIndex : GoodIn wsX2_inTimed wsX2_requireIndex := goodIn_ca (goodIn_r _ [12, 7, 8] (by decide +kernel) (by decide +kernel)) (goodIn_sub (fun _ h => List.mem_cons_of_mem _ (List.mem_append_right _ h)) (by decide +kernel))
set_option maxRecDepth 20000 in
theorem gX2_inTimed_X2_requireIndex : GoodIn wsX2_inTimed (va_wsS RX2 42 yX2_requireIndex wsX2_requireIndex) := goodIn_app (goodIn_of _ (by decide +kernel)) ggX2_inTimed_X2_requireIndex
set_option maxRecDepth 20000 in
theorem ggX2_inTimed_X2_stampIsIn : GoodIn wsX2_inTimed wsX2_stampIsIn := goodIn_r _ [15] (by decide +kernel) (by decide +kernel)
set_option maxRecDepth 20000 in
theorem gX2_inTimed_X2_stampIsIn : GoodIn wsX2_inTimed (va_wsS RX2 129 yX2_stampIsIn wsX2_stampIsIn) := goodIn_app (goodIn_of _ (by decide +kernel)) ggX2_inTimed_X2_stampIsIn
set_option maxRecDepth 20000 in
theorem ggX2_inTimed_X2_bit : GoodIn wsX2_inTimed wsX2_bit := goodIn_r _ [18] (by decide +kernel) (by decide +kernel)
set_option maxRecDepth 20000 in
theorem gX2_inTimed_X2_bit : GoodIn wsX2_inTimed (va_wsS RX2 100 yX2_bit wsX2_bit) := goodIn_app (goodIn_of _ (by decide +kernel)) ggX2_inTimed_X2_bit
set_option maxRecDepth 20000 in
theorem ggX2_inTimed_X2_stampTime : GoodIn wsX2_inTimed wsX2_stampTime := goodIn_r _ [21] (by decide +kernel) (by decide +kernel)
set_option maxRecDepth 20000 in
theorem gX2_inTimed_X2_stampTime : GoodIn wsX2_inTimed (va_wsS RX2 132 yX2_stampTime wsX2_stampTime) := goodIn_app (goodIn_of _ (by decide +kernel)) ggX2_inTimed_X2_stampTime
set_option maxRecDepth 20000 in
theorem ggX2_inTimed_X2_stampReplica : GoodIn wsX2_inTimed wsX2_stampReplica := goodIn_r _ [24] (by decide +kernel) (by decide +kernel)
set_option maxRecDepth 20000 in
theorem gX2_inTimed_X2_stampReplica : GoodIn wsX2_inTimed (va_wsS RX2 136 yX2_stampReplica wsX2_stampReplica) := goodIn_app (goodIn_of _ (by decide +kernel)) ggX2_inTimed_X2_stampReplica
theorem dX2_inTimed_0 : decode cX2_inTimed 0 = .ok (.aload_n 0, 1) := by decide +kernel
theorem dX2_inTimed_1 : decode cX2_inTimed 1 = .ok (.iload_n 1, 1) := by decide +kernel
theorem dX2_inTimed_2 : decode cX2_inTimed 2 = .ok (.invokevirtual 38, 3) := by decide +kernel
theorem dX2_inTimed_5 : decode cX2_inTimed 5 = .ok (.astore 4, 2) := by decide +kernel
theorem dX2_inTimed_7 : decode cX2_inTimed 7 = .ok (.iload_n 2, 1) := by decide +kernel
theorem dX2_inTimed_8 : decode cX2_inTimed 8 = .ok (.bipush 32, 2) := by decide +kernel
theorem dX2_inTimed_10 : decode cX2_inTimed 10 = .ok (.invokestatic 42, 3) := by decide +kernel
theorem dX2_inTimed_13 : decode cX2_inTimed 13 = .ok (.iload_n 3, 1) := by decide +kernel
theorem dX2_inTimed_14 : decode cX2_inTimed 14 = .ok (.iconst 3, 1) := by decide +kernel
theorem dX2_inTimed_15 : decode cX2_inTimed 15 = .ok (.invokestatic 42, 3) := by decide +kernel
theorem dX2_inTimed_18 : decode cX2_inTimed 18 = .ok (.aload 4, 2) := by decide +kernel
theorem dX2_inTimed_20 : decode cX2_inTimed 20 = .ok (.getfield 85, 3) := by decide +kernel
theorem dX2_inTimed_23 : decode cX2_inTimed 23 = .ok (.iload_n 2, 1) := by decide +kernel
theorem dX2_inTimed_24 : decode cX2_inTimed 24 = .ok (.iaload, 1) := by decide +kernel
theorem dX2_inTimed_25 : decode cX2_inTimed 25 = .ok (.istore 5, 2) := by decide +kernel
theorem dX2_inTimed_27 : decode cX2_inTimed 27 = .ok (.iload_n 3, 1) := by decide +kernel
theorem dX2_inTimed_28 : decode cX2_inTimed 28 = .ok (.ifCond .ne 12, 3) := by decide +kernel
theorem dX2_inTimed_31 : decode cX2_inTimed 31 = .ok (.iload 5, 2) := by decide +kernel
theorem dX2_inTimed_33 : decode cX2_inTimed 33 = .ok (.invokestatic 129, 3) := by decide +kernel
theorem dX2_inTimed_36 : decode cX2_inTimed 36 = .ok (.invokestatic 100, 3) := by decide +kernel
theorem dX2_inTimed_39 : decode cX2_inTimed 39 = .ok (.ireturn, 1) := by decide +kernel
theorem dX2_inTimed_40 : decode cX2_inTimed 40 = .ok (.iload 5, 2) := by decide +kernel
theorem dX2_inTimed_42 : decode cX2_inTimed 42 = .ok (.ifCond .ne 5, 3) := by decide +kernel
theorem dX2_inTimed_45 : decode cX2_inTimed 45 = .ok (.iconst (-1), 1) := by decide +kernel
theorem dX2_inTimed_46 : decode cX2_inTimed 46 = .ok (.ireturn, 1) := by decide +kernel
theorem dX2_inTimed_47 : decode cX2_inTimed 47 = .ok (.iload_n 3, 1) := by decide +kernel
theorem dX2_inTimed_48 : decode cX2_inTimed 48 = .ok (.iconst 1, 1) := by decide +kernel
theorem dX2_inTimed_49 : decode cX2_inTimed 49 = .ok (.if_icmp .ne 11, 3) := by decide +kernel
theorem dX2_inTimed_52 : decode cX2_inTimed 52 = .ok (.iload 5, 2) := by decide +kernel
theorem dX2_inTimed_54 : decode cX2_inTimed 54 = .ok (.invokestatic 132, 3) := by decide +kernel
theorem dX2_inTimed_57 : decode cX2_inTimed 57 = .ok (.goto 8, 3) := by decide +kernel
theorem dX2_inTimed_60 : decode cX2_inTimed 60 = .ok (.iload 5, 2) := by decide +kernel
theorem dX2_inTimed_62 : decode cX2_inTimed 62 = .ok (.invokestatic 136, 3) := by decide +kernel
theorem dX2_inTimed_65 : decode cX2_inTimed 65 = .ok (.ireturn, 1) := by decide +kernel
set_option maxRecDepth 20000 in
theorem ggX2_seen_X2_replicaAt : GoodIn wsX2_seen wsX2_replicaAt := goodIn_ca (goodIn_r _ [9, 10, 11, 12, 22, 23, 24, 25, 26, 27] (by decide +kernel) (by decide +kernel)) (goodIn_sub (fun _ h => List.mem_cons_of_mem _ (List.mem_append_right _ h)) (by decide +kernel))
set_option maxRecDepth 20000 in
theorem gX2_seen_X2_replicaAt : GoodIn wsX2_seen (wsV RX2 38 RX2 yX2_replicaAt wsX2_replicaAt) := goodIn_app (goodIn_of _ (by decide +kernel)) ggX2_seen_X2_replicaAt
set_option maxRecDepth 20000 in
theorem ggX2_seen_X2_requireIndex : GoodIn wsX2_seen wsX2_requireIndex := goodIn_ca (goodIn_r _ [15, 10, 11] (by decide +kernel) (by decide +kernel)) (goodIn_sub (fun _ h => List.mem_cons_of_mem _ (List.mem_append_right _ h)) (by decide +kernel))
set_option maxRecDepth 20000 in
theorem gX2_seen_X2_requireIndex : GoodIn wsX2_seen (va_wsS RX2 42 yX2_requireIndex wsX2_requireIndex) := goodIn_app (goodIn_of _ (by decide +kernel)) ggX2_seen_X2_requireIndex
set_option maxRecDepth 20000 in
theorem ggX2_seen_X1_isSeen : GoodIn wsX2_seen wsX1_isSeen := goodIn_r _ [20, 21, 35, 36, 37, 38, 39] (by decide +kernel) (by decide +kernel)
set_option maxRecDepth 20000 in
theorem gX2_seen_X1_isSeen : GoodIn wsX2_seen (wsV RX2 142 RX1 yX1_isSeen wsX1_isSeen) := goodIn_app (goodIn_of _ (by decide +kernel)) ggX2_seen_X1_isSeen
theorem dX2_seen_0 : decode cX2_seen 0 = .ok (.aload_n 0, 1) := by decide +kernel
theorem dX2_seen_1 : decode cX2_seen 1 = .ok (.iload_n 1, 1) := by decide +kernel
theorem dX2_seen_2 : decode cX2_seen 2 = .ok (.invokevirtual 38, 3) := by decide +kernel
theorem dX2_seen_5 : decode cX2_seen 5 = .ok (.astore 4, 2) := by decide +kernel
theorem dX2_seen_7 : decode cX2_seen 7 = .ok (.iload_n 2, 1) := by decide +kernel
theorem dX2_seen_8 : decode cX2_seen 8 = .ok (.bipush 6, 2) := by decide +kernel
theorem dX2_seen_10 : decode cX2_seen 10 = .ok (.invokestatic 42, 3) := by decide +kernel
theorem dX2_seen_13 : decode cX2_seen 13 = .ok (.iload_n 3, 1) := by decide +kernel
theorem dX2_seen_14 : decode cX2_seen 14 = .ok (.iconst 3, 1) := by decide +kernel
theorem dX2_seen_15 : decode cX2_seen 15 = .ok (.invokestatic 42, 3) := by decide +kernel
theorem dX2_seen_18 : decode cX2_seen 18 = .ok (.iconst 0, 1) := by decide +kernel
theorem dX2_seen_19 : decode cX2_seen 19 = .ok (.istore 5, 2) := by decide +kernel
theorem dX2_seen_21 : decode cX2_seen 21 = .ok (.iconst 0, 1) := by decide +kernel
theorem dX2_seen_22 : decode cX2_seen 22 = .ok (.istore 6, 2) := by decide +kernel
theorem dX2_seen_24 : decode cX2_seen 24 = .ok (.iconst 0, 1) := by decide +kernel
theorem dX2_seen_25 : decode cX2_seen 25 = .ok (.istore 7, 2) := by decide +kernel
theorem dX2_seen_27 : decode cX2_seen 27 = .ok (.iconst 0, 1) := by decide +kernel
theorem dX2_seen_28 : decode cX2_seen 28 = .ok (.istore 8, 2) := by decide +kernel
theorem dX2_seen_30 : decode cX2_seen 30 = .ok (.iload 8, 2) := by decide +kernel
theorem dX2_seen_32 : decode cX2_seen 32 = .ok (.aload_n 0, 1) := by decide +kernel
theorem dX2_seen_33 : decode cX2_seen 33 = .ok (.getfield 21, 3) := by decide +kernel
theorem dX2_seen_36 : decode cX2_seen 36 = .ok (.getfield 108, 3) := by decide +kernel
theorem dX2_seen_39 : decode cX2_seen 39 = .ok (.if_icmp .ge 61, 3) := by decide +kernel
theorem dX2_seen_42 : decode cX2_seen 42 = .ok (.aload_n 0, 1) := by decide +kernel
theorem dX2_seen_43 : decode cX2_seen 43 = .ok (.getfield 21, 3) := by decide +kernel
theorem dX2_seen_46 : decode cX2_seen 46 = .ok (.getfield 139, 3) := by decide +kernel
theorem dX2_seen_49 : decode cX2_seen 49 = .ok (.iload 8, 2) := by decide +kernel
theorem dX2_seen_51 : decode cX2_seen 51 = .ok (.iaload, 1) := by decide +kernel
theorem dX2_seen_52 : decode cX2_seen 52 = .ok (.iload_n 2, 1) := by decide +kernel
theorem dX2_seen_53 : decode cX2_seen 53 = .ok (.if_icmp .ne 41, 3) := by decide +kernel
theorem dX2_seen_56 : decode cX2_seen 56 = .ok (.aload 4, 2) := by decide +kernel
theorem dX2_seen_58 : decode cX2_seen 58 = .ok (.iload 8, 2) := by decide +kernel
theorem dX2_seen_60 : decode cX2_seen 60 = .ok (.invokevirtual 142, 3) := by decide +kernel
theorem dX2_seen_63 : decode cX2_seen 63 = .ok (.ifCond .eq 31, 3) := by decide +kernel
theorem dX2_seen_66 : decode cX2_seen 66 = .ok (.iinc 6 1, 3) := by decide +kernel
theorem dX2_seen_69 : decode cX2_seen 69 = .ok (.aload_n 0, 1) := by decide +kernel
theorem dX2_seen_70 : decode cX2_seen 70 = .ok (.getfield 21, 3) := by decide +kernel
theorem dX2_seen_73 : decode cX2_seen 73 = .ok (.getfield 145, 3) := by decide +kernel
theorem dX2_seen_76 : decode cX2_seen 76 = .ok (.iload 8, 2) := by decide +kernel
theorem dX2_seen_78 : decode cX2_seen 78 = .ok (.iaload, 1) := by decide +kernel
theorem dX2_seen_79 : decode cX2_seen 79 = .ok (.istore 7, 2) := by decide +kernel
theorem dX2_seen_81 : decode cX2_seen 81 = .ok (.iload 7, 2) := by decide +kernel
theorem dX2_seen_83 : decode cX2_seen 83 = .ok (.iload 5, 2) := by decide +kernel
theorem dX2_seen_85 : decode cX2_seen 85 = .ok (.iconst 1, 1) := by decide +kernel
theorem dX2_seen_86 : decode cX2_seen 86 = .ok (.iadd, 1) := by decide +kernel
theorem dX2_seen_87 : decode cX2_seen 87 = .ok (.if_icmp .ne 7, 3) := by decide +kernel
theorem dX2_seen_90 : decode cX2_seen 90 = .ok (.iload 7, 2) := by decide +kernel
theorem dX2_seen_92 : decode cX2_seen 92 = .ok (.istore 5, 2) := by decide +kernel
theorem dX2_seen_94 : decode cX2_seen 94 = .ok (.iinc 8 1, 3) := by decide +kernel
theorem dX2_seen_97 : decode cX2_seen 97 = .ok (.goto (-67), 3) := by decide +kernel
theorem dX2_seen_100 : decode cX2_seen 100 = .ok (.iload_n 3, 1) := by decide +kernel
theorem dX2_seen_101 : decode cX2_seen 101 = .ok (.ifCond .ne 6, 3) := by decide +kernel
theorem dX2_seen_104 : decode cX2_seen 104 = .ok (.iload 5, 2) := by decide +kernel
theorem dX2_seen_106 : decode cX2_seen 106 = .ok (.ireturn, 1) := by decide +kernel
theorem dX2_seen_107 : decode cX2_seen 107 = .ok (.iload_n 3, 1) := by decide +kernel
theorem dX2_seen_108 : decode cX2_seen 108 = .ok (.iconst 1, 1) := by decide +kernel
theorem dX2_seen_109 : decode cX2_seen 109 = .ok (.if_icmp .ne 8, 3) := by decide +kernel
theorem dX2_seen_112 : decode cX2_seen 112 = .ok (.iload 6, 2) := by decide +kernel
theorem dX2_seen_114 : decode cX2_seen 114 = .ok (.goto 5, 3) := by decide +kernel
theorem dX2_seen_117 : decode cX2_seen 117 = .ok (.iload 7, 2) := by decide +kernel
theorem dX2_seen_119 : decode cX2_seen 119 = .ok (.ireturn, 1) := by decide +kernel
set_option maxRecDepth 20000 in
theorem ggX2_size_X2_deltaAt : GoodIn wsX2_size wsX2_deltaAt := goodIn_ca (goodIn_r _ [7, 8, 9, 10, 34, 35, 36, 37, 38, 39] (by decide +kernel) (by decide +kernel)) (goodIn_sub (fun _ h => List.mem_cons_of_mem _ (List.mem_append_right _ h)) (by decide +kernel))
set_option maxRecDepth 20000 in
theorem gX2_size_X2_deltaAt : GoodIn wsX2_size (wsV RX2 93 RX2 yX2_deltaAt wsX2_deltaAt) := goodIn_app (goodIn_of _ (by decide +kernel)) ggX2_size_X2_deltaAt
set_option maxRecDepth 20000 in
theorem ggX2_size_X2_replicaAt : GoodIn wsX2_size wsX2_replicaAt := goodIn_ca (goodIn_r _ [14, 8, 9, 15, 34, 35, 36, 37, 38, 39] (by decide +kernel) (by decide +kernel)) (goodIn_sub (fun _ h => List.mem_cons_of_mem _ (List.mem_append_right _ h)) (by decide +kernel))
set_option maxRecDepth 20000 in
theorem gX2_size_X2_replicaAt : GoodIn wsX2_size (wsV RX2 38 RX2 yX2_replicaAt wsX2_replicaAt) := goodIn_app (goodIn_of _ (by decide +kernel)) ggX2_size_X2_replicaAt
set_option maxRecDepth 20000 in
theorem ggX2_size_X2_requireIndex : GoodIn wsX2_size wsX2_requireIndex := goodIn_ca (goodIn_r _ [18, 8, 9] (by decide +kernel) (by decide +kernel)) (goodIn_sub (fun _ h => List.mem_cons_of_mem _ (List.mem_append_right _ h)) (by decide +kernel))
set_option maxRecDepth 20000 in
theorem gX2_size_X2_requireIndex : GoodIn wsX2_size (va_wsS RX2 42 yX2_requireIndex wsX2_requireIndex) := goodIn_app (goodIn_of _ (by decide +kernel)) ggX2_size_X2_requireIndex
set_option maxRecDepth 20000 in
theorem ggX2_size_X2_bitsIn : GoodIn wsX2_size wsX2_bitsIn := goodIn_r _ [21, 22, 23, 24, 25, 26, 27, 28] (by decide +kernel) (by decide +kernel)
set_option maxRecDepth 20000 in
theorem gX2_size_X2_bitsIn : GoodIn wsX2_size (va_wsS RX2 151 yX2_bitsIn wsX2_bitsIn) := goodIn_app (goodIn_of _ (by decide +kernel)) ggX2_size_X2_bitsIn
theorem dX2_size_0 : decode cX2_size 0 = .ok (.iload_n 1, 1) := by decide +kernel
theorem dX2_size_1 : decode cX2_size 1 = .ok (.iconst (-1), 1) := by decide +kernel
theorem dX2_size_2 : decode cX2_size 2 = .ok (.if_icmp .ge 14, 3) := by decide +kernel
theorem dX2_size_5 : decode cX2_size 5 = .ok (.aload_n 0, 1) := by decide +kernel
theorem dX2_size_6 : decode cX2_size 6 = .ok (.bipush (-2), 2) := by decide +kernel
theorem dX2_size_8 : decode cX2_size 8 = .ok (.iload_n 1, 1) := by decide +kernel
theorem dX2_size_9 : decode cX2_size 9 = .ok (.isub, 1) := by decide +kernel
theorem dX2_size_10 : decode cX2_size 10 = .ok (.invokevirtual 93, 3) := by decide +kernel
theorem dX2_size_13 : decode cX2_size 13 = .ok (.goto 8, 3) := by decide +kernel
theorem dX2_size_16 : decode cX2_size 16 = .ok (.aload_n 0, 1) := by decide +kernel
theorem dX2_size_17 : decode cX2_size 17 = .ok (.iload_n 1, 1) := by decide +kernel
theorem dX2_size_18 : decode cX2_size 18 = .ok (.invokevirtual 38, 3) := by decide +kernel
theorem dX2_size_21 : decode cX2_size 21 = .ok (.astore_n 3, 1) := by decide +kernel
theorem dX2_size_22 : decode cX2_size 22 = .ok (.iload_n 2, 1) := by decide +kernel
theorem dX2_size_23 : decode cX2_size 23 = .ok (.iconst 2, 1) := by decide +kernel
theorem dX2_size_24 : decode cX2_size 24 = .ok (.invokestatic 42, 3) := by decide +kernel
theorem dX2_size_27 : decode cX2_size 27 = .ok (.iload_n 2, 1) := by decide +kernel
theorem dX2_size_28 : decode cX2_size 28 = .ok (.ifCond .ne 13, 3) := by decide +kernel
theorem dX2_size_31 : decode cX2_size 31 = .ok (.aload_n 3, 1) := by decide +kernel
theorem dX2_size_32 : decode cX2_size 32 = .ok (.getfield 148, 3) := by decide +kernel
theorem dX2_size_35 : decode cX2_size 35 = .ok (.invokestatic 151, 3) := by decide +kernel
theorem dX2_size_38 : decode cX2_size 38 = .ok (.goto 10, 3) := by decide +kernel
theorem dX2_size_41 : decode cX2_size 41 = .ok (.aload_n 3, 1) := by decide +kernel
theorem dX2_size_42 : decode cX2_size 42 = .ok (.getfield 155, 3) := by decide +kernel
theorem dX2_size_45 : decode cX2_size 45 = .ok (.invokestatic 151, 3) := by decide +kernel
theorem dX2_size_48 : decode cX2_size 48 = .ok (.ireturn, 1) := by decide +kernel
set_option maxRecDepth 20000 in
theorem ggX2_same_X2_replicaAt : GoodIn wsX2_same wsX2_replicaAt := goodIn_ca (goodIn_r _ [5, 6, 7, 8, 22, 23, 24, 25, 26, 27] (by decide +kernel) (by decide +kernel)) (goodIn_sub (fun _ h => List.mem_cons_of_mem _ (List.mem_append_right _ h)) (by decide +kernel))
set_option maxRecDepth 20000 in
theorem gX2_same_X2_replicaAt : GoodIn wsX2_same (wsV RX2 38 RX2 yX2_replicaAt wsX2_replicaAt) := goodIn_app (goodIn_of _ (by decide +kernel)) ggX2_same_X2_replicaAt
set_option maxRecDepth 20000 in
theorem ggX2_same_X1_isLike : GoodIn wsX2_same wsX1_isLike := goodIn_r _ [13, 14, 15, 16, 17, 18, 28, 29, 30, 31, 32] (by decide +kernel) (by decide +kernel)
set_option maxRecDepth 20000 in
theorem gX2_same_X1_isLike : GoodIn wsX2_same (wsV RX2 158 RX1 yX1_isLike wsX1_isLike) := goodIn_app (goodIn_of _ (by decide +kernel)) ggX2_same_X1_isLike
set_option maxRecDepth 20000 in
theorem ggX2_same_X2_bit : GoodIn wsX2_same wsX2_bit := goodIn_r _ [21] (by decide +kernel) (by decide +kernel)
set_option maxRecDepth 20000 in
theorem gX2_same_X2_bit : GoodIn wsX2_same (va_wsS RX2 100 yX2_bit wsX2_bit) := goodIn_app (goodIn_of _ (by decide +kernel)) ggX2_same_X2_bit
theorem dX2_same_0 : decode cX2_same 0 = .ok (.aload_n 0, 1) := by decide +kernel
theorem dX2_same_1 : decode cX2_same 1 = .ok (.iload_n 1, 1) := by decide +kernel
theorem dX2_same_2 : decode cX2_same 2 = .ok (.invokevirtual 38, 3) := by decide +kernel
theorem dX2_same_5 : decode cX2_same 5 = .ok (.astore_n 3, 1) := by decide +kernel
theorem dX2_same_6 : decode cX2_same 6 = .ok (.aload_n 3, 1) := by decide +kernel
theorem dX2_same_7 : decode cX2_same 7 = .ok (.aload_n 0, 1) := by decide +kernel
theorem dX2_same_8 : decode cX2_same 8 = .ok (.iload_n 2, 1) := by decide +kernel
theorem dX2_same_9 : decode cX2_same 9 = .ok (.invokevirtual 38, 3) := by decide +kernel
theorem dX2_same_12 : decode cX2_same 12 = .ok (.invokevirtual 158, 3) := by decide +kernel
theorem dX2_same_15 : decode cX2_same 15 = .ok (.invokestatic 100, 3) := by decide +kernel
theorem dX2_same_18 : decode cX2_same 18 = .ok (.ireturn, 1) := by decide +kernel
set_option maxRecDepth 20000 in
theorem ggX2_below_X2_replicaAt : GoodIn wsX2_below wsX2_replicaAt := goodIn_ca (goodIn_r _ [6, 7, 8, 9, 44, 45, 46, 47, 48, 49] (by decide +kernel) (by decide +kernel)) (goodIn_sub (fun _ h => List.mem_cons_of_mem _ (List.mem_append_right _ h)) (by decide +kernel))
set_option maxRecDepth 20000 in
theorem gX2_below_X2_replicaAt : GoodIn wsX2_below (wsV RX2 38 RX2 yX2_replicaAt wsX2_replicaAt) := goodIn_app (goodIn_of _ (by decide +kernel)) ggX2_below_X2_replicaAt
set_option maxRecDepth 20000 in
theorem ggX2_below_X1_become : GoodIn wsX2_below wsX1_become := goodIn_r _ [14, 15, 16, 17, 18, 19, 20, 21, 22, 23, 50, 51, 52, 53, 54] (by decide +kernel) (by decide +kernel)
set_option maxRecDepth 20000 in
theorem gX2_below_X1_become : GoodIn wsX2_below (wsV RX2 104 RX1 yX1_become wsX1_become) := goodIn_app (goodIn_of _ (by decide +kernel)) ggX2_below_X1_become
set_option maxRecDepth 20000 in
theorem ggX2_below_X1_take : GoodIn wsX2_below wsX1_take := goodIn_r _ [27, 28, 29, 30, 13, 31, 20, 15, 32, 33, 34, 35, 36, 22, 23, 37, 38, 39, 40, 21, 50, 51, 52, 53, 54] (by decide +kernel) (by decide +kernel)
set_option maxRecDepth 20000 in
theorem gX2_below_X1_take : GoodIn wsX2_below (wsV RX2 96 RX1 yX1_take wsX1_take) := goodIn_app (goodIn_of _ (by decide +kernel)) ggX2_below_X1_take
set_option maxRecDepth 20000 in
theorem ggX2_below_X2_bit : GoodIn wsX2_below wsX2_bit := goodIn_r _ [43] (by decide +kernel) (by decide +kernel)
set_option maxRecDepth 20000 in
theorem gX2_below_X2_bit : GoodIn wsX2_below (va_wsS RX2 100 yX2_bit wsX2_bit) := goodIn_app (goodIn_of _ (by decide +kernel)) ggX2_below_X2_bit
theorem dX2_below_0 : decode cX2_below 0 = .ok (.aload_n 0, 1) := by decide +kernel
theorem dX2_below_1 : decode cX2_below 1 = .ok (.iload_n 1, 1) := by decide +kernel
theorem dX2_below_2 : decode cX2_below 2 = .ok (.invokevirtual 38, 3) := by decide +kernel
theorem dX2_below_5 : decode cX2_below 5 = .ok (.astore_n 3, 1) := by decide +kernel
theorem dX2_below_6 : decode cX2_below 6 = .ok (.aload_n 0, 1) := by decide +kernel
theorem dX2_below_7 : decode cX2_below 7 = .ok (.getfield 26, 3) := by decide +kernel
theorem dX2_below_10 : decode cX2_below 10 = .ok (.aload_n 0, 1) := by decide +kernel
theorem dX2_below_11 : decode cX2_below 11 = .ok (.iload_n 2, 1) := by decide +kernel
theorem dX2_below_12 : decode cX2_below 12 = .ok (.invokevirtual 38, 3) := by decide +kernel
theorem dX2_below_15 : decode cX2_below 15 = .ok (.invokevirtual 104, 3) := by decide +kernel
theorem dX2_below_18 : decode cX2_below 18 = .ok (.aload_n 0, 1) := by decide +kernel
theorem dX2_below_19 : decode cX2_below 19 = .ok (.getfield 26, 3) := by decide +kernel
theorem dX2_below_22 : decode cX2_below 22 = .ok (.aload_n 3, 1) := by decide +kernel
theorem dX2_below_23 : decode cX2_below 23 = .ok (.invokevirtual 96, 3) := by decide +kernel
theorem dX2_below_26 : decode cX2_below 26 = .ok (.ifCond .ne 7, 3) := by decide +kernel
theorem dX2_below_29 : decode cX2_below 29 = .ok (.iconst 1, 1) := by decide +kernel
theorem dX2_below_30 : decode cX2_below 30 = .ok (.goto 4, 3) := by decide +kernel
theorem dX2_below_33 : decode cX2_below 33 = .ok (.iconst 0, 1) := by decide +kernel
theorem dX2_below_34 : decode cX2_below 34 = .ok (.invokestatic 100, 3) := by decide +kernel
theorem dX2_below_37 : decode cX2_below 37 = .ok (.ireturn, 1) := by decide +kernel
theorem dX2_replicaAt_0 : decode cX2_replicaAt 0 = .ok (.iload_n 1, 1) := by decide +kernel
theorem dX2_replicaAt_1 : decode cX2_replicaAt 1 = .ok (.ifCond .lt 21, 3) := by decide +kernel
theorem dX2_replicaAt_4 : decode cX2_replicaAt 4 = .ok (.iload_n 1, 1) := by decide +kernel
theorem dX2_replicaAt_5 : decode cX2_replicaAt 5 = .ok (.aload_n 0, 1) := by decide +kernel
theorem dX2_replicaAt_6 : decode cX2_replicaAt 6 = .ok (.getfield 11, 3) := by decide +kernel
theorem dX2_replicaAt_9 : decode cX2_replicaAt 9 = .ok (.arraylength, 1) := by decide +kernel
theorem dX2_replicaAt_10 : decode cX2_replicaAt 10 = .ok (.if_icmp .ge 12, 3) := by decide +kernel
theorem dX2_replicaAt_13 : decode cX2_replicaAt 13 = .ok (.aload_n 0, 1) := by decide +kernel
theorem dX2_replicaAt_14 : decode cX2_replicaAt 14 = .ok (.getfield 11, 3) := by decide +kernel
theorem dX2_replicaAt_17 : decode cX2_replicaAt 17 = .ok (.iload_n 1, 1) := by decide +kernel
theorem dX2_replicaAt_18 : decode cX2_replicaAt 18 = .ok (.aaload, 1) := by decide +kernel
theorem dX2_replicaAt_19 : decode cX2_replicaAt 19 = .ok (.ifnonnull 13, 3) := by decide +kernel
theorem dX2_replicaAt_22 : decode cX2_replicaAt 22 = .ok (.new 161, 3) := by decide +kernel
theorem dX2_replicaAt_25 : decode cX2_replicaAt 25 = .ok (.dup, 1) := by decide +kernel
theorem dX2_replicaAt_26 : decode cX2_replicaAt 26 = .ok (.ldc 163, 2) := by decide +kernel
theorem dX2_replicaAt_28 : decode cX2_replicaAt 28 = .ok (.invokespecial 165, 3) := by decide +kernel
theorem dX2_replicaAt_31 : decode cX2_replicaAt 31 = .ok (.athrow, 1) := by decide +kernel
theorem dX2_replicaAt_32 : decode cX2_replicaAt 32 = .ok (.aload_n 0, 1) := by decide +kernel
theorem dX2_replicaAt_33 : decode cX2_replicaAt 33 = .ok (.getfield 11, 3) := by decide +kernel
theorem dX2_replicaAt_36 : decode cX2_replicaAt 36 = .ok (.iload_n 1, 1) := by decide +kernel
theorem dX2_replicaAt_37 : decode cX2_replicaAt 37 = .ok (.aaload, 1) := by decide +kernel
theorem dX2_replicaAt_38 : decode cX2_replicaAt 38 = .ok (.areturn, 1) := by decide +kernel
theorem dX2_deltaAt_0 : decode cX2_deltaAt 0 = .ok (.iload_n 1, 1) := by decide +kernel
theorem dX2_deltaAt_1 : decode cX2_deltaAt 1 = .ok (.ifCond .lt 21, 3) := by decide +kernel
theorem dX2_deltaAt_4 : decode cX2_deltaAt 4 = .ok (.iload_n 1, 1) := by decide +kernel
theorem dX2_deltaAt_5 : decode cX2_deltaAt 5 = .ok (.aload_n 0, 1) := by decide +kernel
theorem dX2_deltaAt_6 : decode cX2_deltaAt 6 = .ok (.getfield 15, 3) := by decide +kernel
theorem dX2_deltaAt_9 : decode cX2_deltaAt 9 = .ok (.arraylength, 1) := by decide +kernel
theorem dX2_deltaAt_10 : decode cX2_deltaAt 10 = .ok (.if_icmp .ge 12, 3) := by decide +kernel
theorem dX2_deltaAt_13 : decode cX2_deltaAt 13 = .ok (.aload_n 0, 1) := by decide +kernel
theorem dX2_deltaAt_14 : decode cX2_deltaAt 14 = .ok (.getfield 15, 3) := by decide +kernel
theorem dX2_deltaAt_17 : decode cX2_deltaAt 17 = .ok (.iload_n 1, 1) := by decide +kernel
theorem dX2_deltaAt_18 : decode cX2_deltaAt 18 = .ok (.aaload, 1) := by decide +kernel
theorem dX2_deltaAt_19 : decode cX2_deltaAt 19 = .ok (.ifnonnull 13, 3) := by decide +kernel
theorem dX2_deltaAt_22 : decode cX2_deltaAt 22 = .ok (.new 161, 3) := by decide +kernel
theorem dX2_deltaAt_25 : decode cX2_deltaAt 25 = .ok (.dup, 1) := by decide +kernel
theorem dX2_deltaAt_26 : decode cX2_deltaAt 26 = .ok (.ldc 168, 2) := by decide +kernel
theorem dX2_deltaAt_28 : decode cX2_deltaAt 28 = .ok (.invokespecial 165, 3) := by decide +kernel
theorem dX2_deltaAt_31 : decode cX2_deltaAt 31 = .ok (.athrow, 1) := by decide +kernel
theorem dX2_deltaAt_32 : decode cX2_deltaAt 32 = .ok (.aload_n 0, 1) := by decide +kernel
theorem dX2_deltaAt_33 : decode cX2_deltaAt 33 = .ok (.getfield 15, 3) := by decide +kernel
theorem dX2_deltaAt_36 : decode cX2_deltaAt 36 = .ok (.iload_n 1, 1) := by decide +kernel
theorem dX2_deltaAt_37 : decode cX2_deltaAt 37 = .ok (.aaload, 1) := by decide +kernel
theorem dX2_deltaAt_38 : decode cX2_deltaAt 38 = .ok (.areturn, 1) := by decide +kernel
theorem dX2_requireIndex_0 : decode cX2_requireIndex 0 = .ok (.iload_n 0, 1) := by decide +kernel
theorem dX2_requireIndex_1 : decode cX2_requireIndex 1 = .ok (.ifCond .lt 8, 3) := by decide +kernel
theorem dX2_requireIndex_4 : decode cX2_requireIndex 4 = .ok (.iload_n 0, 1) := by decide +kernel
theorem dX2_requireIndex_5 : decode cX2_requireIndex 5 = .ok (.iload_n 1, 1) := by decide +kernel
theorem dX2_requireIndex_6 : decode cX2_requireIndex 6 = .ok (.if_icmp .lt 13, 3) := by decide +kernel
theorem dX2_requireIndex_9 : decode cX2_requireIndex 9 = .ok (.new 161, 3) := by decide +kernel
theorem dX2_requireIndex_12 : decode cX2_requireIndex 12 = .ok (.dup, 1) := by decide +kernel
theorem dX2_requireIndex_13 : decode cX2_requireIndex 13 = .ok (.ldc 170, 2) := by decide +kernel
theorem dX2_requireIndex_15 : decode cX2_requireIndex 15 = .ok (.invokespecial 165, 3) := by decide +kernel
theorem dX2_requireIndex_18 : decode cX2_requireIndex 18 = .ok (.athrow, 1) := by decide +kernel
theorem dX2_requireIndex_19 : decode cX2_requireIndex 19 = .ok (.return_, 1) := by decide +kernel
theorem dX2_requireKind_0 : decode cX2_requireKind 0 = .ok (.iload_n 0, 1) := by decide +kernel
theorem dX2_requireKind_1 : decode cX2_requireKind 1 = .ok (.iconst 4, 1) := by decide +kernel
theorem dX2_requireKind_2 : decode cX2_requireKind 2 = .ok (.irem, 1) := by decide +kernel
theorem dX2_requireKind_3 : decode cX2_requireKind 3 = .ok (.iload_n 1, 1) := by decide +kernel
theorem dX2_requireKind_4 : decode cX2_requireKind 4 = .ok (.if_icmp .eq 13, 3) := by decide +kernel
theorem dX2_requireKind_7 : decode cX2_requireKind 7 = .ok (.new 172, 3) := by decide +kernel
theorem dX2_requireKind_10 : decode cX2_requireKind 10 = .ok (.dup, 1) := by decide +kernel
theorem dX2_requireKind_11 : decode cX2_requireKind 11 = .ok (.ldc 174, 2) := by decide +kernel
theorem dX2_requireKind_13 : decode cX2_requireKind 13 = .ok (.invokespecial 176, 3) := by decide +kernel
theorem dX2_requireKind_16 : decode cX2_requireKind 16 = .ok (.athrow, 1) := by decide +kernel
theorem dX2_requireKind_17 : decode cX2_requireKind 17 = .ok (.return_, 1) := by decide +kernel
theorem dX2_requireTime_0 : decode cX2_requireTime 0 = .ok (.iload_n 0, 1) := by decide +kernel
theorem dX2_requireTime_1 : decode cX2_requireTime 1 = .ok (.ifCond .lt 9, 3) := by decide +kernel
theorem dX2_requireTime_4 : decode cX2_requireTime 4 = .ok (.iload_n 0, 1) := by decide +kernel
theorem dX2_requireTime_5 : decode cX2_requireTime 5 = .ok (.ldc 177, 2) := by decide +kernel
theorem dX2_requireTime_7 : decode cX2_requireTime 7 = .ok (.if_icmp .le 13, 3) := by decide +kernel
theorem dX2_requireTime_10 : decode cX2_requireTime 10 = .ok (.new 178, 3) := by decide +kernel
theorem dX2_requireTime_13 : decode cX2_requireTime 13 = .ok (.dup, 1) := by decide +kernel
theorem dX2_requireTime_14 : decode cX2_requireTime 14 = .ok (.ldc 180, 2) := by decide +kernel
theorem dX2_requireTime_16 : decode cX2_requireTime 16 = .ok (.invokespecial 182, 3) := by decide +kernel
theorem dX2_requireTime_19 : decode cX2_requireTime 19 = .ok (.athrow, 1) := by decide +kernel
theorem dX2_requireTime_20 : decode cX2_requireTime 20 = .ok (.return_, 1) := by decide +kernel
set_option maxRecDepth 20000 in
theorem ggX2_requireDot_X0_canMake : GoodIn wsX2_requireDot wsX0_canMake := goodIn_r _ [8, 9, 10, 17, 18, 19, 20, 21, 22, 23] (by decide +kernel) (by decide +kernel)
set_option maxRecDepth 20000 in
theorem gX2_requireDot_X0_canMake : GoodIn wsX2_requireDot (wsV RX2 183 RX0 yX0_canMake wsX0_canMake) := goodIn_app (goodIn_of _ (by decide +kernel)) ggX2_requireDot_X0_canMake
theorem dX2_requireDot_0 : decode cX2_requireDot 0 = .ok (.aload_n 0, 1) := by decide +kernel
theorem dX2_requireDot_1 : decode cX2_requireDot 1 = .ok (.getfield 21, 3) := by decide +kernel
theorem dX2_requireDot_4 : decode cX2_requireDot 4 = .ok (.iload_n 1, 1) := by decide +kernel
theorem dX2_requireDot_5 : decode cX2_requireDot 5 = .ok (.invokevirtual 183, 3) := by decide +kernel
theorem dX2_requireDot_8 : decode cX2_requireDot 8 = .ok (.ifCond .ne 13, 3) := by decide +kernel
theorem dX2_requireDot_11 : decode cX2_requireDot 11 = .ok (.new 186, 3) := by decide +kernel
theorem dX2_requireDot_14 : decode cX2_requireDot 14 = .ok (.dup, 1) := by decide +kernel
theorem dX2_requireDot_15 : decode cX2_requireDot 15 = .ok (.ldc 188, 2) := by decide +kernel
theorem dX2_requireDot_17 : decode cX2_requireDot 17 = .ok (.invokespecial 190, 3) := by decide +kernel
theorem dX2_requireDot_20 : decode cX2_requireDot 20 = .ok (.athrow, 1) := by decide +kernel
theorem dX2_requireDot_21 : decode cX2_requireDot 21 = .ok (.return_, 1) := by decide +kernel
set_option maxRecDepth 20000 in
theorem ggX2_openDelta_X1_init : GoodIn wsX2_openDelta wsX1_init := goodIn_r _ [9, 10, 11, 12, 13, 14, 15, 16, 17, 18, 19, 26, 27, 28, 29, 30] (by decide +kernel) (by decide +kernel)
set_option maxRecDepth 20000 in
theorem gX2_openDelta_X1_init_n25 : GoodIn wsX2_openDelta (wsX1_init) := ggX2_openDelta_X1_init
theorem dX2_openDelta_0 : decode cX2_openDelta 0 = .ok (.aload_n 0, 1) := by decide +kernel
theorem dX2_openDelta_1 : decode cX2_openDelta 1 = .ok (.getfield 34, 3) := by decide +kernel
theorem dX2_openDelta_4 : decode cX2_openDelta 4 = .ok (.ifCond .lt 15, 3) := by decide +kernel
theorem dX2_openDelta_7 : decode cX2_openDelta 7 = .ok (.aload_n 0, 1) := by decide +kernel
theorem dX2_openDelta_8 : decode cX2_openDelta 8 = .ok (.getfield 34, 3) := by decide +kernel
theorem dX2_openDelta_11 : decode cX2_openDelta 11 = .ok (.aload_n 0, 1) := by decide +kernel
theorem dX2_openDelta_12 : decode cX2_openDelta 12 = .ok (.getfield 15, 3) := by decide +kernel
theorem dX2_openDelta_15 : decode cX2_openDelta 15 = .ok (.arraylength, 1) := by decide +kernel
theorem dX2_openDelta_16 : decode cX2_openDelta 16 = .ok (.if_icmp .lt 13, 3) := by decide +kernel
theorem dX2_openDelta_19 : decode cX2_openDelta 19 = .ok (.new 186, 3) := by decide +kernel
theorem dX2_openDelta_22 : decode cX2_openDelta 22 = .ok (.dup, 1) := by decide +kernel
theorem dX2_openDelta_23 : decode cX2_openDelta 23 = .ok (.ldc 191, 2) := by decide +kernel
theorem dX2_openDelta_25 : decode cX2_openDelta 25 = .ok (.invokespecial 190, 3) := by decide +kernel
theorem dX2_openDelta_28 : decode cX2_openDelta 28 = .ok (.athrow, 1) := by decide +kernel
theorem dX2_openDelta_29 : decode cX2_openDelta 29 = .ok (.new 9, 3) := by decide +kernel
theorem dX2_openDelta_32 : decode cX2_openDelta 32 = .ok (.dup, 1) := by decide +kernel
theorem dX2_openDelta_33 : decode cX2_openDelta 33 = .ok (.invokespecial 25, 3) := by decide +kernel
theorem dX2_openDelta_36 : decode cX2_openDelta 36 = .ok (.astore_n 1, 1) := by decide +kernel
theorem dX2_openDelta_37 : decode cX2_openDelta 37 = .ok (.aload_n 0, 1) := by decide +kernel
theorem dX2_openDelta_38 : decode cX2_openDelta 38 = .ok (.getfield 15, 3) := by decide +kernel
theorem dX2_openDelta_41 : decode cX2_openDelta 41 = .ok (.aload_n 0, 1) := by decide +kernel
theorem dX2_openDelta_42 : decode cX2_openDelta 42 = .ok (.getfield 34, 3) := by decide +kernel
theorem dX2_openDelta_45 : decode cX2_openDelta 45 = .ok (.aload_n 1, 1) := by decide +kernel
theorem dX2_openDelta_46 : decode cX2_openDelta 46 = .ok (.aastore, 1) := by decide +kernel
theorem dX2_openDelta_47 : decode cX2_openDelta 47 = .ok (.aload_n 0, 1) := by decide +kernel
theorem dX2_openDelta_48 : decode cX2_openDelta 48 = .ok (.dup, 1) := by decide +kernel
theorem dX2_openDelta_49 : decode cX2_openDelta 49 = .ok (.getfield 34, 3) := by decide +kernel
theorem dX2_openDelta_52 : decode cX2_openDelta 52 = .ok (.iconst 1, 1) := by decide +kernel
theorem dX2_openDelta_53 : decode cX2_openDelta 53 = .ok (.iadd, 1) := by decide +kernel
theorem dX2_openDelta_54 : decode cX2_openDelta 54 = .ok (.putfield 34, 3) := by decide +kernel
theorem dX2_openDelta_57 : decode cX2_openDelta 57 = .ok (.aload_n 1, 1) := by decide +kernel
theorem dX2_openDelta_58 : decode cX2_openDelta 58 = .ok (.areturn, 1) := by decide +kernel
set_option maxRecDepth 20000 in
theorem ggX2_finish_X1_take : GoodIn wsX2_finish wsX1_take := goodIn_r _ [6, 7, 8, 9, 5, 10, 11, 12, 13, 14, 15, 16, 17, 18, 19, 20, 21, 22, 23, 24, 31, 32, 33, 34, 35] (by decide +kernel) (by decide +kernel)
set_option maxRecDepth 20000 in
theorem gX2_finish_X1_take : GoodIn wsX2_finish (wsV RX2 96 RX1 yX1_take wsX1_take) := goodIn_app (goodIn_of _ (by decide +kernel)) ggX2_finish_X1_take
theorem dX2_finish_0 : decode cX2_finish 0 = .ok (.aload_n 1, 1) := by decide +kernel
theorem dX2_finish_1 : decode cX2_finish 1 = .ok (.aload_n 2, 1) := by decide +kernel
theorem dX2_finish_2 : decode cX2_finish 2 = .ok (.invokevirtual 96, 3) := by decide +kernel
theorem dX2_finish_5 : decode cX2_finish 5 = .ok (.pop, 1) := by decide +kernel
theorem dX2_finish_6 : decode cX2_finish 6 = .ok (.aload_n 0, 1) := by decide +kernel
theorem dX2_finish_7 : decode cX2_finish 7 = .ok (.getfield 34, 3) := by decide +kernel
theorem dX2_finish_10 : decode cX2_finish 10 = .ok (.iconst 1, 1) := by decide +kernel
theorem dX2_finish_11 : decode cX2_finish 11 = .ok (.isub, 1) := by decide +kernel
theorem dX2_finish_12 : decode cX2_finish 12 = .ok (.ireturn, 1) := by decide +kernel
set_option maxRecDepth 20000 in
theorem ggX2_turn_X2_requireDot : GoodIn wsX2_turn wsX2_requireDot := goodIn_ca (goodIn_r _ [6, 7, 8, 1, 9, 10, 11, 12, 13, 14, 15, 90, 91, 92, 93, 94, 95, 96, 97, 98, 99, 100, 101, 102] (by decide +kernel) (by decide +kernel)) (goodIn_sub (fun _ h => List.mem_cons_of_mem _ (List.mem_append_right _ h)) (by decide +kernel))
set_option maxRecDepth 20000 in
theorem gX2_turn_X2_requireDot : GoodIn wsX2_turn (wsV RX2 53 RX2 yX2_requireDot wsX2_requireDot) := goodIn_app (goodIn_of _ (by decide +kernel)) ggX2_turn_X2_requireDot
set_option maxRecDepth 20000 in
theorem ggX2_turn_X2_openDelta : GoodIn wsX2_turn wsX2_openDelta := goodIn_ca (goodIn_r _ [19, 7, 8, 20, 21, 22, 23, 24, 25, 26, 27, 28, 29, 30, 31, 32, 33, 34, 35, 36, 90, 91, 92, 93, 94, 95, 103, 104, 105, 106, 107] (by decide +kernel) (by decide +kernel)) (goodIn_sub (fun _ h => List.mem_cons_of_mem _ (List.mem_append_right _ h)) (by decide +kernel))
set_option maxRecDepth 20000 in
theorem gX2_turn_X2_openDelta : GoodIn wsX2_turn (wsV RX2 57 RX2 yX2_openDelta wsX2_openDelta) := goodIn_app (goodIn_of _ (by decide +kernel)) ggX2_turn_X2_openDelta
set_option maxRecDepth 20000 in
theorem ggX2_turn_X2_takeBack : GoodIn wsX2_turn wsX2_takeBack := goodIn_r _ [40, 1, 41, 42, 43, 44, 45, 24, 46, 32, 47, 48, 49, 12, 50, 51, 52, 53, 54, 55, 56, 57, 31, 90, 91, 92, 93, 94, 95, 96, 97, 98, 99, 100, 101, 102, 103, 104, 105, 106, 107] (by decide +kernel) (by decide +kernel)
set_option maxRecDepth 20000 in
theorem gX2_turn_X2_takeBack : GoodIn wsX2_turn (wsV RX2 61 RX2 yX2_takeBack wsX2_takeBack) := goodIn_app (goodIn_of _ (by decide +kernel)) ggX2_turn_X2_takeBack
set_option maxRecDepth 20000 in
theorem ggX2_turn_X0_make : GoodIn wsX2_turn wsX0_make := goodIn_r _ [61, 14, 15, 53, 62, 51, 52, 63, 96, 97, 98, 99, 100, 101, 102] (by decide +kernel) (by decide +kernel)
set_option maxRecDepth 20000 in
theorem gX2_turn_X0_make : GoodIn wsX2_turn (wsV RX2 65 RX0 yX0_make wsX0_make) := goodIn_app (goodIn_of _ (by decide +kernel)) ggX2_turn_X0_make
set_option maxRecDepth 20000 in
theorem ggX2_turn_X1_enliven : GoodIn wsX2_turn wsX1_enliven := goodIn_r _ [67, 32, 68, 55, 56, 24, 57, 31, 103, 104, 105, 106, 107] (by decide +kernel) (by decide +kernel)
set_option maxRecDepth 20000 in
theorem gX2_turn_X1_enliven : GoodIn wsX2_turn (wsV RX2 69 RX1 yX1_enliven wsX1_enliven) := goodIn_app (goodIn_of _ (by decide +kernel)) ggX2_turn_X1_enliven
set_option maxRecDepth 20000 in
theorem ggX2_turn_X2_finish : GoodIn wsX2_turn wsX2_finish := goodIn_r _ [72, 20, 73, 74, 75, 24, 76, 77, 78, 79, 80, 32, 31, 81, 82, 83, 84, 85, 35, 36, 86, 87, 88, 89, 34, 90, 91, 92, 93, 94, 95, 103, 104, 105, 106, 107] (by decide +kernel) (by decide +kernel)
set_option maxRecDepth 20000 in
theorem gX2_turn_X2_finish : GoodIn wsX2_turn (wsV RX2 72 RX2 yX2_finish wsX2_finish) := goodIn_app (goodIn_of _ (by decide +kernel)) ggX2_turn_X2_finish
theorem dX2_turn_0 : decode cX2_turn 0 = .ok (.iload 5, 2) := by decide +kernel
theorem dX2_turn_2 : decode cX2_turn 2 = .ok (.ifCond .eq 8, 3) := by decide +kernel
theorem dX2_turn_5 : decode cX2_turn 5 = .ok (.aload_n 0, 1) := by decide +kernel
theorem dX2_turn_6 : decode cX2_turn 6 = .ok (.iload_n 2, 1) := by decide +kernel
theorem dX2_turn_7 : decode cX2_turn 7 = .ok (.invokevirtual 53, 3) := by decide +kernel
theorem dX2_turn_10 : decode cX2_turn 10 = .ok (.aload_n 0, 1) := by decide +kernel
theorem dX2_turn_11 : decode cX2_turn 11 = .ok (.invokevirtual 57, 3) := by decide +kernel
theorem dX2_turn_14 : decode cX2_turn 14 = .ok (.astore 6, 2) := by decide +kernel
theorem dX2_turn_16 : decode cX2_turn 16 = .ok (.aload_n 0, 1) := by decide +kernel
theorem dX2_turn_17 : decode cX2_turn 17 = .ok (.aload_n 1, 1) := by decide +kernel
theorem dX2_turn_18 : decode cX2_turn 18 = .ok (.aload 6, 2) := by decide +kernel
theorem dX2_turn_20 : decode cX2_turn 20 = .ok (.iload_n 3, 1) := by decide +kernel
theorem dX2_turn_21 : decode cX2_turn 21 = .ok (.iload 4, 2) := by decide +kernel
theorem dX2_turn_23 : decode cX2_turn 23 = .ok (.iconst (-1), 1) := by decide +kernel
theorem dX2_turn_24 : decode cX2_turn 24 = .ok (.invokevirtual 61, 3) := by decide +kernel
theorem dX2_turn_27 : decode cX2_turn 27 = .ok (.pop2, 1) := by decide +kernel
theorem dX2_turn_28 : decode cX2_turn 28 = .ok (.iload 5, 2) := by decide +kernel
theorem dX2_turn_30 : decode cX2_turn 30 = .ok (.ifCond .eq 20, 3) := by decide +kernel
theorem dX2_turn_33 : decode cX2_turn 33 = .ok (.aload 6, 2) := by decide +kernel
theorem dX2_turn_35 : decode cX2_turn 35 = .ok (.aload_n 0, 1) := by decide +kernel
theorem dX2_turn_36 : decode cX2_turn 36 = .ok (.getfield 21, 3) := by decide +kernel
theorem dX2_turn_39 : decode cX2_turn 39 = .ok (.iload_n 2, 1) := by decide +kernel
theorem dX2_turn_40 : decode cX2_turn 40 = .ok (.iload_n 3, 1) := by decide +kernel
theorem dX2_turn_41 : decode cX2_turn 41 = .ok (.iload 4, 2) := by decide +kernel
theorem dX2_turn_43 : decode cX2_turn 43 = .ok (.lconst 0, 1) := by decide +kernel
theorem dX2_turn_44 : decode cX2_turn 44 = .ok (.invokevirtual 65, 3) := by decide +kernel
theorem dX2_turn_47 : decode cX2_turn 47 = .ok (.invokevirtual 69, 3) := by decide +kernel
theorem dX2_turn_50 : decode cX2_turn 50 = .ok (.aload_n 0, 1) := by decide +kernel
theorem dX2_turn_51 : decode cX2_turn 51 = .ok (.aload_n 1, 1) := by decide +kernel
theorem dX2_turn_52 : decode cX2_turn 52 = .ok (.aload 6, 2) := by decide +kernel
theorem dX2_turn_54 : decode cX2_turn 54 = .ok (.invokevirtual 72, 3) := by decide +kernel
theorem dX2_turn_57 : decode cX2_turn 57 = .ok (.ireturn, 1) := by decide +kernel
set_option maxRecDepth 20000 in
theorem ggX2_takeBack_X1_isLive : GoodIn wsX2_takeBack wsX1_isLive := goodIn_r _ [8, 9, 36, 37, 38, 39, 40] (by decide +kernel) (by decide +kernel)
set_option maxRecDepth 20000 in
theorem gX2_takeBack_X1_isLive : GoodIn wsX2_takeBack (wsV RX2 111 RX1 yX1_isLive wsX1_isLive) := goodIn_app (goodIn_of _ (by decide +kernel)) ggX2_takeBack_X1_isLive
set_option maxRecDepth 20000 in
theorem ggX2_takeBack_X0_fits : GoodIn wsX2_takeBack wsX0_fits := goodIn_r _ [14, 15, 16, 17, 29, 30, 31, 32, 33, 34, 35] (by decide +kernel) (by decide +kernel)
set_option maxRecDepth 20000 in
theorem gX2_takeBack_X0_fits : GoodIn wsX2_takeBack (wsV RX2 115 RX0 yX0_fits wsX0_fits) := goodIn_app (goodIn_of _ (by decide +kernel)) ggX2_takeBack_X0_fits
set_option maxRecDepth 20000 in
theorem ggX2_takeBack_X1_see : GoodIn wsX2_takeBack wsX1_see := goodIn_r _ [21, 22, 36, 37, 38, 39, 40] (by decide +kernel) (by decide +kernel)
set_option maxRecDepth 20000 in
theorem gX2_takeBack_X1_see : GoodIn wsX2_takeBack (wsV RX2 193 RX1 yX1_see wsX1_see) := goodIn_app (goodIn_of _ (by decide +kernel)) ggX2_takeBack_X1_see
theorem dX2_takeBack_0 : decode cX2_takeBack 0 = .ok (.lconst 0, 1) := by decide +kernel
theorem dX2_takeBack_1 : decode cX2_takeBack 1 = .ok (.lstore 6, 2) := by decide +kernel
theorem dX2_takeBack_3 : decode cX2_takeBack 3 = .ok (.iconst 0, 1) := by decide +kernel
theorem dX2_takeBack_4 : decode cX2_takeBack 4 = .ok (.istore 8, 2) := by decide +kernel
theorem dX2_takeBack_6 : decode cX2_takeBack 6 = .ok (.iload 8, 2) := by decide +kernel
theorem dX2_takeBack_8 : decode cX2_takeBack 8 = .ok (.aload_n 0, 1) := by decide +kernel
theorem dX2_takeBack_9 : decode cX2_takeBack 9 = .ok (.getfield 21, 3) := by decide +kernel
theorem dX2_takeBack_12 : decode cX2_takeBack 12 = .ok (.getfield 108, 3) := by decide +kernel
theorem dX2_takeBack_15 : decode cX2_takeBack 15 = .ok (.if_icmp .ge 56, 3) := by decide +kernel
theorem dX2_takeBack_18 : decode cX2_takeBack 18 = .ok (.aload_n 1, 1) := by decide +kernel
theorem dX2_takeBack_19 : decode cX2_takeBack 19 = .ok (.iload 8, 2) := by decide +kernel
theorem dX2_takeBack_21 : decode cX2_takeBack 21 = .ok (.invokevirtual 111, 3) := by decide +kernel
theorem dX2_takeBack_24 : decode cX2_takeBack 24 = .ok (.ifCond .eq 41, 3) := by decide +kernel
theorem dX2_takeBack_27 : decode cX2_takeBack 27 = .ok (.aload_n 0, 1) := by decide +kernel
theorem dX2_takeBack_28 : decode cX2_takeBack 28 = .ok (.getfield 21, 3) := by decide +kernel
theorem dX2_takeBack_31 : decode cX2_takeBack 31 = .ok (.iload 8, 2) := by decide +kernel
theorem dX2_takeBack_33 : decode cX2_takeBack 33 = .ok (.iload_n 3, 1) := by decide +kernel
theorem dX2_takeBack_34 : decode cX2_takeBack 34 = .ok (.iload 4, 2) := by decide +kernel
theorem dX2_takeBack_36 : decode cX2_takeBack 36 = .ok (.iload 5, 2) := by decide +kernel
theorem dX2_takeBack_38 : decode cX2_takeBack 38 = .ok (.invokevirtual 115, 3) := by decide +kernel
theorem dX2_takeBack_41 : decode cX2_takeBack 41 = .ok (.ifCond .eq 24, 3) := by decide +kernel
theorem dX2_takeBack_44 : decode cX2_takeBack 44 = .ok (.aload_n 2, 1) := by decide +kernel
theorem dX2_takeBack_45 : decode cX2_takeBack 45 = .ok (.iload 8, 2) := by decide +kernel
theorem dX2_takeBack_47 : decode cX2_takeBack 47 = .ok (.invokevirtual 193, 3) := by decide +kernel
theorem dX2_takeBack_50 : decode cX2_takeBack 50 = .ok (.lload 6, 2) := by decide +kernel
theorem dX2_takeBack_52 : decode cX2_takeBack 52 = .ok (.aload_n 0, 1) := by decide +kernel
theorem dX2_takeBack_53 : decode cX2_takeBack 53 = .ok (.getfield 21, 3) := by decide +kernel
theorem dX2_takeBack_56 : decode cX2_takeBack 56 = .ok (.getfield 123, 3) := by decide +kernel
theorem dX2_takeBack_59 : decode cX2_takeBack 59 = .ok (.iload 8, 2) := by decide +kernel
theorem dX2_takeBack_61 : decode cX2_takeBack 61 = .ok (.laload, 1) := by decide +kernel
theorem dX2_takeBack_62 : decode cX2_takeBack 62 = .ok (.ladd, 1) := by decide +kernel
theorem dX2_takeBack_63 : decode cX2_takeBack 63 = .ok (.lstore 6, 2) := by decide +kernel
theorem dX2_takeBack_65 : decode cX2_takeBack 65 = .ok (.iinc 8 1, 3) := by decide +kernel
theorem dX2_takeBack_68 : decode cX2_takeBack 68 = .ok (.goto (-62), 3) := by decide +kernel
theorem dX2_takeBack_71 : decode cX2_takeBack 71 = .ok (.lload 6, 2) := by decide +kernel
theorem dX2_takeBack_73 : decode cX2_takeBack 73 = .ok (.lreturn, 1) := by decide +kernel
set_option maxRecDepth 20000 in
theorem ggX2_orderValues_X1_isLive : GoodIn wsX2_orderValues wsX1_isLive := goodIn_r _ [8, 9, 37, 38, 39, 40, 41] (by decide +kernel) (by decide +kernel)
set_option maxRecDepth 20000 in
theorem gX2_orderValues_X1_isLive : GoodIn wsX2_orderValues (wsV RX2 111 RX1 yX1_isLive wsX1_isLive) := goodIn_app (goodIn_of _ (by decide +kernel)) ggX2_orderValues_X1_isLive
set_option maxRecDepth 20000 in
theorem ggX2_orderValues_X0_fits : GoodIn wsX2_orderValues wsX0_fits := goodIn_r _ [14, 15, 16, 17, 30, 31, 32, 33, 34, 35, 36] (by decide +kernel) (by decide +kernel)
set_option maxRecDepth 20000 in
theorem gX2_orderValues_X0_fits : GoodIn wsX2_orderValues (wsV RX2 115 RX0 yX0_fits wsX0_fits) := goodIn_app (goodIn_of _ (by decide +kernel)) ggX2_orderValues_X0_fits
set_option maxRecDepth 20000 in
theorem ggX2_orderValues_X2_orderValue : GoodIn wsX2_orderValues wsX2_orderValue := goodIn_r _ [22, 23, 24, 25, 26, 27, 28, 29] (by decide +kernel) (by decide +kernel)
set_option maxRecDepth 20000 in
theorem gX2_orderValues_X2_orderValue : GoodIn wsX2_orderValues (wsV RX2 196 RX2 yX2_orderValue wsX2_orderValue) := goodIn_app (goodIn_of _ (by decide +kernel)) ggX2_orderValues_X2_orderValue
theorem dX2_orderValues_0 : decode cX2_orderValues 0 = .ok (.iconst 0, 1) := by decide +kernel
theorem dX2_orderValues_1 : decode cX2_orderValues 1 = .ok (.istore_n 3, 1) := by decide +kernel
theorem dX2_orderValues_2 : decode cX2_orderValues 2 = .ok (.iconst 0, 1) := by decide +kernel
theorem dX2_orderValues_3 : decode cX2_orderValues 3 = .ok (.istore 4, 2) := by decide +kernel
theorem dX2_orderValues_5 : decode cX2_orderValues 5 = .ok (.iload 4, 2) := by decide +kernel
theorem dX2_orderValues_7 : decode cX2_orderValues 7 = .ok (.aload_n 0, 1) := by decide +kernel
theorem dX2_orderValues_8 : decode cX2_orderValues 8 = .ok (.getfield 21, 3) := by decide +kernel
theorem dX2_orderValues_11 : decode cX2_orderValues 11 = .ok (.getfield 108, 3) := by decide +kernel
theorem dX2_orderValues_14 : decode cX2_orderValues 14 = .ok (.if_icmp .ge 49, 3) := by decide +kernel
theorem dX2_orderValues_17 : decode cX2_orderValues 17 = .ok (.aload_n 1, 1) := by decide +kernel
theorem dX2_orderValues_18 : decode cX2_orderValues 18 = .ok (.iload 4, 2) := by decide +kernel
theorem dX2_orderValues_20 : decode cX2_orderValues 20 = .ok (.invokevirtual 111, 3) := by decide +kernel
theorem dX2_orderValues_23 : decode cX2_orderValues 23 = .ok (.ifCond .eq 34, 3) := by decide +kernel
theorem dX2_orderValues_26 : decode cX2_orderValues 26 = .ok (.aload_n 0, 1) := by decide +kernel
theorem dX2_orderValues_27 : decode cX2_orderValues 27 = .ok (.getfield 21, 3) := by decide +kernel
theorem dX2_orderValues_30 : decode cX2_orderValues 30 = .ok (.iload 4, 2) := by decide +kernel
theorem dX2_orderValues_32 : decode cX2_orderValues 32 = .ok (.iload_n 2, 1) := by decide +kernel
theorem dX2_orderValues_33 : decode cX2_orderValues 33 = .ok (.iconst (-1), 1) := by decide +kernel
theorem dX2_orderValues_34 : decode cX2_orderValues 34 = .ok (.iconst (-1), 1) := by decide +kernel
theorem dX2_orderValues_35 : decode cX2_orderValues 35 = .ok (.invokevirtual 115, 3) := by decide +kernel
theorem dX2_orderValues_38 : decode cX2_orderValues 38 = .ok (.ifCond .eq 19, 3) := by decide +kernel
theorem dX2_orderValues_41 : decode cX2_orderValues 41 = .ok (.aload_n 0, 1) := by decide +kernel
theorem dX2_orderValues_42 : decode cX2_orderValues 42 = .ok (.aload_n 0, 1) := by decide +kernel
theorem dX2_orderValues_43 : decode cX2_orderValues 43 = .ok (.getfield 21, 3) := by decide +kernel
theorem dX2_orderValues_46 : decode cX2_orderValues 46 = .ok (.getfield 123, 3) := by decide +kernel
theorem dX2_orderValues_49 : decode cX2_orderValues 49 = .ok (.iload 4, 2) := by decide +kernel
theorem dX2_orderValues_51 : decode cX2_orderValues 51 = .ok (.laload, 1) := by decide +kernel
theorem dX2_orderValues_52 : decode cX2_orderValues 52 = .ok (.iload_n 3, 1) := by decide +kernel
theorem dX2_orderValues_53 : decode cX2_orderValues 53 = .ok (.invokevirtual 196, 3) := by decide +kernel
theorem dX2_orderValues_56 : decode cX2_orderValues 56 = .ok (.istore_n 3, 1) := by decide +kernel
theorem dX2_orderValues_57 : decode cX2_orderValues 57 = .ok (.iinc 4 1, 3) := by decide +kernel
theorem dX2_orderValues_60 : decode cX2_orderValues 60 = .ok (.goto (-55), 3) := by decide +kernel
theorem dX2_orderValues_63 : decode cX2_orderValues 63 = .ok (.iload_n 3, 1) := by decide +kernel
theorem dX2_orderValues_64 : decode cX2_orderValues 64 = .ok (.ireturn, 1) := by decide +kernel
theorem dX2_orderValue_0 : decode cX2_orderValue 0 = .ok (.iconst 0, 1) := by decide +kernel
theorem dX2_orderValue_1 : decode cX2_orderValue 1 = .ok (.istore 4, 2) := by decide +kernel
theorem dX2_orderValue_3 : decode cX2_orderValue 3 = .ok (.iload 4, 2) := by decide +kernel
theorem dX2_orderValue_5 : decode cX2_orderValue 5 = .ok (.iload_n 3, 1) := by decide +kernel
theorem dX2_orderValue_6 : decode cX2_orderValue 6 = .ok (.if_icmp .ge 21, 3) := by decide +kernel
theorem dX2_orderValue_9 : decode cX2_orderValue 9 = .ok (.aload_n 0, 1) := by decide +kernel
theorem dX2_orderValue_10 : decode cX2_orderValue 10 = .ok (.getfield 30, 3) := by decide +kernel
theorem dX2_orderValue_13 : decode cX2_orderValue 13 = .ok (.iload 4, 2) := by decide +kernel
theorem dX2_orderValue_15 : decode cX2_orderValue 15 = .ok (.laload, 1) := by decide +kernel
theorem dX2_orderValue_16 : decode cX2_orderValue 16 = .ok (.lload_n 1, 1) := by decide +kernel
theorem dX2_orderValue_17 : decode cX2_orderValue 17 = .ok (.lcmp, 1) := by decide +kernel
theorem dX2_orderValue_18 : decode cX2_orderValue 18 = .ok (.ifCond .ge 9, 3) := by decide +kernel
theorem dX2_orderValue_21 : decode cX2_orderValue 21 = .ok (.iinc 4 1, 3) := by decide +kernel
theorem dX2_orderValue_24 : decode cX2_orderValue 24 = .ok (.goto (-21), 3) := by decide +kernel
theorem dX2_orderValue_27 : decode cX2_orderValue 27 = .ok (.iload 4, 2) := by decide +kernel
theorem dX2_orderValue_29 : decode cX2_orderValue 29 = .ok (.iload_n 3, 1) := by decide +kernel
theorem dX2_orderValue_30 : decode cX2_orderValue 30 = .ok (.if_icmp .ge 17, 3) := by decide +kernel
theorem dX2_orderValue_33 : decode cX2_orderValue 33 = .ok (.aload_n 0, 1) := by decide +kernel
theorem dX2_orderValue_34 : decode cX2_orderValue 34 = .ok (.getfield 30, 3) := by decide +kernel
theorem dX2_orderValue_37 : decode cX2_orderValue 37 = .ok (.iload 4, 2) := by decide +kernel
theorem dX2_orderValue_39 : decode cX2_orderValue 39 = .ok (.laload, 1) := by decide +kernel
theorem dX2_orderValue_40 : decode cX2_orderValue 40 = .ok (.lload_n 1, 1) := by decide +kernel
theorem dX2_orderValue_41 : decode cX2_orderValue 41 = .ok (.lcmp, 1) := by decide +kernel
theorem dX2_orderValue_42 : decode cX2_orderValue 42 = .ok (.ifCond .ne 5, 3) := by decide +kernel
theorem dX2_orderValue_45 : decode cX2_orderValue 45 = .ok (.iload_n 3, 1) := by decide +kernel
theorem dX2_orderValue_46 : decode cX2_orderValue 46 = .ok (.ireturn, 1) := by decide +kernel
theorem dX2_orderValue_47 : decode cX2_orderValue 47 = .ok (.iload_n 3, 1) := by decide +kernel
theorem dX2_orderValue_48 : decode cX2_orderValue 48 = .ok (.istore 5, 2) := by decide +kernel
theorem dX2_orderValue_50 : decode cX2_orderValue 50 = .ok (.iload 5, 2) := by decide +kernel
theorem dX2_orderValue_52 : decode cX2_orderValue 52 = .ok (.iload 4, 2) := by decide +kernel
theorem dX2_orderValue_54 : decode cX2_orderValue 54 = .ok (.if_icmp .le 25, 3) := by decide +kernel
theorem dX2_orderValue_57 : decode cX2_orderValue 57 = .ok (.aload_n 0, 1) := by decide +kernel
theorem dX2_orderValue_58 : decode cX2_orderValue 58 = .ok (.getfield 30, 3) := by decide +kernel
theorem dX2_orderValue_61 : decode cX2_orderValue 61 = .ok (.iload 5, 2) := by decide +kernel
theorem dX2_orderValue_63 : decode cX2_orderValue 63 = .ok (.aload_n 0, 1) := by decide +kernel
theorem dX2_orderValue_64 : decode cX2_orderValue 64 = .ok (.getfield 30, 3) := by decide +kernel
theorem dX2_orderValue_67 : decode cX2_orderValue 67 = .ok (.iload 5, 2) := by decide +kernel
theorem dX2_orderValue_69 : decode cX2_orderValue 69 = .ok (.iconst 1, 1) := by decide +kernel
theorem dX2_orderValue_70 : decode cX2_orderValue 70 = .ok (.isub, 1) := by decide +kernel
theorem dX2_orderValue_71 : decode cX2_orderValue 71 = .ok (.laload, 1) := by decide +kernel
theorem dX2_orderValue_72 : decode cX2_orderValue 72 = .ok (.lastore, 1) := by decide +kernel
theorem dX2_orderValue_73 : decode cX2_orderValue 73 = .ok (.iinc 5 (-1), 3) := by decide +kernel
theorem dX2_orderValue_76 : decode cX2_orderValue 76 = .ok (.goto (-26), 3) := by decide +kernel
theorem dX2_orderValue_79 : decode cX2_orderValue 79 = .ok (.aload_n 0, 1) := by decide +kernel
theorem dX2_orderValue_80 : decode cX2_orderValue 80 = .ok (.getfield 30, 3) := by decide +kernel
theorem dX2_orderValue_83 : decode cX2_orderValue 83 = .ok (.iload 4, 2) := by decide +kernel
theorem dX2_orderValue_85 : decode cX2_orderValue 85 = .ok (.lload_n 1, 1) := by decide +kernel
theorem dX2_orderValue_86 : decode cX2_orderValue 86 = .ok (.lastore, 1) := by decide +kernel
theorem dX2_orderValue_87 : decode cX2_orderValue 87 = .ok (.iload_n 3, 1) := by decide +kernel
theorem dX2_orderValue_88 : decode cX2_orderValue 88 = .ok (.iconst 1, 1) := by decide +kernel
theorem dX2_orderValue_89 : decode cX2_orderValue 89 = .ok (.iadd, 1) := by decide +kernel
theorem dX2_orderValue_90 : decode cX2_orderValue 90 = .ok (.ireturn, 1) := by decide +kernel
set_option maxRecDepth 20000 in
theorem ggX2_stamp_X2_bit : GoodIn wsX2_stamp wsX2_bit := goodIn_r _ [4] (by decide +kernel) (by decide +kernel)
set_option maxRecDepth 20000 in
theorem gX2_stamp_X2_bit : GoodIn wsX2_stamp (va_wsS RX2 100 yX2_bit wsX2_bit) := goodIn_app (goodIn_of _ (by decide +kernel)) ggX2_stamp_X2_bit
theorem dX2_stamp_0 : decode cX2_stamp 0 = .ok (.iconst 1, 1) := by decide +kernel
theorem dX2_stamp_1 : decode cX2_stamp 1 = .ok (.iload_n 0, 1) := by decide +kernel
theorem dX2_stamp_2 : decode cX2_stamp 2 = .ok (.bipush 6, 2) := by decide +kernel
theorem dX2_stamp_4 : decode cX2_stamp 4 = .ok (.imul, 1) := by decide +kernel
theorem dX2_stamp_5 : decode cX2_stamp 5 = .ok (.iload_n 1, 1) := by decide +kernel
theorem dX2_stamp_6 : decode cX2_stamp 6 = .ok (.iadd, 1) := by decide +kernel
theorem dX2_stamp_7 : decode cX2_stamp 7 = .ok (.iconst 2, 1) := by decide +kernel
theorem dX2_stamp_8 : decode cX2_stamp 8 = .ok (.imul, 1) := by decide +kernel
theorem dX2_stamp_9 : decode cX2_stamp 9 = .ok (.iadd, 1) := by decide +kernel
theorem dX2_stamp_10 : decode cX2_stamp 10 = .ok (.iload_n 2, 1) := by decide +kernel
theorem dX2_stamp_11 : decode cX2_stamp 11 = .ok (.invokestatic 100, 3) := by decide +kernel
theorem dX2_stamp_14 : decode cX2_stamp 14 = .ok (.iadd, 1) := by decide +kernel
theorem dX2_stamp_15 : decode cX2_stamp 15 = .ok (.ireturn, 1) := by decide +kernel
theorem dX2_stampIsIn_0 : decode cX2_stampIsIn 0 = .ok (.iload_n 0, 1) := by decide +kernel
theorem dX2_stampIsIn_1 : decode cX2_stampIsIn 1 = .ok (.ifCond .le 16, 3) := by decide +kernel
theorem dX2_stampIsIn_4 : decode cX2_stampIsIn 4 = .ok (.iload_n 0, 1) := by decide +kernel
theorem dX2_stampIsIn_5 : decode cX2_stampIsIn 5 = .ok (.iconst 1, 1) := by decide +kernel
theorem dX2_stampIsIn_6 : decode cX2_stampIsIn 6 = .ok (.isub, 1) := by decide +kernel
theorem dX2_stampIsIn_7 : decode cX2_stampIsIn 7 = .ok (.iconst 2, 1) := by decide +kernel
theorem dX2_stampIsIn_8 : decode cX2_stampIsIn 8 = .ok (.irem, 1) := by decide +kernel
theorem dX2_stampIsIn_9 : decode cX2_stampIsIn 9 = .ok (.iconst 1, 1) := by decide +kernel
theorem dX2_stampIsIn_10 : decode cX2_stampIsIn 10 = .ok (.if_icmp .ne 7, 3) := by decide +kernel
theorem dX2_stampIsIn_13 : decode cX2_stampIsIn 13 = .ok (.iconst 1, 1) := by decide +kernel
theorem dX2_stampIsIn_14 : decode cX2_stampIsIn 14 = .ok (.goto 4, 3) := by decide +kernel
theorem dX2_stampIsIn_17 : decode cX2_stampIsIn 17 = .ok (.iconst 0, 1) := by decide +kernel
theorem dX2_stampIsIn_18 : decode cX2_stampIsIn 18 = .ok (.ireturn, 1) := by decide +kernel
theorem dX2_stampReplica_0 : decode cX2_stampReplica 0 = .ok (.iload_n 0, 1) := by decide +kernel
theorem dX2_stampReplica_1 : decode cX2_stampReplica 1 = .ok (.iconst 1, 1) := by decide +kernel
theorem dX2_stampReplica_2 : decode cX2_stampReplica 2 = .ok (.isub, 1) := by decide +kernel
theorem dX2_stampReplica_3 : decode cX2_stampReplica 3 = .ok (.iconst 2, 1) := by decide +kernel
theorem dX2_stampReplica_4 : decode cX2_stampReplica 4 = .ok (.idiv, 1) := by decide +kernel
theorem dX2_stampReplica_5 : decode cX2_stampReplica 5 = .ok (.bipush 6, 2) := by decide +kernel
theorem dX2_stampReplica_7 : decode cX2_stampReplica 7 = .ok (.irem, 1) := by decide +kernel
theorem dX2_stampReplica_8 : decode cX2_stampReplica 8 = .ok (.ireturn, 1) := by decide +kernel
theorem dX2_stampTime_0 : decode cX2_stampTime 0 = .ok (.iload_n 0, 1) := by decide +kernel
theorem dX2_stampTime_1 : decode cX2_stampTime 1 = .ok (.iconst 1, 1) := by decide +kernel
theorem dX2_stampTime_2 : decode cX2_stampTime 2 = .ok (.isub, 1) := by decide +kernel
theorem dX2_stampTime_3 : decode cX2_stampTime 3 = .ok (.iconst 2, 1) := by decide +kernel
theorem dX2_stampTime_4 : decode cX2_stampTime 4 = .ok (.idiv, 1) := by decide +kernel
theorem dX2_stampTime_5 : decode cX2_stampTime 5 = .ok (.bipush 6, 2) := by decide +kernel
theorem dX2_stampTime_7 : decode cX2_stampTime 7 = .ok (.idiv, 1) := by decide +kernel
theorem dX2_stampTime_8 : decode cX2_stampTime 8 = .ok (.ireturn, 1) := by decide +kernel
theorem dX2_bit_0 : decode cX2_bit 0 = .ok (.iload_n 0, 1) := by decide +kernel
theorem dX2_bit_1 : decode cX2_bit 1 = .ok (.ifCond .eq 7, 3) := by decide +kernel
theorem dX2_bit_4 : decode cX2_bit 4 = .ok (.iconst 1, 1) := by decide +kernel
theorem dX2_bit_5 : decode cX2_bit 5 = .ok (.goto 4, 3) := by decide +kernel
theorem dX2_bit_8 : decode cX2_bit 8 = .ok (.iconst 0, 1) := by decide +kernel
theorem dX2_bit_9 : decode cX2_bit 9 = .ok (.ireturn, 1) := by decide +kernel
set_option maxRecDepth 20000 in
theorem ggX2_bitsIn_J13_bitCount_95d88 : GoodIn wsX2_bitsIn wsJ13_bitCount_95d88 := goodIn_r _ [4, 5, 6, 7] (by decide +kernel) (by decide +kernel)
set_option maxRecDepth 20000 in
theorem gX2_bitsIn_J13_bitCount_95d88 : GoodIn wsX2_bitsIn (va_wsS RX2 200 yJ13_bitCount_95d88 wsJ13_bitCount_95d88) := goodIn_app (goodIn_of _ (by decide +kernel)) ggX2_bitsIn_J13_bitCount_95d88
theorem dX2_bitsIn_0 : decode cX2_bitsIn 0 = .ok (.iconst 0, 1) := by decide +kernel
theorem dX2_bitsIn_1 : decode cX2_bitsIn 1 = .ok (.istore_n 1, 1) := by decide +kernel
theorem dX2_bitsIn_2 : decode cX2_bitsIn 2 = .ok (.iconst 0, 1) := by decide +kernel
theorem dX2_bitsIn_3 : decode cX2_bitsIn 3 = .ok (.istore_n 2, 1) := by decide +kernel
theorem dX2_bitsIn_4 : decode cX2_bitsIn 4 = .ok (.iload_n 2, 1) := by decide +kernel
theorem dX2_bitsIn_5 : decode cX2_bitsIn 5 = .ok (.aload_n 0, 1) := by decide +kernel
theorem dX2_bitsIn_6 : decode cX2_bitsIn 6 = .ok (.arraylength, 1) := by decide +kernel
theorem dX2_bitsIn_7 : decode cX2_bitsIn 7 = .ok (.if_icmp .ge 18, 3) := by decide +kernel
theorem dX2_bitsIn_10 : decode cX2_bitsIn 10 = .ok (.iload_n 1, 1) := by decide +kernel
theorem dX2_bitsIn_11 : decode cX2_bitsIn 11 = .ok (.aload_n 0, 1) := by decide +kernel
theorem dX2_bitsIn_12 : decode cX2_bitsIn 12 = .ok (.iload_n 2, 1) := by decide +kernel
theorem dX2_bitsIn_13 : decode cX2_bitsIn 13 = .ok (.laload, 1) := by decide +kernel
theorem dX2_bitsIn_14 : decode cX2_bitsIn 14 = .ok (.invokestatic 200, 3) := by decide +kernel
theorem dX2_bitsIn_17 : decode cX2_bitsIn 17 = .ok (.iadd, 1) := by decide +kernel
theorem dX2_bitsIn_18 : decode cX2_bitsIn 18 = .ok (.istore_n 1, 1) := by decide +kernel
theorem dX2_bitsIn_19 : decode cX2_bitsIn 19 = .ok (.iinc 2 1, 3) := by decide +kernel
theorem dX2_bitsIn_22 : decode cX2_bitsIn 22 = .ok (.goto (-18), 3) := by decide +kernel
theorem dX2_bitsIn_25 : decode cX2_bitsIn 25 = .ok (.iload_n 1, 1) := by decide +kernel
theorem dX2_bitsIn_26 : decode cX2_bitsIn 26 = .ok (.ireturn, 1) := by decide +kernel
theorem dX3_init_0 : decode cX3_init 0 = .ok (.aload_n 0, 1) := by decide +kernel
theorem dX3_init_1 : decode cX3_init 1 = .ok (.invokespecial 1, 3) := by decide +kernel
theorem dX3_init_4 : decode cX3_init 4 = .ok (.aload_n 0, 1) := by decide +kernel
theorem dX3_init_5 : decode cX3_init 5 = .ok (.sipush 3084, 3) := by decide +kernel
theorem dX3_init_8 : decode cX3_init 8 = .ok (.newarray .long, 2) := by decide +kernel
theorem dX3_init_10 : decode cX3_init 10 = .ok (.putfield 7, 3) := by decide +kernel
theorem dX3_init_13 : decode cX3_init 13 = .ok (.aload_n 0, 1) := by decide +kernel
theorem dX3_init_14 : decode cX3_init 14 = .ok (.sipush 3084, 3) := by decide +kernel
theorem dX3_init_17 : decode cX3_init 17 = .ok (.newarray .long, 2) := by decide +kernel
theorem dX3_init_19 : decode cX3_init 19 = .ok (.putfield 13, 3) := by decide +kernel
theorem dX3_init_22 : decode cX3_init 22 = .ok (.aload_n 0, 1) := by decide +kernel
theorem dX3_init_23 : decode cX3_init 23 = .ok (.sipush 257, 3) := by decide +kernel
theorem dX3_init_26 : decode cX3_init 26 = .ok (.newarray .int, 2) := by decide +kernel
theorem dX3_init_28 : decode cX3_init 28 = .ok (.putfield 16, 3) := by decide +kernel
theorem dX3_init_31 : decode cX3_init 31 = .ok (.aload_n 0, 1) := by decide +kernel
theorem dX3_init_32 : decode cX3_init 32 = .ok (.sipush 257, 3) := by decide +kernel
theorem dX3_init_35 : decode cX3_init 35 = .ok (.newarray .int, 2) := by decide +kernel
theorem dX3_init_37 : decode cX3_init 37 = .ok (.putfield 20, 3) := by decide +kernel
theorem dX3_init_40 : decode cX3_init 40 = .ok (.aload_n 0, 1) := by decide +kernel
theorem dX3_init_41 : decode cX3_init 41 = .ok (.sipush 8224, 3) := by decide +kernel
theorem dX3_init_44 : decode cX3_init 44 = .ok (.newarray .int, 2) := by decide +kernel
theorem dX3_init_46 : decode cX3_init 46 = .ok (.putfield 23, 3) := by decide +kernel
theorem dX3_init_49 : decode cX3_init 49 = .ok (.aload_n 0, 1) := by decide +kernel
theorem dX3_init_50 : decode cX3_init 50 = .ok (.sipush 8224, 3) := by decide +kernel
theorem dX3_init_53 : decode cX3_init 53 = .ok (.newarray .int, 2) := by decide +kernel
theorem dX3_init_55 : decode cX3_init 55 = .ok (.putfield 26, 3) := by decide +kernel
theorem dX3_init_58 : decode cX3_init 58 = .ok (.aload_n 0, 1) := by decide +kernel
theorem dX3_init_59 : decode cX3_init 59 = .ok (.sipush 8224, 3) := by decide +kernel
theorem dX3_init_62 : decode cX3_init 62 = .ok (.newarray .boolean, 2) := by decide +kernel
theorem dX3_init_64 : decode cX3_init 64 = .ok (.putfield 29, 3) := by decide +kernel
theorem dX3_init_67 : decode cX3_init 67 = .ok (.aload_n 0, 1) := by decide +kernel
theorem dX3_init_68 : decode cX3_init 68 = .ok (.sipush 606, 3) := by decide +kernel
theorem dX3_init_71 : decode cX3_init 71 = .ok (.newarray .int, 2) := by decide +kernel
theorem dX3_init_73 : decode cX3_init 73 = .ok (.putfield 33, 3) := by decide +kernel
theorem dX3_init_76 : decode cX3_init 76 = .ok (.aload_n 0, 1) := by decide +kernel
theorem dX3_init_77 : decode cX3_init 77 = .ok (.sipush 606, 3) := by decide +kernel
theorem dX3_init_80 : decode cX3_init 80 = .ok (.newarray .int, 2) := by decide +kernel
theorem dX3_init_82 : decode cX3_init 82 = .ok (.putfield 36, 3) := by decide +kernel
theorem dX3_init_85 : decode cX3_init 85 = .ok (.aload_n 0, 1) := by decide +kernel
theorem dX3_init_86 : decode cX3_init 86 = .ok (.sipush 606, 3) := by decide +kernel
theorem dX3_init_89 : decode cX3_init 89 = .ok (.newarray .long, 2) := by decide +kernel
theorem dX3_init_91 : decode cX3_init 91 = .ok (.putfield 39, 3) := by decide +kernel
theorem dX3_init_94 : decode cX3_init 94 = .ok (.aload_n 0, 1) := by decide +kernel
theorem dX3_init_95 : decode cX3_init 95 = .ok (.sipush 600, 3) := by decide +kernel
theorem dX3_init_98 : decode cX3_init 98 = .ok (.newarray .long, 2) := by decide +kernel
theorem dX3_init_100 : decode cX3_init 100 = .ok (.putfield 42, 3) := by decide +kernel
theorem dX3_init_103 : decode cX3_init 103 = .ok (.return_, 1) := by decide +kernel
theorem dX3_thrown_0 : decode cX3_thrown 0 = .ok (.aload_n 0, 1) := by decide +kernel
theorem dX3_thrown_1 : decode cX3_thrown 1 = .ok (.getfield 45, 3) := by decide +kernel
theorem dX3_thrown_4 : decode cX3_thrown 4 = .ok (.ireturn, 1) := by decide +kernel
theorem dX3_in_0 : decode cX3_in 0 = .ok (.iload_n 0, 1) := by decide +kernel
theorem dX3_in_1 : decode cX3_in 1 = .ok (.iload_n 1, 1) := by decide +kernel
theorem dX3_in_2 : decode cX3_in 2 = .ok (.if_icmp .lt 12, 3) := by decide +kernel
theorem dX3_in_5 : decode cX3_in 5 = .ok (.iload_n 0, 1) := by decide +kernel
theorem dX3_in_6 : decode cX3_in 6 = .ok (.iload_n 2, 1) := by decide +kernel
theorem dX3_in_7 : decode cX3_in 7 = .ok (.if_icmp .gt 7, 3) := by decide +kernel
theorem dX3_in_10 : decode cX3_in 10 = .ok (.iconst 1, 1) := by decide +kernel
theorem dX3_in_11 : decode cX3_in 11 = .ok (.goto 4, 3) := by decide +kernel
theorem dX3_in_14 : decode cX3_in 14 = .ok (.iconst 0, 1) := by decide +kernel
theorem dX3_in_15 : decode cX3_in 15 = .ok (.ireturn, 1) := by decide +kernel
theorem dX3_goes_0 : decode cX3_goes 0 = .ok (.aload_n 0, 1) := by decide +kernel
theorem dX3_goes_1 : decode cX3_goes 1 = .ok (.iload_n 1, 1) := by decide +kernel
theorem dX3_goes_2 : decode cX3_goes 2 = .ok (.ifCond .eq 7, 3) := by decide +kernel
theorem dX3_goes_5 : decode cX3_goes 5 = .ok (.iconst 0, 1) := by decide +kernel
theorem dX3_goes_6 : decode cX3_goes 6 = .ok (.goto 4, 3) := by decide +kernel
theorem dX3_goes_9 : decode cX3_goes 9 = .ok (.iconst 1, 1) := by decide +kernel
theorem dX3_goes_10 : decode cX3_goes 10 = .ok (.putfield 45, 3) := by decide +kernel
theorem dX3_goes_13 : decode cX3_goes 13 = .ok (.iload_n 1, 1) := by decide +kernel
theorem dX3_goes_14 : decode cX3_goes 14 = .ok (.ireturn, 1) := by decide +kernel
theorem dX3_dot_0 : decode cX3_dot 0 = .ok (.bipush 101, 2) := by decide +kernel
theorem dX3_dot_2 : decode cX3_dot 2 = .ok (.iload_n 0, 1) := by decide +kernel
theorem dX3_dot_3 : decode cX3_dot 3 = .ok (.imul, 1) := by decide +kernel
theorem dX3_dot_4 : decode cX3_dot 4 = .ok (.iload_n 1, 1) := by decide +kernel
theorem dX3_dot_5 : decode cX3_dot 5 = .ok (.iadd, 1) := by decide +kernel
theorem dX3_dot_6 : decode cX3_dot 6 = .ok (.ireturn, 1) := by decide +kernel
theorem dX3_isSet_0 : decode cX3_isSet 0 = .ok (.aload_n 0, 1) := by decide +kernel
theorem dX3_isSet_1 : decode cX3_isSet 1 = .ok (.bipush 12, 2) := by decide +kernel
theorem dX3_isSet_3 : decode cX3_isSet 3 = .ok (.iload_n 1, 1) := by decide +kernel
theorem dX3_isSet_4 : decode cX3_isSet 4 = .ok (.imul, 1) := by decide +kernel
theorem dX3_isSet_5 : decode cX3_isSet 5 = .ok (.iconst 2, 1) := by decide +kernel
theorem dX3_isSet_6 : decode cX3_isSet 6 = .ok (.iload_n 2, 1) := by decide +kernel
theorem dX3_isSet_7 : decode cX3_isSet 7 = .ok (.imul, 1) := by decide +kernel
theorem dX3_isSet_8 : decode cX3_isSet 8 = .ok (.iadd, 1) := by decide +kernel
theorem dX3_isSet_9 : decode cX3_isSet 9 = .ok (.iload_n 3, 1) := by decide +kernel
theorem dX3_isSet_10 : decode cX3_isSet 10 = .ok (.iconst 1, 1) := by decide +kernel
theorem dX3_isSet_11 : decode cX3_isSet 11 = .ok (.isub, 1) := by decide +kernel
theorem dX3_isSet_12 : decode cX3_isSet 12 = .ok (.bipush 64, 2) := by decide +kernel
theorem dX3_isSet_14 : decode cX3_isSet 14 = .ok (.idiv, 1) := by decide +kernel
theorem dX3_isSet_15 : decode cX3_isSet 15 = .ok (.iadd, 1) := by decide +kernel
theorem dX3_isSet_16 : decode cX3_isSet 16 = .ok (.laload, 1) := by decide +kernel
theorem dX3_isSet_17 : decode cX3_isSet 17 = .ok (.iload_n 3, 1) := by decide +kernel
theorem dX3_isSet_18 : decode cX3_isSet 18 = .ok (.iconst 1, 1) := by decide +kernel
theorem dX3_isSet_19 : decode cX3_isSet 19 = .ok (.isub, 1) := by decide +kernel
theorem dX3_isSet_20 : decode cX3_isSet 20 = .ok (.bipush 64, 2) := by decide +kernel
theorem dX3_isSet_22 : decode cX3_isSet 22 = .ok (.irem, 1) := by decide +kernel
theorem dX3_isSet_23 : decode cX3_isSet 23 = .ok (.lshr, 1) := by decide +kernel
theorem dX3_isSet_24 : decode cX3_isSet 24 = .ok (.lconst 1, 1) := by decide +kernel
theorem dX3_isSet_25 : decode cX3_isSet 25 = .ok (.land, 1) := by decide +kernel
theorem dX3_isSet_26 : decode cX3_isSet 26 = .ok (.lconst 1, 1) := by decide +kernel
theorem dX3_isSet_27 : decode cX3_isSet 27 = .ok (.lcmp, 1) := by decide +kernel
theorem dX3_isSet_28 : decode cX3_isSet 28 = .ok (.ifCond .ne 7, 3) := by decide +kernel
theorem dX3_isSet_31 : decode cX3_isSet 31 = .ok (.iconst 1, 1) := by decide +kernel
theorem dX3_isSet_32 : decode cX3_isSet 32 = .ok (.goto 4, 3) := by decide +kernel
theorem dX3_isSet_35 : decode cX3_isSet 35 = .ok (.iconst 0, 1) := by decide +kernel
theorem dX3_isSet_36 : decode cX3_isSet 36 = .ok (.ireturn, 1) := by decide +kernel
theorem dX3_set_0 : decode cX3_set 0 = .ok (.bipush 12, 2) := by decide +kernel
theorem dX3_set_2 : decode cX3_set 2 = .ok (.iload_n 1, 1) := by decide +kernel
theorem dX3_set_3 : decode cX3_set 3 = .ok (.imul, 1) := by decide +kernel
theorem dX3_set_4 : decode cX3_set 4 = .ok (.iconst 2, 1) := by decide +kernel
theorem dX3_set_5 : decode cX3_set 5 = .ok (.iload_n 2, 1) := by decide +kernel
theorem dX3_set_6 : decode cX3_set 6 = .ok (.imul, 1) := by decide +kernel
theorem dX3_set_7 : decode cX3_set 7 = .ok (.iadd, 1) := by decide +kernel
theorem dX3_set_8 : decode cX3_set 8 = .ok (.iload_n 3, 1) := by decide +kernel
theorem dX3_set_9 : decode cX3_set 9 = .ok (.iconst 1, 1) := by decide +kernel
theorem dX3_set_10 : decode cX3_set 10 = .ok (.isub, 1) := by decide +kernel
theorem dX3_set_11 : decode cX3_set 11 = .ok (.bipush 64, 2) := by decide +kernel
theorem dX3_set_13 : decode cX3_set 13 = .ok (.idiv, 1) := by decide +kernel
theorem dX3_set_14 : decode cX3_set 14 = .ok (.iadd, 1) := by decide +kernel
theorem dX3_set_15 : decode cX3_set 15 = .ok (.istore 4, 2) := by decide +kernel
theorem dX3_set_17 : decode cX3_set 17 = .ok (.aload_n 0, 1) := by decide +kernel
theorem dX3_set_18 : decode cX3_set 18 = .ok (.iload 4, 2) := by decide +kernel
theorem dX3_set_20 : decode cX3_set 20 = .ok (.aload_n 0, 1) := by decide +kernel
theorem dX3_set_21 : decode cX3_set 21 = .ok (.iload 4, 2) := by decide +kernel
theorem dX3_set_23 : decode cX3_set 23 = .ok (.laload, 1) := by decide +kernel
theorem dX3_set_24 : decode cX3_set 24 = .ok (.lconst 1, 1) := by decide +kernel
theorem dX3_set_25 : decode cX3_set 25 = .ok (.iload_n 3, 1) := by decide +kernel
theorem dX3_set_26 : decode cX3_set 26 = .ok (.iconst 1, 1) := by decide +kernel
theorem dX3_set_27 : decode cX3_set 27 = .ok (.isub, 1) := by decide +kernel
theorem dX3_set_28 : decode cX3_set 28 = .ok (.bipush 64, 2) := by decide +kernel
theorem dX3_set_30 : decode cX3_set 30 = .ok (.irem, 1) := by decide +kernel
theorem dX3_set_31 : decode cX3_set 31 = .ok (.lshl, 1) := by decide +kernel
theorem dX3_set_32 : decode cX3_set 32 = .ok (.lor, 1) := by decide +kernel
theorem dX3_set_33 : decode cX3_set 33 = .ok (.lastore, 1) := by decide +kernel
theorem dX3_set_34 : decode cX3_set 34 = .ok (.return_, 1) := by decide +kernel
set_option maxRecDepth 20000 in
theorem ggX3_greatest_X3_isSet : GoodIn wsX3_greatest wsX3_isSet := goodIn_r _ [5] (by decide +kernel) (by decide +kernel)
set_option maxRecDepth 20000 in
theorem gX3_greatest_X3_isSet : GoodIn wsX3_greatest (va_wsS RX3 49 yX3_isSet wsX3_isSet) := goodIn_app (goodIn_of _ (by decide +kernel)) ggX3_greatest_X3_isSet
theorem dX3_greatest_0 : decode cX3_greatest 0 = .ok (.bipush 100, 2) := by decide +kernel
theorem dX3_greatest_2 : decode cX3_greatest 2 = .ok (.istore_n 3, 1) := by decide +kernel
theorem dX3_greatest_3 : decode cX3_greatest 3 = .ok (.iload_n 3, 1) := by decide +kernel
theorem dX3_greatest_4 : decode cX3_greatest 4 = .ok (.ifCond .le 22, 3) := by decide +kernel
theorem dX3_greatest_7 : decode cX3_greatest 7 = .ok (.aload_n 0, 1) := by decide +kernel
theorem dX3_greatest_8 : decode cX3_greatest 8 = .ok (.getfield 7, 3) := by decide +kernel
theorem dX3_greatest_11 : decode cX3_greatest 11 = .ok (.iload_n 1, 1) := by decide +kernel
theorem dX3_greatest_12 : decode cX3_greatest 12 = .ok (.iload_n 2, 1) := by decide +kernel
theorem dX3_greatest_13 : decode cX3_greatest 13 = .ok (.iload_n 3, 1) := by decide +kernel
theorem dX3_greatest_14 : decode cX3_greatest 14 = .ok (.invokestatic 49, 3) := by decide +kernel
theorem dX3_greatest_17 : decode cX3_greatest 17 = .ok (.ifCond .ne 9, 3) := by decide +kernel
theorem dX3_greatest_20 : decode cX3_greatest 20 = .ok (.iinc 3 (-1), 3) := by decide +kernel
theorem dX3_greatest_23 : decode cX3_greatest 23 = .ok (.goto (-20), 3) := by decide +kernel
theorem dX3_greatest_26 : decode cX3_greatest 26 = .ok (.iload_n 3, 1) := by decide +kernel
theorem dX3_greatest_27 : decode cX3_greatest 27 = .ok (.ireturn, 1) := by decide +kernel
theorem dX3_empty_0 : decode cX3_empty 0 = .ok (.iconst 0, 1) := by decide +kernel
theorem dX3_empty_1 : decode cX3_empty 1 = .ok (.istore_n 2, 1) := by decide +kernel
theorem dX3_empty_2 : decode cX3_empty 2 = .ok (.iload_n 2, 1) := by decide +kernel
theorem dX3_empty_3 : decode cX3_empty 3 = .ok (.bipush 12, 2) := by decide +kernel
theorem dX3_empty_5 : decode cX3_empty 5 = .ok (.if_icmp .ge 33, 3) := by decide +kernel
theorem dX3_empty_8 : decode cX3_empty 8 = .ok (.aload_n 0, 1) := by decide +kernel
theorem dX3_empty_9 : decode cX3_empty 9 = .ok (.getfield 7, 3) := by decide +kernel
theorem dX3_empty_12 : decode cX3_empty 12 = .ok (.bipush 12, 2) := by decide +kernel
theorem dX3_empty_14 : decode cX3_empty 14 = .ok (.iload_n 1, 1) := by decide +kernel
theorem dX3_empty_15 : decode cX3_empty 15 = .ok (.imul, 1) := by decide +kernel
theorem dX3_empty_16 : decode cX3_empty 16 = .ok (.iload_n 2, 1) := by decide +kernel
theorem dX3_empty_17 : decode cX3_empty 17 = .ok (.iadd, 1) := by decide +kernel
theorem dX3_empty_18 : decode cX3_empty 18 = .ok (.lconst 0, 1) := by decide +kernel
theorem dX3_empty_19 : decode cX3_empty 19 = .ok (.lastore, 1) := by decide +kernel
theorem dX3_empty_20 : decode cX3_empty 20 = .ok (.aload_n 0, 1) := by decide +kernel
theorem dX3_empty_21 : decode cX3_empty 21 = .ok (.getfield 13, 3) := by decide +kernel
theorem dX3_empty_24 : decode cX3_empty 24 = .ok (.bipush 12, 2) := by decide +kernel
theorem dX3_empty_26 : decode cX3_empty 26 = .ok (.iload_n 1, 1) := by decide +kernel
theorem dX3_empty_27 : decode cX3_empty 27 = .ok (.imul, 1) := by decide +kernel
theorem dX3_empty_28 : decode cX3_empty 28 = .ok (.iload_n 2, 1) := by decide +kernel
theorem dX3_empty_29 : decode cX3_empty 29 = .ok (.iadd, 1) := by decide +kernel
theorem dX3_empty_30 : decode cX3_empty 30 = .ok (.lconst 0, 1) := by decide +kernel
theorem dX3_empty_31 : decode cX3_empty 31 = .ok (.lastore, 1) := by decide +kernel
theorem dX3_empty_32 : decode cX3_empty 32 = .ok (.iinc 2 1, 3) := by decide +kernel
theorem dX3_empty_35 : decode cX3_empty 35 = .ok (.goto (-33), 3) := by decide +kernel
theorem dX3_empty_38 : decode cX3_empty 38 = .ok (.aload_n 0, 1) := by decide +kernel
theorem dX3_empty_39 : decode cX3_empty 39 = .ok (.getfield 16, 3) := by decide +kernel
theorem dX3_empty_42 : decode cX3_empty 42 = .ok (.iload_n 1, 1) := by decide +kernel
theorem dX3_empty_43 : decode cX3_empty 43 = .ok (.iconst 0, 1) := by decide +kernel
theorem dX3_empty_44 : decode cX3_empty 44 = .ok (.iastore, 1) := by decide +kernel
theorem dX3_empty_45 : decode cX3_empty 45 = .ok (.aload_n 0, 1) := by decide +kernel
theorem dX3_empty_46 : decode cX3_empty 46 = .ok (.getfield 20, 3) := by decide +kernel
theorem dX3_empty_49 : decode cX3_empty 49 = .ok (.iload_n 1, 1) := by decide +kernel
theorem dX3_empty_50 : decode cX3_empty 50 = .ok (.iconst 0, 1) := by decide +kernel
theorem dX3_empty_51 : decode cX3_empty 51 = .ok (.iastore, 1) := by decide +kernel
theorem dX3_empty_52 : decode cX3_empty 52 = .ok (.iconst 0, 1) := by decide +kernel
theorem dX3_empty_53 : decode cX3_empty 53 = .ok (.istore_n 2, 1) := by decide +kernel
theorem dX3_empty_54 : decode cX3_empty 54 = .ok (.iload_n 2, 1) := by decide +kernel
theorem dX3_empty_55 : decode cX3_empty 55 = .ok (.bipush 32, 2) := by decide +kernel
theorem dX3_empty_57 : decode cX3_empty 57 = .ok (.if_icmp .ge 45, 3) := by decide +kernel
theorem dX3_empty_60 : decode cX3_empty 60 = .ok (.aload_n 0, 1) := by decide +kernel
theorem dX3_empty_61 : decode cX3_empty 61 = .ok (.getfield 23, 3) := by decide +kernel
theorem dX3_empty_64 : decode cX3_empty 64 = .ok (.bipush 32, 2) := by decide +kernel
theorem dX3_empty_66 : decode cX3_empty 66 = .ok (.iload_n 1, 1) := by decide +kernel
theorem dX3_empty_67 : decode cX3_empty 67 = .ok (.imul, 1) := by decide +kernel
theorem dX3_empty_68 : decode cX3_empty 68 = .ok (.iload_n 2, 1) := by decide +kernel
theorem dX3_empty_69 : decode cX3_empty 69 = .ok (.iadd, 1) := by decide +kernel
theorem dX3_empty_70 : decode cX3_empty 70 = .ok (.iconst 0, 1) := by decide +kernel
theorem dX3_empty_71 : decode cX3_empty 71 = .ok (.iastore, 1) := by decide +kernel
theorem dX3_empty_72 : decode cX3_empty 72 = .ok (.aload_n 0, 1) := by decide +kernel
theorem dX3_empty_73 : decode cX3_empty 73 = .ok (.getfield 26, 3) := by decide +kernel
theorem dX3_empty_76 : decode cX3_empty 76 = .ok (.bipush 32, 2) := by decide +kernel
theorem dX3_empty_78 : decode cX3_empty 78 = .ok (.iload_n 1, 1) := by decide +kernel
theorem dX3_empty_79 : decode cX3_empty 79 = .ok (.imul, 1) := by decide +kernel
theorem dX3_empty_80 : decode cX3_empty 80 = .ok (.iload_n 2, 1) := by decide +kernel
theorem dX3_empty_81 : decode cX3_empty 81 = .ok (.iadd, 1) := by decide +kernel
theorem dX3_empty_82 : decode cX3_empty 82 = .ok (.iconst 0, 1) := by decide +kernel
theorem dX3_empty_83 : decode cX3_empty 83 = .ok (.iastore, 1) := by decide +kernel
theorem dX3_empty_84 : decode cX3_empty 84 = .ok (.aload_n 0, 1) := by decide +kernel
theorem dX3_empty_85 : decode cX3_empty 85 = .ok (.getfield 29, 3) := by decide +kernel
theorem dX3_empty_88 : decode cX3_empty 88 = .ok (.bipush 32, 2) := by decide +kernel
theorem dX3_empty_90 : decode cX3_empty 90 = .ok (.iload_n 1, 1) := by decide +kernel
theorem dX3_empty_91 : decode cX3_empty 91 = .ok (.imul, 1) := by decide +kernel
theorem dX3_empty_92 : decode cX3_empty 92 = .ok (.iload_n 2, 1) := by decide +kernel
theorem dX3_empty_93 : decode cX3_empty 93 = .ok (.iadd, 1) := by decide +kernel
theorem dX3_empty_94 : decode cX3_empty 94 = .ok (.iconst 0, 1) := by decide +kernel
theorem dX3_empty_95 : decode cX3_empty 95 = .ok (.bastore, 1) := by decide +kernel
theorem dX3_empty_96 : decode cX3_empty 96 = .ok (.iinc 2 1, 3) := by decide +kernel
theorem dX3_empty_99 : decode cX3_empty 99 = .ok (.goto (-45), 3) := by decide +kernel
theorem dX3_empty_102 : decode cX3_empty 102 = .ok (.return_, 1) := by decide +kernel
set_option maxRecDepth 20000 in
theorem ggX3_copy_X3_copyTimed : GoodIn wsX3_copy wsX3_copyTimed := goodIn_r _ [9, 10, 11, 12, 13, 14, 15, 16, 17, 18, 19, 20, 21, 22, 23, 24, 25, 26] (by decide +kernel) (by decide +kernel)
set_option maxRecDepth 20000 in
theorem gX3_copy_X3_copyTimed : GoodIn wsX3_copy (wsV RX3 53 RX3 yX3_copyTimed wsX3_copyTimed) := goodIn_app (goodIn_of _ (by decide +kernel)) ggX3_copy_X3_copyTimed
theorem dX3_copy_0 : decode cX3_copy 0 = .ok (.iconst 0, 1) := by decide +kernel
theorem dX3_copy_1 : decode cX3_copy 1 = .ok (.istore_n 3, 1) := by decide +kernel
theorem dX3_copy_2 : decode cX3_copy 2 = .ok (.iload_n 3, 1) := by decide +kernel
theorem dX3_copy_3 : decode cX3_copy 3 = .ok (.bipush 12, 2) := by decide +kernel
theorem dX3_copy_5 : decode cX3_copy 5 = .ok (.if_icmp .ge 53, 3) := by decide +kernel
theorem dX3_copy_8 : decode cX3_copy 8 = .ok (.aload_n 0, 1) := by decide +kernel
theorem dX3_copy_9 : decode cX3_copy 9 = .ok (.getfield 7, 3) := by decide +kernel
theorem dX3_copy_12 : decode cX3_copy 12 = .ok (.bipush 12, 2) := by decide +kernel
theorem dX3_copy_14 : decode cX3_copy 14 = .ok (.iload_n 2, 1) := by decide +kernel
theorem dX3_copy_15 : decode cX3_copy 15 = .ok (.imul, 1) := by decide +kernel
theorem dX3_copy_16 : decode cX3_copy 16 = .ok (.iload_n 3, 1) := by decide +kernel
theorem dX3_copy_17 : decode cX3_copy 17 = .ok (.iadd, 1) := by decide +kernel
theorem dX3_copy_18 : decode cX3_copy 18 = .ok (.aload_n 0, 1) := by decide +kernel
theorem dX3_copy_19 : decode cX3_copy 19 = .ok (.getfield 7, 3) := by decide +kernel
theorem dX3_copy_22 : decode cX3_copy 22 = .ok (.bipush 12, 2) := by decide +kernel
theorem dX3_copy_24 : decode cX3_copy 24 = .ok (.iload_n 1, 1) := by decide +kernel
theorem dX3_copy_25 : decode cX3_copy 25 = .ok (.imul, 1) := by decide +kernel
theorem dX3_copy_26 : decode cX3_copy 26 = .ok (.iload_n 3, 1) := by decide +kernel
theorem dX3_copy_27 : decode cX3_copy 27 = .ok (.iadd, 1) := by decide +kernel
theorem dX3_copy_28 : decode cX3_copy 28 = .ok (.laload, 1) := by decide +kernel
theorem dX3_copy_29 : decode cX3_copy 29 = .ok (.lastore, 1) := by decide +kernel
theorem dX3_copy_30 : decode cX3_copy 30 = .ok (.aload_n 0, 1) := by decide +kernel
theorem dX3_copy_31 : decode cX3_copy 31 = .ok (.getfield 13, 3) := by decide +kernel
theorem dX3_copy_34 : decode cX3_copy 34 = .ok (.bipush 12, 2) := by decide +kernel
theorem dX3_copy_36 : decode cX3_copy 36 = .ok (.iload_n 2, 1) := by decide +kernel
theorem dX3_copy_37 : decode cX3_copy 37 = .ok (.imul, 1) := by decide +kernel
theorem dX3_copy_38 : decode cX3_copy 38 = .ok (.iload_n 3, 1) := by decide +kernel
theorem dX3_copy_39 : decode cX3_copy 39 = .ok (.iadd, 1) := by decide +kernel
theorem dX3_copy_40 : decode cX3_copy 40 = .ok (.aload_n 0, 1) := by decide +kernel
theorem dX3_copy_41 : decode cX3_copy 41 = .ok (.getfield 13, 3) := by decide +kernel
theorem dX3_copy_44 : decode cX3_copy 44 = .ok (.bipush 12, 2) := by decide +kernel
theorem dX3_copy_46 : decode cX3_copy 46 = .ok (.iload_n 1, 1) := by decide +kernel
theorem dX3_copy_47 : decode cX3_copy 47 = .ok (.imul, 1) := by decide +kernel
theorem dX3_copy_48 : decode cX3_copy 48 = .ok (.iload_n 3, 1) := by decide +kernel
theorem dX3_copy_49 : decode cX3_copy 49 = .ok (.iadd, 1) := by decide +kernel
theorem dX3_copy_50 : decode cX3_copy 50 = .ok (.laload, 1) := by decide +kernel
theorem dX3_copy_51 : decode cX3_copy 51 = .ok (.lastore, 1) := by decide +kernel
theorem dX3_copy_52 : decode cX3_copy 52 = .ok (.iinc 3 1, 3) := by decide +kernel
theorem dX3_copy_55 : decode cX3_copy 55 = .ok (.goto (-53), 3) := by decide +kernel
theorem dX3_copy_58 : decode cX3_copy 58 = .ok (.aload_n 0, 1) := by decide +kernel
theorem dX3_copy_59 : decode cX3_copy 59 = .ok (.getfield 16, 3) := by decide +kernel
theorem dX3_copy_62 : decode cX3_copy 62 = .ok (.iload_n 2, 1) := by decide +kernel
theorem dX3_copy_63 : decode cX3_copy 63 = .ok (.aload_n 0, 1) := by decide +kernel
theorem dX3_copy_64 : decode cX3_copy 64 = .ok (.getfield 16, 3) := by decide +kernel
theorem dX3_copy_67 : decode cX3_copy 67 = .ok (.iload_n 1, 1) := by decide +kernel
theorem dX3_copy_68 : decode cX3_copy 68 = .ok (.iaload, 1) := by decide +kernel
theorem dX3_copy_69 : decode cX3_copy 69 = .ok (.iastore, 1) := by decide +kernel
theorem dX3_copy_70 : decode cX3_copy 70 = .ok (.aload_n 0, 1) := by decide +kernel
theorem dX3_copy_71 : decode cX3_copy 71 = .ok (.getfield 20, 3) := by decide +kernel
theorem dX3_copy_74 : decode cX3_copy 74 = .ok (.iload_n 2, 1) := by decide +kernel
theorem dX3_copy_75 : decode cX3_copy 75 = .ok (.aload_n 0, 1) := by decide +kernel
theorem dX3_copy_76 : decode cX3_copy 76 = .ok (.getfield 20, 3) := by decide +kernel
theorem dX3_copy_79 : decode cX3_copy 79 = .ok (.iload_n 1, 1) := by decide +kernel
theorem dX3_copy_80 : decode cX3_copy 80 = .ok (.iaload, 1) := by decide +kernel
theorem dX3_copy_81 : decode cX3_copy 81 = .ok (.iastore, 1) := by decide +kernel
theorem dX3_copy_82 : decode cX3_copy 82 = .ok (.iconst 0, 1) := by decide +kernel
theorem dX3_copy_83 : decode cX3_copy 83 = .ok (.istore_n 3, 1) := by decide +kernel
theorem dX3_copy_84 : decode cX3_copy 84 = .ok (.iload_n 3, 1) := by decide +kernel
theorem dX3_copy_85 : decode cX3_copy 85 = .ok (.bipush 32, 2) := by decide +kernel
theorem dX3_copy_87 : decode cX3_copy 87 = .ok (.if_icmp .ge 25, 3) := by decide +kernel
theorem dX3_copy_90 : decode cX3_copy 90 = .ok (.aload_n 0, 1) := by decide +kernel
theorem dX3_copy_91 : decode cX3_copy 91 = .ok (.bipush 32, 2) := by decide +kernel
theorem dX3_copy_93 : decode cX3_copy 93 = .ok (.iload_n 1, 1) := by decide +kernel
theorem dX3_copy_94 : decode cX3_copy 94 = .ok (.imul, 1) := by decide +kernel
theorem dX3_copy_95 : decode cX3_copy 95 = .ok (.iload_n 3, 1) := by decide +kernel
theorem dX3_copy_96 : decode cX3_copy 96 = .ok (.iadd, 1) := by decide +kernel
theorem dX3_copy_97 : decode cX3_copy 97 = .ok (.bipush 32, 2) := by decide +kernel
theorem dX3_copy_99 : decode cX3_copy 99 = .ok (.iload_n 2, 1) := by decide +kernel
theorem dX3_copy_100 : decode cX3_copy 100 = .ok (.imul, 1) := by decide +kernel
theorem dX3_copy_101 : decode cX3_copy 101 = .ok (.iload_n 3, 1) := by decide +kernel
theorem dX3_copy_102 : decode cX3_copy 102 = .ok (.iadd, 1) := by decide +kernel
theorem dX3_copy_103 : decode cX3_copy 103 = .ok (.invokevirtual 53, 3) := by decide +kernel
theorem dX3_copy_106 : decode cX3_copy 106 = .ok (.iinc 3 1, 3) := by decide +kernel
theorem dX3_copy_109 : decode cX3_copy 109 = .ok (.goto (-25), 3) := by decide +kernel
theorem dX3_copy_112 : decode cX3_copy 112 = .ok (.return_, 1) := by decide +kernel
theorem dX3_copyTimed_0 : decode cX3_copyTimed 0 = .ok (.aload_n 0, 1) := by decide +kernel
theorem dX3_copyTimed_1 : decode cX3_copyTimed 1 = .ok (.getfield 23, 3) := by decide +kernel
theorem dX3_copyTimed_4 : decode cX3_copyTimed 4 = .ok (.iload_n 2, 1) := by decide +kernel
theorem dX3_copyTimed_5 : decode cX3_copyTimed 5 = .ok (.aload_n 0, 1) := by decide +kernel
theorem dX3_copyTimed_6 : decode cX3_copyTimed 6 = .ok (.getfield 23, 3) := by decide +kernel
theorem dX3_copyTimed_9 : decode cX3_copyTimed 9 = .ok (.iload_n 1, 1) := by decide +kernel
theorem dX3_copyTimed_10 : decode cX3_copyTimed 10 = .ok (.iaload, 1) := by decide +kernel
theorem dX3_copyTimed_11 : decode cX3_copyTimed 11 = .ok (.iastore, 1) := by decide +kernel
theorem dX3_copyTimed_12 : decode cX3_copyTimed 12 = .ok (.aload_n 0, 1) := by decide +kernel
theorem dX3_copyTimed_13 : decode cX3_copyTimed 13 = .ok (.getfield 26, 3) := by decide +kernel
theorem dX3_copyTimed_16 : decode cX3_copyTimed 16 = .ok (.iload_n 2, 1) := by decide +kernel
theorem dX3_copyTimed_17 : decode cX3_copyTimed 17 = .ok (.aload_n 0, 1) := by decide +kernel
theorem dX3_copyTimed_18 : decode cX3_copyTimed 18 = .ok (.getfield 26, 3) := by decide +kernel
theorem dX3_copyTimed_21 : decode cX3_copyTimed 21 = .ok (.iload_n 1, 1) := by decide +kernel
theorem dX3_copyTimed_22 : decode cX3_copyTimed 22 = .ok (.iaload, 1) := by decide +kernel
theorem dX3_copyTimed_23 : decode cX3_copyTimed 23 = .ok (.iastore, 1) := by decide +kernel
theorem dX3_copyTimed_24 : decode cX3_copyTimed 24 = .ok (.aload_n 0, 1) := by decide +kernel
theorem dX3_copyTimed_25 : decode cX3_copyTimed 25 = .ok (.getfield 29, 3) := by decide +kernel
theorem dX3_copyTimed_28 : decode cX3_copyTimed 28 = .ok (.iload_n 2, 1) := by decide +kernel
theorem dX3_copyTimed_29 : decode cX3_copyTimed 29 = .ok (.aload_n 0, 1) := by decide +kernel
theorem dX3_copyTimed_30 : decode cX3_copyTimed 30 = .ok (.getfield 29, 3) := by decide +kernel
theorem dX3_copyTimed_33 : decode cX3_copyTimed 33 = .ok (.iload_n 1, 1) := by decide +kernel
theorem dX3_copyTimed_34 : decode cX3_copyTimed 34 = .ok (.baload, 1) := by decide +kernel
theorem dX3_copyTimed_35 : decode cX3_copyTimed 35 = .ok (.bastore, 1) := by decide +kernel
theorem dX3_copyTimed_36 : decode cX3_copyTimed 36 = .ok (.return_, 1) := by decide +kernel
theorem dX3_isAfter_0 : decode cX3_isAfter 0 = .ok (.aload_n 0, 1) := by decide +kernel
theorem dX3_isAfter_1 : decode cX3_isAfter 1 = .ok (.getfield 23, 3) := by decide +kernel
theorem dX3_isAfter_4 : decode cX3_isAfter 4 = .ok (.iload_n 1, 1) := by decide +kernel
theorem dX3_isAfter_5 : decode cX3_isAfter 5 = .ok (.iaload, 1) := by decide +kernel
theorem dX3_isAfter_6 : decode cX3_isAfter 6 = .ok (.aload_n 0, 1) := by decide +kernel
theorem dX3_isAfter_7 : decode cX3_isAfter 7 = .ok (.getfield 23, 3) := by decide +kernel
theorem dX3_isAfter_10 : decode cX3_isAfter 10 = .ok (.iload_n 2, 1) := by decide +kernel
theorem dX3_isAfter_11 : decode cX3_isAfter 11 = .ok (.iaload, 1) := by decide +kernel
theorem dX3_isAfter_12 : decode cX3_isAfter 12 = .ok (.if_icmp .eq 24, 3) := by decide +kernel
theorem dX3_isAfter_15 : decode cX3_isAfter 15 = .ok (.aload_n 0, 1) := by decide +kernel
theorem dX3_isAfter_16 : decode cX3_isAfter 16 = .ok (.getfield 23, 3) := by decide +kernel
theorem dX3_isAfter_19 : decode cX3_isAfter 19 = .ok (.iload_n 1, 1) := by decide +kernel
theorem dX3_isAfter_20 : decode cX3_isAfter 20 = .ok (.iaload, 1) := by decide +kernel
theorem dX3_isAfter_21 : decode cX3_isAfter 21 = .ok (.aload_n 0, 1) := by decide +kernel
theorem dX3_isAfter_22 : decode cX3_isAfter 22 = .ok (.getfield 23, 3) := by decide +kernel
theorem dX3_isAfter_25 : decode cX3_isAfter 25 = .ok (.iload_n 2, 1) := by decide +kernel
theorem dX3_isAfter_26 : decode cX3_isAfter 26 = .ok (.iaload, 1) := by decide +kernel
theorem dX3_isAfter_27 : decode cX3_isAfter 27 = .ok (.if_icmp .le 7, 3) := by decide +kernel
theorem dX3_isAfter_30 : decode cX3_isAfter 30 = .ok (.iconst 1, 1) := by decide +kernel
theorem dX3_isAfter_31 : decode cX3_isAfter 31 = .ok (.goto 4, 3) := by decide +kernel
theorem dX3_isAfter_34 : decode cX3_isAfter 34 = .ok (.iconst 0, 1) := by decide +kernel
theorem dX3_isAfter_35 : decode cX3_isAfter 35 = .ok (.ireturn, 1) := by decide +kernel
theorem dX3_isAfter_36 : decode cX3_isAfter 36 = .ok (.aload_n 0, 1) := by decide +kernel
theorem dX3_isAfter_37 : decode cX3_isAfter 37 = .ok (.getfield 26, 3) := by decide +kernel
theorem dX3_isAfter_40 : decode cX3_isAfter 40 = .ok (.iload_n 1, 1) := by decide +kernel
theorem dX3_isAfter_41 : decode cX3_isAfter 41 = .ok (.iaload, 1) := by decide +kernel
theorem dX3_isAfter_42 : decode cX3_isAfter 42 = .ok (.aload_n 0, 1) := by decide +kernel
theorem dX3_isAfter_43 : decode cX3_isAfter 43 = .ok (.getfield 26, 3) := by decide +kernel
theorem dX3_isAfter_46 : decode cX3_isAfter 46 = .ok (.iload_n 2, 1) := by decide +kernel
theorem dX3_isAfter_47 : decode cX3_isAfter 47 = .ok (.iaload, 1) := by decide +kernel
theorem dX3_isAfter_48 : decode cX3_isAfter 48 = .ok (.if_icmp .eq 24, 3) := by decide +kernel
theorem dX3_isAfter_51 : decode cX3_isAfter 51 = .ok (.aload_n 0, 1) := by decide +kernel
theorem dX3_isAfter_52 : decode cX3_isAfter 52 = .ok (.getfield 26, 3) := by decide +kernel
theorem dX3_isAfter_55 : decode cX3_isAfter 55 = .ok (.iload_n 1, 1) := by decide +kernel
theorem dX3_isAfter_56 : decode cX3_isAfter 56 = .ok (.iaload, 1) := by decide +kernel
theorem dX3_isAfter_57 : decode cX3_isAfter 57 = .ok (.aload_n 0, 1) := by decide +kernel
theorem dX3_isAfter_58 : decode cX3_isAfter 58 = .ok (.getfield 26, 3) := by decide +kernel
theorem dX3_isAfter_61 : decode cX3_isAfter 61 = .ok (.iload_n 2, 1) := by decide +kernel
theorem dX3_isAfter_62 : decode cX3_isAfter 62 = .ok (.iaload, 1) := by decide +kernel
theorem dX3_isAfter_63 : decode cX3_isAfter 63 = .ok (.if_icmp .le 7, 3) := by decide +kernel
theorem dX3_isAfter_66 : decode cX3_isAfter 66 = .ok (.iconst 1, 1) := by decide +kernel
theorem dX3_isAfter_67 : decode cX3_isAfter 67 = .ok (.goto 4, 3) := by decide +kernel
theorem dX3_isAfter_70 : decode cX3_isAfter 70 = .ok (.iconst 0, 1) := by decide +kernel
theorem dX3_isAfter_71 : decode cX3_isAfter 71 = .ok (.ireturn, 1) := by decide +kernel
theorem dX3_isAfter_72 : decode cX3_isAfter 72 = .ok (.aload_n 0, 1) := by decide +kernel
theorem dX3_isAfter_73 : decode cX3_isAfter 73 = .ok (.getfield 29, 3) := by decide +kernel
theorem dX3_isAfter_76 : decode cX3_isAfter 76 = .ok (.iload_n 1, 1) := by decide +kernel
theorem dX3_isAfter_77 : decode cX3_isAfter 77 = .ok (.baload, 1) := by decide +kernel
theorem dX3_isAfter_78 : decode cX3_isAfter 78 = .ok (.ifCond .eq 16, 3) := by decide +kernel
theorem dX3_isAfter_81 : decode cX3_isAfter 81 = .ok (.aload_n 0, 1) := by decide +kernel
theorem dX3_isAfter_82 : decode cX3_isAfter 82 = .ok (.getfield 29, 3) := by decide +kernel
theorem dX3_isAfter_85 : decode cX3_isAfter 85 = .ok (.iload_n 2, 1) := by decide +kernel
theorem dX3_isAfter_86 : decode cX3_isAfter 86 = .ok (.baload, 1) := by decide +kernel
theorem dX3_isAfter_87 : decode cX3_isAfter 87 = .ok (.ifCond .ne 7, 3) := by decide +kernel
theorem dX3_isAfter_90 : decode cX3_isAfter 90 = .ok (.iconst 1, 1) := by decide +kernel
theorem dX3_isAfter_91 : decode cX3_isAfter 91 = .ok (.goto 4, 3) := by decide +kernel
theorem dX3_isAfter_94 : decode cX3_isAfter 94 = .ok (.iconst 0, 1) := by decide +kernel
theorem dX3_isAfter_95 : decode cX3_isAfter 95 = .ok (.ireturn, 1) := by decide +kernel
theorem dX3_isSame_0 : decode cX3_isSame 0 = .ok (.aload_n 0, 1) := by decide +kernel
theorem dX3_isSame_1 : decode cX3_isSame 1 = .ok (.getfield 16, 3) := by decide +kernel
theorem dX3_isSame_4 : decode cX3_isSame 4 = .ok (.iload_n 1, 1) := by decide +kernel
theorem dX3_isSame_5 : decode cX3_isSame 5 = .ok (.iaload, 1) := by decide +kernel
theorem dX3_isSame_6 : decode cX3_isSame 6 = .ok (.aload_n 0, 1) := by decide +kernel
theorem dX3_isSame_7 : decode cX3_isSame 7 = .ok (.getfield 16, 3) := by decide +kernel
theorem dX3_isSame_10 : decode cX3_isSame 10 = .ok (.iload_n 2, 1) := by decide +kernel
theorem dX3_isSame_11 : decode cX3_isSame 11 = .ok (.iaload, 1) := by decide +kernel
theorem dX3_isSame_12 : decode cX3_isSame 12 = .ok (.if_icmp .ne 22, 3) := by decide +kernel
theorem dX3_isSame_15 : decode cX3_isSame 15 = .ok (.aload_n 0, 1) := by decide +kernel
theorem dX3_isSame_16 : decode cX3_isSame 16 = .ok (.getfield 20, 3) := by decide +kernel
theorem dX3_isSame_19 : decode cX3_isSame 19 = .ok (.iload_n 1, 1) := by decide +kernel
theorem dX3_isSame_20 : decode cX3_isSame 20 = .ok (.iaload, 1) := by decide +kernel
theorem dX3_isSame_21 : decode cX3_isSame 21 = .ok (.aload_n 0, 1) := by decide +kernel
theorem dX3_isSame_22 : decode cX3_isSame 22 = .ok (.getfield 20, 3) := by decide +kernel
theorem dX3_isSame_25 : decode cX3_isSame 25 = .ok (.iload_n 2, 1) := by decide +kernel
theorem dX3_isSame_26 : decode cX3_isSame 26 = .ok (.iaload, 1) := by decide +kernel
theorem dX3_isSame_27 : decode cX3_isSame 27 = .ok (.if_icmp .ne 7, 3) := by decide +kernel
theorem dX3_isSame_30 : decode cX3_isSame 30 = .ok (.iconst 1, 1) := by decide +kernel
theorem dX3_isSame_31 : decode cX3_isSame 31 = .ok (.goto 4, 3) := by decide +kernel
theorem dX3_isSame_34 : decode cX3_isSame 34 = .ok (.iconst 0, 1) := by decide +kernel
theorem dX3_isSame_35 : decode cX3_isSame 35 = .ok (.istore_n 3, 1) := by decide +kernel
theorem dX3_isSame_36 : decode cX3_isSame 36 = .ok (.iconst 0, 1) := by decide +kernel
theorem dX3_isSame_37 : decode cX3_isSame 37 = .ok (.istore 4, 2) := by decide +kernel
theorem dX3_isSame_39 : decode cX3_isSame 39 = .ok (.iload 4, 2) := by decide +kernel
theorem dX3_isSame_41 : decode cX3_isSame 41 = .ok (.bipush 12, 2) := by decide +kernel
theorem dX3_isSame_43 : decode cX3_isSame 43 = .ok (.if_icmp .ge 75, 3) := by decide +kernel
theorem dX3_isSame_46 : decode cX3_isSame 46 = .ok (.iload_n 3, 1) := by decide +kernel
theorem dX3_isSame_47 : decode cX3_isSame 47 = .ok (.ifCond .eq 63, 3) := by decide +kernel
theorem dX3_isSame_50 : decode cX3_isSame 50 = .ok (.aload_n 0, 1) := by decide +kernel
theorem dX3_isSame_51 : decode cX3_isSame 51 = .ok (.getfield 7, 3) := by decide +kernel
theorem dX3_isSame_54 : decode cX3_isSame 54 = .ok (.bipush 12, 2) := by decide +kernel
theorem dX3_isSame_56 : decode cX3_isSame 56 = .ok (.iload_n 1, 1) := by decide +kernel
theorem dX3_isSame_57 : decode cX3_isSame 57 = .ok (.imul, 1) := by decide +kernel
theorem dX3_isSame_58 : decode cX3_isSame 58 = .ok (.iload 4, 2) := by decide +kernel
theorem dX3_isSame_60 : decode cX3_isSame 60 = .ok (.iadd, 1) := by decide +kernel
theorem dX3_isSame_61 : decode cX3_isSame 61 = .ok (.laload, 1) := by decide +kernel
theorem dX3_isSame_62 : decode cX3_isSame 62 = .ok (.aload_n 0, 1) := by decide +kernel
theorem dX3_isSame_63 : decode cX3_isSame 63 = .ok (.getfield 7, 3) := by decide +kernel
theorem dX3_isSame_66 : decode cX3_isSame 66 = .ok (.bipush 12, 2) := by decide +kernel
theorem dX3_isSame_68 : decode cX3_isSame 68 = .ok (.iload_n 2, 1) := by decide +kernel
theorem dX3_isSame_69 : decode cX3_isSame 69 = .ok (.imul, 1) := by decide +kernel
theorem dX3_isSame_70 : decode cX3_isSame 70 = .ok (.iload 4, 2) := by decide +kernel
theorem dX3_isSame_72 : decode cX3_isSame 72 = .ok (.iadd, 1) := by decide +kernel
theorem dX3_isSame_73 : decode cX3_isSame 73 = .ok (.laload, 1) := by decide +kernel
theorem dX3_isSame_74 : decode cX3_isSame 74 = .ok (.lcmp, 1) := by decide +kernel
theorem dX3_isSame_75 : decode cX3_isSame 75 = .ok (.ifCond .ne 35, 3) := by decide +kernel
theorem dX3_isSame_78 : decode cX3_isSame 78 = .ok (.aload_n 0, 1) := by decide +kernel
theorem dX3_isSame_79 : decode cX3_isSame 79 = .ok (.getfield 13, 3) := by decide +kernel
theorem dX3_isSame_82 : decode cX3_isSame 82 = .ok (.bipush 12, 2) := by decide +kernel
theorem dX3_isSame_84 : decode cX3_isSame 84 = .ok (.iload_n 1, 1) := by decide +kernel
theorem dX3_isSame_85 : decode cX3_isSame 85 = .ok (.imul, 1) := by decide +kernel
theorem dX3_isSame_86 : decode cX3_isSame 86 = .ok (.iload 4, 2) := by decide +kernel
theorem dX3_isSame_88 : decode cX3_isSame 88 = .ok (.iadd, 1) := by decide +kernel
theorem dX3_isSame_89 : decode cX3_isSame 89 = .ok (.laload, 1) := by decide +kernel
theorem dX3_isSame_90 : decode cX3_isSame 90 = .ok (.aload_n 0, 1) := by decide +kernel
theorem dX3_isSame_91 : decode cX3_isSame 91 = .ok (.getfield 13, 3) := by decide +kernel
theorem dX3_isSame_94 : decode cX3_isSame 94 = .ok (.bipush 12, 2) := by decide +kernel
theorem dX3_isSame_96 : decode cX3_isSame 96 = .ok (.iload_n 2, 1) := by decide +kernel
theorem dX3_isSame_97 : decode cX3_isSame 97 = .ok (.imul, 1) := by decide +kernel
theorem dX3_isSame_98 : decode cX3_isSame 98 = .ok (.iload 4, 2) := by decide +kernel
theorem dX3_isSame_100 : decode cX3_isSame 100 = .ok (.iadd, 1) := by decide +kernel
theorem dX3_isSame_101 : decode cX3_isSame 101 = .ok (.laload, 1) := by decide +kernel
theorem dX3_isSame_102 : decode cX3_isSame 102 = .ok (.lcmp, 1) := by decide +kernel
theorem dX3_isSame_103 : decode cX3_isSame 103 = .ok (.ifCond .ne 7, 3) := by decide +kernel
theorem dX3_isSame_106 : decode cX3_isSame 106 = .ok (.iconst 1, 1) := by decide +kernel
theorem dX3_isSame_107 : decode cX3_isSame 107 = .ok (.goto 4, 3) := by decide +kernel
theorem dX3_isSame_110 : decode cX3_isSame 110 = .ok (.iconst 0, 1) := by decide +kernel
theorem dX3_isSame_111 : decode cX3_isSame 111 = .ok (.istore_n 3, 1) := by decide +kernel
theorem dX3_isSame_112 : decode cX3_isSame 112 = .ok (.iinc 4 1, 3) := by decide +kernel
theorem dX3_isSame_115 : decode cX3_isSame 115 = .ok (.goto (-76), 3) := by decide +kernel
theorem dX3_isSame_118 : decode cX3_isSame 118 = .ok (.iconst 0, 1) := by decide +kernel
theorem dX3_isSame_119 : decode cX3_isSame 119 = .ok (.istore 4, 2) := by decide +kernel
theorem dX3_isSame_121 : decode cX3_isSame 121 = .ok (.iload 4, 2) := by decide +kernel
theorem dX3_isSame_123 : decode cX3_isSame 123 = .ok (.bipush 32, 2) := by decide +kernel
theorem dX3_isSame_125 : decode cX3_isSame 125 = .ok (.if_icmp .ge 88, 3) := by decide +kernel
theorem dX3_isSame_128 : decode cX3_isSame 128 = .ok (.bipush 32, 2) := by decide +kernel
theorem dX3_isSame_130 : decode cX3_isSame 130 = .ok (.iload_n 1, 1) := by decide +kernel
theorem dX3_isSame_131 : decode cX3_isSame 131 = .ok (.imul, 1) := by decide +kernel
theorem dX3_isSame_132 : decode cX3_isSame 132 = .ok (.iload 4, 2) := by decide +kernel
theorem dX3_isSame_134 : decode cX3_isSame 134 = .ok (.iadd, 1) := by decide +kernel
theorem dX3_isSame_135 : decode cX3_isSame 135 = .ok (.istore 5, 2) := by decide +kernel
theorem dX3_isSame_137 : decode cX3_isSame 137 = .ok (.bipush 32, 2) := by decide +kernel
theorem dX3_isSame_139 : decode cX3_isSame 139 = .ok (.iload_n 2, 1) := by decide +kernel
theorem dX3_isSame_140 : decode cX3_isSame 140 = .ok (.imul, 1) := by decide +kernel
theorem dX3_isSame_141 : decode cX3_isSame 141 = .ok (.iload 4, 2) := by decide +kernel
theorem dX3_isSame_143 : decode cX3_isSame 143 = .ok (.iadd, 1) := by decide +kernel
theorem dX3_isSame_144 : decode cX3_isSame 144 = .ok (.istore 6, 2) := by decide +kernel
theorem dX3_isSame_146 : decode cX3_isSame 146 = .ok (.iload_n 3, 1) := by decide +kernel
theorem dX3_isSame_147 : decode cX3_isSame 147 = .ok (.ifCond .eq 58, 3) := by decide +kernel
theorem dX3_isSame_150 : decode cX3_isSame 150 = .ok (.aload_n 0, 1) := by decide +kernel
theorem dX3_isSame_151 : decode cX3_isSame 151 = .ok (.getfield 23, 3) := by decide +kernel
theorem dX3_isSame_154 : decode cX3_isSame 154 = .ok (.iload 5, 2) := by decide +kernel
theorem dX3_isSame_156 : decode cX3_isSame 156 = .ok (.iaload, 1) := by decide +kernel
theorem dX3_isSame_157 : decode cX3_isSame 157 = .ok (.aload_n 0, 1) := by decide +kernel
theorem dX3_isSame_158 : decode cX3_isSame 158 = .ok (.getfield 23, 3) := by decide +kernel
theorem dX3_isSame_161 : decode cX3_isSame 161 = .ok (.iload 6, 2) := by decide +kernel
theorem dX3_isSame_163 : decode cX3_isSame 163 = .ok (.iaload, 1) := by decide +kernel
theorem dX3_isSame_164 : decode cX3_isSame 164 = .ok (.if_icmp .ne 41, 3) := by decide +kernel
theorem dX3_isSame_167 : decode cX3_isSame 167 = .ok (.aload_n 0, 1) := by decide +kernel
theorem dX3_isSame_168 : decode cX3_isSame 168 = .ok (.getfield 26, 3) := by decide +kernel
theorem dX3_isSame_171 : decode cX3_isSame 171 = .ok (.iload 5, 2) := by decide +kernel
theorem dX3_isSame_173 : decode cX3_isSame 173 = .ok (.iaload, 1) := by decide +kernel
theorem dX3_isSame_174 : decode cX3_isSame 174 = .ok (.aload_n 0, 1) := by decide +kernel
theorem dX3_isSame_175 : decode cX3_isSame 175 = .ok (.getfield 26, 3) := by decide +kernel
theorem dX3_isSame_178 : decode cX3_isSame 178 = .ok (.iload 6, 2) := by decide +kernel
theorem dX3_isSame_180 : decode cX3_isSame 180 = .ok (.iaload, 1) := by decide +kernel
theorem dX3_isSame_181 : decode cX3_isSame 181 = .ok (.if_icmp .ne 24, 3) := by decide +kernel
theorem dX3_isSame_184 : decode cX3_isSame 184 = .ok (.aload_n 0, 1) := by decide +kernel
theorem dX3_isSame_185 : decode cX3_isSame 185 = .ok (.getfield 29, 3) := by decide +kernel
theorem dX3_isSame_188 : decode cX3_isSame 188 = .ok (.iload 5, 2) := by decide +kernel
theorem dX3_isSame_190 : decode cX3_isSame 190 = .ok (.baload, 1) := by decide +kernel
theorem dX3_isSame_191 : decode cX3_isSame 191 = .ok (.aload_n 0, 1) := by decide +kernel
theorem dX3_isSame_192 : decode cX3_isSame 192 = .ok (.getfield 29, 3) := by decide +kernel
theorem dX3_isSame_195 : decode cX3_isSame 195 = .ok (.iload 6, 2) := by decide +kernel
theorem dX3_isSame_197 : decode cX3_isSame 197 = .ok (.baload, 1) := by decide +kernel
theorem dX3_isSame_198 : decode cX3_isSame 198 = .ok (.if_icmp .ne 7, 3) := by decide +kernel
theorem dX3_isSame_201 : decode cX3_isSame 201 = .ok (.iconst 1, 1) := by decide +kernel
theorem dX3_isSame_202 : decode cX3_isSame 202 = .ok (.goto 4, 3) := by decide +kernel
theorem dX3_isSame_205 : decode cX3_isSame 205 = .ok (.iconst 0, 1) := by decide +kernel
theorem dX3_isSame_206 : decode cX3_isSame 206 = .ok (.istore_n 3, 1) := by decide +kernel
theorem dX3_isSame_207 : decode cX3_isSame 207 = .ok (.iinc 4 1, 3) := by decide +kernel
theorem dX3_isSame_210 : decode cX3_isSame 210 = .ok (.goto (-89), 3) := by decide +kernel
theorem dX3_isSame_213 : decode cX3_isSame 213 = .ok (.iload_n 3, 1) := by decide +kernel
theorem dX3_isSame_214 : decode cX3_isSame 214 = .ok (.ireturn, 1) := by decide +kernel
set_option maxRecDepth 20000 in
theorem ggX3_joinTo_X3_isAfter : GoodIn wsX3_joinTo wsX3_isAfter := goodIn_r _ [10, 11, 12, 13, 18, 19, 20, 21, 22, 23, 24, 25, 26, 27, 28, 29, 30, 31] (by decide +kernel) (by decide +kernel)
set_option maxRecDepth 20000 in
theorem gX3_joinTo_X3_isAfter : GoodIn wsX3_joinTo (wsV RX3 59 RX3 yX3_isAfter wsX3_isAfter) := goodIn_app (goodIn_of _ (by decide +kernel)) ggX3_joinTo_X3_isAfter
set_option maxRecDepth 20000 in
theorem ggX3_joinTo_X3_copyTimed : GoodIn wsX3_joinTo wsX3_copyTimed := goodIn_r _ [17, 11, 12, 13, 18, 19, 20, 21, 22, 23, 24, 25, 26, 27, 28, 29, 30, 31] (by decide +kernel) (by decide +kernel)
set_option maxRecDepth 20000 in
theorem gX3_joinTo_X3_copyTimed : GoodIn wsX3_joinTo (wsV RX3 53 RX3 yX3_copyTimed wsX3_copyTimed) := goodIn_app (goodIn_of _ (by decide +kernel)) ggX3_joinTo_X3_copyTimed
theorem dX3_joinTo_0 : decode cX3_joinTo 0 = .ok (.iconst 0, 1) := by decide +kernel
theorem dX3_joinTo_1 : decode cX3_joinTo 1 = .ok (.istore_n 3, 1) := by decide +kernel
theorem dX3_joinTo_2 : decode cX3_joinTo 2 = .ok (.iload_n 3, 1) := by decide +kernel
theorem dX3_joinTo_3 : decode cX3_joinTo 3 = .ok (.bipush 12, 2) := by decide +kernel
theorem dX3_joinTo_5 : decode cX3_joinTo 5 = .ok (.if_icmp .ge 109, 3) := by decide +kernel
theorem dX3_joinTo_8 : decode cX3_joinTo 8 = .ok (.bipush 12, 2) := by decide +kernel
theorem dX3_joinTo_10 : decode cX3_joinTo 10 = .ok (.iload_n 1, 1) := by decide +kernel
theorem dX3_joinTo_11 : decode cX3_joinTo 11 = .ok (.imul, 1) := by decide +kernel
theorem dX3_joinTo_12 : decode cX3_joinTo 12 = .ok (.iload_n 3, 1) := by decide +kernel
theorem dX3_joinTo_13 : decode cX3_joinTo 13 = .ok (.iadd, 1) := by decide +kernel
theorem dX3_joinTo_14 : decode cX3_joinTo 14 = .ok (.istore 4, 2) := by decide +kernel
theorem dX3_joinTo_16 : decode cX3_joinTo 16 = .ok (.bipush 12, 2) := by decide +kernel
theorem dX3_joinTo_18 : decode cX3_joinTo 18 = .ok (.iload_n 2, 1) := by decide +kernel
theorem dX3_joinTo_19 : decode cX3_joinTo 19 = .ok (.imul, 1) := by decide +kernel
theorem dX3_joinTo_20 : decode cX3_joinTo 20 = .ok (.iload_n 3, 1) := by decide +kernel
theorem dX3_joinTo_21 : decode cX3_joinTo 21 = .ok (.iadd, 1) := by decide +kernel
theorem dX3_joinTo_22 : decode cX3_joinTo 22 = .ok (.istore 5, 2) := by decide +kernel
theorem dX3_joinTo_24 : decode cX3_joinTo 24 = .ok (.aload_n 0, 1) := by decide +kernel
theorem dX3_joinTo_25 : decode cX3_joinTo 25 = .ok (.getfield 13, 3) := by decide +kernel
theorem dX3_joinTo_28 : decode cX3_joinTo 28 = .ok (.iload 5, 2) := by decide +kernel
theorem dX3_joinTo_30 : decode cX3_joinTo 30 = .ok (.aload_n 0, 1) := by decide +kernel
theorem dX3_joinTo_31 : decode cX3_joinTo 31 = .ok (.getfield 13, 3) := by decide +kernel
theorem dX3_joinTo_34 : decode cX3_joinTo 34 = .ok (.iload 4, 2) := by decide +kernel
theorem dX3_joinTo_36 : decode cX3_joinTo 36 = .ok (.laload, 1) := by decide +kernel
theorem dX3_joinTo_37 : decode cX3_joinTo 37 = .ok (.aload_n 0, 1) := by decide +kernel
theorem dX3_joinTo_38 : decode cX3_joinTo 38 = .ok (.getfield 13, 3) := by decide +kernel
theorem dX3_joinTo_41 : decode cX3_joinTo 41 = .ok (.iload 5, 2) := by decide +kernel
theorem dX3_joinTo_43 : decode cX3_joinTo 43 = .ok (.laload, 1) := by decide +kernel
theorem dX3_joinTo_44 : decode cX3_joinTo 44 = .ok (.land, 1) := by decide +kernel
theorem dX3_joinTo_45 : decode cX3_joinTo 45 = .ok (.aload_n 0, 1) := by decide +kernel
theorem dX3_joinTo_46 : decode cX3_joinTo 46 = .ok (.getfield 13, 3) := by decide +kernel
theorem dX3_joinTo_49 : decode cX3_joinTo 49 = .ok (.iload 4, 2) := by decide +kernel
