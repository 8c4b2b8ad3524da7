theorem dX3_seen_19 : decode cX3_seen 19 = .ok (.iconst 2, 1) := by decide +kernel
theorem dX3_seen_20 : decode cX3_seen 20 = .ok (.invokestatic 79, 3) := by decide +kernel
theorem dX3_seen_23 : decode cX3_seen 23 = .ok (.ifCond .eq 7, 3) := by decide +kernel
theorem dX3_seen_26 : decode cX3_seen 26 = .ok (.iconst 1, 1) := by decide +kernel
theorem dX3_seen_27 : decode cX3_seen 27 = .ok (.goto 4, 3) := by decide +kernel
theorem dX3_seen_30 : decode cX3_seen 30 = .ok (.iconst 0, 1) := by decide +kernel
theorem dX3_seen_31 : decode cX3_seen 31 = .ok (.invokevirtual 135, 3) := by decide +kernel
theorem dX3_seen_34 : decode cX3_seen 34 = .ok (.ifCond .ne 5, 3) := by decide +kernel
theorem dX3_seen_37 : decode cX3_seen 37 = .ok (.iconst 0, 1) := by decide +kernel
theorem dX3_seen_38 : decode cX3_seen 38 = .ok (.ireturn, 1) := by decide +kernel
theorem dX3_seen_39 : decode cX3_seen 39 = .ok (.iload_n 3, 1) := by decide +kernel
theorem dX3_seen_40 : decode cX3_seen 40 = .ok (.iconst 2, 1) := by decide +kernel
theorem dX3_seen_41 : decode cX3_seen 41 = .ok (.if_icmp .ne 10, 3) := by decide +kernel
theorem dX3_seen_44 : decode cX3_seen 44 = .ok (.aload_n 0, 1) := by decide +kernel
theorem dX3_seen_45 : decode cX3_seen 45 = .ok (.iload_n 1, 1) := by decide +kernel
theorem dX3_seen_46 : decode cX3_seen 46 = .ok (.iload_n 2, 1) := by decide +kernel
theorem dX3_seen_47 : decode cX3_seen 47 = .ok (.invokevirtual 91, 3) := by decide +kernel
theorem dX3_seen_50 : decode cX3_seen 50 = .ok (.ireturn, 1) := by decide +kernel
theorem dX3_seen_51 : decode cX3_seen 51 = .ok (.iload_n 3, 1) := by decide +kernel
theorem dX3_seen_52 : decode cX3_seen 52 = .ok (.iconst 1, 1) := by decide +kernel
theorem dX3_seen_53 : decode cX3_seen 53 = .ok (.if_icmp .ne 14, 3) := by decide +kernel
theorem dX3_seen_56 : decode cX3_seen 56 = .ok (.aload_n 0, 1) := by decide +kernel
theorem dX3_seen_57 : decode cX3_seen 57 = .ok (.aload_n 0, 1) := by decide +kernel
theorem dX3_seen_58 : decode cX3_seen 58 = .ok (.getfield 7, 3) := by decide +kernel
theorem dX3_seen_61 : decode cX3_seen 61 = .ok (.iload_n 1, 1) := by decide +kernel
theorem dX3_seen_62 : decode cX3_seen 62 = .ok (.iload_n 2, 1) := by decide +kernel
theorem dX3_seen_63 : decode cX3_seen 63 = .ok (.invokevirtual 152, 3) := by decide +kernel
theorem dX3_seen_66 : decode cX3_seen 66 = .ok (.ireturn, 1) := by decide +kernel
theorem dX3_seen_67 : decode cX3_seen 67 = .ok (.iconst 0, 1) := by decide +kernel
theorem dX3_seen_68 : decode cX3_seen 68 = .ok (.istore 4, 2) := by decide +kernel
theorem dX3_seen_70 : decode cX3_seen 70 = .ok (.iload 4, 2) := by decide +kernel
theorem dX3_seen_72 : decode cX3_seen 72 = .ok (.bipush 100, 2) := by decide +kernel
theorem dX3_seen_74 : decode cX3_seen 74 = .ok (.if_icmp .ge 25, 3) := by decide +kernel
theorem dX3_seen_77 : decode cX3_seen 77 = .ok (.aload_n 0, 1) := by decide +kernel
theorem dX3_seen_78 : decode cX3_seen 78 = .ok (.getfield 7, 3) := by decide +kernel
theorem dX3_seen_81 : decode cX3_seen 81 = .ok (.iload_n 1, 1) := by decide +kernel
theorem dX3_seen_82 : decode cX3_seen 82 = .ok (.iload_n 2, 1) := by decide +kernel
theorem dX3_seen_83 : decode cX3_seen 83 = .ok (.iload 4, 2) := by decide +kernel
theorem dX3_seen_85 : decode cX3_seen 85 = .ok (.iconst 1, 1) := by decide +kernel
theorem dX3_seen_86 : decode cX3_seen 86 = .ok (.iadd, 1) := by decide +kernel
theorem dX3_seen_87 : decode cX3_seen 87 = .ok (.invokestatic 49, 3) := by decide +kernel
theorem dX3_seen_90 : decode cX3_seen 90 = .ok (.ifCond .eq 9, 3) := by decide +kernel
theorem dX3_seen_93 : decode cX3_seen 93 = .ok (.iinc 4 1, 3) := by decide +kernel
theorem dX3_seen_96 : decode cX3_seen 96 = .ok (.goto (-26), 3) := by decide +kernel
theorem dX3_seen_99 : decode cX3_seen 99 = .ok (.iload 4, 2) := by decide +kernel
theorem dX3_seen_101 : decode cX3_seen 101 = .ok (.ireturn, 1) := by decide +kernel
set_option maxRecDepth 20000 in
theorem ggX3_size_X3_isReplica : GoodIn wsX3_size wsX3_isReplica := goodIn_r _ [7, 8, 9, 6, 10] (by decide +kernel) (by decide +kernel)
set_option maxRecDepth 20000 in
theorem gX3_size_X3_isReplica : GoodIn wsX3_size (wsV RX3 94 RX3 yX3_isReplica wsX3_isReplica) := goodIn_app (goodIn_of _ (by decide +kernel)) ggX3_size_X3_isReplica
set_option maxRecDepth 20000 in
theorem ggX3_size_X3_isDelta : GoodIn wsX3_size wsX3_isDelta := goodIn_r _ [14, 15, 8, 9, 6, 10, 28, 29, 30, 31, 32, 33, 34, 35, 36, 37, 38, 39, 40, 41] (by decide +kernel) (by decide +kernel)
set_option maxRecDepth 20000 in
theorem gX3_size_X3_isDelta : GoodIn wsX3_size (wsV RX3 132 RX3 yX3_isDelta wsX3_isDelta) := goodIn_app (goodIn_of _ (by decide +kernel)) ggX3_size_X3_isDelta
set_option maxRecDepth 20000 in
theorem ggX3_size_X3_in : GoodIn wsX3_size wsX3_in := goodIn_r _ [10] (by decide +kernel) (by decide +kernel)
set_option maxRecDepth 20000 in
theorem gX3_size_X3_in : GoodIn wsX3_size (va_wsS RX3 79 yX3_in wsX3_in) := goodIn_app (goodIn_of _ (by decide +kernel)) ggX3_size_X3_in
set_option maxRecDepth 20000 in
theorem ggX3_size_X3_goes : GoodIn wsX3_size wsX3_goes := goodIn_r _ [19, 20, 28, 29, 30, 31, 32, 33, 34, 35, 36, 37, 38, 39, 40, 41] (by decide +kernel) (by decide +kernel)
set_option maxRecDepth 20000 in
theorem gX3_size_X3_goes : GoodIn wsX3_size (wsV RX3 135 RX3 yX3_goes wsX3_goes) := goodIn_app (goodIn_of _ (by decide +kernel)) ggX3_size_X3_goes
set_option maxRecDepth 20000 in
theorem ggX3_size_X3_countOf : GoodIn wsX3_size wsX3_countOf := goodIn_r _ [24, 25, 26, 6, 27] (by decide +kernel) (by decide +kernel)
set_option maxRecDepth 20000 in
theorem gX3_size_X3_countOf : GoodIn wsX3_size (wsV RX3 152 RX3 yX3_countOf wsX3_countOf) := goodIn_app (goodIn_of _ (by decide +kernel)) ggX3_size_X3_countOf
theorem dX3_size_0 : decode cX3_size 0 = .ok (.bipush (-2), 2) := by decide +kernel
theorem dX3_size_2 : decode cX3_size 2 = .ok (.iload_n 1, 1) := by decide +kernel
theorem dX3_size_3 : decode cX3_size 3 = .ok (.isub, 1) := by decide +kernel
theorem dX3_size_4 : decode cX3_size 4 = .ok (.istore_n 3, 1) := by decide +kernel
theorem dX3_size_5 : decode cX3_size 5 = .ok (.aload_n 0, 1) := by decide +kernel
theorem dX3_size_6 : decode cX3_size 6 = .ok (.iload_n 1, 1) := by decide +kernel
theorem dX3_size_7 : decode cX3_size 7 = .ok (.invokevirtual 94, 3) := by decide +kernel
theorem dX3_size_10 : decode cX3_size 10 = .ok (.ifCond .ne 20, 3) := by decide +kernel
theorem dX3_size_13 : decode cX3_size 13 = .ok (.iload_n 1, 1) := by decide +kernel
theorem dX3_size_14 : decode cX3_size 14 = .ok (.iconst (-1), 1) := by decide +kernel
theorem dX3_size_15 : decode cX3_size 15 = .ok (.if_icmp .ge 19, 3) := by decide +kernel
theorem dX3_size_18 : decode cX3_size 18 = .ok (.iload_n 3, 1) := by decide +kernel
theorem dX3_size_19 : decode cX3_size 19 = .ok (.ifCond .lt 15, 3) := by decide +kernel
theorem dX3_size_22 : decode cX3_size 22 = .ok (.aload_n 0, 1) := by decide +kernel
theorem dX3_size_23 : decode cX3_size 23 = .ok (.iload_n 3, 1) := by decide +kernel
theorem dX3_size_24 : decode cX3_size 24 = .ok (.invokevirtual 132, 3) := by decide +kernel
theorem dX3_size_27 : decode cX3_size 27 = .ok (.ifCond .eq 7, 3) := by decide +kernel
theorem dX3_size_30 : decode cX3_size 30 = .ok (.iconst 1, 1) := by decide +kernel
theorem dX3_size_31 : decode cX3_size 31 = .ok (.goto 4, 3) := by decide +kernel
theorem dX3_size_34 : decode cX3_size 34 = .ok (.iconst 0, 1) := by decide +kernel
theorem dX3_size_35 : decode cX3_size 35 = .ok (.istore 4, 2) := by decide +kernel
theorem dX3_size_37 : decode cX3_size 37 = .ok (.aload_n 0, 1) := by decide +kernel
theorem dX3_size_38 : decode cX3_size 38 = .ok (.iload 4, 2) := by decide +kernel
theorem dX3_size_40 : decode cX3_size 40 = .ok (.ifCond .eq 16, 3) := by decide +kernel
theorem dX3_size_43 : decode cX3_size 43 = .ok (.iload_n 2, 1) := by decide +kernel
theorem dX3_size_44 : decode cX3_size 44 = .ok (.iconst 0, 1) := by decide +kernel
theorem dX3_size_45 : decode cX3_size 45 = .ok (.iconst 1, 1) := by decide +kernel
theorem dX3_size_46 : decode cX3_size 46 = .ok (.invokestatic 79, 3) := by decide +kernel
theorem dX3_size_49 : decode cX3_size 49 = .ok (.ifCond .eq 7, 3) := by decide +kernel
theorem dX3_size_52 : decode cX3_size 52 = .ok (.iconst 1, 1) := by decide +kernel
theorem dX3_size_53 : decode cX3_size 53 = .ok (.goto 4, 3) := by decide +kernel
theorem dX3_size_56 : decode cX3_size 56 = .ok (.iconst 0, 1) := by decide +kernel
theorem dX3_size_57 : decode cX3_size 57 = .ok (.invokevirtual 135, 3) := by decide +kernel
theorem dX3_size_60 : decode cX3_size 60 = .ok (.ifCond .ne 5, 3) := by decide +kernel
theorem dX3_size_63 : decode cX3_size 63 = .ok (.iconst 0, 1) := by decide +kernel
theorem dX3_size_64 : decode cX3_size 64 = .ok (.ireturn, 1) := by decide +kernel
theorem dX3_size_65 : decode cX3_size 65 = .ok (.iload_n 1, 1) := by decide +kernel
theorem dX3_size_66 : decode cX3_size 66 = .ok (.ifCond .lt 7, 3) := by decide +kernel
theorem dX3_size_69 : decode cX3_size 69 = .ok (.iload_n 1, 1) := by decide +kernel
theorem dX3_size_70 : decode cX3_size 70 = .ok (.goto 7, 3) := by decide +kernel
theorem dX3_size_73 : decode cX3_size 73 = .ok (.bipush 6, 2) := by decide +kernel
theorem dX3_size_75 : decode cX3_size 75 = .ok (.iload_n 3, 1) := by decide +kernel
theorem dX3_size_76 : decode cX3_size 76 = .ok (.iadd, 1) := by decide +kernel
theorem dX3_size_77 : decode cX3_size 77 = .ok (.istore 5, 2) := by decide +kernel
theorem dX3_size_79 : decode cX3_size 79 = .ok (.iconst 0, 1) := by decide +kernel
theorem dX3_size_80 : decode cX3_size 80 = .ok (.istore 6, 2) := by decide +kernel
theorem dX3_size_82 : decode cX3_size 82 = .ok (.iconst 0, 1) := by decide +kernel
theorem dX3_size_83 : decode cX3_size 83 = .ok (.istore 7, 2) := by decide +kernel
theorem dX3_size_85 : decode cX3_size 85 = .ok (.iload 7, 2) := by decide +kernel
theorem dX3_size_87 : decode cX3_size 87 = .ok (.bipush 6, 2) := by decide +kernel
theorem dX3_size_89 : decode cX3_size 89 = .ok (.if_icmp .ge 37, 3) := by decide +kernel
theorem dX3_size_92 : decode cX3_size 92 = .ok (.iload 6, 2) := by decide +kernel
theorem dX3_size_94 : decode cX3_size 94 = .ok (.aload_n 0, 1) := by decide +kernel
theorem dX3_size_95 : decode cX3_size 95 = .ok (.iload_n 2, 1) := by decide +kernel
theorem dX3_size_96 : decode cX3_size 96 = .ok (.ifCond .ne 10, 3) := by decide +kernel
theorem dX3_size_99 : decode cX3_size 99 = .ok (.aload_n 0, 1) := by decide +kernel
theorem dX3_size_100 : decode cX3_size 100 = .ok (.getfield 13, 3) := by decide +kernel
theorem dX3_size_103 : decode cX3_size 103 = .ok (.goto 7, 3) := by decide +kernel
theorem dX3_size_106 : decode cX3_size 106 = .ok (.aload_n 0, 1) := by decide +kernel
theorem dX3_size_107 : decode cX3_size 107 = .ok (.getfield 7, 3) := by decide +kernel
theorem dX3_size_110 : decode cX3_size 110 = .ok (.iload 5, 2) := by decide +kernel
theorem dX3_size_112 : decode cX3_size 112 = .ok (.iload 7, 2) := by decide +kernel
theorem dX3_size_114 : decode cX3_size 114 = .ok (.invokevirtual 152, 3) := by decide +kernel
theorem dX3_size_117 : decode cX3_size 117 = .ok (.iadd, 1) := by decide +kernel
theorem dX3_size_118 : decode cX3_size 118 = .ok (.istore 6, 2) := by decide +kernel
theorem dX3_size_120 : decode cX3_size 120 = .ok (.iinc 7 1, 3) := by decide +kernel
theorem dX3_size_123 : decode cX3_size 123 = .ok (.goto (-38), 3) := by decide +kernel
theorem dX3_size_126 : decode cX3_size 126 = .ok (.iload 6, 2) := by decide +kernel
theorem dX3_size_128 : decode cX3_size 128 = .ok (.ireturn, 1) := by decide +kernel
set_option maxRecDepth 20000 in
theorem ggX3_same_X3_isReplica : GoodIn wsX3_same wsX3_isReplica := goodIn_r _ [5, 6, 7, 4, 8] (by decide +kernel) (by decide +kernel)
set_option maxRecDepth 20000 in
theorem gX3_same_X3_isReplica : GoodIn wsX3_same (wsV RX3 94 RX3 yX3_isReplica wsX3_isReplica) := goodIn_app (goodIn_of _ (by decide +kernel)) ggX3_same_X3_isReplica
set_option maxRecDepth 20000 in
theorem ggX3_same_X3_goes : GoodIn wsX3_same wsX3_goes := goodIn_r _ [12, 13, 25, 26, 27, 28, 29, 30, 31, 32, 33, 34, 35, 36, 37, 38] (by decide +kernel) (by decide +kernel)
set_option maxRecDepth 20000 in
theorem gX3_same_X3_goes : GoodIn wsX3_same (wsV RX3 135 RX3 yX3_goes wsX3_goes) := goodIn_app (goodIn_of _ (by decide +kernel)) ggX3_same_X3_goes
set_option maxRecDepth 20000 in
theorem ggX3_same_X3_isSame : GoodIn wsX3_same wsX3_isSame := goodIn_r _ [17, 18, 19, 20, 21, 22, 23, 24, 25, 26, 27, 28, 29, 30, 31, 32, 33, 34, 35, 36, 37, 38] (by decide +kernel) (by decide +kernel)
set_option maxRecDepth 20000 in
theorem gX3_same_X3_isSame : GoodIn wsX3_same (wsV RX3 69 RX3 yX3_isSame wsX3_isSame) := goodIn_app (goodIn_of _ (by decide +kernel)) ggX3_same_X3_isSame
theorem dX3_same_0 : decode cX3_same 0 = .ok (.aload_n 0, 1) := by decide +kernel
theorem dX3_same_1 : decode cX3_same 1 = .ok (.aload_n 0, 1) := by decide +kernel
theorem dX3_same_2 : decode cX3_same 2 = .ok (.iload_n 1, 1) := by decide +kernel
theorem dX3_same_3 : decode cX3_same 3 = .ok (.invokevirtual 94, 3) := by decide +kernel
theorem dX3_same_6 : decode cX3_same 6 = .ok (.ifCond .eq 15, 3) := by decide +kernel
theorem dX3_same_9 : decode cX3_same 9 = .ok (.aload_n 0, 1) := by decide +kernel
theorem dX3_same_10 : decode cX3_same 10 = .ok (.iload_n 2, 1) := by decide +kernel
theorem dX3_same_11 : decode cX3_same 11 = .ok (.invokevirtual 94, 3) := by decide +kernel
theorem dX3_same_14 : decode cX3_same 14 = .ok (.ifCond .eq 7, 3) := by decide +kernel
theorem dX3_same_17 : decode cX3_same 17 = .ok (.iconst 1, 1) := by decide +kernel
theorem dX3_same_18 : decode cX3_same 18 = .ok (.goto 4, 3) := by decide +kernel
theorem dX3_same_21 : decode cX3_same 21 = .ok (.iconst 0, 1) := by decide +kernel
theorem dX3_same_22 : decode cX3_same 22 = .ok (.invokevirtual 135, 3) := by decide +kernel
theorem dX3_same_25 : decode cX3_same 25 = .ok (.ifCond .eq 16, 3) := by decide +kernel
theorem dX3_same_28 : decode cX3_same 28 = .ok (.aload_n 0, 1) := by decide +kernel
theorem dX3_same_29 : decode cX3_same 29 = .ok (.iload_n 1, 1) := by decide +kernel
theorem dX3_same_30 : decode cX3_same 30 = .ok (.iload_n 2, 1) := by decide +kernel
theorem dX3_same_31 : decode cX3_same 31 = .ok (.invokevirtual 69, 3) := by decide +kernel
theorem dX3_same_34 : decode cX3_same 34 = .ok (.ifCond .eq 7, 3) := by decide +kernel
theorem dX3_same_37 : decode cX3_same 37 = .ok (.iconst 1, 1) := by decide +kernel
theorem dX3_same_38 : decode cX3_same 38 = .ok (.goto 4, 3) := by decide +kernel
theorem dX3_same_41 : decode cX3_same 41 = .ok (.iconst 0, 1) := by decide +kernel
theorem dX3_same_42 : decode cX3_same 42 = .ok (.ireturn, 1) := by decide +kernel
set_option maxRecDepth 20000 in
theorem ggX3_below_X3_isReplica : GoodIn wsX3_below wsX3_isReplica := goodIn_r _ [5, 6, 7, 4, 8] (by decide +kernel) (by decide +kernel)
set_option maxRecDepth 20000 in
theorem gX3_below_X3_isReplica : GoodIn wsX3_below (wsV RX3 94 RX3 yX3_isReplica wsX3_isReplica) := goodIn_app (goodIn_of _ (by decide +kernel)) ggX3_below_X3_isReplica
set_option maxRecDepth 20000 in
theorem ggX3_below_X3_goes : GoodIn wsX3_below wsX3_goes := goodIn_r _ [12, 13, 42, 43, 44, 45, 46, 47, 48, 49, 50, 51, 52, 53, 54, 55] (by decide +kernel) (by decide +kernel)
set_option maxRecDepth 20000 in
theorem gX3_below_X3_goes : GoodIn wsX3_below (wsV RX3 135 RX3 yX3_goes wsX3_goes) := goodIn_app (goodIn_of _ (by decide +kernel)) ggX3_below_X3_goes
set_option maxRecDepth 20000 in
theorem ggX3_below_X3_copy : GoodIn wsX3_below wsX3_copy := goodIn_r _ [17, 18, 19, 20, 21, 22, 23, 24, 4, 25, 26, 27, 28, 42, 43, 44, 45, 46, 47, 48, 49, 50, 51, 52, 53, 54, 55] (by decide +kernel) (by decide +kernel)
set_option maxRecDepth 20000 in
theorem gX3_below_X3_copy : GoodIn wsX3_below (wsV RX3 63 RX3 yX3_copy wsX3_copy) := goodIn_app (goodIn_of _ (by decide +kernel)) ggX3_below_X3_copy
set_option maxRecDepth 20000 in
theorem ggX3_below_X3_joinTo : GoodIn wsX3_below wsX3_joinTo := goodIn_r _ [32, 19, 18, 33, 20, 21, 34, 35, 36, 4, 37, 26, 27, 28, 22, 23, 24, 25, 42, 43, 44, 45, 46, 47, 48, 49, 50, 51, 52, 53, 54, 55] (by decide +kernel) (by decide +kernel)
set_option maxRecDepth 20000 in
theorem gX3_below_X3_joinTo : GoodIn wsX3_below (wsV RX3 66 RX3 yX3_joinTo wsX3_joinTo) := goodIn_app (goodIn_of _ (by decide +kernel)) ggX3_below_X3_joinTo
set_option maxRecDepth 20000 in
theorem ggX3_below_X3_isSame : GoodIn wsX3_below wsX3_isSame := goodIn_r _ [41, 20, 21, 18, 19, 26, 27, 28, 42, 43, 44, 45, 46, 47, 48, 49, 50, 51, 52, 53, 54, 55] (by decide +kernel) (by decide +kernel)
set_option maxRecDepth 20000 in
theorem gX3_below_X3_isSame : GoodIn wsX3_below (wsV RX3 69 RX3 yX3_isSame wsX3_isSame) := goodIn_app (goodIn_of _ (by decide +kernel)) ggX3_below_X3_isSame
theorem dX3_below_0 : decode cX3_below 0 = .ok (.aload_n 0, 1) := by decide +kernel
theorem dX3_below_1 : decode cX3_below 1 = .ok (.aload_n 0, 1) := by decide +kernel
theorem dX3_below_2 : decode cX3_below 2 = .ok (.iload_n 1, 1) := by decide +kernel
theorem dX3_below_3 : decode cX3_below 3 = .ok (.invokevirtual 94, 3) := by decide +kernel
theorem dX3_below_6 : decode cX3_below 6 = .ok (.ifCond .eq 15, 3) := by decide +kernel
theorem dX3_below_9 : decode cX3_below 9 = .ok (.aload_n 0, 1) := by decide +kernel
theorem dX3_below_10 : decode cX3_below 10 = .ok (.iload_n 2, 1) := by decide +kernel
theorem dX3_below_11 : decode cX3_below 11 = .ok (.invokevirtual 94, 3) := by decide +kernel
theorem dX3_below_14 : decode cX3_below 14 = .ok (.ifCond .eq 7, 3) := by decide +kernel
theorem dX3_below_17 : decode cX3_below 17 = .ok (.iconst 1, 1) := by decide +kernel
theorem dX3_below_18 : decode cX3_below 18 = .ok (.goto 4, 3) := by decide +kernel
theorem dX3_below_21 : decode cX3_below 21 = .ok (.iconst 0, 1) := by decide +kernel
theorem dX3_below_22 : decode cX3_below 22 = .ok (.invokevirtual 135, 3) := by decide +kernel
theorem dX3_below_25 : decode cX3_below 25 = .ok (.ifCond .ne 5, 3) := by decide +kernel
theorem dX3_below_28 : decode cX3_below 28 = .ok (.iconst 0, 1) := by decide +kernel
theorem dX3_below_29 : decode cX3_below 29 = .ok (.ireturn, 1) := by decide +kernel
theorem dX3_below_30 : decode cX3_below 30 = .ok (.aload_n 0, 1) := by decide +kernel
theorem dX3_below_31 : decode cX3_below 31 = .ok (.iload_n 2, 1) := by decide +kernel
theorem dX3_below_32 : decode cX3_below 32 = .ok (.sipush 256, 3) := by decide +kernel
theorem dX3_below_35 : decode cX3_below 35 = .ok (.invokevirtual 63, 3) := by decide +kernel
theorem dX3_below_38 : decode cX3_below 38 = .ok (.aload_n 0, 1) := by decide +kernel
theorem dX3_below_39 : decode cX3_below 39 = .ok (.iload_n 1, 1) := by decide +kernel
theorem dX3_below_40 : decode cX3_below 40 = .ok (.sipush 256, 3) := by decide +kernel
theorem dX3_below_43 : decode cX3_below 43 = .ok (.invokevirtual 66, 3) := by decide +kernel
theorem dX3_below_46 : decode cX3_below 46 = .ok (.aload_n 0, 1) := by decide +kernel
theorem dX3_below_47 : decode cX3_below 47 = .ok (.iload_n 2, 1) := by decide +kernel
theorem dX3_below_48 : decode cX3_below 48 = .ok (.sipush 256, 3) := by decide +kernel
theorem dX3_below_51 : decode cX3_below 51 = .ok (.invokevirtual 69, 3) := by decide +kernel
theorem dX3_below_54 : decode cX3_below 54 = .ok (.ifCond .eq 7, 3) := by decide +kernel
theorem dX3_below_57 : decode cX3_below 57 = .ok (.iconst 1, 1) := by decide +kernel
theorem dX3_below_58 : decode cX3_below 58 = .ok (.goto 4, 3) := by decide +kernel
theorem dX3_below_61 : decode cX3_below 61 = .ok (.iconst 0, 1) := by decide +kernel
theorem dX3_below_62 : decode cX3_below 62 = .ok (.ireturn, 1) := by decide +kernel
theorem dJ13_bitCount_95d88_0 : decode cJ13_bitCount_95d88 0 = .ok (.lload_n 0, 1) := by decide +kernel
theorem dJ13_bitCount_95d88_1 : decode cJ13_bitCount_95d88 1 = .ok (.lload_n 0, 1) := by decide +kernel
theorem dJ13_bitCount_95d88_2 : decode cJ13_bitCount_95d88 2 = .ok (.iconst 1, 1) := by decide +kernel
theorem dJ13_bitCount_95d88_3 : decode cJ13_bitCount_95d88 3 = .ok (.lushr, 1) := by decide +kernel
theorem dJ13_bitCount_95d88_4 : decode cJ13_bitCount_95d88 4 = .ok (.ldc2_w 314, 3) := by decide +kernel
theorem dJ13_bitCount_95d88_7 : decode cJ13_bitCount_95d88 7 = .ok (.land, 1) := by decide +kernel
theorem dJ13_bitCount_95d88_8 : decode cJ13_bitCount_95d88 8 = .ok (.lsub, 1) := by decide +kernel
theorem dJ13_bitCount_95d88_9 : decode cJ13_bitCount_95d88 9 = .ok (.lstore_n 0, 1) := by decide +kernel
theorem dJ13_bitCount_95d88_10 : decode cJ13_bitCount_95d88 10 = .ok (.lload_n 0, 1) := by decide +kernel
theorem dJ13_bitCount_95d88_11 : decode cJ13_bitCount_95d88 11 = .ok (.ldc2_w 316, 3) := by decide +kernel
theorem dJ13_bitCount_95d88_14 : decode cJ13_bitCount_95d88 14 = .ok (.land, 1) := by decide +kernel
theorem dJ13_bitCount_95d88_15 : decode cJ13_bitCount_95d88 15 = .ok (.lload_n 0, 1) := by decide +kernel
theorem dJ13_bitCount_95d88_16 : decode cJ13_bitCount_95d88 16 = .ok (.iconst 2, 1) := by decide +kernel
theorem dJ13_bitCount_95d88_17 : decode cJ13_bitCount_95d88 17 = .ok (.lushr, 1) := by decide +kernel
theorem dJ13_bitCount_95d88_18 : decode cJ13_bitCount_95d88 18 = .ok (.ldc2_w 316, 3) := by decide +kernel
theorem dJ13_bitCount_95d88_21 : decode cJ13_bitCount_95d88 21 = .ok (.land, 1) := by decide +kernel
theorem dJ13_bitCount_95d88_22 : decode cJ13_bitCount_95d88 22 = .ok (.ladd, 1) := by decide +kernel
theorem dJ13_bitCount_95d88_23 : decode cJ13_bitCount_95d88 23 = .ok (.lstore_n 0, 1) := by decide +kernel
theorem dJ13_bitCount_95d88_24 : decode cJ13_bitCount_95d88 24 = .ok (.lload_n 0, 1) := by decide +kernel
theorem dJ13_bitCount_95d88_25 : decode cJ13_bitCount_95d88 25 = .ok (.lload_n 0, 1) := by decide +kernel
theorem dJ13_bitCount_95d88_26 : decode cJ13_bitCount_95d88 26 = .ok (.iconst 4, 1) := by decide +kernel
theorem dJ13_bitCount_95d88_27 : decode cJ13_bitCount_95d88 27 = .ok (.lushr, 1) := by decide +kernel
theorem dJ13_bitCount_95d88_28 : decode cJ13_bitCount_95d88 28 = .ok (.ladd, 1) := by decide +kernel
theorem dJ13_bitCount_95d88_29 : decode cJ13_bitCount_95d88 29 = .ok (.ldc2_w 318, 3) := by decide +kernel
theorem dJ13_bitCount_95d88_32 : decode cJ13_bitCount_95d88 32 = .ok (.land, 1) := by decide +kernel
theorem dJ13_bitCount_95d88_33 : decode cJ13_bitCount_95d88 33 = .ok (.lstore_n 0, 1) := by decide +kernel
theorem dJ13_bitCount_95d88_34 : decode cJ13_bitCount_95d88 34 = .ok (.lload_n 0, 1) := by decide +kernel
theorem dJ13_bitCount_95d88_35 : decode cJ13_bitCount_95d88 35 = .ok (.lload_n 0, 1) := by decide +kernel
theorem dJ13_bitCount_95d88_36 : decode cJ13_bitCount_95d88 36 = .ok (.bipush 8, 2) := by decide +kernel
theorem dJ13_bitCount_95d88_38 : decode cJ13_bitCount_95d88 38 = .ok (.lushr, 1) := by decide +kernel
theorem dJ13_bitCount_95d88_39 : decode cJ13_bitCount_95d88 39 = .ok (.ladd, 1) := by decide +kernel
theorem dJ13_bitCount_95d88_40 : decode cJ13_bitCount_95d88 40 = .ok (.lstore_n 0, 1) := by decide +kernel
theorem dJ13_bitCount_95d88_41 : decode cJ13_bitCount_95d88 41 = .ok (.lload_n 0, 1) := by decide +kernel
theorem dJ13_bitCount_95d88_42 : decode cJ13_bitCount_95d88 42 = .ok (.lload_n 0, 1) := by decide +kernel
theorem dJ13_bitCount_95d88_43 : decode cJ13_bitCount_95d88 43 = .ok (.bipush 16, 2) := by decide +kernel
theorem dJ13_bitCount_95d88_45 : decode cJ13_bitCount_95d88 45 = .ok (.lushr, 1) := by decide +kernel
theorem dJ13_bitCount_95d88_46 : decode cJ13_bitCount_95d88 46 = .ok (.ladd, 1) := by decide +kernel
theorem dJ13_bitCount_95d88_47 : decode cJ13_bitCount_95d88 47 = .ok (.lstore_n 0, 1) := by decide +kernel
theorem dJ13_bitCount_95d88_48 : decode cJ13_bitCount_95d88 48 = .ok (.lload_n 0, 1) := by decide +kernel
theorem dJ13_bitCount_95d88_49 : decode cJ13_bitCount_95d88 49 = .ok (.lload_n 0, 1) := by decide +kernel
theorem dJ13_bitCount_95d88_50 : decode cJ13_bitCount_95d88 50 = .ok (.bipush 32, 2) := by decide +kernel
theorem dJ13_bitCount_95d88_52 : decode cJ13_bitCount_95d88 52 = .ok (.lushr, 1) := by decide +kernel
theorem dJ13_bitCount_95d88_53 : decode cJ13_bitCount_95d88 53 = .ok (.ladd, 1) := by decide +kernel
theorem dJ13_bitCount_95d88_54 : decode cJ13_bitCount_95d88 54 = .ok (.lstore_n 0, 1) := by decide +kernel
theorem dJ13_bitCount_95d88_55 : decode cJ13_bitCount_95d88 55 = .ok (.lload_n 0, 1) := by decide +kernel
theorem dJ13_bitCount_95d88_56 : decode cJ13_bitCount_95d88 56 = .ok (.l2i, 1) := by decide +kernel
theorem dJ13_bitCount_95d88_57 : decode cJ13_bitCount_95d88 57 = .ok (.bipush 127, 2) := by decide +kernel
theorem dJ13_bitCount_95d88_59 : decode cJ13_bitCount_95d88 59 = .ok (.iand, 1) := by decide +kernel
theorem dJ13_bitCount_95d88_60 : decode cJ13_bitCount_95d88 60 = .ok (.ireturn, 1) := by decide +kernel
set_option maxRecDepth 20000 in
theorem ggL_element_X2_element : GoodIn wsL_element wsX2_element := goodIn_ca (goodIn_ca (goodIn_ca (goodIn_r _ [8, 9, 10, 11, 7, 12, 13, 14, 15, 16, 17, 18, 19, 20, 21, 22, 23, 24, 25, 26, 27, 28, 29, 30, 31, 32, 33, 34, 35, 36, 37, 38, 39, 40, 41, 42, 43, 44, 45, 46, 47, 48, 49, 50, 51, 52, 53, 54, 55, 56, 57, 58, 59, 60, 61, 62, 63, 64, 65, 66, 67, 68, 69, 70, 71, 72, 73, 74, 75, 76, 77, 78, 79, 80, 81, 82, 83, 84, 85, 86, 87, 88, 89, 90, 91, 92, 93, 94, 95, 96, 97, 98, 99, 100, 101, 102, 103, 104, 105, 106, 107, 108, 109, 110, 111, 112, 113, 114, 115, 116, 117, 118, 119, 120, 121, 122, 123, 124, 125, 126, 127, 128, 129, 130, 131, 132, 133] (by decide +kernel) (by decide +kernel)) (goodIn_sub (fun _ h => List.mem_cons_of_mem _ (List.mem_append_left _ (List.mem_append_left _ (List.mem_append_right _ h)))) (by decide +kernel))) (goodIn_sub (fun _ h => List.mem_cons_of_mem _ (List.mem_append_left _ (List.mem_append_right _ h))) (by decide +kernel))) (goodIn_sub (fun _ h => List.mem_cons_of_mem _ (List.mem_append_right _ h)) (by decide +kernel))
set_option maxRecDepth 20000 in
theorem gL_element_X2_element : GoodIn wsL_element (wsV RL 7 RX2 yX2_element wsX2_element) := goodIn_app (goodIn_of _ (by decide +kernel)) ggL_element_X2_element
theorem dL_element_0 : decode cL_element 0 = .ok (.aload 5, 2) := by decide +kernel
theorem dL_element_2 : decode cL_element 2 = .ok (.iconst 0, 1) := by decide +kernel
theorem dL_element_3 : decode cL_element 3 = .ok (.aload_n 0, 1) := by decide +kernel
theorem dL_element_4 : decode cL_element 4 = .ok (.iload_n 1, 1) := by decide +kernel
theorem dL_element_5 : decode cL_element 5 = .ok (.iload_n 2, 1) := by decide +kernel
theorem dL_element_6 : decode cL_element 6 = .ok (.iload_n 3, 1) := by decide +kernel
theorem dL_element_7 : decode cL_element 7 = .ok (.iload 4, 2) := by decide +kernel
theorem dL_element_9 : decode cL_element 9 = .ok (.invokevirtual 7, 3) := by decide +kernel
theorem dL_element_12 : decode cL_element 12 = .ok (.i2l, 1) := by decide +kernel
theorem dL_element_13 : decode cL_element 13 = .ok (.lastore, 1) := by decide +kernel
theorem dL_element_14 : decode cL_element 14 = .ok (.goto 15, 3) := by decide +kernel
theorem dL_element_17 : decode cL_element 17 = .ok (.astore 6, 2) := by decide +kernel
theorem dL_element_19 : decode cL_element 19 = .ok (.iconst 1, 1) := by decide +kernel
theorem dL_element_20 : decode cL_element 20 = .ok (.ireturn, 1) := by decide +kernel
theorem dL_element_21 : decode cL_element 21 = .ok (.astore 6, 2) := by decide +kernel
theorem dL_element_23 : decode cL_element 23 = .ok (.iconst 2, 1) := by decide +kernel
theorem dL_element_24 : decode cL_element 24 = .ok (.ireturn, 1) := by decide +kernel
theorem dL_element_25 : decode cL_element 25 = .ok (.astore 6, 2) := by decide +kernel
theorem dL_element_27 : decode cL_element 27 = .ok (.iconst 3, 1) := by decide +kernel
theorem dL_element_28 : decode cL_element 28 = .ok (.ireturn, 1) := by decide +kernel
theorem dL_element_29 : decode cL_element 29 = .ok (.iconst 0, 1) := by decide +kernel
theorem dL_element_30 : decode cL_element 30 = .ok (.ireturn, 1) := by decide +kernel
set_option maxRecDepth 20000 in
theorem ggL_write_X2_write : GoodIn wsL_write wsX2_write := goodIn_ca (goodIn_ca (goodIn_ca (goodIn_r _ [8, 9, 10, 11, 12, 7, 13, 14, 15, 16, 17, 18, 19, 20, 21, 22, 23, 24, 25, 26, 27, 28, 29, 30, 31, 32, 33, 34, 35, 36, 37, 38, 39, 40, 41, 42, 43, 44, 45, 46, 47, 48, 49, 50, 51, 52, 53, 54, 55, 56, 57, 58, 59, 60, 61, 62, 63, 64, 65, 66, 67, 68, 69, 70, 71, 72, 73, 74, 75, 76, 77, 78, 79, 80, 81, 82, 83, 84, 85, 86, 87, 88, 89, 90, 91, 92, 93, 94, 95, 96, 97, 98, 99, 100, 101, 102, 103, 104, 105, 106, 107, 108, 109, 110, 111, 112, 113, 114, 115, 116, 117, 118, 119, 120, 121, 122, 123, 124, 125, 126, 127, 128, 129] (by decide +kernel) (by decide +kernel)) (goodIn_sub (fun _ h => List.mem_cons_of_mem _ (List.mem_append_left _ (List.mem_append_left _ (List.mem_append_right _ h)))) (by decide +kernel))) (goodIn_sub (fun _ h => List.mem_cons_of_mem _ (List.mem_append_left _ (List.mem_append_right _ h))) (by decide +kernel))) (goodIn_sub (fun _ h => List.mem_cons_of_mem _ (List.mem_append_right _ h)) (by decide +kernel))
set_option maxRecDepth 20000 in
theorem gL_write_X2_write : GoodIn wsL_write (wsV RL 19 RX2 yX2_write wsX2_write) := goodIn_app (goodIn_of _ (by decide +kernel)) ggL_write_X2_write
theorem dL_write_0 : decode cL_write 0 = .ok (.aload 5, 2) := by decide +kernel
theorem dL_write_2 : decode cL_write 2 = .ok (.iconst 0, 1) := by decide +kernel
theorem dL_write_3 : decode cL_write 3 = .ok (.aload_n 0, 1) := by decide +kernel
theorem dL_write_4 : decode cL_write 4 = .ok (.iload_n 1, 1) := by decide +kernel
theorem dL_write_5 : decode cL_write 5 = .ok (.iload_n 2, 1) := by decide +kernel
theorem dL_write_6 : decode cL_write 6 = .ok (.lload_n 3, 1) := by decide +kernel
theorem dL_write_7 : decode cL_write 7 = .ok (.invokevirtual 19, 3) := by decide +kernel
theorem dL_write_10 : decode cL_write 10 = .ok (.i2l, 1) := by decide +kernel
theorem dL_write_11 : decode cL_write 11 = .ok (.lastore, 1) := by decide +kernel
theorem dL_write_12 : decode cL_write 12 = .ok (.goto 15, 3) := by decide +kernel
theorem dL_write_15 : decode cL_write 15 = .ok (.astore 6, 2) := by decide +kernel
theorem dL_write_17 : decode cL_write 17 = .ok (.iconst 1, 1) := by decide +kernel
theorem dL_write_18 : decode cL_write 18 = .ok (.ireturn, 1) := by decide +kernel
theorem dL_write_19 : decode cL_write 19 = .ok (.astore 6, 2) := by decide +kernel
theorem dL_write_21 : decode cL_write 21 = .ok (.iconst 2, 1) := by decide +kernel
theorem dL_write_22 : decode cL_write 22 = .ok (.ireturn, 1) := by decide +kernel
theorem dL_write_23 : decode cL_write 23 = .ok (.astore 6, 2) := by decide +kernel
theorem dL_write_25 : decode cL_write 25 = .ok (.iconst 3, 1) := by decide +kernel
theorem dL_write_26 : decode cL_write 26 = .ok (.ireturn, 1) := by decide +kernel
theorem dL_write_27 : decode cL_write 27 = .ok (.iconst 0, 1) := by decide +kernel
theorem dL_write_28 : decode cL_write 28 = .ok (.ireturn, 1) := by decide +kernel
set_option maxRecDepth 20000 in
theorem ggL_count_X2_count : GoodIn wsL_count wsX2_count := goodIn_ca (goodIn_ca (goodIn_ca (goodIn_r _ [8, 9, 10, 11, 12, 7, 13, 14, 15, 16, 17, 18, 19, 20, 21, 22, 23, 24, 25, 26, 27, 28, 29, 30, 31, 32, 33, 34, 35, 36, 37, 38, 39, 40, 41, 42, 43, 44, 45, 46, 47, 48, 49, 50, 51, 52, 53, 54, 55, 56, 57, 58, 59, 60, 61, 62, 63, 64, 65, 66, 67, 68, 69, 70, 71, 72, 73, 74, 75, 76, 77, 78, 79, 80, 81, 82, 83, 84, 85, 86, 87, 88, 89, 90, 91, 92, 93, 94, 95, 96, 97, 98, 99, 100, 101, 102, 103, 104, 105, 106, 107, 108, 109, 110, 111, 112, 113, 114, 115, 116, 117, 118, 119, 120, 121, 122, 123, 124, 125, 126, 127, 128, 129] (by decide +kernel) (by decide +kernel)) (goodIn_sub (fun _ h => List.mem_cons_of_mem _ (List.mem_append_left _ (List.mem_append_left _ (List.mem_append_right _ h)))) (by decide +kernel))) (goodIn_sub (fun _ h => List.mem_cons_of_mem _ (List.mem_append_left _ (List.mem_append_right _ h))) (by decide +kernel))) (goodIn_sub (fun _ h => List.mem_cons_of_mem _ (List.mem_append_right _ h)) (by decide +kernel))
set_option maxRecDepth 20000 in
theorem gL_count_X2_count : GoodIn wsL_count (wsV RL 23 RX2 yX2_count wsX2_count) := goodIn_app (goodIn_of _ (by decide +kernel)) ggL_count_X2_count
theorem dL_count_0 : decode cL_count 0 = .ok (.aload 5, 2) := by decide +kernel
theorem dL_count_2 : decode cL_count 2 = .ok (.iconst 0, 1) := by decide +kernel
theorem dL_count_3 : decode cL_count 3 = .ok (.aload_n 0, 1) := by decide +kernel
theorem dL_count_4 : decode cL_count 4 = .ok (.iload_n 1, 1) := by decide +kernel
theorem dL_count_5 : decode cL_count 5 = .ok (.iload_n 2, 1) := by decide +kernel
theorem dL_count_6 : decode cL_count 6 = .ok (.lload_n 3, 1) := by decide +kernel
theorem dL_count_7 : decode cL_count 7 = .ok (.invokevirtual 23, 3) := by decide +kernel
theorem dL_count_10 : decode cL_count 10 = .ok (.i2l, 1) := by decide +kernel
theorem dL_count_11 : decode cL_count 11 = .ok (.lastore, 1) := by decide +kernel
theorem dL_count_12 : decode cL_count 12 = .ok (.goto 15, 3) := by decide +kernel
theorem dL_count_15 : decode cL_count 15 = .ok (.astore 6, 2) := by decide +kernel
theorem dL_count_17 : decode cL_count 17 = .ok (.iconst 1, 1) := by decide +kernel
theorem dL_count_18 : decode cL_count 18 = .ok (.ireturn, 1) := by decide +kernel
theorem dL_count_19 : decode cL_count 19 = .ok (.astore 6, 2) := by decide +kernel
theorem dL_count_21 : decode cL_count 21 = .ok (.iconst 2, 1) := by decide +kernel
theorem dL_count_22 : decode cL_count 22 = .ok (.ireturn, 1) := by decide +kernel
theorem dL_count_23 : decode cL_count 23 = .ok (.astore 6, 2) := by decide +kernel
theorem dL_count_25 : decode cL_count 25 = .ok (.iconst 3, 1) := by decide +kernel
theorem dL_count_26 : decode cL_count 26 = .ok (.ireturn, 1) := by decide +kernel
theorem dL_count_27 : decode cL_count 27 = .ok (.iconst 0, 1) := by decide +kernel
theorem dL_count_28 : decode cL_count 28 = .ok (.ireturn, 1) := by decide +kernel
set_option maxRecDepth 20000 in
theorem ggL_flag_X2_flag : GoodIn wsL_flag wsX2_flag := goodIn_ca (goodIn_ca (goodIn_ca (goodIn_r _ [8, 9, 10, 11, 7, 12, 13, 14, 15, 16, 17, 18, 19, 20, 21, 22, 23, 24, 25, 26, 27, 28, 29, 30, 31, 32, 33, 34, 35, 36, 37, 38, 39, 40, 41, 42, 43, 44, 45, 46, 47, 48, 49, 50, 51, 52, 53, 54, 55, 56, 57, 58, 59, 60, 61, 62, 63, 64, 65, 66, 67, 68, 69, 70, 71, 72, 73, 74, 75, 76, 77, 78, 79, 80, 81, 82, 83, 84, 85, 86, 87, 88, 89, 90, 91, 92, 93, 94, 95, 96, 97, 98, 99, 100, 101, 102, 103, 104, 105, 106, 107, 108, 109, 110, 111, 112, 113, 114, 115, 116, 117, 118, 119, 120, 121, 122, 123, 124, 125, 126, 127, 128, 129, 130, 131, 132, 133] (by decide +kernel) (by decide +kernel)) (goodIn_sub (fun _ h => List.mem_cons_of_mem _ (List.mem_append_left _ (List.mem_append_left _ (List.mem_append_right _ h)))) (by decide +kernel))) (goodIn_sub (fun _ h => List.mem_cons_of_mem _ (List.mem_append_left _ (List.mem_append_right _ h))) (by decide +kernel))) (goodIn_sub (fun _ h => List.mem_cons_of_mem _ (List.mem_append_right _ h)) (by decide +kernel))
set_option maxRecDepth 20000 in
theorem gL_flag_X2_flag : GoodIn wsL_flag (wsV RL 26 RX2 yX2_flag wsX2_flag) := goodIn_app (goodIn_of _ (by decide +kernel)) ggL_flag_X2_flag
theorem dL_flag_0 : decode cL_flag 0 = .ok (.aload 5, 2) := by decide +kernel
theorem dL_flag_2 : decode cL_flag 2 = .ok (.iconst 0, 1) := by decide +kernel
theorem dL_flag_3 : decode cL_flag 3 = .ok (.aload_n 0, 1) := by decide +kernel
theorem dL_flag_4 : decode cL_flag 4 = .ok (.iload_n 1, 1) := by decide +kernel
theorem dL_flag_5 : decode cL_flag 5 = .ok (.iload_n 2, 1) := by decide +kernel
theorem dL_flag_6 : decode cL_flag 6 = .ok (.iload_n 3, 1) := by decide +kernel
theorem dL_flag_7 : decode cL_flag 7 = .ok (.iload 4, 2) := by decide +kernel
theorem dL_flag_9 : decode cL_flag 9 = .ok (.invokevirtual 26, 3) := by decide +kernel
theorem dL_flag_12 : decode cL_flag 12 = .ok (.i2l, 1) := by decide +kernel
theorem dL_flag_13 : decode cL_flag 13 = .ok (.lastore, 1) := by decide +kernel
theorem dL_flag_14 : decode cL_flag 14 = .ok (.goto 15, 3) := by decide +kernel
theorem dL_flag_17 : decode cL_flag 17 = .ok (.astore 6, 2) := by decide +kernel
theorem dL_flag_19 : decode cL_flag 19 = .ok (.iconst 1, 1) := by decide +kernel
theorem dL_flag_20 : decode cL_flag 20 = .ok (.ireturn, 1) := by decide +kernel
theorem dL_flag_21 : decode cL_flag 21 = .ok (.astore 6, 2) := by decide +kernel
theorem dL_flag_23 : decode cL_flag 23 = .ok (.iconst 2, 1) := by decide +kernel
theorem dL_flag_24 : decode cL_flag 24 = .ok (.ireturn, 1) := by decide +kernel
theorem dL_flag_25 : decode cL_flag 25 = .ok (.astore 6, 2) := by decide +kernel
theorem dL_flag_27 : decode cL_flag 27 = .ok (.iconst 3, 1) := by decide +kernel
theorem dL_flag_28 : decode cL_flag 28 = .ok (.ireturn, 1) := by decide +kernel
theorem dL_flag_29 : decode cL_flag 29 = .ok (.iconst 0, 1) := by decide +kernel
theorem dL_flag_30 : decode cL_flag 30 = .ok (.ireturn, 1) := by decide +kernel
set_option maxRecDepth 20000 in
theorem ggL_clear_X2_clear : GoodIn wsL_clear wsX2_clear := goodIn_ca (goodIn_ca (goodIn_r _ [7, 8, 9, 10, 6, 11, 12, 13, 14, 15, 16, 17, 18, 19, 20, 21, 22, 23, 24, 25, 26, 27, 28, 29, 30, 31, 32, 33, 34, 35, 36, 37, 38, 39, 40, 41, 42, 43, 44, 45, 46, 47, 48, 49, 50, 51, 52, 53, 54, 55, 56, 57, 58, 59, 60, 61, 62, 63, 64, 65, 66, 67, 68, 69, 70, 71, 72, 73, 74, 75, 76, 77, 78, 79, 80, 81, 82, 83, 84, 85, 86, 87, 88, 89, 90, 91, 92, 93, 94, 95, 96, 97, 98, 99, 100, 101, 102] (by decide +kernel) (by decide +kernel)) (goodIn_sub (fun _ h => List.mem_cons_of_mem _ (List.mem_append_left _ (List.mem_append_right _ h))) (by decide +kernel))) (goodIn_sub (fun _ h => List.mem_cons_of_mem _ (List.mem_append_right _ h)) (by decide +kernel))
set_option maxRecDepth 20000 in
theorem gL_clear_X2_clear : GoodIn wsL_clear (wsV RL 29 RX2 yX2_clear wsX2_clear) := goodIn_app (goodIn_of _ (by decide +kernel)) ggL_clear_X2_clear
theorem dL_clear_0 : decode cL_clear 0 = .ok (.aload_n 3, 1) := by decide +kernel
theorem dL_clear_1 : decode cL_clear 1 = .ok (.iconst 0, 1) := by decide +kernel
theorem dL_clear_2 : decode cL_clear 2 = .ok (.aload_n 0, 1) := by decide +kernel
theorem dL_clear_3 : decode cL_clear 3 = .ok (.iload_n 1, 1) := by decide +kernel
theorem dL_clear_4 : decode cL_clear 4 = .ok (.iload_n 2, 1) := by decide +kernel
theorem dL_clear_5 : decode cL_clear 5 = .ok (.invokevirtual 29, 3) := by decide +kernel
theorem dL_clear_8 : decode cL_clear 8 = .ok (.i2l, 1) := by decide +kernel
theorem dL_clear_9 : decode cL_clear 9 = .ok (.lastore, 1) := by decide +kernel
theorem dL_clear_10 : decode cL_clear 10 = .ok (.goto 11, 3) := by decide +kernel
theorem dL_clear_13 : decode cL_clear 13 = .ok (.astore 4, 2) := by decide +kernel
theorem dL_clear_15 : decode cL_clear 15 = .ok (.iconst 1, 1) := by decide +kernel
theorem dL_clear_16 : decode cL_clear 16 = .ok (.ireturn, 1) := by decide +kernel
theorem dL_clear_17 : decode cL_clear 17 = .ok (.astore 4, 2) := by decide +kernel
theorem dL_clear_19 : decode cL_clear 19 = .ok (.iconst 2, 1) := by decide +kernel
theorem dL_clear_20 : decode cL_clear 20 = .ok (.ireturn, 1) := by decide +kernel
theorem dL_clear_21 : decode cL_clear 21 = .ok (.iconst 0, 1) := by decide +kernel
theorem dL_clear_22 : decode cL_clear 22 = .ok (.ireturn, 1) := by decide +kernel
set_option maxRecDepth 20000 in
theorem ggL_twice_X2_twice : GoodIn wsL_twice wsX2_twice := goodIn_ca (goodIn_ca (goodIn_r _ [7, 8, 9, 10, 11, 12, 6, 13, 14, 15, 16, 17, 18, 19, 20, 21, 22, 23, 24, 25, 26, 27, 28, 29, 30, 31, 32, 33, 34, 35, 36, 37, 38, 39, 40, 41, 42, 43, 44, 45, 46, 47, 48, 49, 50, 51, 52, 53, 54, 55, 56, 57, 58, 59, 60, 61, 62, 63, 64, 65, 66, 67, 68, 69, 70, 71, 72, 73, 74] (by decide +kernel) (by decide +kernel)) (goodIn_sub (fun _ h => List.mem_cons_of_mem _ (List.mem_append_left _ (List.mem_append_right _ h))) (by decide +kernel))) (goodIn_sub (fun _ h => List.mem_cons_of_mem _ (List.mem_append_right _ h)) (by decide +kernel))
set_option maxRecDepth 20000 in
theorem gL_twice_X2_twice : GoodIn wsL_twice (wsV RL 33 RX2 yX2_twice wsX2_twice) := goodIn_app (goodIn_of _ (by decide +kernel)) ggL_twice_X2_twice
theorem dL_twice_0 : decode cL_twice 0 = .ok (.aload 4, 2) := by decide +kernel
theorem dL_twice_2 : decode cL_twice 2 = .ok (.iconst 0, 1) := by decide +kernel
theorem dL_twice_3 : decode cL_twice 3 = .ok (.aload_n 0, 1) := by decide +kernel
theorem dL_twice_4 : decode cL_twice 4 = .ok (.iload_n 1, 1) := by decide +kernel
theorem dL_twice_5 : decode cL_twice 5 = .ok (.iload_n 2, 1) := by decide +kernel
theorem dL_twice_6 : decode cL_twice 6 = .ok (.iload_n 3, 1) := by decide +kernel
theorem dL_twice_7 : decode cL_twice 7 = .ok (.invokevirtual 33, 3) := by decide +kernel
theorem dL_twice_10 : decode cL_twice 10 = .ok (.i2l, 1) := by decide +kernel
theorem dL_twice_11 : decode cL_twice 11 = .ok (.lastore, 1) := by decide +kernel
theorem dL_twice_12 : decode cL_twice 12 = .ok (.goto 11, 3) := by decide +kernel
theorem dL_twice_15 : decode cL_twice 15 = .ok (.astore 5, 2) := by decide +kernel
theorem dL_twice_17 : decode cL_twice 17 = .ok (.iconst 1, 1) := by decide +kernel
theorem dL_twice_18 : decode cL_twice 18 = .ok (.ireturn, 1) := by decide +kernel
theorem dL_twice_19 : decode cL_twice 19 = .ok (.astore 5, 2) := by decide +kernel
theorem dL_twice_21 : decode cL_twice 21 = .ok (.iconst 2, 1) := by decide +kernel
theorem dL_twice_22 : decode cL_twice 22 = .ok (.ireturn, 1) := by decide +kernel
theorem dL_twice_23 : decode cL_twice 23 = .ok (.iconst 0, 1) := by decide +kernel
theorem dL_twice_24 : decode cL_twice 24 = .ok (.ireturn, 1) := by decide +kernel
set_option maxRecDepth 20000 in
theorem ggL_timed_X2_timed : GoodIn wsL_timed wsX2_timed := goodIn_ca (goodIn_ca (goodIn_ca (goodIn_r _ [8, 9, 10, 11, 12, 7, 13, 14, 15, 16, 17, 18, 19, 20, 21, 22, 23, 24, 25, 26, 27, 28, 29, 30, 31, 32, 33, 34, 35, 36, 37, 38, 39, 40, 41, 42, 43, 44, 45, 46, 47, 48, 49, 50, 51, 52, 53, 54, 55, 56, 57, 58, 59, 60, 61, 62, 63, 64, 65, 66, 67, 68, 69, 70, 71, 72, 73, 74, 75, 76, 77, 78, 79, 80, 81, 82, 83, 84, 85, 86] (by decide +kernel) (by decide +kernel)) (goodIn_sub (fun _ h => List.mem_cons_of_mem _ (List.mem_append_left _ (List.mem_append_left _ (List.mem_append_right _ h)))) (by decide +kernel))) (goodIn_sub (fun _ h => List.mem_cons_of_mem _ (List.mem_append_left _ (List.mem_append_right _ h))) (by decide +kernel))) (goodIn_sub (fun _ h => List.mem_cons_of_mem _ (List.mem_append_right _ h)) (by decide +kernel))
set_option maxRecDepth 20000 in
theorem gL_timed_X2_timed : GoodIn wsL_timed (wsV RL 37 RX2 yX2_timed wsX2_timed) := goodIn_app (goodIn_of _ (by decide +kernel)) ggL_timed_X2_timed
theorem dL_timed_0 : decode cL_timed 0 = .ok (.aload 5, 2) := by decide +kernel
theorem dL_timed_2 : decode cL_timed 2 = .ok (.iconst 0, 1) := by decide +kernel
theorem dL_timed_3 : decode cL_timed 3 = .ok (.aload_n 0, 1) := by decide +kernel
theorem dL_timed_4 : decode cL_timed 4 = .ok (.iload_n 1, 1) := by decide +kernel
theorem dL_timed_5 : decode cL_timed 5 = .ok (.iload_n 2, 1) := by decide +kernel
theorem dL_timed_6 : decode cL_timed 6 = .ok (.iload_n 3, 1) := by decide +kernel
theorem dL_timed_7 : decode cL_timed 7 = .ok (.iload 4, 2) := by decide +kernel
theorem dL_timed_9 : decode cL_timed 9 = .ok (.invokevirtual 37, 3) := by decide +kernel
theorem dL_timed_12 : decode cL_timed 12 = .ok (.i2l, 1) := by decide +kernel
theorem dL_timed_13 : decode cL_timed 13 = .ok (.lastore, 1) := by decide +kernel
theorem dL_timed_14 : decode cL_timed 14 = .ok (.goto 15, 3) := by decide +kernel
theorem dL_timed_17 : decode cL_timed 17 = .ok (.astore 6, 2) := by decide +kernel
theorem dL_timed_19 : decode cL_timed 19 = .ok (.iconst 1, 1) := by decide +kernel
theorem dL_timed_20 : decode cL_timed 20 = .ok (.ireturn, 1) := by decide +kernel
theorem dL_timed_21 : decode cL_timed 21 = .ok (.astore 6, 2) := by decide +kernel
theorem dL_timed_23 : decode cL_timed 23 = .ok (.iconst 2, 1) := by decide +kernel
theorem dL_timed_24 : decode cL_timed 24 = .ok (.ireturn, 1) := by decide +kernel
theorem dL_timed_25 : decode cL_timed 25 = .ok (.astore 6, 2) := by decide +kernel
theorem dL_timed_27 : decode cL_timed 27 = .ok (.iconst 3, 1) := by decide +kernel
theorem dL_timed_28 : decode cL_timed 28 = .ok (.ireturn, 1) := by decide +kernel
theorem dL_timed_29 : decode cL_timed 29 = .ok (.iconst 0, 1) := by decide +kernel
theorem dL_timed_30 : decode cL_timed 30 = .ok (.ireturn, 1) := by decide +kernel
set_option maxRecDepth 20000 in
theorem ggL_join_X2_join : GoodIn wsL_join wsX2_join := goodIn_ca (goodIn_r _ [6, 7, 8, 9, 5, 10, 11, 12, 13, 14, 15, 16, 17, 18, 19, 20, 21, 22, 23, 24, 25, 26, 27, 28, 29, 30, 31, 32, 33, 34, 35, 36, 37, 38, 39, 40, 41, 42, 43, 44, 45, 46, 47, 48, 49, 50, 51, 52, 53, 54, 55] (by decide +kernel) (by decide +kernel)) (goodIn_sub (fun _ h => List.mem_cons_of_mem _ (List.mem_append_right _ h)) (by decide +kernel))
set_option maxRecDepth 20000 in
theorem gL_join_X2_join : GoodIn wsL_join (wsV RL 42 RX2 yX2_join wsX2_join) := goodIn_app (goodIn_of _ (by decide +kernel)) ggL_join_X2_join
theorem dL_join_0 : decode cL_join 0 = .ok (.aload_n 3, 1) := by decide +kernel
theorem dL_join_1 : decode cL_join 1 = .ok (.iconst 0, 1) := by decide +kernel
theorem dL_join_2 : decode cL_join 2 = .ok (.aload_n 0, 1) := by decide +kernel
theorem dL_join_3 : decode cL_join 3 = .ok (.iload_n 1, 1) := by decide +kernel
theorem dL_join_4 : decode cL_join 4 = .ok (.iload_n 2, 1) := by decide +kernel
theorem dL_join_5 : decode cL_join 5 = .ok (.invokevirtual 42, 3) := by decide +kernel
theorem dL_join_8 : decode cL_join 8 = .ok (.i2l, 1) := by decide +kernel
theorem dL_join_9 : decode cL_join 9 = .ok (.lastore, 1) := by decide +kernel
theorem dL_join_10 : decode cL_join 10 = .ok (.goto 7, 3) := by decide +kernel
theorem dL_join_13 : decode cL_join 13 = .ok (.astore 4, 2) := by decide +kernel
theorem dL_join_15 : decode cL_join 15 = .ok (.iconst 1, 1) := by decide +kernel
theorem dL_join_16 : decode cL_join 16 = .ok (.ireturn, 1) := by decide +kernel
theorem dL_join_17 : decode cL_join 17 = .ok (.iconst 0, 1) := by decide +kernel
theorem dL_join_18 : decode cL_join 18 = .ok (.ireturn, 1) := by decide +kernel
set_option maxRecDepth 20000 in
theorem ggL_merge_X2_merge : GoodIn wsL_merge wsX2_merge := goodIn_ca (goodIn_r _ [6, 7, 8, 9, 5, 10, 11, 12, 13, 14, 15, 16, 17, 18, 19, 20, 21, 22, 23, 24, 25, 26, 27, 28, 29, 30, 31, 32, 33, 34, 35, 36, 37, 38, 39, 40, 41, 42, 43, 44, 45, 46, 47, 48, 49, 50] (by decide +kernel) (by decide +kernel)) (goodIn_sub (fun _ h => List.mem_cons_of_mem _ (List.mem_append_right _ h)) (by decide +kernel))
set_option maxRecDepth 20000 in
theorem gL_merge_X2_merge : GoodIn wsL_merge (wsV RL 45 RX2 yX2_merge wsX2_merge) := goodIn_app (goodIn_of _ (by decide +kernel)) ggL_merge_X2_merge
theorem dL_merge_0 : decode cL_merge 0 = .ok (.aload_n 3, 1) := by decide +kernel
theorem dL_merge_1 : decode cL_merge 1 = .ok (.iconst 0, 1) := by decide +kernel
theorem dL_merge_2 : decode cL_merge 2 = .ok (.aload_n 0, 1) := by decide +kernel
theorem dL_merge_3 : decode cL_merge 3 = .ok (.iload_n 1, 1) := by decide +kernel
theorem dL_merge_4 : decode cL_merge 4 = .ok (.iload_n 2, 1) := by decide +kernel
theorem dL_merge_5 : decode cL_merge 5 = .ok (.invokevirtual 45, 3) := by decide +kernel
theorem dL_merge_8 : decode cL_merge 8 = .ok (.i2l, 1) := by decide +kernel
theorem dL_merge_9 : decode cL_merge 9 = .ok (.lastore, 1) := by decide +kernel
theorem dL_merge_10 : decode cL_merge 10 = .ok (.goto 7, 3) := by decide +kernel
theorem dL_merge_13 : decode cL_merge 13 = .ok (.astore 4, 2) := by decide +kernel
theorem dL_merge_15 : decode cL_merge 15 = .ok (.iconst 1, 1) := by decide +kernel
theorem dL_merge_16 : decode cL_merge 16 = .ok (.ireturn, 1) := by decide +kernel
theorem dL_merge_17 : decode cL_merge 17 = .ok (.iconst 0, 1) := by decide +kernel
theorem dL_merge_18 : decode cL_merge 18 = .ok (.ireturn, 1) := by decide +kernel
set_option maxRecDepth 20000 in
theorem ggL_group_X2_group : GoodIn wsL_group wsX2_group := goodIn_ca (goodIn_ca (goodIn_r _ [7, 8, 9, 10, 11, 6, 12, 13, 14, 15, 16, 17, 18, 19, 20, 21, 22, 23, 24, 25, 26, 27, 28, 29, 30, 31, 32, 33, 34, 35, 36, 37, 38, 39, 40, 41, 42, 43, 44, 45, 46, 47, 48, 49, 50, 51, 52, 53, 54, 55, 56, 57, 58, 59, 60, 61, 62, 63, 64, 65, 66, 67, 68, 69, 70, 71, 72] (by decide +kernel) (by decide +kernel)) (goodIn_sub (fun _ h => List.mem_cons_of_mem _ (List.mem_append_left _ (List.mem_append_right _ h))) (by decide +kernel))) (goodIn_sub (fun _ h => List.mem_cons_of_mem _ (List.mem_append_right _ h)) (by decide +kernel))
set_option maxRecDepth 20000 in
theorem gL_group_X2_group : GoodIn wsL_group (wsV RL 48 RX2 yX2_group wsX2_group) := goodIn_app (goodIn_of _ (by decide +kernel)) ggL_group_X2_group
theorem dL_group_0 : decode cL_group 0 = .ok (.aload_n 3, 1) := by decide +kernel
theorem dL_group_1 : decode cL_group 1 = .ok (.iconst 0, 1) := by decide +kernel
theorem dL_group_2 : decode cL_group 2 = .ok (.aload_n 0, 1) := by decide +kernel
theorem dL_group_3 : decode cL_group 3 = .ok (.iload_n 1, 1) := by decide +kernel
theorem dL_group_4 : decode cL_group 4 = .ok (.iload_n 2, 1) := by decide +kernel
theorem dL_group_5 : decode cL_group 5 = .ok (.invokevirtual 48, 3) := by decide +kernel
theorem dL_group_8 : decode cL_group 8 = .ok (.i2l, 1) := by decide +kernel
theorem dL_group_9 : decode cL_group 9 = .ok (.lastore, 1) := by decide +kernel
theorem dL_group_10 : decode cL_group 10 = .ok (.goto 11, 3) := by decide +kernel
theorem dL_group_13 : decode cL_group 13 = .ok (.astore 4, 2) := by decide +kernel
theorem dL_group_15 : decode cL_group 15 = .ok (.iconst 1, 1) := by decide +kernel
theorem dL_group_16 : decode cL_group 16 = .ok (.ireturn, 1) := by decide +kernel
theorem dL_group_17 : decode cL_group 17 = .ok (.astore 4, 2) := by decide +kernel
theorem dL_group_19 : decode cL_group 19 = .ok (.iconst 2, 1) := by decide +kernel
theorem dL_group_20 : decode cL_group 20 = .ok (.ireturn, 1) := by decide +kernel
theorem dL_group_21 : decode cL_group 21 = .ok (.iconst 0, 1) := by decide +kernel
theorem dL_group_22 : decode cL_group 22 = .ok (.ireturn, 1) := by decide +kernel
set_option maxRecDepth 20000 in
theorem ggL_whole_X2_whole : GoodIn wsL_whole wsX2_whole := goodIn_ca (goodIn_ca (goodIn_r _ [7, 8, 9, 10, 11, 6, 12, 13, 14, 15, 16, 17, 18, 19, 20, 21, 22, 23, 24, 25, 26, 27, 28, 29, 30, 31, 32, 33, 34, 35, 36, 37, 38, 39, 40, 41, 42, 43, 44, 45, 46, 47, 48, 49, 50, 51, 52, 53, 54, 55, 56] (by decide +kernel) (by decide +kernel)) (goodIn_sub (fun _ h => List.mem_cons_of_mem _ (List.mem_append_left _ (List.mem_append_right _ h))) (by decide +kernel))) (goodIn_sub (fun _ h => List.mem_cons_of_mem _ (List.mem_append_right _ h)) (by decide +kernel))
set_option maxRecDepth 20000 in
theorem gL_whole_X2_whole : GoodIn wsL_whole (wsV RL 51 RX2 yX2_whole wsX2_whole) := goodIn_app (goodIn_of _ (by decide +kernel)) ggL_whole_X2_whole
theorem dL_whole_0 : decode cL_whole 0 = .ok (.aload_n 2, 1) := by decide +kernel
theorem dL_whole_1 : decode cL_whole 1 = .ok (.iconst 0, 1) := by decide +kernel
theorem dL_whole_2 : decode cL_whole 2 = .ok (.aload_n 0, 1) := by decide +kernel
theorem dL_whole_3 : decode cL_whole 3 = .ok (.iload_n 1, 1) := by decide +kernel
theorem dL_whole_4 : decode cL_whole 4 = .ok (.invokevirtual 51, 3) := by decide +kernel
theorem dL_whole_7 : decode cL_whole 7 = .ok (.i2l, 1) := by decide +kernel
theorem dL_whole_8 : decode cL_whole 8 = .ok (.lastore, 1) := by decide +kernel
theorem dL_whole_9 : decode cL_whole 9 = .ok (.goto 9, 3) := by decide +kernel
theorem dL_whole_12 : decode cL_whole 12 = .ok (.astore_n 3, 1) := by decide +kernel
theorem dL_whole_13 : decode cL_whole 13 = .ok (.iconst 1, 1) := by decide +kernel
theorem dL_whole_14 : decode cL_whole 14 = .ok (.ireturn, 1) := by decide +kernel
theorem dL_whole_15 : decode cL_whole 15 = .ok (.astore_n 3, 1) := by decide +kernel
theorem dL_whole_16 : decode cL_whole 16 = .ok (.iconst 2, 1) := by decide +kernel
theorem dL_whole_17 : decode cL_whole 17 = .ok (.ireturn, 1) := by decide +kernel
theorem dL_whole_18 : decode cL_whole 18 = .ok (.iconst 0, 1) := by decide +kernel
theorem dL_whole_19 : decode cL_whole 19 = .ok (.ireturn, 1) := by decide +kernel
set_option maxRecDepth 20000 in
theorem ggL_has_X2_has : GoodIn wsL_has wsX2_has := goodIn_ca (goodIn_r _ [6, 7, 8, 9, 10, 11, 5, 12, 13, 14, 15, 16, 17, 18, 19, 20, 21, 22, 23, 24, 25, 26, 27, 28, 29, 30, 31, 32, 33, 34, 35, 36, 37, 38, 39, 40, 41, 42, 43, 44, 45, 46, 47, 48, 49, 50] (by decide +kernel) (by decide +kernel)) (goodIn_sub (fun _ h => List.mem_cons_of_mem _ (List.mem_append_right _ h)) (by decide +kernel))
set_option maxRecDepth 20000 in
theorem gL_has_X2_has : GoodIn wsL_has (wsV RL 55 RX2 yX2_has wsX2_has) := goodIn_app (goodIn_of _ (by decide +kernel)) ggL_has_X2_has
theorem dL_has_0 : decode cL_has 0 = .ok (.aload 4, 2) := by decide +kernel
theorem dL_has_2 : decode cL_has 2 = .ok (.iconst 0, 1) := by decide +kernel
theorem dL_has_3 : decode cL_has 3 = .ok (.aload_n 0, 1) := by decide +kernel
theorem dL_has_4 : decode cL_has 4 = .ok (.iload_n 1, 1) := by decide +kernel
theorem dL_has_5 : decode cL_has 5 = .ok (.iload_n 2, 1) := by decide +kernel
theorem dL_has_6 : decode cL_has 6 = .ok (.iload_n 3, 1) := by decide +kernel
theorem dL_has_7 : decode cL_has 7 = .ok (.invokevirtual 55, 3) := by decide +kernel
theorem dL_has_10 : decode cL_has 10 = .ok (.i2l, 1) := by decide +kernel
theorem dL_has_11 : decode cL_has 11 = .ok (.lastore, 1) := by decide +kernel
theorem dL_has_12 : decode cL_has 12 = .ok (.goto 7, 3) := by decide +kernel
theorem dL_has_15 : decode cL_has 15 = .ok (.astore 5, 2) := by decide +kernel
theorem dL_has_17 : decode cL_has 17 = .ok (.iconst 1, 1) := by decide +kernel
theorem dL_has_18 : decode cL_has 18 = .ok (.ireturn, 1) := by decide +kernel
theorem dL_has_19 : decode cL_has 19 = .ok (.iconst 0, 1) := by decide +kernel
theorem dL_has_20 : decode cL_has 20 = .ok (.ireturn, 1) := by decide +kernel
set_option maxRecDepth 20000 in
theorem ggL_values_X2_values : GoodIn wsL_values wsX2_values := goodIn_ca (goodIn_r _ [6, 7, 8, 9, 5, 10, 11, 12, 13, 14, 15, 16, 17, 18, 19, 20, 21, 22, 23, 24, 25, 26, 27, 28, 29, 30, 31, 32, 33, 34, 35, 36, 37, 38, 39, 40, 41, 42, 43, 44, 45, 46, 47, 48, 49, 50, 51, 52, 53, 54, 55, 56, 57, 58, 59, 60] (by decide +kernel) (by decide +kernel)) (goodIn_sub (fun _ h => List.mem_cons_of_mem _ (List.mem_append_right _ h)) (by decide +kernel))
set_option maxRecDepth 20000 in
theorem gL_values_X2_values : GoodIn wsL_values (wsV RL 59 RX2 yX2_values wsX2_values) := goodIn_app (goodIn_of _ (by decide +kernel)) ggL_values_X2_values
theorem dL_values_0 : decode cL_values 0 = .ok (.aload_n 3, 1) := by decide +kernel
theorem dL_values_1 : decode cL_values 1 = .ok (.iconst 0, 1) := by decide +kernel
theorem dL_values_2 : decode cL_values 2 = .ok (.aload_n 0, 1) := by decide +kernel
theorem dL_values_3 : decode cL_values 3 = .ok (.iload_n 1, 1) := by decide +kernel
theorem dL_values_4 : decode cL_values 4 = .ok (.iload_n 2, 1) := by decide +kernel
theorem dL_values_5 : decode cL_values 5 = .ok (.invokevirtual 59, 3) := by decide +kernel
theorem dL_values_8 : decode cL_values 8 = .ok (.i2l, 1) := by decide +kernel
theorem dL_values_9 : decode cL_values 9 = .ok (.lastore, 1) := by decide +kernel
theorem dL_values_10 : decode cL_values 10 = .ok (.goto 7, 3) := by decide +kernel
theorem dL_values_13 : decode cL_values 13 = .ok (.astore 4, 2) := by decide +kernel
theorem dL_values_15 : decode cL_values 15 = .ok (.iconst 1, 1) := by decide +kernel
theorem dL_values_16 : decode cL_values 16 = .ok (.ireturn, 1) := by decide +kernel
theorem dL_values_17 : decode cL_values 17 = .ok (.iconst 0, 1) := by decide +kernel
theorem dL_values_18 : decode cL_values 18 = .ok (.ireturn, 1) := by decide +kernel
set_option maxRecDepth 20000 in
theorem ggL_value_X2_value : GoodIn wsL_value wsX2_value := goodIn_ca (goodIn_r _ [6, 7, 8, 9, 10, 5, 11, 12, 13, 14, 15, 16, 17, 18, 19, 20, 21, 22, 23, 24, 25, 26, 27, 28, 29, 30, 31, 32, 33, 34, 35, 36, 37, 38, 39, 40, 41, 42, 43, 44, 45, 46, 47, 48, 49, 50, 51, 52, 53, 54, 55, 56, 57, 58, 59, 60] (by decide +kernel) (by decide +kernel)) (goodIn_sub (fun _ h => List.mem_cons_of_mem _ (List.mem_append_right _ h)) (by decide +kernel))
set_option maxRecDepth 20000 in
theorem gL_value_X2_value : GoodIn wsL_value (wsV RL 62 RX2 yX2_value wsX2_value) := goodIn_app (goodIn_of _ (by decide +kernel)) ggL_value_X2_value
theorem dL_value_0 : decode cL_value 0 = .ok (.aload 4, 2) := by decide +kernel
theorem dL_value_2 : decode cL_value 2 = .ok (.iconst 0, 1) := by decide +kernel
theorem dL_value_3 : decode cL_value 3 = .ok (.aload_n 0, 1) := by decide +kernel
theorem dL_value_4 : decode cL_value 4 = .ok (.iload_n 1, 1) := by decide +kernel
theorem dL_value_5 : decode cL_value 5 = .ok (.iload_n 2, 1) := by decide +kernel
theorem dL_value_6 : decode cL_value 6 = .ok (.iload_n 3, 1) := by decide +kernel
theorem dL_value_7 : decode cL_value 7 = .ok (.invokevirtual 62, 3) := by decide +kernel
theorem dL_value_10 : decode cL_value 10 = .ok (.lastore, 1) := by decide +kernel
theorem dL_value_11 : decode cL_value 11 = .ok (.goto 7, 3) := by decide +kernel
theorem dL_value_14 : decode cL_value 14 = .ok (.astore 5, 2) := by decide +kernel
theorem dL_value_16 : decode cL_value 16 = .ok (.iconst 1, 1) := by decide +kernel
theorem dL_value_17 : decode cL_value 17 = .ok (.ireturn, 1) := by decide +kernel
theorem dL_value_18 : decode cL_value 18 = .ok (.iconst 0, 1) := by decide +kernel
theorem dL_value_19 : decode cL_value 19 = .ok (.ireturn, 1) := by decide +kernel
set_option maxRecDepth 20000 in
theorem ggL_sum_X2_sum : GoodIn wsL_sum wsX2_sum := goodIn_ca (goodIn_r _ [6, 7, 8, 9, 10, 11, 12, 5, 13, 14, 15, 16, 17, 18, 19, 20, 21, 22, 23, 24, 25, 26, 27, 28, 29, 30, 31, 32, 33, 34, 35, 36, 37, 38, 39, 40, 41, 42, 43, 44, 45, 46, 47, 48, 49, 50, 51] (by decide +kernel) (by decide +kernel)) (goodIn_sub (fun _ h => List.mem_cons_of_mem _ (List.mem_append_right _ h)) (by decide +kernel))
set_option maxRecDepth 20000 in
theorem gL_sum_X2_sum : GoodIn wsL_sum (wsV RL 66 RX2 yX2_sum wsX2_sum) := goodIn_app (goodIn_of _ (by decide +kernel)) ggL_sum_X2_sum
theorem dL_sum_0 : decode cL_sum 0 = .ok (.aload_n 3, 1) := by decide +kernel
theorem dL_sum_1 : decode cL_sum 1 = .ok (.iconst 0, 1) := by decide +kernel
theorem dL_sum_2 : decode cL_sum 2 = .ok (.aload_n 0, 1) := by decide +kernel
theorem dL_sum_3 : decode cL_sum 3 = .ok (.iload_n 1, 1) := by decide +kernel
theorem dL_sum_4 : decode cL_sum 4 = .ok (.iload_n 2, 1) := by decide +kernel
theorem dL_sum_5 : decode cL_sum 5 = .ok (.invokevirtual 66, 3) := by decide +kernel
theorem dL_sum_8 : decode cL_sum 8 = .ok (.lastore, 1) := by decide +kernel
theorem dL_sum_9 : decode cL_sum 9 = .ok (.goto 7, 3) := by decide +kernel
theorem dL_sum_12 : decode cL_sum 12 = .ok (.astore 4, 2) := by decide +kernel
theorem dL_sum_14 : decode cL_sum 14 = .ok (.iconst 1, 1) := by decide +kernel
theorem dL_sum_15 : decode cL_sum 15 = .ok (.ireturn, 1) := by decide +kernel
theorem dL_sum_16 : decode cL_sum 16 = .ok (.iconst 0, 1) := by decide +kernel
theorem dL_sum_17 : decode cL_sum 17 = .ok (.ireturn, 1) := by decide +kernel
set_option maxRecDepth 20000 in
theorem ggL_keys_X2_keys : GoodIn wsL_keys wsX2_keys := goodIn_ca (goodIn_r _ [6, 7, 8, 9, 10, 11, 12, 5, 13, 14, 15, 16, 17, 18, 19, 20, 21, 22, 23, 24, 25, 26, 27, 28, 29, 30, 31, 32, 33, 34, 35, 36, 37, 38, 39, 40] (by decide +kernel) (by decide +kernel)) (goodIn_sub (fun _ h => List.mem_cons_of_mem _ (List.mem_append_right _ h)) (by decide +kernel))
set_option maxRecDepth 20000 in
theorem gL_keys_X2_keys : GoodIn wsL_keys (wsV RL 70 RX2 yX2_keys wsX2_keys) := goodIn_app (goodIn_of _ (by decide +kernel)) ggL_keys_X2_keys
theorem dL_keys_0 : decode cL_keys 0 = .ok (.aload_n 2, 1) := by decide +kernel
theorem dL_keys_1 : decode cL_keys 1 = .ok (.iconst 0, 1) := by decide +kernel
theorem dL_keys_2 : decode cL_keys 2 = .ok (.aload_n 0, 1) := by decide +kernel
theorem dL_keys_3 : decode cL_keys 3 = .ok (.iload_n 1, 1) := by decide +kernel
theorem dL_keys_4 : decode cL_keys 4 = .ok (.invokevirtual 70, 3) := by decide +kernel
theorem dL_keys_7 : decode cL_keys 7 = .ok (.i2l, 1) := by decide +kernel
theorem dL_keys_8 : decode cL_keys 8 = .ok (.lastore, 1) := by decide +kernel
theorem dL_keys_9 : decode cL_keys 9 = .ok (.goto 6, 3) := by decide +kernel
theorem dL_keys_12 : decode cL_keys 12 = .ok (.astore_n 3, 1) := by decide +kernel
theorem dL_keys_13 : decode cL_keys 13 = .ok (.iconst 1, 1) := by decide +kernel
theorem dL_keys_14 : decode cL_keys 14 = .ok (.ireturn, 1) := by decide +kernel
theorem dL_keys_15 : decode cL_keys 15 = .ok (.iconst 0, 1) := by decide +kernel
theorem dL_keys_16 : decode cL_keys 16 = .ok (.ireturn, 1) := by decide +kernel
set_option maxRecDepth 20000 in
theorem ggL_inTwice_X2_inTwice : GoodIn wsL_inTwice wsX2_inTwice := goodIn_ca (goodIn_r _ [6, 7, 8, 9, 10, 11, 5, 12, 13, 14, 15, 16, 17, 18, 19, 20, 21, 22, 23, 24, 25, 26, 27, 28, 29] (by decide +kernel) (by decide +kernel)) (goodIn_sub (fun _ h => List.mem_cons_of_mem _ (List.mem_append_right _ h)) (by decide +kernel))
set_option maxRecDepth 20000 in
theorem gL_inTwice_X2_inTwice : GoodIn wsL_inTwice (wsV RL 73 RX2 yX2_inTwice wsX2_inTwice) := goodIn_app (goodIn_of _ (by decide +kernel)) ggL_inTwice_X2_inTwice
theorem dL_inTwice_0 : decode cL_inTwice 0 = .ok (.aload_n 3, 1) := by decide +kernel
theorem dL_inTwice_1 : decode cL_inTwice 1 = .ok (.iconst 0, 1) := by decide +kernel
theorem dL_inTwice_2 : decode cL_inTwice 2 = .ok (.aload_n 0, 1) := by decide +kernel
theorem dL_inTwice_3 : decode cL_inTwice 3 = .ok (.iload_n 1, 1) := by decide +kernel
theorem dL_inTwice_4 : decode cL_inTwice 4 = .ok (.iload_n 2, 1) := by decide +kernel
theorem dL_inTwice_5 : decode cL_inTwice 5 = .ok (.invokevirtual 73, 3) := by decide +kernel
theorem dL_inTwice_8 : decode cL_inTwice 8 = .ok (.i2l, 1) := by decide +kernel
theorem dL_inTwice_9 : decode cL_inTwice 9 = .ok (.lastore, 1) := by decide +kernel
theorem dL_inTwice_10 : decode cL_inTwice 10 = .ok (.goto 7, 3) := by decide +kernel
theorem dL_inTwice_13 : decode cL_inTwice 13 = .ok (.astore 4, 2) := by decide +kernel
theorem dL_inTwice_15 : decode cL_inTwice 15 = .ok (.iconst 1, 1) := by decide +kernel
theorem dL_inTwice_16 : decode cL_inTwice 16 = .ok (.ireturn, 1) := by decide +kernel
theorem dL_inTwice_17 : decode cL_inTwice 17 = .ok (.iconst 0, 1) := by decide +kernel
theorem dL_inTwice_18 : decode cL_inTwice 18 = .ok (.ireturn, 1) := by decide +kernel
set_option maxRecDepth 20000 in
theorem ggL_inTimed_X2_inTimed : GoodIn wsL_inTimed wsX2_inTimed := goodIn_ca (goodIn_r _ [6, 7, 8, 9, 10, 5, 11, 12, 13, 14, 15, 16, 17, 18, 19, 20, 21, 22, 23, 24, 25, 26, 27, 28, 29, 30, 31, 32, 33, 34, 35, 36, 37, 38, 39, 40] (by decide +kernel) (by decide +kernel)) (goodIn_sub (fun _ h => List.mem_cons_of_mem _ (List.mem_append_right _ h)) (by decide +kernel))
set_option maxRecDepth 20000 in
theorem gL_inTimed_X2_inTimed : GoodIn wsL_inTimed (wsV RL 76 RX2 yX2_inTimed wsX2_inTimed) := goodIn_app (goodIn_of _ (by decide +kernel)) ggL_inTimed_X2_inTimed
theorem dL_inTimed_0 : decode cL_inTimed 0 = .ok (.aload 4, 2) := by decide +kernel
theorem dL_inTimed_2 : decode cL_inTimed 2 = .ok (.iconst 0, 1) := by decide +kernel
theorem dL_inTimed_3 : decode cL_inTimed 3 = .ok (.aload_n 0, 1) := by decide +kernel
theorem dL_inTimed_4 : decode cL_inTimed 4 = .ok (.iload_n 1, 1) := by decide +kernel
theorem dL_inTimed_5 : decode cL_inTimed 5 = .ok (.iload_n 2, 1) := by decide +kernel
theorem dL_inTimed_6 : decode cL_inTimed 6 = .ok (.iload_n 3, 1) := by decide +kernel
theorem dL_inTimed_7 : decode cL_inTimed 7 = .ok (.invokevirtual 76, 3) := by decide +kernel
theorem dL_inTimed_10 : decode cL_inTimed 10 = .ok (.i2l, 1) := by decide +kernel
theorem dL_inTimed_11 : decode cL_inTimed 11 = .ok (.lastore, 1) := by decide +kernel
theorem dL_inTimed_12 : decode cL_inTimed 12 = .ok (.goto 7, 3) := by decide +kernel
theorem dL_inTimed_15 : decode cL_inTimed 15 = .ok (.astore 5, 2) := by decide +kernel
theorem dL_inTimed_17 : decode cL_inTimed 17 = .ok (.iconst 1, 1) := by decide +kernel
theorem dL_inTimed_18 : decode cL_inTimed 18 = .ok (.ireturn, 1) := by decide +kernel
theorem dL_inTimed_19 : decode cL_inTimed 19 = .ok (.iconst 0, 1) := by decide +kernel
theorem dL_inTimed_20 : decode cL_inTimed 20 = .ok (.ireturn, 1) := by decide +kernel
set_option maxRecDepth 20000 in
theorem ggL_seen_X2_seen : GoodIn wsL_seen wsX2_seen := goodIn_ca (goodIn_r _ [6, 7, 8, 9, 10, 11, 12, 13, 5, 14, 15, 16, 17, 18, 19, 20, 21, 22, 23, 24, 25, 26, 27, 28, 29, 30, 31, 32, 33, 34, 35, 36, 37, 38, 39, 40, 41, 42, 43, 44] (by decide +kernel) (by decide +kernel)) (goodIn_sub (fun _ h => List.mem_cons_of_mem _ (List.mem_append_right _ h)) (by decide +kernel))
set_option maxRecDepth 20000 in
theorem gL_seen_X2_seen : GoodIn wsL_seen (wsV RL 79 RX2 yX2_seen wsX2_seen) := goodIn_app (goodIn_of _ (by decide +kernel)) ggL_seen_X2_seen
theorem dL_seen_0 : decode cL_seen 0 = .ok (.aload 4, 2) := by decide +kernel
theorem dL_seen_2 : decode cL_seen 2 = .ok (.iconst 0, 1) := by decide +kernel
theorem dL_seen_3 : decode cL_seen 3 = .ok (.aload_n 0, 1) := by decide +kernel
theorem dL_seen_4 : decode cL_seen 4 = .ok (.iload_n 1, 1) := by decide +kernel
theorem dL_seen_5 : decode cL_seen 5 = .ok (.iload_n 2, 1) := by decide +kernel
theorem dL_seen_6 : decode cL_seen 6 = .ok (.iload_n 3, 1) := by decide +kernel
theorem dL_seen_7 : decode cL_seen 7 = .ok (.invokevirtual 79, 3) := by decide +kernel
theorem dL_seen_10 : decode cL_seen 10 = .ok (.i2l, 1) := by decide +kernel
theorem dL_seen_11 : decode cL_seen 11 = .ok (.lastore, 1) := by decide +kernel
theorem dL_seen_12 : decode cL_seen 12 = .ok (.goto 7, 3) := by decide +kernel
theorem dL_seen_15 : decode cL_seen 15 = .ok (.astore 5, 2) := by decide +kernel
theorem dL_seen_17 : decode cL_seen 17 = .ok (.iconst 1, 1) := by decide +kernel
theorem dL_seen_18 : decode cL_seen 18 = .ok (.ireturn, 1) := by decide +kernel
theorem dL_seen_19 : decode cL_seen 19 = .ok (.iconst 0, 1) := by decide +kernel
theorem dL_seen_20 : decode cL_seen 20 = .ok (.ireturn, 1) := by decide +kernel
set_option maxRecDepth 20000 in
theorem ggL_size_X2_size : GoodIn wsL_size wsX2_size := goodIn_ca (goodIn_r _ [6, 7, 8, 9, 10, 11, 5, 12, 13, 14, 15, 16, 17, 18, 19, 20, 21, 22, 23, 24, 25, 26, 27, 28, 29, 30, 31, 32, 33, 34, 35, 36, 37, 38, 39, 40, 41, 42, 43, 44] (by decide +kernel) (by decide +kernel)) (goodIn_sub (fun _ h => List.mem_cons_of_mem _ (List.mem_append_right _ h)) (by decide +kernel))
set_option maxRecDepth 20000 in
theorem gL_size_X2_size : GoodIn wsL_size (wsV RL 82 RX2 yX2_size wsX2_size) := goodIn_app (goodIn_of _ (by decide +kernel)) ggL_size_X2_size
theorem dL_size_0 : decode cL_size 0 = .ok (.aload_n 3, 1) := by decide +kernel
theorem dL_size_1 : decode cL_size 1 = .ok (.iconst 0, 1) := by decide +kernel
theorem dL_size_2 : decode cL_size 2 = .ok (.aload_n 0, 1) := by decide +kernel
theorem dL_size_3 : decode cL_size 3 = .ok (.iload_n 1, 1) := by decide +kernel
theorem dL_size_4 : decode cL_size 4 = .ok (.iload_n 2, 1) := by decide +kernel
theorem dL_size_5 : decode cL_size 5 = .ok (.invokevirtual 82, 3) := by decide +kernel
theorem dL_size_8 : decode cL_size 8 = .ok (.i2l, 1) := by decide +kernel
theorem dL_size_9 : decode cL_size 9 = .ok (.lastore, 1) := by decide +kernel
theorem dL_size_10 : decode cL_size 10 = .ok (.goto 7, 3) := by decide +kernel
theorem dL_size_13 : decode cL_size 13 = .ok (.astore 4, 2) := by decide +kernel
theorem dL_size_15 : decode cL_size 15 = .ok (.iconst 1, 1) := by decide +kernel
theorem dL_size_16 : decode cL_size 16 = .ok (.ireturn, 1) := by decide +kernel
theorem dL_size_17 : decode cL_size 17 = .ok (.iconst 0, 1) := by decide +kernel
theorem dL_size_18 : decode cL_size 18 = .ok (.ireturn, 1) := by decide +kernel
set_option maxRecDepth 20000 in
theorem ggL_same_X2_same : GoodIn wsL_same wsX2_same := goodIn_ca (goodIn_r _ [6, 7, 8, 9, 5, 10, 11, 12, 13, 14, 15, 16, 17, 18, 19, 20, 21, 22, 23, 24, 25, 26, 27, 28, 29, 30, 31, 32, 33, 34, 35, 36, 37] (by decide +kernel) (by decide +kernel)) (goodIn_sub (fun _ h => List.mem_cons_of_mem _ (List.mem_append_right _ h)) (by decide +kernel))
set_option maxRecDepth 20000 in
theorem gL_same_X2_same : GoodIn wsL_same (wsV RL 85 RX2 yX2_same wsX2_same) := goodIn_app (goodIn_of _ (by decide +kernel)) ggL_same_X2_same
theorem dL_same_0 : decode cL_same 0 = .ok (.aload_n 3, 1) := by decide +kernel
theorem dL_same_1 : decode cL_same 1 = .ok (.iconst 0, 1) := by decide +kernel
theorem dL_same_2 : decode cL_same 2 = .ok (.aload_n 0, 1) := by decide +kernel
theorem dL_same_3 : decode cL_same 3 = .ok (.iload_n 1, 1) := by decide +kernel
theorem dL_same_4 : decode cL_same 4 = .ok (.iload_n 2, 1) := by decide +kernel
theorem dL_same_5 : decode cL_same 5 = .ok (.invokevirtual 85, 3) := by decide +kernel
theorem dL_same_8 : decode cL_same 8 = .ok (.i2l, 1) := by decide +kernel
theorem dL_same_9 : decode cL_same 9 = .ok (.lastore, 1) := by decide +kernel
theorem dL_same_10 : decode cL_same 10 = .ok (.goto 7, 3) := by decide +kernel
theorem dL_same_13 : decode cL_same 13 = .ok (.astore 4, 2) := by decide +kernel
theorem dL_same_15 : decode cL_same 15 = .ok (.iconst 1, 1) := by decide +kernel
theorem dL_same_16 : decode cL_same 16 = .ok (.ireturn, 1) := by decide +kernel
theorem dL_same_17 : decode cL_same 17 = .ok (.iconst 0, 1) := by decide +kernel
theorem dL_same_18 : decode cL_same 18 = .ok (.ireturn, 1) := by decide +kernel
set_option maxRecDepth 20000 in
theorem ggL_below_X2_below : GoodIn wsL_below wsX2_below := goodIn_ca (goodIn_r _ [6, 7, 8, 9, 10, 5, 11, 12, 13, 14, 15, 16, 17, 18, 19, 20, 21, 22, 23, 24, 25, 26, 27, 28, 29, 30, 31, 32, 33, 34, 35, 36, 37, 38, 39, 40, 41, 42, 43, 44, 45, 46, 47, 48, 49, 50, 51, 52, 53, 54, 55, 56, 57, 58, 59] (by decide +kernel) (by decide +kernel)) (goodIn_sub (fun _ h => List.mem_cons_of_mem _ (List.mem_append_right _ h)) (by decide +kernel))
set_option maxRecDepth 20000 in
theorem gL_below_X2_below : GoodIn wsL_below (wsV RL 88 RX2 yX2_below wsX2_below) := goodIn_app (goodIn_of _ (by decide +kernel)) ggL_below_X2_below
theorem dL_below_0 : decode cL_below 0 = .ok (.aload_n 3, 1) := by decide +kernel
theorem dL_below_1 : decode cL_below 1 = .ok (.iconst 0, 1) := by decide +kernel
theorem dL_below_2 : decode cL_below 2 = .ok (.aload_n 0, 1) := by decide +kernel
theorem dL_below_3 : decode cL_below 3 = .ok (.iload_n 1, 1) := by decide +kernel
theorem dL_below_4 : decode cL_below 4 = .ok (.iload_n 2, 1) := by decide +kernel
theorem dL_below_5 : decode cL_below 5 = .ok (.invokevirtual 88, 3) := by decide +kernel
theorem dL_below_8 : decode cL_below 8 = .ok (.i2l, 1) := by decide +kernel
theorem dL_below_9 : decode cL_below 9 = .ok (.lastore, 1) := by decide +kernel
theorem dL_below_10 : decode cL_below 10 = .ok (.goto 7, 3) := by decide +kernel
theorem dL_below_13 : decode cL_below 13 = .ok (.astore 4, 2) := by decide +kernel
theorem dL_below_15 : decode cL_below 15 = .ok (.iconst 1, 1) := by decide +kernel
theorem dL_below_16 : decode cL_below 16 = .ok (.ireturn, 1) := by decide +kernel
theorem dL_below_17 : decode cL_below 17 = .ok (.iconst 0, 1) := by decide +kernel
theorem dL_below_18 : decode cL_below 18 = .ok (.ireturn, 1) := by decide +kernel
set_option maxRecDepth 20000 in
theorem ggL_law_X2_init : GoodIn wsL_law wsX2_init := goodIn_r _ [10, 11, 12, 13, 14, 15, 16, 17, 18, 19, 20, 21, 22, 23, 6, 24, 25, 26, 27, 28, 29, 30, 31, 32, 33, 34, 35, 36, 37, 38, 39, 40, 41, 42, 43, 44, 574, 575, 576, 577, 578, 579, 594, 595, 596, 597, 598, 599, 600, 601, 602, 603, 604, 605] (by decide +kernel) (by decide +kernel)
set_option maxRecDepth 20000 in
theorem gL_law_X2_init : GoodIn wsL_law (wsX2_init) := ggL_law_X2_init
set_option maxRecDepth 20000 in
theorem ggL_law_X3_init : GoodIn wsL_law wsX3_init := goodIn_r _ [47, 48, 12, 13, 6, 49, 50, 29, 51, 52, 53, 54, 55, 56, 57, 58, 59, 60, 580, 581, 582, 583, 584, 585, 586, 587, 588, 589, 590, 591, 592, 593] (by decide +kernel) (by decide +kernel)
set_option maxRecDepth 20000 in
theorem gL_law_X3_init : GoodIn wsL_law (wsX3_init) := ggL_law_X3_init
set_option maxRecDepth 20000 in
theorem ggL_law_L_element : GoodIn wsL_law wsL_element := goodIn_ca (goodIn_ca (goodIn_ca (goodIn_r _ [64, 65, 66, 67, 68, 69, 70, 2, 71, 72, 73, 74, 75, 76, 77, 15, 78, 79, 80, 81, 82, 83, 84, 85, 86, 87, 88, 89, 20, 90, 91, 92, 93, 94, 95, 96, 97, 98, 19, 99, 36, 35, 100, 101, 102, 103, 25, 16, 14, 21, 22, 37, 38, 39, 12, 13, 6, 40, 41, 29, 42, 43, 44, 104, 105, 106, 107, 108, 109, 110, 111, 112, 113, 114, 115, 116, 117, 32, 33, 30, 118, 119, 120, 121, 122, 123, 124, 125, 31, 34, 126, 127, 128, 129, 130, 131, 132, 133, 134, 135, 136, 137, 138, 139, 140, 141, 142, 143, 144, 145, 146, 147, 148, 149, 150, 151, 574, 575, 576, 577, 578, 579, 594, 595, 596, 597, 598, 599, 600, 601, 602, 603, 604, 605] (by decide +kernel) (by decide +kernel)) (goodIn_sub (fun _ h => List.mem_append_left _ (List.mem_append_left _ (List.mem_append_left _ (List.mem_append_right _ h)))) (by decide +kernel))) (goodIn_sub (fun _ h => List.mem_append_left _ (List.mem_append_left _ (List.mem_append_right _ h))) (by decide +kernel))) (goodIn_sub (fun _ h => List.mem_append_left _ (List.mem_append_right _ h)) (by decide +kernel))
set_option maxRecDepth 20000 in
theorem gL_law_L_element : GoodIn wsL_law (va_wsS RL 95 yL_element wsL_element) := goodIn_app (goodIn_of _ (by decide +kernel)) ggL_law_L_element
set_option maxRecDepth 20000 in
theorem ggL_law_X3_element : GoodIn wsL_law wsX3_element := goodIn_r _ [155, 156, 157, 158, 5, 159, 160, 161, 162, 163, 164, 165, 166, 167, 168, 169, 170, 171, 172, 173, 174, 175, 176, 177, 178, 179, 180, 181, 182, 49, 183, 184, 185, 186, 187, 188, 189, 190, 191, 192, 193, 194, 195, 196, 197, 50, 51, 52, 53, 54, 56, 198, 199, 200, 201, 57, 58, 59, 202, 203, 204, 205, 206, 207, 208, 209, 210, 211, 212, 213, 214, 215, 216, 217, 218, 219, 220, 221, 222, 223, 224, 225, 226, 227, 228, 580, 581, 582, 583, 584, 585, 586, 587, 588, 589, 590, 591, 592, 593] (by decide +kernel) (by decide +kernel)
set_option maxRecDepth 20000 in
theorem gL_law_X3_element : GoodIn wsL_law (wsV RL 100 RX3 yX3_element wsX3_element) := goodIn_app (goodIn_of _ (by decide +kernel)) ggL_law_X3_element
set_option maxRecDepth 20000 in
theorem ggL_law_X3_thrown : GoodIn wsL_law wsX3_thrown := goodIn_r _ [232, 156, 580, 581, 582, 583, 584, 585, 586, 587, 588, 589, 590, 591, 592, 593] (by decide +kernel) (by decide +kernel)
set_option maxRecDepth 20000 in
theorem gL_law_X3_thrown : GoodIn wsL_law (wsV RL 101 RX3 yX3_thrown wsX3_thrown) := goodIn_app (goodIn_of _ (by decide +kernel)) ggL_law_X3_thrown
set_option maxRecDepth 20000 in
theorem ggL_law_L_write : GoodIn wsL_law wsL_write := goodIn_ca (goodIn_ca (goodIn_ca (goodIn_r _ [235, 65, 66, 67, 236, 237, 238, 2, 239, 20, 72, 73, 74, 75, 76, 77, 15, 78, 79, 80, 81, 82, 83, 84, 85, 90, 91, 92, 93, 94, 95, 96, 97, 98, 19, 99, 36, 35, 100, 101, 102, 103, 25, 16, 14, 21, 22, 37, 38, 39, 12, 13, 6, 40, 41, 29, 42, 43, 44, 104, 105, 106, 107, 108, 109, 110, 111, 112, 113, 114, 115, 116, 117, 32, 33, 30, 118, 119, 120, 121, 122, 123, 124, 125, 31, 34, 126, 127, 128, 129, 130, 131, 132, 133, 134, 135, 136, 137, 138, 139, 140, 141, 142, 143, 144, 145, 146, 147, 148, 149, 150, 151, 574, 575, 576, 577, 578, 579, 594, 595, 596, 597, 598, 599, 600, 601, 602, 603, 604, 605] (by decide +kernel) (by decide +kernel)) (goodIn_sub (fun _ h => List.mem_append_left _ (List.mem_append_left _ (List.mem_append_left _ (List.mem_append_right _ h)))) (by decide +kernel))) (goodIn_sub (fun _ h => List.mem_append_left _ (List.mem_append_left _ (List.mem_append_right _ h))) (by decide +kernel))) (goodIn_sub (fun _ h => List.mem_append_left _ (List.mem_append_right _ h)) (by decide +kernel))
set_option maxRecDepth 20000 in
theorem gL_law_L_write : GoodIn wsL_law (va_wsS RL 107 yL_write wsL_write) := goodIn_app (goodIn_of _ (by decide +kernel)) ggL_law_L_write
set_option maxRecDepth 20000 in
theorem ggL_law_X3_write : GoodIn wsL_law wsX3_write := goodIn_r _ [243, 156, 163, 164, 165, 5, 166, 167, 168, 169, 170, 160, 161, 162, 171, 172, 173, 174, 175, 176, 177, 178, 179, 180, 181, 182, 49, 183, 184, 185, 190, 191, 192, 193, 194, 195, 196, 197, 50, 51, 52, 53, 54, 56, 198, 199, 200, 201, 57, 58, 59, 202, 203, 204, 205, 206, 207, 208, 209, 210, 211, 212, 213, 214, 215, 216, 217, 218, 219, 220, 221, 222, 223, 224, 225, 226, 227, 228, 580, 581, 582, 583, 584, 585, 586, 587, 588, 589, 590, 591, 592, 593] (by decide +kernel) (by decide +kernel)
set_option maxRecDepth 20000 in
theorem gL_law_X3_write : GoodIn wsL_law (wsV RL 110 RX3 yX3_write wsX3_write) := goodIn_app (goodIn_of _ (by decide +kernel)) ggL_law_X3_write
set_option maxRecDepth 20000 in
theorem ggL_law_L_count : GoodIn wsL_law wsL_count := goodIn_ca (goodIn_ca (goodIn_ca (goodIn_r _ [246, 65, 66, 67, 247, 248, 249, 2, 250, 20, 72, 73, 74, 75, 76, 77, 15, 78, 79, 80, 81, 82, 83, 84, 85, 90, 91, 92, 93, 94, 95, 96, 97, 98, 19, 99, 36, 35, 100, 101, 102, 103, 25, 16, 14, 21, 22, 37, 38, 39, 12, 13, 6, 40, 41, 29, 42, 43, 44, 104, 105, 106, 107, 108, 109, 110, 111, 112, 113, 114, 115, 116, 117, 32, 33, 30, 118, 119, 120, 121, 122, 123, 124, 125, 31, 34, 126, 127, 128, 129, 130, 131, 132, 133, 134, 135, 136, 137, 138, 139, 140, 141, 142, 143, 144, 145, 146, 147, 148, 149, 150, 151, 574, 575, 576, 577, 578, 579, 594, 595, 596, 597, 598, 599, 600, 601, 602, 603, 604, 605] (by decide +kernel) (by decide +kernel)) (goodIn_sub (fun _ h => List.mem_append_left _ (List.mem_append_left _ (List.mem_append_left _ (List.mem_append_right _ h)))) (by decide +kernel))) (goodIn_sub (fun _ h => List.mem_append_left _ (List.mem_append_left _ (List.mem_append_right _ h))) (by decide +kernel))) (goodIn_sub (fun _ h => List.mem_append_left _ (List.mem_append_right _ h)) (by decide +kernel))
set_option maxRecDepth 20000 in
theorem gL_law_L_count : GoodIn wsL_law (va_wsS RL 111 yL_count wsL_count) := goodIn_app (goodIn_of _ (by decide +kernel)) ggL_law_L_count
set_option maxRecDepth 20000 in
theorem ggL_law_X3_count : GoodIn wsL_law wsX3_count := goodIn_r _ [254, 156, 163, 164, 165, 5, 166, 167, 168, 169, 170, 160, 161, 162, 171, 172, 173, 174, 175, 176, 177, 178, 179, 180, 181, 182, 49, 183, 184, 185, 190, 191, 192, 193, 194, 195, 196, 197, 50, 51, 52, 53, 54, 56, 198, 199, 200, 201, 57, 58, 59, 202, 203, 204, 205, 206, 207, 208, 209, 210, 211, 212, 213, 214, 215, 216, 217, 218, 219, 220, 221, 222, 223, 224, 225, 226, 227, 228, 580, 581, 582, 583, 584, 585, 586, 587, 588, 589, 590, 591, 592, 593] (by decide +kernel) (by decide +kernel)
set_option maxRecDepth 20000 in
theorem gL_law_X3_count : GoodIn wsL_law (wsV RL 113 RX3 yX3_count wsX3_count) := goodIn_app (goodIn_of _ (by decide +kernel)) ggL_law_X3_count
set_option maxRecDepth 20000 in
theorem ggL_law_L_flag : GoodIn wsL_law wsL_flag := goodIn_ca (goodIn_ca (goodIn_ca (goodIn_r _ [257, 65, 66, 67, 258, 259, 260, 2, 261, 72, 73, 74, 75, 76, 77, 15, 78, 79, 80, 81, 82, 83, 84, 85, 86, 87, 88, 89, 20, 90, 91, 92, 93, 94, 95, 96, 97, 98, 19, 99, 36, 35, 100, 101, 102, 103, 25, 16, 14, 21, 22, 37, 38, 39, 12, 13, 6, 40, 41, 29, 42, 43, 44, 104, 105, 106, 107, 108, 109, 110, 111, 112, 113, 114, 115, 116, 117, 32, 33, 30, 118, 119, 120, 121, 122, 123, 124, 125, 31, 34, 126, 127, 128, 129, 130, 131, 132, 133, 134, 135, 136, 137, 138, 139, 140, 141, 142, 143, 144, 145, 146, 147, 148, 149, 150, 151, 574, 575, 576, 577, 578, 579, 594, 595, 596, 597, 598, 599, 600, 601, 602, 603, 604, 605] (by decide +kernel) (by decide +kernel)) (goodIn_sub (fun _ h => List.mem_append_left _ (List.mem_append_left _ (List.mem_append_left _ (List.mem_append_right _ h)))) (by decide +kernel))) (goodIn_sub (fun _ h => List.mem_append_left _ (List.mem_append_left _ (List.mem_append_right _ h))) (by decide +kernel))) (goodIn_sub (fun _ h => List.mem_append_left _ (List.mem_append_right _ h)) (by decide +kernel))
set_option maxRecDepth 20000 in
theorem gL_law_L_flag : GoodIn wsL_law (va_wsS RL 114 yL_flag wsL_flag) := goodIn_app (goodIn_of _ (by decide +kernel)) ggL_law_L_flag
set_option maxRecDepth 20000 in
theorem ggL_law_X3_flag : GoodIn wsL_law wsX3_flag := goodIn_r _ [265, 156, 160, 161, 5, 162, 163, 164, 165, 166, 167, 168, 169, 170, 171, 172, 173, 174, 175, 176, 177, 178, 179, 180, 181, 182, 49, 183, 184, 185, 186, 187, 188, 189, 190, 191, 192, 193, 194, 195, 196, 197, 50, 51, 52, 53, 54, 56, 198, 199, 200, 201, 57, 58, 59, 202, 203, 204, 205, 206, 207, 208, 209, 210, 211, 212, 213, 214, 215, 216, 217, 218, 219, 220, 221, 222, 223, 224, 225, 226, 227, 228, 580, 581, 582, 583, 584, 585, 586, 587, 588, 589, 590, 591, 592, 593] (by decide +kernel) (by decide +kernel)
set_option maxRecDepth 20000 in
theorem gL_law_X3_flag : GoodIn wsL_law (wsV RL 116 RX3 yX3_flag wsX3_flag) := goodIn_app (goodIn_of _ (by decide +kernel)) ggL_law_X3_flag
set_option maxRecDepth 20000 in
theorem ggL_law_L_clear : GoodIn wsL_law wsL_clear := goodIn_ca (goodIn_ca (goodIn_r _ [268, 65, 67, 269, 270, 271, 2, 272, 72, 73, 74, 75, 76, 77, 15, 78, 79, 80, 100, 101, 102, 103, 94, 95, 25, 16, 14, 21, 22, 37, 38, 39, 12, 13, 6, 40, 41, 29, 42, 43, 44, 104, 105, 106, 107, 20, 108, 109, 110, 111, 112, 113, 114, 115, 116, 19, 117, 32, 33, 30, 118, 119, 120, 121, 131, 132, 133, 134, 135, 136, 137, 138, 139, 140, 141, 142, 143, 144, 145, 146, 147, 148, 149, 150, 151, 574, 575, 576, 577, 578, 579, 601, 602, 603, 604, 605, 594, 595, 596, 597, 598, 599, 600] (by decide +kernel) (by decide +kernel)) (goodIn_sub (fun _ h => List.mem_append_left _ (List.mem_append_left _ (List.mem_append_left _ (List.mem_append_right _ h)))) (by decide +kernel))) (goodIn_sub (fun _ h => List.mem_append_left _ (List.mem_append_right _ h)) (by decide +kernel))
set_option maxRecDepth 20000 in
theorem gL_law_L_clear : GoodIn wsL_law (va_wsS RL 117 yL_clear wsL_clear) := goodIn_app (goodIn_of _ (by decide +kernel)) ggL_law_L_clear
set_option maxRecDepth 20000 in
theorem ggL_law_X3_clear : GoodIn wsL_law wsX3_clear := goodIn_r _ [276, 156, 167, 168, 169, 5, 170, 160, 161, 162, 171, 172, 173, 174, 175, 176, 177, 178, 179, 180, 181, 182, 49, 183, 184, 185, 190, 191, 192, 193, 194, 195, 196, 197, 50, 51, 52, 53, 54, 56, 198, 199, 200, 201, 57, 58, 59, 202, 203, 204, 205, 206, 207, 212, 213, 214, 215, 216, 217, 218, 219, 220, 221, 222, 223, 224, 225, 226, 227, 228, 580, 581, 582, 583, 584, 585, 586, 587, 588, 589, 590, 591, 592, 593] (by decide +kernel) (by decide +kernel)
set_option maxRecDepth 20000 in
theorem gL_law_X3_clear : GoodIn wsL_law (wsV RL 120 RX3 yX3_clear wsX3_clear) := goodIn_app (goodIn_of _ (by decide +kernel)) ggL_law_X3_clear
set_option maxRecDepth 20000 in
theorem ggL_law_L_twice : GoodIn wsL_law wsL_twice := goodIn_ca (goodIn_ca (goodIn_r _ [279, 65, 67, 280, 281, 282, 2, 283, 284, 285, 72, 73, 74, 75, 76, 77, 15, 78, 79, 80, 100, 101, 102, 103, 94, 95, 25, 16, 14, 21, 22, 37, 38, 39, 12, 13, 6, 40, 41, 29, 42, 43, 44, 131, 132, 133, 134, 135, 136, 137, 138, 139, 140, 141, 142, 143, 144, 145, 146, 147, 148, 149, 150, 151, 601, 602, 603, 604, 605, 574, 575, 576, 577, 578, 579] (by decide +kernel) (by decide +kernel)) (goodIn_sub (fun _ h => List.mem_append_left _ (List.mem_append_left _ (List.mem_append_left _ (List.mem_append_right _ h)))) (by decide +kernel))) (goodIn_sub (fun _ h => List.mem_append_left _ (List.mem_append_right _ h)) (by decide +kernel))
set_option maxRecDepth 20000 in
theorem gL_law_L_twice : GoodIn wsL_law (va_wsS RL 121 yL_twice wsL_twice) := goodIn_app (goodIn_of _ (by decide +kernel)) ggL_law_L_twice
set_option maxRecDepth 20000 in
theorem ggL_law_X3_twice : GoodIn wsL_law wsX3_twice := goodIn_r _ [289, 156, 51, 52, 167, 168, 169, 5, 170, 160, 161, 162, 157, 158, 159, 174, 175, 176, 177, 178, 179, 180, 181, 182, 49, 183, 184, 185, 190, 191, 192, 193, 194, 195, 196, 197, 50, 53, 54, 56, 212, 213, 214, 215, 216, 217, 218, 219, 220, 221, 222, 223, 224, 225, 226, 227, 228, 580, 581, 582, 583, 584, 585, 586, 587, 588, 589, 590, 591, 592, 593] (by decide +kernel) (by decide +kernel)
set_option maxRecDepth 20000 in
theorem gL_law_X3_twice : GoodIn wsL_law (wsV RL 124 RX3 yX3_twice wsX3_twice) := goodIn_app (goodIn_of _ (by decide +kernel)) ggL_law_X3_twice
set_option maxRecDepth 20000 in
theorem ggL_law_L_timed : GoodIn wsL_law wsL_timed := goodIn_ca (goodIn_ca (goodIn_ca (goodIn_r _ [292, 65, 293, 67, 294, 295, 296, 2, 297, 298, 72, 73, 74, 75, 76, 77, 15, 78, 79, 80, 299, 300, 301, 302, 303, 304, 100, 101, 102, 103, 94, 95, 25, 16, 14, 21, 22, 37, 38, 39, 12, 13, 6, 40, 41, 29, 42, 43, 44, 305, 306, 307, 308, 309, 310, 131, 132, 133, 134, 135, 136, 137, 138, 139, 140, 141, 142, 143, 144, 145, 146, 147, 148, 149, 150, 151, 601, 602, 603, 604, 605, 574, 575, 576, 577, 578, 579] (by decide +kernel) (by decide +kernel)) (goodIn_sub (fun _ h => List.mem_append_left _ (List.mem_append_left _ (List.mem_append_left _ (List.mem_append_right _ h)))) (by decide +kernel))) (goodIn_sub (fun _ h => List.mem_append_right _ h) (by decide +kernel))) (goodIn_sub (fun _ h => List.mem_append_left _ (List.mem_append_right _ h)) (by decide +kernel))
set_option maxRecDepth 20000 in
theorem gL_law_L_timed : GoodIn wsL_law (va_wsS RL 125 yL_timed wsL_timed) := goodIn_app (goodIn_of _ (by decide +kernel)) ggL_law_L_timed
set_option maxRecDepth 20000 in
theorem ggL_law_X3_timed : GoodIn wsL_law wsX3_timed := goodIn_r _ [314, 315, 156, 53, 54, 56, 167, 168, 169, 5, 170, 160, 161, 162, 157, 158, 159, 174, 175, 176, 177, 178, 179, 180, 181, 182, 49, 183, 184, 185, 190, 191, 192, 193, 194, 195, 196, 197, 50, 51, 52, 212, 213, 214, 215, 216, 217, 218, 219, 220, 221, 222, 223, 224, 225, 226, 227, 228, 580, 581, 582, 583, 584, 585, 586, 587, 588, 589, 590, 591, 592, 593] (by decide +kernel) (by decide +kernel)
set_option maxRecDepth 20000 in
theorem gL_law_X3_timed : GoodIn wsL_law (wsV RL 127 RX3 yX3_timed wsX3_timed) := goodIn_app (goodIn_of _ (by decide +kernel)) ggL_law_X3_timed
set_option maxRecDepth 20000 in
theorem ggL_law_L_join : GoodIn wsL_law wsL_join := goodIn_ca (goodIn_r _ [318, 65, 319, 320, 321, 2, 322, 72, 73, 74, 75, 76, 77, 15, 323, 324, 325, 326, 16, 135, 136, 137, 22, 138, 139, 140, 141, 142, 41, 40, 143, 144, 145, 146, 147, 43, 44, 148, 149, 150, 151, 42, 308, 309, 310, 574, 575, 576, 577, 578, 579, 601, 602, 603, 604, 605] (by decide +kernel) (by decide +kernel)) (goodIn_sub (fun _ h => List.mem_append_left _ (List.mem_append_left _ (List.mem_append_left _ (List.mem_append_right _ h)))) (by decide +kernel))
set_option maxRecDepth 20000 in
theorem gL_law_L_join : GoodIn wsL_law (va_wsS RL 128 yL_join wsL_join) := goodIn_app (goodIn_of _ (by decide +kernel)) ggL_law_L_join
set_option maxRecDepth 20000 in
theorem ggL_law_X3_join : GoodIn wsL_law wsX3_join := goodIn_r _ [330, 167, 168, 169, 5, 170, 160, 161, 162, 331, 332, 333, 334, 178, 335, 336, 337, 338, 156, 339, 340, 341, 342, 343, 344, 345, 346, 49, 50, 51, 52, 225, 226, 227, 228, 53, 54, 56, 216, 217, 218, 219, 220, 221, 222, 223, 224, 347, 348, 349, 350, 580, 581, 582, 583, 584, 585, 586, 587, 588, 589, 590, 591, 592, 593] (by decide +kernel) (by decide +kernel)
set_option maxRecDepth 20000 in
theorem gL_law_X3_join : GoodIn wsL_law (wsV RL 130 RX3 yX3_join wsX3_join) := goodIn_app (goodIn_of _ (by decide +kernel)) ggL_law_X3_join
set_option maxRecDepth 20000 in
theorem ggL_law_L_merge : GoodIn wsL_law wsL_merge := goodIn_ca (goodIn_r _ [353, 65, 354, 355, 356, 2, 357, 72, 73, 74, 75, 76, 77, 15, 135, 136, 137, 22, 138, 139, 140, 141, 142, 41, 40, 143, 144, 145, 146, 147, 43, 44, 148, 149, 150, 151, 42, 308, 309, 310, 574, 575, 576, 577, 578, 579, 601, 602, 603, 604, 605] (by decide +kernel) (by decide +kernel)) (goodIn_sub (fun _ h => List.mem_append_left _ (List.mem_append_left _ (List.mem_append_left _ (List.mem_append_right _ h)))) (by decide +kernel))
set_option maxRecDepth 20000 in
theorem gL_law_L_merge : GoodIn wsL_law (va_wsS RL 131 yL_merge wsL_merge) := goodIn_app (goodIn_of _ (by decide +kernel)) ggL_law_L_merge
set_option maxRecDepth 20000 in
theorem ggL_law_X3_merge : GoodIn wsL_law wsX3_merge := goodIn_r _ [361, 167, 168, 169, 5, 170, 160, 161, 162, 335, 336, 337, 338, 156, 339, 340, 341, 342, 343, 344, 345, 346, 49, 50, 51, 52, 225, 226, 227, 228, 53, 54, 56, 216, 217, 218, 219, 220, 221, 222, 223, 224, 347, 348, 349, 350, 580, 581, 582, 583, 584, 585, 586, 587, 588, 589, 590, 591, 592, 593] (by decide +kernel) (by decide +kernel)
set_option maxRecDepth 20000 in
theorem gL_law_X3_merge : GoodIn wsL_law (wsV RL 133 RX3 yX3_merge wsX3_merge) := goodIn_app (goodIn_of _ (by decide +kernel)) ggL_law_X3_merge
set_option maxRecDepth 20000 in
theorem ggL_law_L_group : GoodIn wsL_law wsL_group := goodIn_ca (goodIn_ca (goodIn_r _ [364, 65, 67, 365, 366, 367, 2, 368, 25, 323, 324, 325, 326, 76, 77, 16, 100, 101, 102, 103, 94, 95, 14, 21, 22, 37, 38, 39, 12, 13, 6, 40, 41, 29, 42, 43, 44, 369, 370, 371, 372, 373, 374, 375, 376, 135, 136, 137, 138, 139, 140, 141, 142, 143, 144, 145, 146, 147, 148, 149, 150, 151, 574, 575, 576, 577, 578, 579, 601, 602, 603, 604, 605] (by decide +kernel) (by decide +kernel)) (goodIn_sub (fun _ h => List.mem_append_left _ (List.mem_append_left _ (List.mem_append_left _ (List.mem_append_right _ h)))) (by decide +kernel))) (goodIn_sub (fun _ h => List.mem_append_left _ (List.mem_append_right _ h)) (by decide +kernel))
set_option maxRecDepth 20000 in
theorem gL_law_L_group : GoodIn wsL_law (va_wsS RL 134 yL_group wsL_group) := goodIn_app (goodIn_of _ (by decide +kernel)) ggL_law_L_group
set_option maxRecDepth 20000 in
theorem ggL_law_X3_group : GoodIn wsL_law wsX3_group := goodIn_r _ [380, 178, 156, 331, 332, 333, 5, 334, 160, 161, 162, 190, 191, 192, 193, 194, 195, 196, 197, 49, 50, 51, 52, 53, 54, 56, 216, 217, 218, 219, 220, 221, 222, 223, 224, 225, 226, 227, 228, 580, 581, 582, 583, 584, 585, 586, 587, 588, 589, 590, 591, 592, 593] (by decide +kernel) (by decide +kernel)
set_option maxRecDepth 20000 in
theorem gL_law_X3_group : GoodIn wsL_law (wsV RL 136 RX3 yX3_group wsX3_group) := goodIn_app (goodIn_of _ (by decide +kernel)) ggL_law_X3_group
set_option maxRecDepth 20000 in
theorem ggL_law_L_whole : GoodIn wsL_law wsL_whole := goodIn_ca (goodIn_ca (goodIn_r _ [383, 65, 67, 384, 385, 386, 2, 387, 25, 72, 73, 74, 75, 76, 77, 15, 100, 101, 102, 103, 94, 95, 16, 14, 21, 22, 37, 38, 39, 12, 13, 6, 40, 41, 29, 42, 43, 44, 369, 370, 371, 372, 373, 374, 375, 376, 574, 575, 576, 577, 578, 579, 601, 602, 603, 604, 605] (by decide +kernel) (by decide +kernel)) (goodIn_sub (fun _ h => List.mem_append_left _ (List.mem_append_left _ (List.mem_append_left _ (List.mem_append_right _ h)))) (by decide +kernel))) (goodIn_sub (fun _ h => List.mem_append_left _ (List.mem_append_right _ h)) (by decide +kernel))
set_option maxRecDepth 20000 in
theorem gL_law_L_whole : GoodIn wsL_law (va_wsS RL 137 yL_whole wsL_whole) := goodIn_app (goodIn_of _ (by decide +kernel)) ggL_law_L_whole
set_option maxRecDepth 20000 in
theorem ggL_law_X3_whole : GoodIn wsL_law wsX3_whole := goodIn_r _ [391, 178, 156, 167, 168, 169, 5, 170, 160, 161, 162, 343, 344, 345, 346, 49, 50, 51, 52, 225, 226, 227, 228, 53, 54, 56, 580, 581, 582, 583, 584, 585, 586, 587, 588, 589, 590, 591, 592, 593] (by decide +kernel) (by decide +kernel)
set_option maxRecDepth 20000 in
theorem gL_law_X3_whole : GoodIn wsL_law (wsV RL 140 RX3 yX3_whole wsX3_whole) := goodIn_app (goodIn_of _ (by decide +kernel)) ggL_law_X3_whole
set_option maxRecDepth 20000 in
theorem ggL_law_X2_deltas : GoodIn wsL_law wsX2_deltas := goodIn_r _ [395, 25, 574, 575, 576, 577, 578, 579] (by decide +kernel) (by decide +kernel)
set_option maxRecDepth 20000 in
theorem gL_law_X2_deltas : GoodIn wsL_law (wsV RL 141 RX2 yX2_deltas wsX2_deltas) := goodIn_app (goodIn_of _ (by decide +kernel)) ggL_law_X2_deltas
set_option maxRecDepth 20000 in
theorem ggL_law_X3_deltas : GoodIn wsL_law wsX3_deltas := goodIn_r _ [399, 156, 178, 580, 581, 582, 583, 584, 585, 586, 587, 588, 589, 590, 591, 592, 593] (by decide +kernel) (by decide +kernel)
set_option maxRecDepth 20000 in
theorem gL_law_X3_deltas : GoodIn wsL_law (wsV RL 144 RX3 yX3_deltas wsX3_deltas) := goodIn_app (goodIn_of _ (by decide +kernel)) ggL_law_X3_deltas
set_option maxRecDepth 20000 in
theorem ggL_law_L_has : GoodIn wsL_law wsL_has := goodIn_ca (goodIn_r _ [402, 65, 403, 404, 405, 2, 406, 20, 108, 72, 73, 74, 75, 76, 77, 15, 78, 79, 80, 110, 111, 112, 22, 113, 41, 114, 115, 116, 19, 117, 32, 33, 30, 574, 575, 576, 577, 578, 579, 594, 595, 596, 597, 598, 599, 600, 601, 602, 603, 604, 605] (by decide +kernel) (by decide +kernel)) (goodIn_sub (fun _ h => List.mem_append_left _ (List.mem_append_left _ (List.mem_append_left _ (List.mem_append_right _ h)))) (by decide +kernel))
set_option maxRecDepth 20000 in
theorem gL_law_L_has : GoodIn wsL_law (va_wsS RL 145 yL_has wsL_has) := goodIn_app (goodIn_of _ (by decide +kernel)) ggL_law_L_has
set_option maxRecDepth 20000 in
theorem ggL_law_X3_has : GoodIn wsL_law wsX3_has := goodIn_r _ [410, 50, 57, 58, 167, 168, 169, 5, 170, 160, 161, 162, 171, 172, 173, 157, 158, 159, 335, 336, 337, 338, 156, 202, 203, 204, 183, 184, 185, 580, 581, 582, 583, 584, 585, 586, 587, 588, 589, 590, 591, 592, 593] (by decide +kernel) (by decide +kernel)
set_option maxRecDepth 20000 in
theorem gL_law_X3_has : GoodIn wsL_law (wsV RL 148 RX3 yX3_has wsX3_has) := goodIn_app (goodIn_of _ (by decide +kernel)) ggL_law_X3_has
set_option maxRecDepth 20000 in
theorem ggL_law_L_values : GoodIn wsL_law wsL_values := goodIn_ca (goodIn_r _ [413, 65, 414, 415, 416, 2, 417, 72, 73, 74, 75, 76, 77, 15, 78, 79, 80, 418, 419, 420, 421, 20, 108, 109, 110, 111, 112, 22, 113, 41, 114, 115, 116, 19, 117, 32, 33, 30, 422, 423, 424, 425, 24, 574, 575, 576, 577, 578, 579, 594, 595, 596, 597, 598, 599, 600, 601, 602, 603, 604, 605] (by decide +kernel) (by decide +kernel)) (goodIn_sub (fun _ h => List.mem_append_left _ (List.mem_append_left _ (List.mem_append_left _ (List.mem_append_right _ h)))) (by decide +kernel))
set_option maxRecDepth 20000 in
theorem gL_law_L_values : GoodIn wsL_law (va_wsS RL 149 yL_values wsL_values) := goodIn_app (goodIn_of _ (by decide +kernel)) ggL_law_L_values
set_option maxRecDepth 20000 in
theorem ggL_law_X3_values : GoodIn wsL_law wsX3_values := goodIn_r _ [429, 430, 167, 168, 169, 5, 170, 160, 161, 162, 171, 172, 173, 335, 336, 337, 338, 156, 431, 432, 433, 434, 50, 57, 59, 202, 203, 204, 183, 184, 185, 435, 436, 437, 438, 60, 580, 581, 582, 583, 584, 585, 586, 587, 588, 589, 590, 591, 592, 593] (by decide +kernel) (by decide +kernel)
set_option maxRecDepth 20000 in
theorem gL_law_X3_values : GoodIn wsL_law (wsV RL 151 RX3 yX3_values wsX3_values) := goodIn_app (goodIn_of _ (by decide +kernel)) ggL_law_X3_values
set_option maxRecDepth 20000 in
theorem ggL_law_L_value : GoodIn wsL_law wsL_value := goodIn_ca (goodIn_r _ [441, 65, 442, 443, 444, 2, 445, 24, 72, 73, 74, 75, 76, 77, 15, 78, 79, 80, 418, 419, 420, 421, 20, 108, 109, 110, 111, 112, 22, 113, 41, 114, 115, 116, 19, 117, 32, 33, 30, 422, 423, 424, 425, 574, 575, 576, 577, 578, 579, 594, 595, 596, 597, 598, 599, 600, 601, 602, 603, 604, 605] (by decide +kernel) (by decide +kernel)) (goodIn_sub (fun _ h => List.mem_append_left _ (List.mem_append_left _ (List.mem_append_left _ (List.mem_append_right _ h)))) (by decide +kernel))
set_option maxRecDepth 20000 in
theorem gL_law_L_value : GoodIn wsL_law (va_wsS RL 152 yL_value wsL_value) := goodIn_app (goodIn_of _ (by decide +kernel)) ggL_law_L_value
set_option maxRecDepth 20000 in
theorem ggL_law_X3_value : GoodIn wsL_law wsX3_value := goodIn_r _ [449, 430, 60, 167, 168, 169, 5, 170, 160, 161, 162, 171, 172, 173, 335, 336, 337, 338, 156, 431, 432, 433, 434, 50, 57, 59, 202, 203, 204, 183, 184, 185, 435, 436, 437, 438, 580, 581, 582, 583, 584, 585, 586, 587, 588, 589, 590, 591, 592, 593] (by decide +kernel) (by decide +kernel)
set_option maxRecDepth 20000 in
theorem gL_law_X3_value : GoodIn wsL_law (wsV RL 154 RX3 yX3_value wsX3_value) := goodIn_app (goodIn_of _ (by decide +kernel)) ggL_law_X3_value
set_option maxRecDepth 20000 in
theorem ggL_law_L_sum : GoodIn wsL_law wsL_sum := goodIn_ca (goodIn_r _ [452, 65, 453, 454, 455, 2, 456, 20, 108, 109, 72, 73, 74, 75, 76, 77, 15, 78, 79, 80, 110, 111, 112, 22, 113, 41, 114, 115, 116, 19, 117, 32, 33, 30, 574, 575, 576, 577, 578, 579, 594, 595, 596, 597, 598, 599, 600, 601, 602, 603, 604, 605] (by decide +kernel) (by decide +kernel)) (goodIn_sub (fun _ h => List.mem_append_left _ (List.mem_append_left _ (List.mem_append_left _ (List.mem_append_right _ h)))) (by decide +kernel))
set_option maxRecDepth 20000 in
theorem gL_law_L_sum : GoodIn wsL_law (va_wsS RL 155 yL_sum wsL_sum) := goodIn_app (goodIn_of _ (by decide +kernel)) ggL_law_L_sum
set_option maxRecDepth 20000 in
theorem ggL_law_X3_sum : GoodIn wsL_law wsX3_sum := goodIn_r _ [460, 50, 57, 59, 167, 168, 169, 5, 170, 160, 161, 162, 171, 172, 173, 335, 336, 337, 338, 156, 202, 203, 204, 183, 184, 185, 580, 581, 582, 583, 584, 585, 586, 587, 588, 589, 590, 591, 592, 593] (by decide +kernel) (by decide +kernel)
set_option maxRecDepth 20000 in
theorem gL_law_X3_sum : GoodIn wsL_law (wsV RL 157 RX3 yX3_sum wsX3_sum) := goodIn_app (goodIn_of _ (by decide +kernel)) ggL_law_X3_sum
set_option maxRecDepth 20000 in
theorem ggL_law_L_keys : GoodIn wsL_law wsL_keys := goodIn_ca (goodIn_r _ [463, 65, 464, 465, 466, 2, 467, 20, 108, 468, 72, 73, 74, 75, 76, 77, 15, 110, 111, 112, 22, 113, 41, 574, 575, 576, 577, 578, 579, 594, 595, 596, 597, 598, 599, 600, 601, 602, 603, 604, 605] (by decide +kernel) (by decide +kernel)) (goodIn_sub (fun _ h => List.mem_append_left _ (List.mem_append_left _ (List.mem_append_left _ (List.mem_append_right _ h)))) (by decide +kernel))
set_option maxRecDepth 20000 in
theorem gL_law_L_keys : GoodIn wsL_law (va_wsS RL 158 yL_keys wsL_keys) := goodIn_app (goodIn_of _ (by decide +kernel)) ggL_law_L_keys
set_option maxRecDepth 20000 in
theorem ggL_law_X3_keys : GoodIn wsL_law wsX3_keys := goodIn_r _ [472, 50, 57, 167, 168, 169, 5, 170, 160, 161, 162, 335, 336, 337, 338, 156, 183, 184, 185, 202, 203, 204, 580, 581, 582, 583, 584, 585, 586, 587, 588, 589, 590, 591, 592, 593] (by decide +kernel) (by decide +kernel)
set_option maxRecDepth 20000 in
theorem gL_law_X3_keys : GoodIn wsL_law (wsV RL 160 RX3 yX3_keys wsX3_keys) := goodIn_app (goodIn_of _ (by decide +kernel)) ggL_law_X3_keys
set_option maxRecDepth 20000 in
theorem ggL_law_L_inTwice : GoodIn wsL_law wsL_inTwice := goodIn_ca (goodIn_r _ [475, 65, 476, 477, 478, 2, 479, 284, 285, 72, 73, 74, 75, 76, 77, 15, 78, 79, 80, 601, 602, 603, 604, 605, 574, 575, 576, 577, 578, 579] (by decide +kernel) (by decide +kernel)) (goodIn_sub (fun _ h => List.mem_append_left _ (List.mem_append_left _ (List.mem_append_left _ (List.mem_append_right _ h)))) (by decide +kernel))
set_option maxRecDepth 20000 in
theorem gL_law_L_inTwice : GoodIn wsL_law (va_wsS RL 161 yL_inTwice wsL_inTwice) := goodIn_app (goodIn_of _ (by decide +kernel)) ggL_law_L_inTwice
set_option maxRecDepth 20000 in
theorem ggL_law_X3_inTwice : GoodIn wsL_law wsX3_inTwice := goodIn_r _ [483, 51, 52, 167, 168, 169, 5, 170, 160, 161, 162, 157, 158, 159, 335, 336, 337, 338, 156, 580, 581, 582, 583, 584, 585, 586, 587, 588, 589, 590, 591, 592, 593] (by decide +kernel) (by decide +kernel)
set_option maxRecDepth 20000 in
theorem gL_law_X3_inTwice : GoodIn wsL_law (wsV RL 163 RX3 yX3_inTwice wsX3_inTwice) := goodIn_app (goodIn_of _ (by decide +kernel)) ggL_law_X3_inTwice
set_option maxRecDepth 20000 in
theorem ggL_law_L_inTimed : GoodIn wsL_law wsL_inTimed := goodIn_ca (goodIn_r _ [486, 65, 487, 488, 489, 2, 490, 298, 72, 73, 74, 75, 76, 77, 15, 78, 79, 80, 491, 492, 493, 308, 309, 310, 494, 495, 496, 497, 498, 499, 601, 602, 603, 604, 605, 574, 575, 576, 577, 578, 579] (by decide +kernel) (by decide +kernel)) (goodIn_sub (fun _ h => List.mem_append_left _ (List.mem_append_left _ (List.mem_append_left _ (List.mem_append_right _ h)))) (by decide +kernel))
set_option maxRecDepth 20000 in
theorem gL_law_L_inTimed : GoodIn wsL_law (va_wsS RL 164 yL_inTimed wsL_inTimed) := goodIn_app (goodIn_of _ (by decide +kernel)) ggL_law_L_inTimed
set_option maxRecDepth 20000 in
theorem ggL_law_X3_inTimed : GoodIn wsL_law wsX3_inTimed := goodIn_r _ [503, 56, 53, 54, 167, 168, 169, 5, 170, 160, 161, 162, 157, 158, 159, 335, 336, 337, 338, 156, 580, 581, 582, 583, 584, 585, 586, 587, 588, 589, 590, 591, 592, 593] (by decide +kernel) (by decide +kernel)
set_option maxRecDepth 20000 in
theorem gL_law_X3_inTimed : GoodIn wsL_law (wsV RL 166 RX3 yX3_inTimed wsX3_inTimed) := goodIn_app (goodIn_of _ (by decide +kernel)) ggL_law_X3_inTimed
set_option maxRecDepth 20000 in
theorem ggL_law_L_seen : GoodIn wsL_law wsL_seen := goodIn_ca (goodIn_r _ [506, 65, 507, 508, 509, 2, 510, 20, 108, 511, 512, 72, 73, 74, 75, 76, 77, 15, 78, 79, 80, 513, 514, 515, 22, 516, 40, 574, 575, 576, 577, 578, 579, 594, 595, 596, 597, 598, 599, 600, 601, 602, 603, 604, 605] (by decide +kernel) (by decide +kernel)) (goodIn_sub (fun _ h => List.mem_append_left _ (List.mem_append_left _ (List.mem_append_left _ (List.mem_append_right _ h)))) (by decide +kernel))
set_option maxRecDepth 20000 in
theorem gL_law_L_seen : GoodIn wsL_law (va_wsS RL 167 yL_seen wsL_seen) := goodIn_app (goodIn_of _ (by decide +kernel)) ggL_law_L_seen
set_option maxRecDepth 20000 in
theorem ggL_law_X3_seen : GoodIn wsL_law wsX3_seen := goodIn_r _ [520, 49, 167, 168, 169, 5, 170, 160, 161, 162, 335, 336, 337, 338, 156, 179, 180, 181, 182, 183, 184, 185, 521, 522, 523, 524, 580, 581, 582, 583, 584, 585, 586, 587, 588, 589, 590, 591, 592, 593] (by decide +kernel) (by decide +kernel)
set_option maxRecDepth 20000 in
theorem gL_law_X3_seen : GoodIn wsL_law (wsV RL 169 RX3 yX3_seen wsX3_seen) := goodIn_app (goodIn_of _ (by decide +kernel)) ggL_law_X3_seen
set_option maxRecDepth 20000 in
theorem ggL_law_L_size : GoodIn wsL_law wsL_size := goodIn_ca (goodIn_r _ [527, 65, 528, 529, 530, 2, 531, 532, 533, 323, 324, 325, 326, 76, 77, 16, 72, 73, 74, 75, 15, 78, 79, 80, 534, 535, 536, 537, 538, 539, 540, 541, 542, 543, 601, 602, 603, 604, 605, 574, 575, 576, 577, 578, 579] (by decide +kernel) (by decide +kernel)) (goodIn_sub (fun _ h => List.mem_append_left _ (List.mem_append_left _ (List.mem_append_left _ (List.mem_append_right _ h)))) (by decide +kernel))
set_option maxRecDepth 20000 in
theorem gL_law_L_size : GoodIn wsL_law (va_wsS RL 170 yL_size wsL_size) := goodIn_app (goodIn_of _ (by decide +kernel)) ggL_law_L_size
set_option maxRecDepth 20000 in
theorem ggL_law_X3_size : GoodIn wsL_law wsX3_size := goodIn_r _ [547, 50, 49, 167, 168, 169, 5, 170, 160, 161, 162, 331, 332, 333, 334, 178, 335, 336, 337, 338, 156, 521, 522, 523, 524, 183, 184, 185, 580, 581, 582, 583, 584, 585, 586, 587, 588, 589, 590, 591, 592, 593] (by decide +kernel) (by decide +kernel)
set_option maxRecDepth 20000 in
theorem gL_law_X3_size : GoodIn wsL_law (wsV RL 172 RX3 yX3_size wsX3_size) := goodIn_app (goodIn_of _ (by decide +kernel)) ggL_law_X3_size
set_option maxRecDepth 20000 in
theorem ggL_law_L_same : GoodIn wsL_law wsL_same := goodIn_ca (goodIn_r _ [550, 65, 551, 552, 553, 2, 554, 72, 73, 74, 75, 76, 77, 15, 555, 556, 557, 22, 558, 43, 44, 40, 41, 42, 308, 309, 310, 574, 575, 576, 577, 578, 579, 601, 602, 603, 604, 605] (by decide +kernel) (by decide +kernel)) (goodIn_sub (fun _ h => List.mem_append_left _ (List.mem_append_left _ (List.mem_append_left _ (List.mem_append_right _ h)))) (by decide +kernel))
set_option maxRecDepth 20000 in
theorem gL_law_L_same : GoodIn wsL_law (va_wsS RL 173 yL_same wsL_same) := goodIn_app (goodIn_of _ (by decide +kernel)) ggL_law_L_same
set_option maxRecDepth 20000 in
theorem ggL_law_X3_same : GoodIn wsL_law wsX3_same := goodIn_r _ [562, 167, 168, 169, 5, 170, 160, 161, 162, 335, 336, 337, 338, 156, 347, 348, 349, 350, 51, 52, 49, 50, 53, 54, 56, 580, 581, 582, 583, 584, 585, 586, 587, 588, 589, 590, 591, 592, 593] (by decide +kernel) (by decide +kernel)
set_option maxRecDepth 20000 in
theorem gL_law_X3_same : GoodIn wsL_law (wsV RL 175 RX3 yX3_same wsX3_same) := goodIn_app (goodIn_of _ (by decide +kernel)) ggL_law_X3_same
set_option maxRecDepth 20000 in
theorem ggL_law_L_below : GoodIn wsL_law wsL_below := goodIn_ca (goodIn_r _ [565, 65, 566, 567, 568, 2, 569, 23, 72, 73, 74, 75, 76, 77, 15, 369, 370, 371, 22, 372, 40, 373, 374, 375, 376, 41, 42, 43, 44, 135, 136, 137, 138, 139, 140, 141, 142, 143, 144, 145, 146, 147, 148, 149, 150, 151, 308, 309, 310, 574, 575, 576, 577, 578, 579, 601, 602, 603, 604, 605] (by decide +kernel) (by decide +kernel)) (goodIn_sub (fun _ h => List.mem_append_left _ (List.mem_append_left _ (List.mem_append_left _ (List.mem_append_right _ h)))) (by decide +kernel))
set_option maxRecDepth 20000 in
theorem gL_law_L_below : GoodIn wsL_law (va_wsS RL 176 yL_below wsL_below) := goodIn_app (goodIn_of _ (by decide +kernel)) ggL_law_L_below
set_option maxRecDepth 20000 in
theorem ggL_law_X3_below : GoodIn wsL_law wsX3_below := goodIn_r _ [573, 167, 168, 169, 5, 170, 160, 161, 162, 335, 336, 337, 338, 156, 343, 344, 345, 346, 49, 50, 51, 52, 225, 226, 227, 228, 53, 54, 56, 216, 217, 218, 219, 220, 221, 222, 223, 224, 347, 348, 349, 350, 580, 581, 582, 583, 584, 585, 586, 587, 588, 589, 590, 591, 592, 593] (by decide +kernel) (by decide +kernel)
set_option maxRecDepth 20000 in
theorem gL_law_X3_below : GoodIn wsL_law (wsV RL 178 RX3 yX3_below wsX3_below) := goodIn_app (goodIn_of _ (by decide +kernel)) ggL_law_X3_below
theorem dL_law_0 : decode cL_law 0 = .ok (.new 8, 3) := by decide +kernel
theorem dL_law_3 : decode cL_law 3 = .ok (.dup, 1) := by decide +kernel
theorem dL_law_4 : decode cL_law 4 = .ok (.invokespecial 91, 3) := by decide +kernel
theorem dL_law_7 : decode cL_law 7 = .ok (.astore_n 1, 1) := by decide +kernel
theorem dL_law_8 : decode cL_law 8 = .ok (.new 92, 3) := by decide +kernel
theorem dL_law_11 : decode cL_law 11 = .ok (.dup, 1) := by decide +kernel
theorem dL_law_12 : decode cL_law 12 = .ok (.invokespecial 94, 3) := by decide +kernel
theorem dL_law_15 : decode cL_law 15 = .ok (.astore_n 2, 1) := by decide +kernel
theorem dL_law_16 : decode cL_law 16 = .ok (.iconst 1, 1) := by decide +kernel
theorem dL_law_17 : decode cL_law 17 = .ok (.newarray .long, 2) := by decide +kernel
theorem dL_law_19 : decode cL_law 19 = .ok (.astore_n 3, 1) := by decide +kernel
theorem dL_law_20 : decode cL_law 20 = .ok (.iconst 0, 1) := by decide +kernel
theorem dL_law_21 : decode cL_law 21 = .ok (.istore 4, 2) := by decide +kernel
theorem dL_law_23 : decode cL_law 23 = .ok (.iload 4, 2) := by decide +kernel
theorem dL_law_25 : decode cL_law 25 = .ok (.aload_n 0, 1) := by decide +kernel
theorem dL_law_26 : decode cL_law 26 = .ok (.arraylength, 1) := by decide +kernel
theorem dL_law_27 : decode cL_law 27 = .ok (.iconst 5, 1) := by decide +kernel
theorem dL_law_28 : decode cL_law 28 = .ok (.isub, 1) := by decide +kernel
theorem dL_law_29 : decode cL_law 29 = .ok (.if_icmp .gt 1888, 3) := by decide +kernel
theorem dL_law_32 : decode cL_law 32 = .ok (.aload_n 0, 1) := by decide +kernel
theorem dL_law_33 : decode cL_law 33 = .ok (.iload 4, 2) := by decide +kernel
theorem dL_law_35 : decode cL_law 35 = .ok (.iaload, 1) := by decide +kernel
theorem dL_law_36 : decode cL_law 36 = .ok (.bipush 31, 2) := by decide +kernel
theorem dL_law_38 : decode cL_law 38 = .ok (.iand, 1) := by decide +kernel
theorem dL_law_39 : decode cL_law 39 = .ok (.tableswitch 1872 0 22 #[105, 213, 325, 437, 545, 613, 709, 817, 885, 953, 1021, 1077, 1090, 1170, 1238, 1317, 1384, 1440, 1508, 1588, 1668, 1736, 1804], 105) := by decide +kernel
theorem dL_law_144 : decode cL_law 144 = .ok (.aload_n 1, 1) := by decide +kernel
theorem dL_law_145 : decode cL_law 145 = .ok (.aload_n 0, 1) := by decide +kernel
theorem dL_law_146 : decode cL_law 146 = .ok (.iload 4, 2) := by decide +kernel
theorem dL_law_148 : decode cL_law 148 = .ok (.iconst 1, 1) := by decide +kernel
theorem dL_law_149 : decode cL_law 149 = .ok (.iadd, 1) := by decide +kernel
theorem dL_law_150 : decode cL_law 150 = .ok (.iaload, 1) := by decide +kernel
theorem dL_law_151 : decode cL_law 151 = .ok (.aload_n 0, 1) := by decide +kernel
theorem dL_law_152 : decode cL_law 152 = .ok (.iload 4, 2) := by decide +kernel
theorem dL_law_154 : decode cL_law 154 = .ok (.iconst 2, 1) := by decide +kernel
theorem dL_law_155 : decode cL_law 155 = .ok (.iadd, 1) := by decide +kernel
theorem dL_law_156 : decode cL_law 156 = .ok (.iaload, 1) := by decide +kernel
theorem dL_law_157 : decode cL_law 157 = .ok (.aload_n 0, 1) := by decide +kernel
theorem dL_law_158 : decode cL_law 158 = .ok (.iload 4, 2) := by decide +kernel
theorem dL_law_160 : decode cL_law 160 = .ok (.iconst 3, 1) := by decide +kernel
theorem dL_law_161 : decode cL_law 161 = .ok (.iadd, 1) := by decide +kernel
theorem dL_law_162 : decode cL_law 162 = .ok (.iaload, 1) := by decide +kernel
theorem dL_law_163 : decode cL_law 163 = .ok (.aload_n 0, 1) := by decide +kernel
theorem dL_law_164 : decode cL_law 164 = .ok (.iload 4, 2) := by decide +kernel
theorem dL_law_166 : decode cL_law 166 = .ok (.iconst 4, 1) := by decide +kernel
theorem dL_law_167 : decode cL_law 167 = .ok (.iadd, 1) := by decide +kernel
theorem dL_law_168 : decode cL_law 168 = .ok (.iaload, 1) := by decide +kernel
theorem dL_law_169 : decode cL_law 169 = .ok (.ifCond .eq 7, 3) := by decide +kernel
theorem dL_law_172 : decode cL_law 172 = .ok (.iconst 1, 1) := by decide +kernel
theorem dL_law_173 : decode cL_law 173 = .ok (.goto 4, 3) := by decide +kernel
theorem dL_law_176 : decode cL_law 176 = .ok (.iconst 0, 1) := by decide +kernel
theorem dL_law_177 : decode cL_law 177 = .ok (.aload_n 3, 1) := by decide +kernel
theorem dL_law_178 : decode cL_law 178 = .ok (.invokestatic 95, 3) := by decide +kernel
theorem dL_law_181 : decode cL_law 181 = .ok (.istore 5, 2) := by decide +kernel
theorem dL_law_183 : decode cL_law 183 = .ok (.aload_n 2, 1) := by decide +kernel
theorem dL_law_184 : decode cL_law 184 = .ok (.aload_n 0, 1) := by decide +kernel
theorem dL_law_185 : decode cL_law 185 = .ok (.iload 4, 2) := by decide +kernel
theorem dL_law_187 : decode cL_law 187 = .ok (.iconst 1, 1) := by decide +kernel
theorem dL_law_188 : decode cL_law 188 = .ok (.iadd, 1) := by decide +kernel
theorem dL_law_189 : decode cL_law 189 = .ok (.iaload, 1) := by decide +kernel
theorem dL_law_190 : decode cL_law 190 = .ok (.aload_n 0, 1) := by decide +kernel
theorem dL_law_191 : decode cL_law 191 = .ok (.iload 4, 2) := by decide +kernel
theorem dL_law_193 : decode cL_law 193 = .ok (.iconst 2, 1) := by decide +kernel
theorem dL_law_194 : decode cL_law 194 = .ok (.iadd, 1) := by decide +kernel
theorem dL_law_195 : decode cL_law 195 = .ok (.iaload, 1) := by decide +kernel
theorem dL_law_196 : decode cL_law 196 = .ok (.aload_n 0, 1) := by decide +kernel
theorem dL_law_197 : decode cL_law 197 = .ok (.iload 4, 2) := by decide +kernel
theorem dL_law_199 : decode cL_law 199 = .ok (.iconst 3, 1) := by decide +kernel
theorem dL_law_200 : decode cL_law 200 = .ok (.iadd, 1) := by decide +kernel
theorem dL_law_201 : decode cL_law 201 = .ok (.iaload, 1) := by decide +kernel
theorem dL_law_202 : decode cL_law 202 = .ok (.aload_n 0, 1) := by decide +kernel
theorem dL_law_203 : decode cL_law 203 = .ok (.iload 4, 2) := by decide +kernel
theorem dL_law_205 : decode cL_law 205 = .ok (.iconst 4, 1) := by decide +kernel
theorem dL_law_206 : decode cL_law 206 = .ok (.iadd, 1) := by decide +kernel
theorem dL_law_207 : decode cL_law 207 = .ok (.iaload, 1) := by decide +kernel
theorem dL_law_208 : decode cL_law 208 = .ok (.ifCond .eq 7, 3) := by decide +kernel
theorem dL_law_211 : decode cL_law 211 = .ok (.iconst 1, 1) := by decide +kernel
theorem dL_law_212 : decode cL_law 212 = .ok (.goto 4, 3) := by decide +kernel
theorem dL_law_215 : decode cL_law 215 = .ok (.iconst 0, 1) := by decide +kernel
theorem dL_law_216 : decode cL_law 216 = .ok (.invokevirtual 100, 3) := by decide +kernel
theorem dL_law_219 : decode cL_law 219 = .ok (.istore 6, 2) := by decide +kernel
theorem dL_law_221 : decode cL_law 221 = .ok (.aload_n 2, 1) := by decide +kernel
theorem dL_law_222 : decode cL_law 222 = .ok (.invokevirtual 101, 3) := by decide +kernel
theorem dL_law_225 : decode cL_law 225 = .ok (.iload 5, 2) := by decide +kernel
theorem dL_law_227 : decode cL_law 227 = .ok (.if_icmp .eq 5, 3) := by decide +kernel
theorem dL_law_230 : decode cL_law 230 = .ok (.iconst 0, 1) := by decide +kernel
theorem dL_law_231 : decode cL_law 231 = .ok (.ireturn, 1) := by decide +kernel
theorem dL_law_232 : decode cL_law 232 = .ok (.iload 5, 2) := by decide +kernel
theorem dL_law_234 : decode cL_law 234 = .ok (.ifCond .ne 15, 3) := by decide +kernel
theorem dL_law_237 : decode cL_law 237 = .ok (.aload_n 3, 1) := by decide +kernel
theorem dL_law_238 : decode cL_law 238 = .ok (.iconst 0, 1) := by decide +kernel
theorem dL_law_239 : decode cL_law 239 = .ok (.laload, 1) := by decide +kernel
theorem dL_law_240 : decode cL_law 240 = .ok (.iload 6, 2) := by decide +kernel
theorem dL_law_242 : decode cL_law 242 = .ok (.i2l, 1) := by decide +kernel
theorem dL_law_243 : decode cL_law 243 = .ok (.lcmp, 1) := by decide +kernel
theorem dL_law_244 : decode cL_law 244 = .ok (.ifCond .eq 5, 3) := by decide +kernel
theorem dL_law_247 : decode cL_law 247 = .ok (.iconst 0, 1) := by decide +kernel
theorem dL_law_248 : decode cL_law 248 = .ok (.ireturn, 1) := by decide +kernel
theorem dL_law_249 : decode cL_law 249 = .ok (.goto 1662, 3) := by decide +kernel
theorem dL_law_252 : decode cL_law 252 = .ok (.aload_n 1, 1) := by decide +kernel
theorem dL_law_253 : decode cL_law 253 = .ok (.aload_n 0, 1) := by decide +kernel
theorem dL_law_254 : decode cL_law 254 = .ok (.iload 4, 2) := by decide +kernel
theorem dL_law_256 : decode cL_law 256 = .ok (.iconst 1, 1) := by decide +kernel
theorem dL_law_257 : decode cL_law 257 = .ok (.iadd, 1) := by decide +kernel
theorem dL_law_258 : decode cL_law 258 = .ok (.iaload, 1) := by decide +kernel
theorem dL_law_259 : decode cL_law 259 = .ok (.aload_n 0, 1) := by decide +kernel
theorem dL_law_260 : decode cL_law 260 = .ok (.iload 4, 2) := by decide +kernel
theorem dL_law_262 : decode cL_law 262 = .ok (.iconst 2, 1) := by decide +kernel
theorem dL_law_263 : decode cL_law 263 = .ok (.iadd, 1) := by decide +kernel
theorem dL_law_264 : decode cL_law 264 = .ok (.iaload, 1) := by decide +kernel
theorem dL_law_265 : decode cL_law 265 = .ok (.aload_n 0, 1) := by decide +kernel
theorem dL_law_266 : decode cL_law 266 = .ok (.iload 4, 2) := by decide +kernel
theorem dL_law_268 : decode cL_law 268 = .ok (.iconst 3, 1) := by decide +kernel
theorem dL_law_269 : decode cL_law 269 = .ok (.iadd, 1) := by decide +kernel
theorem dL_law_270 : decode cL_law 270 = .ok (.iaload, 1) := by decide +kernel
theorem dL_law_271 : decode cL_law 271 = .ok (.i2l, 1) := by decide +kernel
theorem dL_law_272 : decode cL_law 272 = .ok (.bipush 32, 2) := by decide +kernel
theorem dL_law_274 : decode cL_law 274 = .ok (.lshl, 1) := by decide +kernel
theorem dL_law_275 : decode cL_law 275 = .ok (.aload_n 0, 1) := by decide +kernel
theorem dL_law_276 : decode cL_law 276 = .ok (.iload 4, 2) := by decide +kernel
theorem dL_law_278 : decode cL_law 278 = .ok (.iconst 4, 1) := by decide +kernel
theorem dL_law_279 : decode cL_law 279 = .ok (.iadd, 1) := by decide +kernel
theorem dL_law_280 : decode cL_law 280 = .ok (.iaload, 1) := by decide +kernel
theorem dL_law_281 : decode cL_law 281 = .ok (.i2l, 1) := by decide +kernel
theorem dL_law_282 : decode cL_law 282 = .ok (.ldc2_w 105, 3) := by decide +kernel
theorem dL_law_285 : decode cL_law 285 = .ok (.land, 1) := by decide +kernel
theorem dL_law_286 : decode cL_law 286 = .ok (.lor, 1) := by decide +kernel
theorem dL_law_287 : decode cL_law 287 = .ok (.aload_n 3, 1) := by decide +kernel
theorem dL_law_288 : decode cL_law 288 = .ok (.invokestatic 107, 3) := by decide +kernel
theorem dL_law_291 : decode cL_law 291 = .ok (.istore 5, 2) := by decide +kernel
theorem dL_law_293 : decode cL_law 293 = .ok (.aload_n 2, 1) := by decide +kernel
theorem dL_law_294 : decode cL_law 294 = .ok (.aload_n 0, 1) := by decide +kernel
theorem dL_law_295 : decode cL_law 295 = .ok (.iload 4, 2) := by decide +kernel
theorem dL_law_297 : decode cL_law 297 = .ok (.iconst 1, 1) := by decide +kernel
theorem dL_law_298 : decode cL_law 298 = .ok (.iadd, 1) := by decide +kernel
theorem dL_law_299 : decode cL_law 299 = .ok (.iaload, 1) := by decide +kernel
theorem dL_law_300 : decode cL_law 300 = .ok (.aload_n 0, 1) := by decide +kernel
theorem dL_law_301 : decode cL_law 301 = .ok (.iload 4, 2) := by decide +kernel
theorem dL_law_303 : decode cL_law 303 = .ok (.iconst 2, 1) := by decide +kernel
theorem dL_law_304 : decode cL_law 304 = .ok (.iadd, 1) := by decide +kernel
theorem dL_law_305 : decode cL_law 305 = .ok (.iaload, 1) := by decide +kernel
theorem dL_law_306 : decode cL_law 306 = .ok (.aload_n 0, 1) := by decide +kernel
theorem dL_law_307 : decode cL_law 307 = .ok (.iload 4, 2) := by decide +kernel
theorem dL_law_309 : decode cL_law 309 = .ok (.iconst 3, 1) := by decide +kernel
theorem dL_law_310 : decode cL_law 310 = .ok (.iadd, 1) := by decide +kernel
theorem dL_law_311 : decode cL_law 311 = .ok (.iaload, 1) := by decide +kernel
theorem dL_law_312 : decode cL_law 312 = .ok (.i2l, 1) := by decide +kernel
theorem dL_law_313 : decode cL_law 313 = .ok (.bipush 32, 2) := by decide +kernel
theorem dL_law_315 : decode cL_law 315 = .ok (.lshl, 1) := by decide +kernel
theorem dL_law_316 : decode cL_law 316 = .ok (.aload_n 0, 1) := by decide +kernel
theorem dL_law_317 : decode cL_law 317 = .ok (.iload 4, 2) := by decide +kernel
theorem dL_law_319 : decode cL_law 319 = .ok (.iconst 4, 1) := by decide +kernel
theorem dL_law_320 : decode cL_law 320 = .ok (.iadd, 1) := by decide +kernel
theorem dL_law_321 : decode cL_law 321 = .ok (.iaload, 1) := by decide +kernel
theorem dL_law_322 : decode cL_law 322 = .ok (.i2l, 1) := by decide +kernel
theorem dL_law_323 : decode cL_law 323 = .ok (.ldc2_w 105, 3) := by decide +kernel
theorem dL_law_326 : decode cL_law 326 = .ok (.land, 1) := by decide +kernel
theorem dL_law_327 : decode cL_law 327 = .ok (.lor, 1) := by decide +kernel
theorem dL_law_328 : decode cL_law 328 = .ok (.invokevirtual 110, 3) := by decide +kernel
theorem dL_law_331 : decode cL_law 331 = .ok (.istore 6, 2) := by decide +kernel
theorem dL_law_333 : decode cL_law 333 = .ok (.aload_n 2, 1) := by decide +kernel
theorem dL_law_334 : decode cL_law 334 = .ok (.invokevirtual 101, 3) := by decide +kernel
theorem dL_law_337 : decode cL_law 337 = .ok (.iload 5, 2) := by decide +kernel
theorem dL_law_339 : decode cL_law 339 = .ok (.if_icmp .eq 5, 3) := by decide +kernel
theorem dL_law_342 : decode cL_law 342 = .ok (.iconst 0, 1) := by decide +kernel
theorem dL_law_343 : decode cL_law 343 = .ok (.ireturn, 1) := by decide +kernel
theorem dL_law_344 : decode cL_law 344 = .ok (.iload 5, 2) := by decide +kernel
theorem dL_law_346 : decode cL_law 346 = .ok (.ifCond .ne 15, 3) := by decide +kernel
theorem dL_law_349 : decode cL_law 349 = .ok (.aload_n 3, 1) := by decide +kernel
theorem dL_law_350 : decode cL_law 350 = .ok (.iconst 0, 1) := by decide +kernel
theorem dL_law_351 : decode cL_law 351 = .ok (.laload, 1) := by decide +kernel
theorem dL_law_352 : decode cL_law 352 = .ok (.iload 6, 2) := by decide +kernel
theorem dL_law_354 : decode cL_law 354 = .ok (.i2l, 1) := by decide +kernel
theorem dL_law_355 : decode cL_law 355 = .ok (.lcmp, 1) := by decide +kernel
theorem dL_law_356 : decode cL_law 356 = .ok (.ifCond .eq 5, 3) := by decide +kernel
theorem dL_law_359 : decode cL_law 359 = .ok (.iconst 0, 1) := by decide +kernel
theorem dL_law_360 : decode cL_law 360 = .ok (.ireturn, 1) := by decide +kernel
theorem dL_law_361 : decode cL_law 361 = .ok (.goto 1550, 3) := by decide +kernel
theorem dL_law_364 : decode cL_law 364 = .ok (.aload_n 1, 1) := by decide +kernel
theorem dL_law_365 : decode cL_law 365 = .ok (.aload_n 0, 1) := by decide +kernel
theorem dL_law_366 : decode cL_law 366 = .ok (.iload 4, 2) := by decide +kernel
theorem dL_law_368 : decode cL_law 368 = .ok (.iconst 1, 1) := by decide +kernel
theorem dL_law_369 : decode cL_law 369 = .ok (.iadd, 1) := by decide +kernel
theorem dL_law_370 : decode cL_law 370 = .ok (.iaload, 1) := by decide +kernel
theorem dL_law_371 : decode cL_law 371 = .ok (.aload_n 0, 1) := by decide +kernel
theorem dL_law_372 : decode cL_law 372 = .ok (.iload 4, 2) := by decide +kernel
theorem dL_law_374 : decode cL_law 374 = .ok (.iconst 2, 1) := by decide +kernel
theorem dL_law_375 : decode cL_law 375 = .ok (.iadd, 1) := by decide +kernel
theorem dL_law_376 : decode cL_law 376 = .ok (.iaload, 1) := by decide +kernel
theorem dL_law_377 : decode cL_law 377 = .ok (.aload_n 0, 1) := by decide +kernel
theorem dL_law_378 : decode cL_law 378 = .ok (.iload 4, 2) := by decide +kernel
theorem dL_law_380 : decode cL_law 380 = .ok (.iconst 3, 1) := by decide +kernel
theorem dL_law_381 : decode cL_law 381 = .ok (.iadd, 1) := by decide +kernel
theorem dL_law_382 : decode cL_law 382 = .ok (.iaload, 1) := by decide +kernel
theorem dL_law_383 : decode cL_law 383 = .ok (.i2l, 1) := by decide +kernel
theorem dL_law_384 : decode cL_law 384 = .ok (.bipush 32, 2) := by decide +kernel
theorem dL_law_386 : decode cL_law 386 = .ok (.lshl, 1) := by decide +kernel
theorem dL_law_387 : decode cL_law 387 = .ok (.aload_n 0, 1) := by decide +kernel
theorem dL_law_388 : decode cL_law 388 = .ok (.iload 4, 2) := by decide +kernel
theorem dL_law_390 : decode cL_law 390 = .ok (.iconst 4, 1) := by decide +kernel
theorem dL_law_391 : decode cL_law 391 = .ok (.iadd, 1) := by decide +kernel
theorem dL_law_392 : decode cL_law 392 = .ok (.iaload, 1) := by decide +kernel
theorem dL_law_393 : decode cL_law 393 = .ok (.i2l, 1) := by decide +kernel
theorem dL_law_394 : decode cL_law 394 = .ok (.ldc2_w 105, 3) := by decide +kernel
theorem dL_law_397 : decode cL_law 397 = .ok (.land, 1) := by decide +kernel
theorem dL_law_398 : decode cL_law 398 = .ok (.lor, 1) := by decide +kernel
theorem dL_law_399 : decode cL_law 399 = .ok (.aload_n 3, 1) := by decide +kernel
theorem dL_law_400 : decode cL_law 400 = .ok (.invokestatic 111, 3) := by decide +kernel
theorem dL_law_403 : decode cL_law 403 = .ok (.istore 5, 2) := by decide +kernel
theorem dL_law_405 : decode cL_law 405 = .ok (.aload_n 2, 1) := by decide +kernel
theorem dL_law_406 : decode cL_law 406 = .ok (.aload_n 0, 1) := by decide +kernel
theorem dL_law_407 : decode cL_law 407 = .ok (.iload 4, 2) := by decide +kernel
theorem dL_law_409 : decode cL_law 409 = .ok (.iconst 1, 1) := by decide +kernel
theorem dL_law_410 : decode cL_law 410 = .ok (.iadd, 1) := by decide +kernel
theorem dL_law_411 : decode cL_law 411 = .ok (.iaload, 1) := by decide +kernel
theorem dL_law_412 : decode cL_law 412 = .ok (.aload_n 0, 1) := by decide +kernel
theorem dL_law_413 : decode cL_law 413 = .ok (.iload 4, 2) := by decide +kernel
theorem dL_law_415 : decode cL_law 415 = .ok (.iconst 2, 1) := by decide +kernel
theorem dL_law_416 : decode cL_law 416 = .ok (.iadd, 1) := by decide +kernel
theorem dL_law_417 : decode cL_law 417 = .ok (.iaload, 1) := by decide +kernel
theorem dL_law_418 : decode cL_law 418 = .ok (.aload_n 0, 1) := by decide +kernel
theorem dL_law_419 : decode cL_law 419 = .ok (.iload 4, 2) := by decide +kernel
theorem dL_law_421 : decode cL_law 421 = .ok (.iconst 3, 1) := by decide +kernel
theorem dL_law_422 : decode cL_law 422 = .ok (.iadd, 1) := by decide +kernel
theorem dL_law_423 : decode cL_law 423 = .ok (.iaload, 1) := by decide +kernel
theorem dL_law_424 : decode cL_law 424 = .ok (.i2l, 1) := by decide +kernel
theorem dL_law_425 : decode cL_law 425 = .ok (.bipush 32, 2) := by decide +kernel
theorem dL_law_427 : decode cL_law 427 = .ok (.lshl, 1) := by decide +kernel
theorem dL_law_428 : decode cL_law 428 = .ok (.aload_n 0, 1) := by decide +kernel
theorem dL_law_429 : decode cL_law 429 = .ok (.iload 4, 2) := by decide +kernel
theorem dL_law_431 : decode cL_law 431 = .ok (.iconst 4, 1) := by decide +kernel
theorem dL_law_432 : decode cL_law 432 = .ok (.iadd, 1) := by decide +kernel
theorem dL_law_433 : decode cL_law 433 = .ok (.iaload, 1) := by decide +kernel
theorem dL_law_434 : decode cL_law 434 = .ok (.i2l, 1) := by decide +kernel
theorem dL_law_435 : decode cL_law 435 = .ok (.ldc2_w 105, 3) := by decide +kernel
theorem dL_law_438 : decode cL_law 438 = .ok (.land, 1) := by decide +kernel
theorem dL_law_439 : decode cL_law 439 = .ok (.lor, 1) := by decide +kernel
theorem dL_law_440 : decode cL_law 440 = .ok (.invokevirtual 113, 3) := by decide +kernel
theorem dL_law_443 : decode cL_law 443 = .ok (.istore 6, 2) := by decide +kernel
theorem dL_law_445 : decode cL_law 445 = .ok (.aload_n 2, 1) := by decide +kernel
theorem dL_law_446 : decode cL_law 446 = .ok (.invokevirtual 101, 3) := by decide +kernel
theorem dL_law_449 : decode cL_law 449 = .ok (.iload 5, 2) := by decide +kernel
theorem dL_law_451 : decode cL_law 451 = .ok (.if_icmp .eq 5, 3) := by decide +kernel
theorem dL_law_454 : decode cL_law 454 = .ok (.iconst 0, 1) := by decide +kernel
theorem dL_law_455 : decode cL_law 455 = .ok (.ireturn, 1) := by decide +kernel
theorem dL_law_456 : decode cL_law 456 = .ok (.iload 5, 2) := by decide +kernel
theorem dL_law_458 : decode cL_law 458 = .ok (.ifCond .ne 15, 3) := by decide +kernel
theorem dL_law_461 : decode cL_law 461 = .ok (.aload_n 3, 1) := by decide +kernel
theorem dL_law_462 : decode cL_law 462 = .ok (.iconst 0, 1) := by decide +kernel
theorem dL_law_463 : decode cL_law 463 = .ok (.laload, 1) := by decide +kernel
theorem dL_law_464 : decode cL_law 464 = .ok (.iload 6, 2) := by decide +kernel
theorem dL_law_466 : decode cL_law 466 = .ok (.i2l, 1) := by decide +kernel
theorem dL_law_467 : decode cL_law 467 = .ok (.lcmp, 1) := by decide +kernel
theorem dL_law_468 : decode cL_law 468 = .ok (.ifCond .eq 5, 3) := by decide +kernel
theorem dL_law_471 : decode cL_law 471 = .ok (.iconst 0, 1) := by decide +kernel
theorem dL_law_472 : decode cL_law 472 = .ok (.ireturn, 1) := by decide +kernel
theorem dL_law_473 : decode cL_law 473 = .ok (.goto 1438, 3) := by decide +kernel
theorem dL_law_476 : decode cL_law 476 = .ok (.aload_n 1, 1) := by decide +kernel
theorem dL_law_477 : decode cL_law 477 = .ok (.aload_n 0, 1) := by decide +kernel
theorem dL_law_478 : decode cL_law 478 = .ok (.iload 4, 2) := by decide +kernel
theorem dL_law_480 : decode cL_law 480 = .ok (.iconst 1, 1) := by decide +kernel
theorem dL_law_481 : decode cL_law 481 = .ok (.iadd, 1) := by decide +kernel
theorem dL_law_482 : decode cL_law 482 = .ok (.iaload, 1) := by decide +kernel
theorem dL_law_483 : decode cL_law 483 = .ok (.aload_n 0, 1) := by decide +kernel
theorem dL_law_484 : decode cL_law 484 = .ok (.iload 4, 2) := by decide +kernel
theorem dL_law_486 : decode cL_law 486 = .ok (.iconst 2, 1) := by decide +kernel
theorem dL_law_487 : decode cL_law 487 = .ok (.iadd, 1) := by decide +kernel
theorem dL_law_488 : decode cL_law 488 = .ok (.iaload, 1) := by decide +kernel
theorem dL_law_489 : decode cL_law 489 = .ok (.aload_n 0, 1) := by decide +kernel
theorem dL_law_490 : decode cL_law 490 = .ok (.iload 4, 2) := by decide +kernel
theorem dL_law_492 : decode cL_law 492 = .ok (.iconst 3, 1) := by decide +kernel
theorem dL_law_493 : decode cL_law 493 = .ok (.iadd, 1) := by decide +kernel
theorem dL_law_494 : decode cL_law 494 = .ok (.iaload, 1) := by decide +kernel
theorem dL_law_495 : decode cL_law 495 = .ok (.aload_n 0, 1) := by decide +kernel
theorem dL_law_496 : decode cL_law 496 = .ok (.iload 4, 2) := by decide +kernel
theorem dL_law_498 : decode cL_law 498 = .ok (.iconst 4, 1) := by decide +kernel
theorem dL_law_499 : decode cL_law 499 = .ok (.iadd, 1) := by decide +kernel
theorem dL_law_500 : decode cL_law 500 = .ok (.iaload, 1) := by decide +kernel
theorem dL_law_501 : decode cL_law 501 = .ok (.ifCond .eq 7, 3) := by decide +kernel
theorem dL_law_504 : decode cL_law 504 = .ok (.iconst 1, 1) := by decide +kernel
theorem dL_law_505 : decode cL_law 505 = .ok (.goto 4, 3) := by decide +kernel
theorem dL_law_508 : decode cL_law 508 = .ok (.iconst 0, 1) := by decide +kernel
theorem dL_law_509 : decode cL_law 509 = .ok (.aload_n 3, 1) := by decide +kernel
theorem dL_law_510 : decode cL_law 510 = .ok (.invokestatic 114, 3) := by decide +kernel
theorem dL_law_513 : decode cL_law 513 = .ok (.istore 5, 2) := by decide +kernel
theorem dL_law_515 : decode cL_law 515 = .ok (.aload_n 2, 1) := by decide +kernel
theorem dL_law_516 : decode cL_law 516 = .ok (.aload_n 0, 1) := by decide +kernel
theorem dL_law_517 : decode cL_law 517 = .ok (.iload 4, 2) := by decide +kernel
theorem dL_law_519 : decode cL_law 519 = .ok (.iconst 1, 1) := by decide +kernel
theorem dL_law_520 : decode cL_law 520 = .ok (.iadd, 1) := by decide +kernel
theorem dL_law_521 : decode cL_law 521 = .ok (.iaload, 1) := by decide +kernel
theorem dL_law_522 : decode cL_law 522 = .ok (.aload_n 0, 1) := by decide +kernel
theorem dL_law_523 : decode cL_law 523 = .ok (.iload 4, 2) := by decide +kernel
theorem dL_law_525 : decode cL_law 525 = .ok (.iconst 2, 1) := by decide +kernel
theorem dL_law_526 : decode cL_law 526 = .ok (.iadd, 1) := by decide +kernel
theorem dL_law_527 : decode cL_law 527 = .ok (.iaload, 1) := by decide +kernel
theorem dL_law_528 : decode cL_law 528 = .ok (.aload_n 0, 1) := by decide +kernel
theorem dL_law_529 : decode cL_law 529 = .ok (.iload 4, 2) := by decide +kernel
theorem dL_law_531 : decode cL_law 531 = .ok (.iconst 3, 1) := by decide +kernel
theorem dL_law_532 : decode cL_law 532 = .ok (.iadd, 1) := by decide +kernel
theorem dL_law_533 : decode cL_law 533 = .ok (.iaload, 1) := by decide +kernel
theorem dL_law_534 : decode cL_law 534 = .ok (.aload_n 0, 1) := by decide +kernel
theorem dL_law_535 : decode cL_law 535 = .ok (.iload 4, 2) := by decide +kernel
theorem dL_law_537 : decode cL_law 537 = .ok (.iconst 4, 1) := by decide +kernel
theorem dL_law_538 : decode cL_law 538 = .ok (.iadd, 1) := by decide +kernel
theorem dL_law_539 : decode cL_law 539 = .ok (.iaload, 1) := by decide +kernel
theorem dL_law_540 : decode cL_law 540 = .ok (.ifCond .eq 7, 3) := by decide +kernel
theorem dL_law_543 : decode cL_law 543 = .ok (.iconst 1, 1) := by decide +kernel
theorem dL_law_544 : decode cL_law 544 = .ok (.goto 4, 3) := by decide +kernel
theorem dL_law_547 : decode cL_law 547 = .ok (.iconst 0, 1) := by decide +kernel
theorem dL_law_548 : decode cL_law 548 = .ok (.invokevirtual 116, 3) := by decide +kernel
theorem dL_law_551 : decode cL_law 551 = .ok (.istore 6, 2) := by decide +kernel
theorem dL_law_553 : decode cL_law 553 = .ok (.aload_n 2, 1) := by decide +kernel
theorem dL_law_554 : decode cL_law 554 = .ok (.invokevirtual 101, 3) := by decide +kernel
theorem dL_law_557 : decode cL_law 557 = .ok (.iload 5, 2) := by decide +kernel
theorem dL_law_559 : decode cL_law 559 = .ok (.if_icmp .eq 5, 3) := by decide +kernel
theorem dL_law_562 : decode cL_law 562 = .ok (.iconst 0, 1) := by decide +kernel
theorem dL_law_563 : decode cL_law 563 = .ok (.ireturn, 1) := by decide +kernel
theorem dL_law_564 : decode cL_law 564 = .ok (.iload 5, 2) := by decide +kernel
theorem dL_law_566 : decode cL_law 566 = .ok (.ifCond .ne 15, 3) := by decide +kernel
theorem dL_law_569 : decode cL_law 569 = .ok (.aload_n 3, 1) := by decide +kernel
theorem dL_law_570 : decode cL_law 570 = .ok (.iconst 0, 1) := by decide +kernel
theorem dL_law_571 : decode cL_law 571 = .ok (.laload, 1) := by decide +kernel
theorem dL_law_572 : decode cL_law 572 = .ok (.iload 6, 2) := by decide +kernel
theorem dL_law_574 : decode cL_law 574 = .ok (.i2l, 1) := by decide +kernel
theorem dL_law_575 : decode cL_law 575 = .ok (.lcmp, 1) := by decide +kernel
theorem dL_law_576 : decode cL_law 576 = .ok (.ifCond .eq 5, 3) := by decide +kernel
theorem dL_law_579 : decode cL_law 579 = .ok (.iconst 0, 1) := by decide +kernel
theorem dL_law_580 : decode cL_law 580 = .ok (.ireturn, 1) := by decide +kernel
theorem dL_law_581 : decode cL_law 581 = .ok (.goto 1330, 3) := by decide +kernel
theorem dL_law_584 : decode cL_law 584 = .ok (.aload_n 1, 1) := by decide +kernel
theorem dL_law_585 : decode cL_law 585 = .ok (.aload_n 0, 1) := by decide +kernel
theorem dL_law_586 : decode cL_law 586 = .ok (.iload 4, 2) := by decide +kernel
theorem dL_law_588 : decode cL_law 588 = .ok (.iconst 1, 1) := by decide +kernel
theorem dL_law_589 : decode cL_law 589 = .ok (.iadd, 1) := by decide +kernel
theorem dL_law_590 : decode cL_law 590 = .ok (.iaload, 1) := by decide +kernel
theorem dL_law_591 : decode cL_law 591 = .ok (.aload_n 0, 1) := by decide +kernel
theorem dL_law_592 : decode cL_law 592 = .ok (.iload 4, 2) := by decide +kernel
theorem dL_law_594 : decode cL_law 594 = .ok (.iconst 2, 1) := by decide +kernel
theorem dL_law_595 : decode cL_law 595 = .ok (.iadd, 1) := by decide +kernel
theorem dL_law_596 : decode cL_law 596 = .ok (.iaload, 1) := by decide +kernel
theorem dL_law_597 : decode cL_law 597 = .ok (.aload_n 3, 1) := by decide +kernel
theorem dL_law_598 : decode cL_law 598 = .ok (.invokestatic 117, 3) := by decide +kernel
theorem dL_law_601 : decode cL_law 601 = .ok (.istore 5, 2) := by decide +kernel
theorem dL_law_603 : decode cL_law 603 = .ok (.aload_n 2, 1) := by decide +kernel
theorem dL_law_604 : decode cL_law 604 = .ok (.aload_n 0, 1) := by decide +kernel
theorem dL_law_605 : decode cL_law 605 = .ok (.iload 4, 2) := by decide +kernel
theorem dL_law_607 : decode cL_law 607 = .ok (.iconst 1, 1) := by decide +kernel
theorem dL_law_608 : decode cL_law 608 = .ok (.iadd, 1) := by decide +kernel
theorem dL_law_609 : decode cL_law 609 = .ok (.iaload, 1) := by decide +kernel
theorem dL_law_610 : decode cL_law 610 = .ok (.aload_n 0, 1) := by decide +kernel
theorem dL_law_611 : decode cL_law 611 = .ok (.iload 4, 2) := by decide +kernel
theorem dL_law_613 : decode cL_law 613 = .ok (.iconst 2, 1) := by decide +kernel
theorem dL_law_614 : decode cL_law 614 = .ok (.iadd, 1) := by decide +kernel
theorem dL_law_615 : decode cL_law 615 = .ok (.iaload, 1) := by decide +kernel
theorem dL_law_616 : decode cL_law 616 = .ok (.invokevirtual 120, 3) := by decide +kernel
theorem dL_law_619 : decode cL_law 619 = .ok (.istore 6, 2) := by decide +kernel
theorem dL_law_621 : decode cL_law 621 = .ok (.aload_n 2, 1) := by decide +kernel
theorem dL_law_622 : decode cL_law 622 = .ok (.invokevirtual 101, 3) := by decide +kernel
theorem dL_law_625 : decode cL_law 625 = .ok (.iload 5, 2) := by decide +kernel
theorem dL_law_627 : decode cL_law 627 = .ok (.if_icmp .eq 5, 3) := by decide +kernel
theorem dL_law_630 : decode cL_law 630 = .ok (.iconst 0, 1) := by decide +kernel
theorem dL_law_631 : decode cL_law 631 = .ok (.ireturn, 1) := by decide +kernel
theorem dL_law_632 : decode cL_law 632 = .ok (.iload 5, 2) := by decide +kernel
theorem dL_law_634 : decode cL_law 634 = .ok (.ifCond .ne 15, 3) := by decide +kernel
theorem dL_law_637 : decode cL_law 637 = .ok (.aload_n 3, 1) := by decide +kernel
theorem dL_law_638 : decode cL_law 638 = .ok (.iconst 0, 1) := by decide +kernel
theorem dL_law_639 : decode cL_law 639 = .ok (.laload, 1) := by decide +kernel
theorem dL_law_640 : decode cL_law 640 = .ok (.iload 6, 2) := by decide +kernel
theorem dL_law_642 : decode cL_law 642 = .ok (.i2l, 1) := by decide +kernel
theorem dL_law_643 : decode cL_law 643 = .ok (.lcmp, 1) := by decide +kernel
theorem dL_law_644 : decode cL_law 644 = .ok (.ifCond .eq 5, 3) := by decide +kernel
theorem dL_law_647 : decode cL_law 647 = .ok (.iconst 0, 1) := by decide +kernel
theorem dL_law_648 : decode cL_law 648 = .ok (.ireturn, 1) := by decide +kernel
theorem dL_law_649 : decode cL_law 649 = .ok (.goto 1262, 3) := by decide +kernel
theorem dL_law_652 : decode cL_law 652 = .ok (.aload_n 1, 1) := by decide +kernel
theorem dL_law_653 : decode cL_law 653 = .ok (.aload_n 0, 1) := by decide +kernel
theorem dL_law_654 : decode cL_law 654 = .ok (.iload 4, 2) := by decide +kernel
theorem dL_law_656 : decode cL_law 656 = .ok (.iconst 1, 1) := by decide +kernel
theorem dL_law_657 : decode cL_law 657 = .ok (.iadd, 1) := by decide +kernel
theorem dL_law_658 : decode cL_law 658 = .ok (.iaload, 1) := by decide +kernel
theorem dL_law_659 : decode cL_law 659 = .ok (.aload_n 0, 1) := by decide +kernel
theorem dL_law_660 : decode cL_law 660 = .ok (.iload 4, 2) := by decide +kernel
theorem dL_law_662 : decode cL_law 662 = .ok (.iconst 2, 1) := by decide +kernel
theorem dL_law_663 : decode cL_law 663 = .ok (.iadd, 1) := by decide +kernel
theorem dL_law_664 : decode cL_law 664 = .ok (.iaload, 1) := by decide +kernel
theorem dL_law_665 : decode cL_law 665 = .ok (.aload_n 0, 1) := by decide +kernel
theorem dL_law_666 : decode cL_law 666 = .ok (.iload 4, 2) := by decide +kernel
theorem dL_law_668 : decode cL_law 668 = .ok (.iconst 3, 1) := by decide +kernel
theorem dL_law_669 : decode cL_law 669 = .ok (.iadd, 1) := by decide +kernel
theorem dL_law_670 : decode cL_law 670 = .ok (.iaload, 1) := by decide +kernel
theorem dL_law_671 : decode cL_law 671 = .ok (.ifCond .eq 7, 3) := by decide +kernel
theorem dL_law_674 : decode cL_law 674 = .ok (.iconst 1, 1) := by decide +kernel
theorem dL_law_675 : decode cL_law 675 = .ok (.goto 4, 3) := by decide +kernel
theorem dL_law_678 : decode cL_law 678 = .ok (.iconst 0, 1) := by decide +kernel
theorem dL_law_679 : decode cL_law 679 = .ok (.aload_n 3, 1) := by decide +kernel
theorem dL_law_680 : decode cL_law 680 = .ok (.invokestatic 121, 3) := by decide +kernel
theorem dL_law_683 : decode cL_law 683 = .ok (.istore 5, 2) := by decide +kernel
theorem dL_law_685 : decode cL_law 685 = .ok (.aload_n 2, 1) := by decide +kernel
theorem dL_law_686 : decode cL_law 686 = .ok (.aload_n 0, 1) := by decide +kernel
theorem dL_law_687 : decode cL_law 687 = .ok (.iload 4, 2) := by decide +kernel
theorem dL_law_689 : decode cL_law 689 = .ok (.iconst 1, 1) := by decide +kernel
theorem dL_law_690 : decode cL_law 690 = .ok (.iadd, 1) := by decide +kernel
theorem dL_law_691 : decode cL_law 691 = .ok (.iaload, 1) := by decide +kernel
theorem dL_law_692 : decode cL_law 692 = .ok (.aload_n 0, 1) := by decide +kernel
theorem dL_law_693 : decode cL_law 693 = .ok (.iload 4, 2) := by decide +kernel
theorem dL_law_695 : decode cL_law 695 = .ok (.iconst 2, 1) := by decide +kernel
theorem dL_law_696 : decode cL_law 696 = .ok (.iadd, 1) := by decide +kernel
theorem dL_law_697 : decode cL_law 697 = .ok (.iaload, 1) := by decide +kernel
theorem dL_law_698 : decode cL_law 698 = .ok (.aload_n 0, 1) := by decide +kernel
theorem dL_law_699 : decode cL_law 699 = .ok (.iload 4, 2) := by decide +kernel
theorem dL_law_701 : decode cL_law 701 = .ok (.iconst 3, 1) := by decide +kernel
theorem dL_law_702 : decode cL_law 702 = .ok (.iadd, 1) := by decide +kernel
theorem dL_law_703 : decode cL_law 703 = .ok (.iaload, 1) := by decide +kernel
theorem dL_law_704 : decode cL_law 704 = .ok (.ifCond .eq 7, 3) := by decide +kernel
theorem dL_law_707 : decode cL_law 707 = .ok (.iconst 1, 1) := by decide +kernel
theorem dL_law_708 : decode cL_law 708 = .ok (.goto 4, 3) := by decide +kernel
theorem dL_law_711 : decode cL_law 711 = .ok (.iconst 0, 1) := by decide +kernel
theorem dL_law_712 : decode cL_law 712 = .ok (.invokevirtual 124, 3) := by decide +kernel
theorem dL_law_715 : decode cL_law 715 = .ok (.istore 6, 2) := by decide +kernel
theorem dL_law_717 : decode cL_law 717 = .ok (.aload_n 2, 1) := by decide +kernel
theorem dL_law_718 : decode cL_law 718 = .ok (.invokevirtual 101, 3) := by decide +kernel
theorem dL_law_721 : decode cL_law 721 = .ok (.iload 5, 2) := by decide +kernel
theorem dL_law_723 : decode cL_law 723 = .ok (.if_icmp .eq 5, 3) := by decide +kernel
theorem dL_law_726 : decode cL_law 726 = .ok (.iconst 0, 1) := by decide +kernel
theorem dL_law_727 : decode cL_law 727 = .ok (.ireturn, 1) := by decide +kernel
theorem dL_law_728 : decode cL_law 728 = .ok (.iload 5, 2) := by decide +kernel
theorem dL_law_730 : decode cL_law 730 = .ok (.ifCond .ne 15, 3) := by decide +kernel
theorem dL_law_733 : decode cL_law 733 = .ok (.aload_n 3, 1) := by decide +kernel
theorem dL_law_734 : decode cL_law 734 = .ok (.iconst 0, 1) := by decide +kernel
theorem dL_law_735 : decode cL_law 735 = .ok (.laload, 1) := by decide +kernel
theorem dL_law_736 : decode cL_law 736 = .ok (.iload 6, 2) := by decide +kernel
theorem dL_law_738 : decode cL_law 738 = .ok (.i2l, 1) := by decide +kernel
theorem dL_law_739 : decode cL_law 739 = .ok (.lcmp, 1) := by decide +kernel
theorem dL_law_740 : decode cL_law 740 = .ok (.ifCond .eq 5, 3) := by decide +kernel
theorem dL_law_743 : decode cL_law 743 = .ok (.iconst 0, 1) := by decide +kernel
theorem dL_law_744 : decode cL_law 744 = .ok (.ireturn, 1) := by decide +kernel
theorem dL_law_745 : decode cL_law 745 = .ok (.goto 1166, 3) := by decide +kernel
theorem dL_law_748 : decode cL_law 748 = .ok (.aload_n 1, 1) := by decide +kernel
theorem dL_law_749 : decode cL_law 749 = .ok (.aload_n 0, 1) := by decide +kernel
theorem dL_law_750 : decode cL_law 750 = .ok (.iload 4, 2) := by decide +kernel
theorem dL_law_752 : decode cL_law 752 = .ok (.iconst 1, 1) := by decide +kernel
theorem dL_law_753 : decode cL_law 753 = .ok (.iadd, 1) := by decide +kernel
theorem dL_law_754 : decode cL_law 754 = .ok (.iaload, 1) := by decide +kernel
theorem dL_law_755 : decode cL_law 755 = .ok (.aload_n 0, 1) := by decide +kernel
theorem dL_law_756 : decode cL_law 756 = .ok (.iload 4, 2) := by decide +kernel
theorem dL_law_758 : decode cL_law 758 = .ok (.iconst 2, 1) := by decide +kernel
theorem dL_law_759 : decode cL_law 759 = .ok (.iadd, 1) := by decide +kernel
theorem dL_law_760 : decode cL_law 760 = .ok (.iaload, 1) := by decide +kernel
theorem dL_law_761 : decode cL_law 761 = .ok (.aload_n 0, 1) := by decide +kernel
theorem dL_law_762 : decode cL_law 762 = .ok (.iload 4, 2) := by decide +kernel
theorem dL_law_764 : decode cL_law 764 = .ok (.iconst 3, 1) := by decide +kernel
theorem dL_law_765 : decode cL_law 765 = .ok (.iadd, 1) := by decide +kernel
theorem dL_law_766 : decode cL_law 766 = .ok (.iaload, 1) := by decide +kernel
theorem dL_law_767 : decode cL_law 767 = .ok (.aload_n 0, 1) := by decide +kernel
theorem dL_law_768 : decode cL_law 768 = .ok (.iload 4, 2) := by decide +kernel
theorem dL_law_770 : decode cL_law 770 = .ok (.iconst 4, 1) := by decide +kernel
theorem dL_law_771 : decode cL_law 771 = .ok (.iadd, 1) := by decide +kernel
theorem dL_law_772 : decode cL_law 772 = .ok (.iaload, 1) := by decide +kernel
theorem dL_law_773 : decode cL_law 773 = .ok (.ifCond .eq 7, 3) := by decide +kernel
theorem dL_law_776 : decode cL_law 776 = .ok (.iconst 1, 1) := by decide +kernel
theorem dL_law_777 : decode cL_law 777 = .ok (.goto 4, 3) := by decide +kernel
theorem dL_law_780 : decode cL_law 780 = .ok (.iconst 0, 1) := by decide +kernel
theorem dL_law_781 : decode cL_law 781 = .ok (.aload_n 3, 1) := by decide +kernel
theorem dL_law_782 : decode cL_law 782 = .ok (.invokestatic 125, 3) := by decide +kernel
theorem dL_law_785 : decode cL_law 785 = .ok (.istore 5, 2) := by decide +kernel
theorem dL_law_787 : decode cL_law 787 = .ok (.aload_n 2, 1) := by decide +kernel
theorem dL_law_788 : decode cL_law 788 = .ok (.aload_n 0, 1) := by decide +kernel
theorem dL_law_789 : decode cL_law 789 = .ok (.iload 4, 2) := by decide +kernel
theorem dL_law_791 : decode cL_law 791 = .ok (.iconst 1, 1) := by decide +kernel
theorem dL_law_792 : decode cL_law 792 = .ok (.iadd, 1) := by decide +kernel
theorem dL_law_793 : decode cL_law 793 = .ok (.iaload, 1) := by decide +kernel
theorem dL_law_794 : decode cL_law 794 = .ok (.aload_n 0, 1) := by decide +kernel
theorem dL_law_795 : decode cL_law 795 = .ok (.iload 4, 2) := by decide +kernel
theorem dL_law_797 : decode cL_law 797 = .ok (.iconst 2, 1) := by decide +kernel
theorem dL_law_798 : decode cL_law 798 = .ok (.iadd, 1) := by decide +kernel
theorem dL_law_799 : decode cL_law 799 = .ok (.iaload, 1) := by decide +kernel
theorem dL_law_800 : decode cL_law 800 = .ok (.aload_n 0, 1) := by decide +kernel
theorem dL_law_801 : decode cL_law 801 = .ok (.iload 4, 2) := by decide +kernel
theorem dL_law_803 : decode cL_law 803 = .ok (.iconst 3, 1) := by decide +kernel
theorem dL_law_804 : decode cL_law 804 = .ok (.iadd, 1) := by decide +kernel
theorem dL_law_805 : decode cL_law 805 = .ok (.iaload, 1) := by decide +kernel
theorem dL_law_806 : decode cL_law 806 = .ok (.aload_n 0, 1) := by decide +kernel
theorem dL_law_807 : decode cL_law 807 = .ok (.iload 4, 2) := by decide +kernel
theorem dL_law_809 : decode cL_law 809 = .ok (.iconst 4, 1) := by decide +kernel
theorem dL_law_810 : decode cL_law 810 = .ok (.iadd, 1) := by decide +kernel
theorem dL_law_811 : decode cL_law 811 = .ok (.iaload, 1) := by decide +kernel
theorem dL_law_812 : decode cL_law 812 = .ok (.ifCond .eq 7, 3) := by decide +kernel
theorem dL_law_815 : decode cL_law 815 = .ok (.iconst 1, 1) := by decide +kernel
theorem dL_law_816 : decode cL_law 816 = .ok (.goto 4, 3) := by decide +kernel
theorem dL_law_819 : decode cL_law 819 = .ok (.iconst 0, 1) := by decide +kernel
theorem dL_law_820 : decode cL_law 820 = .ok (.invokevirtual 127, 3) := by decide +kernel
theorem dL_law_823 : decode cL_law 823 = .ok (.istore 6, 2) := by decide +kernel
theorem dL_law_825 : decode cL_law 825 = .ok (.aload_n 2, 1) := by decide +kernel
theorem dL_law_826 : decode cL_law 826 = .ok (.invokevirtual 101, 3) := by decide +kernel
theorem dL_law_829 : decode cL_law 829 = .ok (.iload 5, 2) := by decide +kernel
theorem dL_law_831 : decode cL_law 831 = .ok (.if_icmp .eq 5, 3) := by decide +kernel
theorem dL_law_834 : decode cL_law 834 = .ok (.iconst 0, 1) := by decide +kernel
theorem dL_law_835 : decode cL_law 835 = .ok (.ireturn, 1) := by decide +kernel
theorem dL_law_836 : decode cL_law 836 = .ok (.iload 5, 2) := by decide +kernel
theorem dL_law_838 : decode cL_law 838 = .ok (.ifCond .ne 15, 3) := by decide +kernel
theorem dL_law_841 : decode cL_law 841 = .ok (.aload_n 3, 1) := by decide +kernel
theorem dL_law_842 : decode cL_law 842 = .ok (.iconst 0, 1) := by decide +kernel
theorem dL_law_843 : decode cL_law 843 = .ok (.laload, 1) := by decide +kernel
theorem dL_law_844 : decode cL_law 844 = .ok (.iload 6, 2) := by decide +kernel
theorem dL_law_846 : decode cL_law 846 = .ok (.i2l, 1) := by decide +kernel
theorem dL_law_847 : decode cL_law 847 = .ok (.lcmp, 1) := by decide +kernel
theorem dL_law_848 : decode cL_law 848 = .ok (.ifCond .eq 5, 3) := by decide +kernel
theorem dL_law_851 : decode cL_law 851 = .ok (.iconst 0, 1) := by decide +kernel
theorem dL_law_852 : decode cL_law 852 = .ok (.ireturn, 1) := by decide +kernel
theorem dL_law_853 : decode cL_law 853 = .ok (.goto 1058, 3) := by decide +kernel
theorem dL_law_856 : decode cL_law 856 = .ok (.aload_n 1, 1) := by decide +kernel
theorem dL_law_857 : decode cL_law 857 = .ok (.aload_n 0, 1) := by decide +kernel
theorem dL_law_858 : decode cL_law 858 = .ok (.iload 4, 2) := by decide +kernel
theorem dL_law_860 : decode cL_law 860 = .ok (.iconst 1, 1) := by decide +kernel
theorem dL_law_861 : decode cL_law 861 = .ok (.iadd, 1) := by decide +kernel
theorem dL_law_862 : decode cL_law 862 = .ok (.iaload, 1) := by decide +kernel
theorem dL_law_863 : decode cL_law 863 = .ok (.aload_n 0, 1) := by decide +kernel
theorem dL_law_864 : decode cL_law 864 = .ok (.iload 4, 2) := by decide +kernel
theorem dL_law_866 : decode cL_law 866 = .ok (.iconst 2, 1) := by decide +kernel
theorem dL_law_867 : decode cL_law 867 = .ok (.iadd, 1) := by decide +kernel
theorem dL_law_868 : decode cL_law 868 = .ok (.iaload, 1) := by decide +kernel
theorem dL_law_869 : decode cL_law 869 = .ok (.aload_n 3, 1) := by decide +kernel
theorem dL_law_870 : decode cL_law 870 = .ok (.invokestatic 128, 3) := by decide +kernel
theorem dL_law_873 : decode cL_law 873 = .ok (.istore 5, 2) := by decide +kernel
theorem dL_law_875 : decode cL_law 875 = .ok (.aload_n 2, 1) := by decide +kernel
theorem dL_law_876 : decode cL_law 876 = .ok (.aload_n 0, 1) := by decide +kernel
theorem dL_law_877 : decode cL_law 877 = .ok (.iload 4, 2) := by decide +kernel
theorem dL_law_879 : decode cL_law 879 = .ok (.iconst 1, 1) := by decide +kernel
theorem dL_law_880 : decode cL_law 880 = .ok (.iadd, 1) := by decide +kernel
theorem dL_law_881 : decode cL_law 881 = .ok (.iaload, 1) := by decide +kernel
theorem dL_law_882 : decode cL_law 882 = .ok (.aload_n 0, 1) := by decide +kernel
theorem dL_law_883 : decode cL_law 883 = .ok (.iload 4, 2) := by decide +kernel
theorem dL_law_885 : decode cL_law 885 = .ok (.iconst 2, 1) := by decide +kernel
theorem dL_law_886 : decode cL_law 886 = .ok (.iadd, 1) := by decide +kernel
theorem dL_law_887 : decode cL_law 887 = .ok (.iaload, 1) := by decide +kernel
theorem dL_law_888 : decode cL_law 888 = .ok (.invokevirtual 130, 3) := by decide +kernel
theorem dL_law_891 : decode cL_law 891 = .ok (.istore 6, 2) := by decide +kernel
theorem dL_law_893 : decode cL_law 893 = .ok (.aload_n 2, 1) := by decide +kernel
theorem dL_law_894 : decode cL_law 894 = .ok (.invokevirtual 101, 3) := by decide +kernel
theorem dL_law_897 : decode cL_law 897 = .ok (.iload 5, 2) := by decide +kernel
theorem dL_law_899 : decode cL_law 899 = .ok (.if_icmp .eq 5, 3) := by decide +kernel
theorem dL_law_902 : decode cL_law 902 = .ok (.iconst 0, 1) := by decide +kernel
theorem dL_law_903 : decode cL_law 903 = .ok (.ireturn, 1) := by decide +kernel
theorem dL_law_904 : decode cL_law 904 = .ok (.iload 5, 2) := by decide +kernel
theorem dL_law_906 : decode cL_law 906 = .ok (.ifCond .ne 15, 3) := by decide +kernel
theorem dL_law_909 : decode cL_law 909 = .ok (.aload_n 3, 1) := by decide +kernel
theorem dL_law_910 : decode cL_law 910 = .ok (.iconst 0, 1) := by decide +kernel
theorem dL_law_911 : decode cL_law 911 = .ok (.laload, 1) := by decide +kernel
theorem dL_law_912 : decode cL_law 912 = .ok (.iload 6, 2) := by decide +kernel
theorem dL_law_914 : decode cL_law 914 = .ok (.i2l, 1) := by decide +kernel
theorem dL_law_915 : decode cL_law 915 = .ok (.lcmp, 1) := by decide +kernel
theorem dL_law_916 : decode cL_law 916 = .ok (.ifCond .eq 5, 3) := by decide +kernel
theorem dL_law_919 : decode cL_law 919 = .ok (.iconst 0, 1) := by decide +kernel
theorem dL_law_920 : decode cL_law 920 = .ok (.ireturn, 1) := by decide +kernel
theorem dL_law_921 : decode cL_law 921 = .ok (.goto 990, 3) := by decide +kernel
theorem dL_law_924 : decode cL_law 924 = .ok (.aload_n 1, 1) := by decide +kernel
theorem dL_law_925 : decode cL_law 925 = .ok (.aload_n 0, 1) := by decide +kernel
theorem dL_law_926 : decode cL_law 926 = .ok (.iload 4, 2) := by decide +kernel
theorem dL_law_928 : decode cL_law 928 = .ok (.iconst 1, 1) := by decide +kernel
theorem dL_law_929 : decode cL_law 929 = .ok (.iadd, 1) := by decide +kernel
theorem dL_law_930 : decode cL_law 930 = .ok (.iaload, 1) := by decide +kernel
theorem dL_law_931 : decode cL_law 931 = .ok (.aload_n 0, 1) := by decide +kernel
theorem dL_law_932 : decode cL_law 932 = .ok (.iload 4, 2) := by decide +kernel
theorem dL_law_934 : decode cL_law 934 = .ok (.iconst 2, 1) := by decide +kernel
theorem dL_law_935 : decode cL_law 935 = .ok (.iadd, 1) := by decide +kernel
theorem dL_law_936 : decode cL_law 936 = .ok (.iaload, 1) := by decide +kernel
theorem dL_law_937 : decode cL_law 937 = .ok (.aload_n 3, 1) := by decide +kernel
theorem dL_law_938 : decode cL_law 938 = .ok (.invokestatic 131, 3) := by decide +kernel
theorem dL_law_941 : decode cL_law 941 = .ok (.istore 5, 2) := by decide +kernel
theorem dL_law_943 : decode cL_law 943 = .ok (.aload_n 2, 1) := by decide +kernel
theorem dL_law_944 : decode cL_law 944 = .ok (.aload_n 0, 1) := by decide +kernel
theorem dL_law_945 : decode cL_law 945 = .ok (.iload 4, 2) := by decide +kernel
theorem dL_law_947 : decode cL_law 947 = .ok (.iconst 1, 1) := by decide +kernel
theorem dL_law_948 : decode cL_law 948 = .ok (.iadd, 1) := by decide +kernel
theorem dL_law_949 : decode cL_law 949 = .ok (.iaload, 1) := by decide +kernel
theorem dL_law_950 : decode cL_law 950 = .ok (.aload_n 0, 1) := by decide +kernel
theorem dL_law_951 : decode cL_law 951 = .ok (.iload 4, 2) := by decide +kernel
theorem dL_law_953 : decode cL_law 953 = .ok (.iconst 2, 1) := by decide +kernel
theorem dL_law_954 : decode cL_law 954 = .ok (.iadd, 1) := by decide +kernel
theorem dL_law_955 : decode cL_law 955 = .ok (.iaload, 1) := by decide +kernel
theorem dL_law_956 : decode cL_law 956 = .ok (.invokevirtual 133, 3) := by decide +kernel
theorem dL_law_959 : decode cL_law 959 = .ok (.istore 6, 2) := by decide +kernel
theorem dL_law_961 : decode cL_law 961 = .ok (.aload_n 2, 1) := by decide +kernel
theorem dL_law_962 : decode cL_law 962 = .ok (.invokevirtual 101, 3) := by decide +kernel
theorem dL_law_965 : decode cL_law 965 = .ok (.iload 5, 2) := by decide +kernel
theorem dL_law_967 : decode cL_law 967 = .ok (.if_icmp .eq 5, 3) := by decide +kernel
theorem dL_law_970 : decode cL_law 970 = .ok (.iconst 0, 1) := by decide +kernel
theorem dL_law_971 : decode cL_law 971 = .ok (.ireturn, 1) := by decide +kernel
theorem dL_law_972 : decode cL_law 972 = .ok (.iload 5, 2) := by decide +kernel
theorem dL_law_974 : decode cL_law 974 = .ok (.ifCond .ne 15, 3) := by decide +kernel
theorem dL_law_977 : decode cL_law 977 = .ok (.aload_n 3, 1) := by decide +kernel
theorem dL_law_978 : decode cL_law 978 = .ok (.iconst 0, 1) := by decide +kernel
theorem dL_law_979 : decode cL_law 979 = .ok (.laload, 1) := by decide +kernel
theorem dL_law_980 : decode cL_law 980 = .ok (.iload 6, 2) := by decide +kernel
theorem dL_law_982 : decode cL_law 982 = .ok (.i2l, 1) := by decide +kernel
theorem dL_law_983 : decode cL_law 983 = .ok (.lcmp, 1) := by decide +kernel
theorem dL_law_984 : decode cL_law 984 = .ok (.ifCond .eq 5, 3) := by decide +kernel
theorem dL_law_987 : decode cL_law 987 = .ok (.iconst 0, 1) := by decide +kernel
theorem dL_law_988 : decode cL_law 988 = .ok (.ireturn, 1) := by decide +kernel
theorem dL_law_989 : decode cL_law 989 = .ok (.goto 922, 3) := by decide +kernel
theorem dL_law_992 : decode cL_law 992 = .ok (.aload_n 1, 1) := by decide +kernel
theorem dL_law_993 : decode cL_law 993 = .ok (.aload_n 0, 1) := by decide +kernel
theorem dL_law_994 : decode cL_law 994 = .ok (.iload 4, 2) := by decide +kernel
theorem dL_law_996 : decode cL_law 996 = .ok (.iconst 1, 1) := by decide +kernel
theorem dL_law_997 : decode cL_law 997 = .ok (.iadd, 1) := by decide +kernel
theorem dL_law_998 : decode cL_law 998 = .ok (.iaload, 1) := by decide +kernel
theorem dL_law_999 : decode cL_law 999 = .ok (.aload_n 0, 1) := by decide +kernel
theorem dL_law_1000 : decode cL_law 1000 = .ok (.iload 4, 2) := by decide +kernel
theorem dL_law_1002 : decode cL_law 1002 = .ok (.iconst 2, 1) := by decide +kernel
theorem dL_law_1003 : decode cL_law 1003 = .ok (.iadd, 1) := by decide +kernel
theorem dL_law_1004 : decode cL_law 1004 = .ok (.iaload, 1) := by decide +kernel
theorem dL_law_1005 : decode cL_law 1005 = .ok (.aload_n 3, 1) := by decide +kernel
theorem dL_law_1006 : decode cL_law 1006 = .ok (.invokestatic 134, 3) := by decide +kernel
theorem dL_law_1009 : decode cL_law 1009 = .ok (.istore 5, 2) := by decide +kernel
theorem dL_law_1011 : decode cL_law 1011 = .ok (.aload_n 2, 1) := by decide +kernel
theorem dL_law_1012 : decode cL_law 1012 = .ok (.aload_n 0, 1) := by decide +kernel
theorem dL_law_1013 : decode cL_law 1013 = .ok (.iload 4, 2) := by decide +kernel
theorem dL_law_1015 : decode cL_law 1015 = .ok (.iconst 1, 1) := by decide +kernel
theorem dL_law_1016 : decode cL_law 1016 = .ok (.iadd, 1) := by decide +kernel
theorem dL_law_1017 : decode cL_law 1017 = .ok (.iaload, 1) := by decide +kernel
theorem dL_law_1018 : decode cL_law 1018 = .ok (.aload_n 0, 1) := by decide +kernel
theorem dL_law_1019 : decode cL_law 1019 = .ok (.iload 4, 2) := by decide +kernel
theorem dL_law_1021 : decode cL_law 1021 = .ok (.iconst 2, 1) := by decide +kernel
theorem dL_law_1022 : decode cL_law 1022 = .ok (.iadd, 1) := by decide +kernel
theorem dL_law_1023 : decode cL_law 1023 = .ok (.iaload, 1) := by decide +kernel
theorem dL_law_1024 : decode cL_law 1024 = .ok (.invokevirtual 136, 3) := by decide +kernel
theorem dL_law_1027 : decode cL_law 1027 = .ok (.istore 6, 2) := by decide +kernel
theorem dL_law_1029 : decode cL_law 1029 = .ok (.aload_n 2, 1) := by decide +kernel
theorem dL_law_1030 : decode cL_law 1030 = .ok (.invokevirtual 101, 3) := by decide +kernel
theorem dL_law_1033 : decode cL_law 1033 = .ok (.iload 5, 2) := by decide +kernel
theorem dL_law_1035 : decode cL_law 1035 = .ok (.if_icmp .eq 5, 3) := by decide +kernel
theorem dL_law_1038 : decode cL_law 1038 = .ok (.iconst 0, 1) := by decide +kernel
theorem dL_law_1039 : decode cL_law 1039 = .ok (.ireturn, 1) := by decide +kernel
theorem dL_law_1040 : decode cL_law 1040 = .ok (.iload 5, 2) := by decide +kernel
theorem dL_law_1042 : decode cL_law 1042 = .ok (.ifCond .ne 15, 3) := by decide +kernel
theorem dL_law_1045 : decode cL_law 1045 = .ok (.aload_n 3, 1) := by decide +kernel
theorem dL_law_1046 : decode cL_law 1046 = .ok (.iconst 0, 1) := by decide +kernel
theorem dL_law_1047 : decode cL_law 1047 = .ok (.laload, 1) := by decide +kernel
theorem dL_law_1048 : decode cL_law 1048 = .ok (.iload 6, 2) := by decide +kernel
theorem dL_law_1050 : decode cL_law 1050 = .ok (.i2l, 1) := by decide +kernel
theorem dL_law_1051 : decode cL_law 1051 = .ok (.lcmp, 1) := by decide +kernel
theorem dL_law_1052 : decode cL_law 1052 = .ok (.ifCond .eq 5, 3) := by decide +kernel
theorem dL_law_1055 : decode cL_law 1055 = .ok (.iconst 0, 1) := by decide +kernel
theorem dL_law_1056 : decode cL_law 1056 = .ok (.ireturn, 1) := by decide +kernel
theorem dL_law_1057 : decode cL_law 1057 = .ok (.goto 854, 3) := by decide +kernel
theorem dL_law_1060 : decode cL_law 1060 = .ok (.aload_n 1, 1) := by decide +kernel
theorem dL_law_1061 : decode cL_law 1061 = .ok (.aload_n 0, 1) := by decide +kernel
theorem dL_law_1062 : decode cL_law 1062 = .ok (.iload 4, 2) := by decide +kernel
theorem dL_law_1064 : decode cL_law 1064 = .ok (.iconst 1, 1) := by decide +kernel
theorem dL_law_1065 : decode cL_law 1065 = .ok (.iadd, 1) := by decide +kernel
theorem dL_law_1066 : decode cL_law 1066 = .ok (.iaload, 1) := by decide +kernel
theorem dL_law_1067 : decode cL_law 1067 = .ok (.aload_n 3, 1) := by decide +kernel
theorem dL_law_1068 : decode cL_law 1068 = .ok (.invokestatic 137, 3) := by decide +kernel
theorem dL_law_1071 : decode cL_law 1071 = .ok (.istore 5, 2) := by decide +kernel
theorem dL_law_1073 : decode cL_law 1073 = .ok (.aload_n 2, 1) := by decide +kernel
theorem dL_law_1074 : decode cL_law 1074 = .ok (.aload_n 0, 1) := by decide +kernel
theorem dL_law_1075 : decode cL_law 1075 = .ok (.iload 4, 2) := by decide +kernel
theorem dL_law_1077 : decode cL_law 1077 = .ok (.iconst 1, 1) := by decide +kernel
theorem dL_law_1078 : decode cL_law 1078 = .ok (.iadd, 1) := by decide +kernel
theorem dL_law_1079 : decode cL_law 1079 = .ok (.iaload, 1) := by decide +kernel
theorem dL_law_1080 : decode cL_law 1080 = .ok (.invokevirtual 140, 3) := by decide +kernel
theorem dL_law_1083 : decode cL_law 1083 = .ok (.istore 6, 2) := by decide +kernel
theorem dL_law_1085 : decode cL_law 1085 = .ok (.aload_n 2, 1) := by decide +kernel
theorem dL_law_1086 : decode cL_law 1086 = .ok (.invokevirtual 101, 3) := by decide +kernel
theorem dL_law_1089 : decode cL_law 1089 = .ok (.iload 5, 2) := by decide +kernel
theorem dL_law_1091 : decode cL_law 1091 = .ok (.if_icmp .eq 5, 3) := by decide +kernel
theorem dL_law_1094 : decode cL_law 1094 = .ok (.iconst 0, 1) := by decide +kernel
theorem dL_law_1095 : decode cL_law 1095 = .ok (.ireturn, 1) := by decide +kernel
theorem dL_law_1096 : decode cL_law 1096 = .ok (.iload 5, 2) := by decide +kernel
theorem dL_law_1098 : decode cL_law 1098 = .ok (.ifCond .ne 15, 3) := by decide +kernel
theorem dL_law_1101 : decode cL_law 1101 = .ok (.aload_n 3, 1) := by decide +kernel
theorem dL_law_1102 : decode cL_law 1102 = .ok (.iconst 0, 1) := by decide +kernel
theorem dL_law_1103 : decode cL_law 1103 = .ok (.laload, 1) := by decide +kernel
theorem dL_law_1104 : decode cL_law 1104 = .ok (.iload 6, 2) := by decide +kernel
theorem dL_law_1106 : decode cL_law 1106 = .ok (.i2l, 1) := by decide +kernel
theorem dL_law_1107 : decode cL_law 1107 = .ok (.lcmp, 1) := by decide +kernel
theorem dL_law_1108 : decode cL_law 1108 = .ok (.ifCond .eq 5, 3) := by decide +kernel
theorem dL_law_1111 : decode cL_law 1111 = .ok (.iconst 0, 1) := by decide +kernel
theorem dL_law_1112 : decode cL_law 1112 = .ok (.ireturn, 1) := by decide +kernel
theorem dL_law_1113 : decode cL_law 1113 = .ok (.goto 798, 3) := by decide +kernel
theorem dL_law_1116 : decode cL_law 1116 = .ok (.aload_n 1, 1) := by decide +kernel
theorem dL_law_1117 : decode cL_law 1117 = .ok (.invokevirtual 141, 3) := by decide +kernel
theorem dL_law_1120 : decode cL_law 1120 = .ok (.aload_n 2, 1) := by decide +kernel
theorem dL_law_1121 : decode cL_law 1121 = .ok (.invokevirtual 144, 3) := by decide +kernel
theorem dL_law_1124 : decode cL_law 1124 = .ok (.if_icmp .eq 787, 3) := by decide +kernel
theorem dL_law_1127 : decode cL_law 1127 = .ok (.iconst 0, 1) := by decide +kernel
theorem dL_law_1128 : decode cL_law 1128 = .ok (.ireturn, 1) := by decide +kernel
theorem dL_law_1129 : decode cL_law 1129 = .ok (.aload_n 1, 1) := by decide +kernel
theorem dL_law_1130 : decode cL_law 1130 = .ok (.aload_n 0, 1) := by decide +kernel
theorem dL_law_1131 : decode cL_law 1131 = .ok (.iload 4, 2) := by decide +kernel
theorem dL_law_1133 : decode cL_law 1133 = .ok (.iconst 1, 1) := by decide +kernel
theorem dL_law_1134 : decode cL_law 1134 = .ok (.iadd, 1) := by decide +kernel
theorem dL_law_1135 : decode cL_law 1135 = .ok (.iaload, 1) := by decide +kernel
theorem dL_law_1136 : decode cL_law 1136 = .ok (.aload_n 0, 1) := by decide +kernel
theorem dL_law_1137 : decode cL_law 1137 = .ok (.iload 4, 2) := by decide +kernel
theorem dL_law_1139 : decode cL_law 1139 = .ok (.iconst 2, 1) := by decide +kernel
theorem dL_law_1140 : decode cL_law 1140 = .ok (.iadd, 1) := by decide +kernel
theorem dL_law_1141 : decode cL_law 1141 = .ok (.iaload, 1) := by decide +kernel
theorem dL_law_1142 : decode cL_law 1142 = .ok (.aload_n 0, 1) := by decide +kernel
theorem dL_law_1143 : decode cL_law 1143 = .ok (.iload 4, 2) := by decide +kernel
theorem dL_law_1145 : decode cL_law 1145 = .ok (.iconst 3, 1) := by decide +kernel
theorem dL_law_1146 : decode cL_law 1146 = .ok (.iadd, 1) := by decide +kernel
theorem dL_law_1147 : decode cL_law 1147 = .ok (.iaload, 1) := by decide +kernel
theorem dL_law_1148 : decode cL_law 1148 = .ok (.aload_n 3, 1) := by decide +kernel
theorem dL_law_1149 : decode cL_law 1149 = .ok (.invokestatic 145, 3) := by decide +kernel
theorem dL_law_1152 : decode cL_law 1152 = .ok (.istore 5, 2) := by decide +kernel
theorem dL_law_1154 : decode cL_law 1154 = .ok (.aload_n 2, 1) := by decide +kernel
theorem dL_law_1155 : decode cL_law 1155 = .ok (.aload_n 0, 1) := by decide +kernel
theorem dL_law_1156 : decode cL_law 1156 = .ok (.iload 4, 2) := by decide +kernel
theorem dL_law_1158 : decode cL_law 1158 = .ok (.iconst 1, 1) := by decide +kernel
theorem dL_law_1159 : decode cL_law 1159 = .ok (.iadd, 1) := by decide +kernel
theorem dL_law_1160 : decode cL_law 1160 = .ok (.iaload, 1) := by decide +kernel
theorem dL_law_1161 : decode cL_law 1161 = .ok (.aload_n 0, 1) := by decide +kernel
theorem dL_law_1162 : decode cL_law 1162 = .ok (.iload 4, 2) := by decide +kernel
theorem dL_law_1164 : decode cL_law 1164 = .ok (.iconst 2, 1) := by decide +kernel
theorem dL_law_1165 : decode cL_law 1165 = .ok (.iadd, 1) := by decide +kernel
theorem dL_law_1166 : decode cL_law 1166 = .ok (.iaload, 1) := by decide +kernel
theorem dL_law_1167 : decode cL_law 1167 = .ok (.aload_n 0, 1) := by decide +kernel
theorem dL_law_1168 : decode cL_law 1168 = .ok (.iload 4, 2) := by decide +kernel
theorem dL_law_1170 : decode cL_law 1170 = .ok (.iconst 3, 1) := by decide +kernel
theorem dL_law_1171 : decode cL_law 1171 = .ok (.iadd, 1) := by decide +kernel
theorem dL_law_1172 : decode cL_law 1172 = .ok (.iaload, 1) := by decide +kernel
theorem dL_law_1173 : decode cL_law 1173 = .ok (.invokevirtual 148, 3) := by decide +kernel
theorem dL_law_1176 : decode cL_law 1176 = .ok (.istore 6, 2) := by decide +kernel
theorem dL_law_1178 : decode cL_law 1178 = .ok (.aload_n 2, 1) := by decide +kernel
theorem dL_law_1179 : decode cL_law 1179 = .ok (.invokevirtual 101, 3) := by decide +kernel
theorem dL_law_1182 : decode cL_law 1182 = .ok (.iload 5, 2) := by decide +kernel
theorem dL_law_1184 : decode cL_law 1184 = .ok (.if_icmp .eq 5, 3) := by decide +kernel
theorem dL_law_1187 : decode cL_law 1187 = .ok (.iconst 0, 1) := by decide +kernel
theorem dL_law_1188 : decode cL_law 1188 = .ok (.ireturn, 1) := by decide +kernel
theorem dL_law_1189 : decode cL_law 1189 = .ok (.iload 5, 2) := by decide +kernel
theorem dL_law_1191 : decode cL_law 1191 = .ok (.ifCond .ne 15, 3) := by decide +kernel
theorem dL_law_1194 : decode cL_law 1194 = .ok (.aload_n 3, 1) := by decide +kernel
theorem dL_law_1195 : decode cL_law 1195 = .ok (.iconst 0, 1) := by decide +kernel
theorem dL_law_1196 : decode cL_law 1196 = .ok (.laload, 1) := by decide +kernel
theorem dL_law_1197 : decode cL_law 1197 = .ok (.iload 6, 2) := by decide +kernel
theorem dL_law_1199 : decode cL_law 1199 = .ok (.i2l, 1) := by decide +kernel
theorem dL_law_1200 : decode cL_law 1200 = .ok (.lcmp, 1) := by decide +kernel
theorem dL_law_1201 : decode cL_law 1201 = .ok (.ifCond .eq 5, 3) := by decide +kernel
theorem dL_law_1204 : decode cL_law 1204 = .ok (.iconst 0, 1) := by decide +kernel
theorem dL_law_1205 : decode cL_law 1205 = .ok (.ireturn, 1) := by decide +kernel
theorem dL_law_1206 : decode cL_law 1206 = .ok (.goto 705, 3) := by decide +kernel
theorem dL_law_1209 : decode cL_law 1209 = .ok (.aload_n 1, 1) := by decide +kernel
theorem dL_law_1210 : decode cL_law 1210 = .ok (.aload_n 0, 1) := by decide +kernel
theorem dL_law_1211 : decode cL_law 1211 = .ok (.iload 4, 2) := by decide +kernel
theorem dL_law_1213 : decode cL_law 1213 = .ok (.iconst 1, 1) := by decide +kernel
theorem dL_law_1214 : decode cL_law 1214 = .ok (.iadd, 1) := by decide +kernel
theorem dL_law_1215 : decode cL_law 1215 = .ok (.iaload, 1) := by decide +kernel
theorem dL_law_1216 : decode cL_law 1216 = .ok (.aload_n 0, 1) := by decide +kernel
theorem dL_law_1217 : decode cL_law 1217 = .ok (.iload 4, 2) := by decide +kernel
theorem dL_law_1219 : decode cL_law 1219 = .ok (.iconst 2, 1) := by decide +kernel
theorem dL_law_1220 : decode cL_law 1220 = .ok (.iadd, 1) := by decide +kernel
theorem dL_law_1221 : decode cL_law 1221 = .ok (.iaload, 1) := by decide +kernel
theorem dL_law_1222 : decode cL_law 1222 = .ok (.aload_n 3, 1) := by decide +kernel
theorem dL_law_1223 : decode cL_law 1223 = .ok (.invokestatic 149, 3) := by decide +kernel
theorem dL_law_1226 : decode cL_law 1226 = .ok (.istore 5, 2) := by decide +kernel
theorem dL_law_1228 : decode cL_law 1228 = .ok (.aload_n 2, 1) := by decide +kernel
theorem dL_law_1229 : decode cL_law 1229 = .ok (.aload_n 0, 1) := by decide +kernel
theorem dL_law_1230 : decode cL_law 1230 = .ok (.iload 4, 2) := by decide +kernel
theorem dL_law_1232 : decode cL_law 1232 = .ok (.iconst 1, 1) := by decide +kernel
theorem dL_law_1233 : decode cL_law 1233 = .ok (.iadd, 1) := by decide +kernel
theorem dL_law_1234 : decode cL_law 1234 = .ok (.iaload, 1) := by decide +kernel
theorem dL_law_1235 : decode cL_law 1235 = .ok (.aload_n 0, 1) := by decide +kernel
theorem dL_law_1236 : decode cL_law 1236 = .ok (.iload 4, 2) := by decide +kernel
theorem dL_law_1238 : decode cL_law 1238 = .ok (.iconst 2, 1) := by decide +kernel
theorem dL_law_1239 : decode cL_law 1239 = .ok (.iadd, 1) := by decide +kernel
theorem dL_law_1240 : decode cL_law 1240 = .ok (.iaload, 1) := by decide +kernel
theorem dL_law_1241 : decode cL_law 1241 = .ok (.invokevirtual 151, 3) := by decide +kernel
theorem dL_law_1244 : decode cL_law 1244 = .ok (.istore 6, 2) := by decide +kernel
theorem dL_law_1246 : decode cL_law 1246 = .ok (.aload_n 2, 1) := by decide +kernel
theorem dL_law_1247 : decode cL_law 1247 = .ok (.invokevirtual 101, 3) := by decide +kernel
theorem dL_law_1250 : decode cL_law 1250 = .ok (.iload 5, 2) := by decide +kernel
theorem dL_law_1252 : decode cL_law 1252 = .ok (.if_icmp .eq 5, 3) := by decide +kernel
theorem dL_law_1255 : decode cL_law 1255 = .ok (.iconst 0, 1) := by decide +kernel
theorem dL_law_1256 : decode cL_law 1256 = .ok (.ireturn, 1) := by decide +kernel
theorem dL_law_1257 : decode cL_law 1257 = .ok (.iload 5, 2) := by decide +kernel
theorem dL_law_1259 : decode cL_law 1259 = .ok (.ifCond .ne 15, 3) := by decide +kernel
theorem dL_law_1262 : decode cL_law 1262 = .ok (.aload_n 3, 1) := by decide +kernel
theorem dL_law_1263 : decode cL_law 1263 = .ok (.iconst 0, 1) := by decide +kernel
theorem dL_law_1264 : decode cL_law 1264 = .ok (.laload, 1) := by decide +kernel
theorem dL_law_1265 : decode cL_law 1265 = .ok (.iload 6, 2) := by decide +kernel
theorem dL_law_1267 : decode cL_law 1267 = .ok (.i2l, 1) := by decide +kernel
theorem dL_law_1268 : decode cL_law 1268 = .ok (.lcmp, 1) := by decide +kernel
theorem dL_law_1269 : decode cL_law 1269 = .ok (.ifCond .eq 5, 3) := by decide +kernel
theorem dL_law_1272 : decode cL_law 1272 = .ok (.iconst 0, 1) := by decide +kernel
theorem dL_law_1273 : decode cL_law 1273 = .ok (.ireturn, 1) := by decide +kernel
theorem dL_law_1274 : decode cL_law 1274 = .ok (.goto 637, 3) := by decide +kernel
theorem dL_law_1277 : decode cL_law 1277 = .ok (.aload_n 1, 1) := by decide +kernel
theorem dL_law_1278 : decode cL_law 1278 = .ok (.aload_n 0, 1) := by decide +kernel
theorem dL_law_1279 : decode cL_law 1279 = .ok (.iload 4, 2) := by decide +kernel
theorem dL_law_1281 : decode cL_law 1281 = .ok (.iconst 1, 1) := by decide +kernel
theorem dL_law_1282 : decode cL_law 1282 = .ok (.iadd, 1) := by decide +kernel
theorem dL_law_1283 : decode cL_law 1283 = .ok (.iaload, 1) := by decide +kernel
theorem dL_law_1284 : decode cL_law 1284 = .ok (.aload_n 0, 1) := by decide +kernel
theorem dL_law_1285 : decode cL_law 1285 = .ok (.iload 4, 2) := by decide +kernel
theorem dL_law_1287 : decode cL_law 1287 = .ok (.iconst 2, 1) := by decide +kernel
theorem dL_law_1288 : decode cL_law 1288 = .ok (.iadd, 1) := by decide +kernel
theorem dL_law_1289 : decode cL_law 1289 = .ok (.iaload, 1) := by decide +kernel
theorem dL_law_1290 : decode cL_law 1290 = .ok (.aload_n 0, 1) := by decide +kernel
theorem dL_law_1291 : decode cL_law 1291 = .ok (.iload 4, 2) := by decide +kernel
theorem dL_law_1293 : decode cL_law 1293 = .ok (.iconst 3, 1) := by decide +kernel
theorem dL_law_1294 : decode cL_law 1294 = .ok (.iadd, 1) := by decide +kernel
theorem dL_law_1295 : decode cL_law 1295 = .ok (.iaload, 1) := by decide +kernel
theorem dL_law_1296 : decode cL_law 1296 = .ok (.aload_n 3, 1) := by decide +kernel
theorem dL_law_1297 : decode cL_law 1297 = .ok (.invokestatic 152, 3) := by decide +kernel
theorem dL_law_1300 : decode cL_law 1300 = .ok (.istore 5, 2) := by decide +kernel
theorem dL_law_1302 : decode cL_law 1302 = .ok (.aload_n 2, 1) := by decide +kernel
theorem dL_law_1303 : decode cL_law 1303 = .ok (.aload_n 0, 1) := by decide +kernel
theorem dL_law_1304 : decode cL_law 1304 = .ok (.iload 4, 2) := by decide +kernel
theorem dL_law_1306 : decode cL_law 1306 = .ok (.iconst 1, 1) := by decide +kernel
theorem dL_law_1307 : decode cL_law 1307 = .ok (.iadd, 1) := by decide +kernel
theorem dL_law_1308 : decode cL_law 1308 = .ok (.iaload, 1) := by decide +kernel
theorem dL_law_1309 : decode cL_law 1309 = .ok (.aload_n 0, 1) := by decide +kernel
theorem dL_law_1310 : decode cL_law 1310 = .ok (.iload 4, 2) := by decide +kernel
theorem dL_law_1312 : decode cL_law 1312 = .ok (.iconst 2, 1) := by decide +kernel
theorem dL_law_1313 : decode cL_law 1313 = .ok (.iadd, 1) := by decide +kernel
theorem dL_law_1314 : decode cL_law 1314 = .ok (.iaload, 1) := by decide +kernel
theorem dL_law_1315 : decode cL_law 1315 = .ok (.aload_n 0, 1) := by decide +kernel
theorem dL_law_1316 : decode cL_law 1316 = .ok (.iload 4, 2) := by decide +kernel
theorem dL_law_1318 : decode cL_law 1318 = .ok (.iconst 3, 1) := by decide +kernel
theorem dL_law_1319 : decode cL_law 1319 = .ok (.iadd, 1) := by decide +kernel
theorem dL_law_1320 : decode cL_law 1320 = .ok (.iaload, 1) := by decide +kernel
theorem dL_law_1321 : decode cL_law 1321 = .ok (.invokevirtual 154, 3) := by decide +kernel
theorem dL_law_1324 : decode cL_law 1324 = .ok (.lstore 6, 2) := by decide +kernel
theorem dL_law_1326 : decode cL_law 1326 = .ok (.aload_n 2, 1) := by decide +kernel
theorem dL_law_1327 : decode cL_law 1327 = .ok (.invokevirtual 101, 3) := by decide +kernel
theorem dL_law_1330 : decode cL_law 1330 = .ok (.iload 5, 2) := by decide +kernel
theorem dL_law_1332 : decode cL_law 1332 = .ok (.if_icmp .eq 5, 3) := by decide +kernel
theorem dL_law_1335 : decode cL_law 1335 = .ok (.iconst 0, 1) := by decide +kernel
theorem dL_law_1336 : decode cL_law 1336 = .ok (.ireturn, 1) := by decide +kernel
theorem dL_law_1337 : decode cL_law 1337 = .ok (.iload 5, 2) := by decide +kernel
theorem dL_law_1339 : decode cL_law 1339 = .ok (.ifCond .ne 14, 3) := by decide +kernel
theorem dL_law_1342 : decode cL_law 1342 = .ok (.aload_n 3, 1) := by decide +kernel
theorem dL_law_1343 : decode cL_law 1343 = .ok (.iconst 0, 1) := by decide +kernel
theorem dL_law_1344 : decode cL_law 1344 = .ok (.laload, 1) := by decide +kernel
theorem dL_law_1345 : decode cL_law 1345 = .ok (.lload 6, 2) := by decide +kernel
theorem dL_law_1347 : decode cL_law 1347 = .ok (.lcmp, 1) := by decide +kernel
theorem dL_law_1348 : decode cL_law 1348 = .ok (.ifCond .eq 5, 3) := by decide +kernel
theorem dL_law_1351 : decode cL_law 1351 = .ok (.iconst 0, 1) := by decide +kernel
theorem dL_law_1352 : decode cL_law 1352 = .ok (.ireturn, 1) := by decide +kernel
theorem dL_law_1353 : decode cL_law 1353 = .ok (.goto 558, 3) := by decide +kernel
theorem dL_law_1356 : decode cL_law 1356 = .ok (.aload_n 1, 1) := by decide +kernel
theorem dL_law_1357 : decode cL_law 1357 = .ok (.aload_n 0, 1) := by decide +kernel
theorem dL_law_1358 : decode cL_law 1358 = .ok (.iload 4, 2) := by decide +kernel
theorem dL_law_1360 : decode cL_law 1360 = .ok (.iconst 1, 1) := by decide +kernel
theorem dL_law_1361 : decode cL_law 1361 = .ok (.iadd, 1) := by decide +kernel
theorem dL_law_1362 : decode cL_law 1362 = .ok (.iaload, 1) := by decide +kernel
theorem dL_law_1363 : decode cL_law 1363 = .ok (.aload_n 0, 1) := by decide +kernel
theorem dL_law_1364 : decode cL_law 1364 = .ok (.iload 4, 2) := by decide +kernel
theorem dL_law_1366 : decode cL_law 1366 = .ok (.iconst 2, 1) := by decide +kernel
theorem dL_law_1367 : decode cL_law 1367 = .ok (.iadd, 1) := by decide +kernel
theorem dL_law_1368 : decode cL_law 1368 = .ok (.iaload, 1) := by decide +kernel
theorem dL_law_1369 : decode cL_law 1369 = .ok (.aload_n 3, 1) := by decide +kernel
theorem dL_law_1370 : decode cL_law 1370 = .ok (.invokestatic 155, 3) := by decide +kernel
theorem dL_law_1373 : decode cL_law 1373 = .ok (.istore 5, 2) := by decide +kernel
theorem dL_law_1375 : decode cL_law 1375 = .ok (.aload_n 2, 1) := by decide +kernel
theorem dL_law_1376 : decode cL_law 1376 = .ok (.aload_n 0, 1) := by decide +kernel
theorem dL_law_1377 : decode cL_law 1377 = .ok (.iload 4, 2) := by decide +kernel
theorem dL_law_1379 : decode cL_law 1379 = .ok (.iconst 1, 1) := by decide +kernel
theorem dL_law_1380 : decode cL_law 1380 = .ok (.iadd, 1) := by decide +kernel
theorem dL_law_1381 : decode cL_law 1381 = .ok (.iaload, 1) := by decide +kernel
theorem dL_law_1382 : decode cL_law 1382 = .ok (.aload_n 0, 1) := by decide +kernel
theorem dL_law_1383 : decode cL_law 1383 = .ok (.iload 4, 2) := by decide +kernel
theorem dL_law_1385 : decode cL_law 1385 = .ok (.iconst 2, 1) := by decide +kernel
theorem dL_law_1386 : decode cL_law 1386 = .ok (.iadd, 1) := by decide +kernel
theorem dL_law_1387 : decode cL_law 1387 = .ok (.iaload, 1) := by decide +kernel
theorem dL_law_1388 : decode cL_law 1388 = .ok (.invokevirtual 157, 3) := by decide +kernel
theorem dL_law_1391 : decode cL_law 1391 = .ok (.lstore 6, 2) := by decide +kernel
theorem dL_law_1393 : decode cL_law 1393 = .ok (.aload_n 2, 1) := by decide +kernel
theorem dL_law_1394 : decode cL_law 1394 = .ok (.invokevirtual 101, 3) := by decide +kernel
theorem dL_law_1397 : decode cL_law 1397 = .ok (.iload 5, 2) := by decide +kernel
theorem dL_law_1399 : decode cL_law 1399 = .ok (.if_icmp .eq 5, 3) := by decide +kernel
theorem dL_law_1402 : decode cL_law 1402 = .ok (.iconst 0, 1) := by decide +kernel
theorem dL_law_1403 : decode cL_law 1403 = .ok (.ireturn, 1) := by decide +kernel
theorem dL_law_1404 : decode cL_law 1404 = .ok (.iload 5, 2) := by decide +kernel
theorem dL_law_1406 : decode cL_law 1406 = .ok (.ifCond .ne 14, 3) := by decide +kernel
theorem dL_law_1409 : decode cL_law 1409 = .ok (.aload_n 3, 1) := by decide +kernel
theorem dL_law_1410 : decode cL_law 1410 = .ok (.iconst 0, 1) := by decide +kernel
theorem dL_law_1411 : decode cL_law 1411 = .ok (.laload, 1) := by decide +kernel
theorem dL_law_1412 : decode cL_law 1412 = .ok (.lload 6, 2) := by decide +kernel
theorem dL_law_1414 : decode cL_law 1414 = .ok (.lcmp, 1) := by decide +kernel
theorem dL_law_1415 : decode cL_law 1415 = .ok (.ifCond .eq 5, 3) := by decide +kernel
theorem dL_law_1418 : decode cL_law 1418 = .ok (.iconst 0, 1) := by decide +kernel
theorem dL_law_1419 : decode cL_law 1419 = .ok (.ireturn, 1) := by decide +kernel
theorem dL_law_1420 : decode cL_law 1420 = .ok (.goto 491, 3) := by decide +kernel
theorem dL_law_1423 : decode cL_law 1423 = .ok (.aload_n 1, 1) := by decide +kernel
theorem dL_law_1424 : decode cL_law 1424 = .ok (.aload_n 0, 1) := by decide +kernel
theorem dL_law_1425 : decode cL_law 1425 = .ok (.iload 4, 2) := by decide +kernel
theorem dL_law_1427 : decode cL_law 1427 = .ok (.iconst 1, 1) := by decide +kernel
theorem dL_law_1428 : decode cL_law 1428 = .ok (.iadd, 1) := by decide +kernel
theorem dL_law_1429 : decode cL_law 1429 = .ok (.iaload, 1) := by decide +kernel
theorem dL_law_1430 : decode cL_law 1430 = .ok (.aload_n 3, 1) := by decide +kernel
theorem dL_law_1431 : decode cL_law 1431 = .ok (.invokestatic 158, 3) := by decide +kernel
theorem dL_law_1434 : decode cL_law 1434 = .ok (.istore 5, 2) := by decide +kernel
theorem dL_law_1436 : decode cL_law 1436 = .ok (.aload_n 2, 1) := by decide +kernel
theorem dL_law_1437 : decode cL_law 1437 = .ok (.aload_n 0, 1) := by decide +kernel
theorem dL_law_1438 : decode cL_law 1438 = .ok (.iload 4, 2) := by decide +kernel
theorem dL_law_1440 : decode cL_law 1440 = .ok (.iconst 1, 1) := by decide +kernel
theorem dL_law_1441 : decode cL_law 1441 = .ok (.iadd, 1) := by decide +kernel
theorem dL_law_1442 : decode cL_law 1442 = .ok (.iaload, 1) := by decide +kernel
theorem dL_law_1443 : decode cL_law 1443 = .ok (.invokevirtual 160, 3) := by decide +kernel
theorem dL_law_1446 : decode cL_law 1446 = .ok (.istore 6, 2) := by decide +kernel
theorem dL_law_1448 : decode cL_law 1448 = .ok (.aload_n 2, 1) := by decide +kernel
theorem dL_law_1449 : decode cL_law 1449 = .ok (.invokevirtual 101, 3) := by decide +kernel
theorem dL_law_1452 : decode cL_law 1452 = .ok (.iload 5, 2) := by decide +kernel
theorem dL_law_1454 : decode cL_law 1454 = .ok (.if_icmp .eq 5, 3) := by decide +kernel
theorem dL_law_1457 : decode cL_law 1457 = .ok (.iconst 0, 1) := by decide +kernel
theorem dL_law_1458 : decode cL_law 1458 = .ok (.ireturn, 1) := by decide +kernel
theorem dL_law_1459 : decode cL_law 1459 = .ok (.iload 5, 2) := by decide +kernel
theorem dL_law_1461 : decode cL_law 1461 = .ok (.ifCond .ne 15, 3) := by decide +kernel
theorem dL_law_1464 : decode cL_law 1464 = .ok (.aload_n 3, 1) := by decide +kernel
theorem dL_law_1465 : decode cL_law 1465 = .ok (.iconst 0, 1) := by decide +kernel
theorem dL_law_1466 : decode cL_law 1466 = .ok (.laload, 1) := by decide +kernel
theorem dL_law_1467 : decode cL_law 1467 = .ok (.iload 6, 2) := by decide +kernel
theorem dL_law_1469 : decode cL_law 1469 = .ok (.i2l, 1) := by decide +kernel
theorem dL_law_1470 : decode cL_law 1470 = .ok (.lcmp, 1) := by decide +kernel
theorem dL_law_1471 : decode cL_law 1471 = .ok (.ifCond .eq 5, 3) := by decide +kernel
theorem dL_law_1474 : decode cL_law 1474 = .ok (.iconst 0, 1) := by decide +kernel
theorem dL_law_1475 : decode cL_law 1475 = .ok (.ireturn, 1) := by decide +kernel
theorem dL_law_1476 : decode cL_law 1476 = .ok (.goto 435, 3) := by decide +kernel
theorem dL_law_1479 : decode cL_law 1479 = .ok (.aload_n 1, 1) := by decide +kernel
theorem dL_law_1480 : decode cL_law 1480 = .ok (.aload_n 0, 1) := by decide +kernel
theorem dL_law_1481 : decode cL_law 1481 = .ok (.iload 4, 2) := by decide +kernel
theorem dL_law_1483 : decode cL_law 1483 = .ok (.iconst 1, 1) := by decide +kernel
theorem dL_law_1484 : decode cL_law 1484 = .ok (.iadd, 1) := by decide +kernel
theorem dL_law_1485 : decode cL_law 1485 = .ok (.iaload, 1) := by decide +kernel
theorem dL_law_1486 : decode cL_law 1486 = .ok (.aload_n 0, 1) := by decide +kernel
theorem dL_law_1487 : decode cL_law 1487 = .ok (.iload 4, 2) := by decide +kernel
theorem dL_law_1489 : decode cL_law 1489 = .ok (.iconst 2, 1) := by decide +kernel
theorem dL_law_1490 : decode cL_law 1490 = .ok (.iadd, 1) := by decide +kernel
theorem dL_law_1491 : decode cL_law 1491 = .ok (.iaload, 1) := by decide +kernel
theorem dL_law_1492 : decode cL_law 1492 = .ok (.aload_n 3, 1) := by decide +kernel
theorem dL_law_1493 : decode cL_law 1493 = .ok (.invokestatic 161, 3) := by decide +kernel
theorem dL_law_1496 : decode cL_law 1496 = .ok (.istore 5, 2) := by decide +kernel
theorem dL_law_1498 : decode cL_law 1498 = .ok (.aload_n 2, 1) := by decide +kernel
theorem dL_law_1499 : decode cL_law 1499 = .ok (.aload_n 0, 1) := by decide +kernel
theorem dL_law_1500 : decode cL_law 1500 = .ok (.iload 4, 2) := by decide +kernel
theorem dL_law_1502 : decode cL_law 1502 = .ok (.iconst 1, 1) := by decide +kernel
theorem dL_law_1503 : decode cL_law 1503 = .ok (.iadd, 1) := by decide +kernel
theorem dL_law_1504 : decode cL_law 1504 = .ok (.iaload, 1) := by decide +kernel
theorem dL_law_1505 : decode cL_law 1505 = .ok (.aload_n 0, 1) := by decide +kernel
theorem dL_law_1506 : decode cL_law 1506 = .ok (.iload 4, 2) := by decide +kernel
theorem dL_law_1508 : decode cL_law 1508 = .ok (.iconst 2, 1) := by decide +kernel
theorem dL_law_1509 : decode cL_law 1509 = .ok (.iadd, 1) := by decide +kernel
theorem dL_law_1510 : decode cL_law 1510 = .ok (.iaload, 1) := by decide +kernel
theorem dL_law_1511 : decode cL_law 1511 = .ok (.invokevirtual 163, 3) := by decide +kernel
theorem dL_law_1514 : decode cL_law 1514 = .ok (.istore 6, 2) := by decide +kernel
theorem dL_law_1516 : decode cL_law 1516 = .ok (.aload_n 2, 1) := by decide +kernel
theorem dL_law_1517 : decode cL_law 1517 = .ok (.invokevirtual 101, 3) := by decide +kernel
theorem dL_law_1520 : decode cL_law 1520 = .ok (.iload 5, 2) := by decide +kernel
theorem dL_law_1522 : decode cL_law 1522 = .ok (.if_icmp .eq 5, 3) := by decide +kernel
theorem dL_law_1525 : decode cL_law 1525 = .ok (.iconst 0, 1) := by decide +kernel
theorem dL_law_1526 : decode cL_law 1526 = .ok (.ireturn, 1) := by decide +kernel
theorem dL_law_1527 : decode cL_law 1527 = .ok (.iload 5, 2) := by decide +kernel
theorem dL_law_1529 : decode cL_law 1529 = .ok (.ifCond .ne 15, 3) := by decide +kernel
theorem dL_law_1532 : decode cL_law 1532 = .ok (.aload_n 3, 1) := by decide +kernel
theorem dL_law_1533 : decode cL_law 1533 = .ok (.iconst 0, 1) := by decide +kernel
theorem dL_law_1534 : decode cL_law 1534 = .ok (.laload, 1) := by decide +kernel
theorem dL_law_1535 : decode cL_law 1535 = .ok (.iload 6, 2) := by decide +kernel
theorem dL_law_1537 : decode cL_law 1537 = .ok (.i2l, 1) := by decide +kernel
theorem dL_law_1538 : decode cL_law 1538 = .ok (.lcmp, 1) := by decide +kernel
theorem dL_law_1539 : decode cL_law 1539 = .ok (.ifCond .eq 5, 3) := by decide +kernel
theorem dL_law_1542 : decode cL_law 1542 = .ok (.iconst 0, 1) := by decide +kernel
theorem dL_law_1543 : decode cL_law 1543 = .ok (.ireturn, 1) := by decide +kernel
theorem dL_law_1544 : decode cL_law 1544 = .ok (.goto 367, 3) := by decide +kernel
theorem dL_law_1547 : decode cL_law 1547 = .ok (.aload_n 1, 1) := by decide +kernel
theorem dL_law_1548 : decode cL_law 1548 = .ok (.aload_n 0, 1) := by decide +kernel
theorem dL_law_1549 : decode cL_law 1549 = .ok (.iload 4, 2) := by decide +kernel
theorem dL_law_1551 : decode cL_law 1551 = .ok (.iconst 1, 1) := by decide +kernel
theorem dL_law_1552 : decode cL_law 1552 = .ok (.iadd, 1) := by decide +kernel
theorem dL_law_1553 : decode cL_law 1553 = .ok (.iaload, 1) := by decide +kernel
theorem dL_law_1554 : decode cL_law 1554 = .ok (.aload_n 0, 1) := by decide +kernel
theorem dL_law_1555 : decode cL_law 1555 = .ok (.iload 4, 2) := by decide +kernel
theorem dL_law_1557 : decode cL_law 1557 = .ok (.iconst 2, 1) := by decide +kernel
theorem dL_law_1558 : decode cL_law 1558 = .ok (.iadd, 1) := by decide +kernel
theorem dL_law_1559 : decode cL_law 1559 = .ok (.iaload, 1) := by decide +kernel
theorem dL_law_1560 : decode cL_law 1560 = .ok (.aload_n 0, 1) := by decide +kernel
theorem dL_law_1561 : decode cL_law 1561 = .ok (.iload 4, 2) := by decide +kernel
theorem dL_law_1563 : decode cL_law 1563 = .ok (.iconst 3, 1) := by decide +kernel
theorem dL_law_1564 : decode cL_law 1564 = .ok (.iadd, 1) := by decide +kernel
theorem dL_law_1565 : decode cL_law 1565 = .ok (.iaload, 1) := by decide +kernel
theorem dL_law_1566 : decode cL_law 1566 = .ok (.aload_n 3, 1) := by decide +kernel
theorem dL_law_1567 : decode cL_law 1567 = .ok (.invokestatic 164, 3) := by decide +kernel
theorem dL_law_1570 : decode cL_law 1570 = .ok (.istore 5, 2) := by decide +kernel
theorem dL_law_1572 : decode cL_law 1572 = .ok (.aload_n 2, 1) := by decide +kernel
theorem dL_law_1573 : decode cL_law 1573 = .ok (.aload_n 0, 1) := by decide +kernel
theorem dL_law_1574 : decode cL_law 1574 = .ok (.iload 4, 2) := by decide +kernel
theorem dL_law_1576 : decode cL_law 1576 = .ok (.iconst 1, 1) := by decide +kernel
theorem dL_law_1577 : decode cL_law 1577 = .ok (.iadd, 1) := by decide +kernel
theorem dL_law_1578 : decode cL_law 1578 = .ok (.iaload, 1) := by decide +kernel
theorem dL_law_1579 : decode cL_law 1579 = .ok (.aload_n 0, 1) := by decide +kernel
theorem dL_law_1580 : decode cL_law 1580 = .ok (.iload 4, 2) := by decide +kernel
theorem dL_law_1582 : decode cL_law 1582 = .ok (.iconst 2, 1) := by decide +kernel
theorem dL_law_1583 : decode cL_law 1583 = .ok (.iadd, 1) := by decide +kernel
theorem dL_law_1584 : decode cL_law 1584 = .ok (.iaload, 1) := by decide +kernel
theorem dL_law_1585 : decode cL_law 1585 = .ok (.aload_n 0, 1) := by decide +kernel
theorem dL_law_1586 : decode cL_law 1586 = .ok (.iload 4, 2) := by decide +kernel
theorem dL_law_1588 : decode cL_law 1588 = .ok (.iconst 3, 1) := by decide +kernel
theorem dL_law_1589 : decode cL_law 1589 = .ok (.iadd, 1) := by decide +kernel
theorem dL_law_1590 : decode cL_law 1590 = .ok (.iaload, 1) := by decide +kernel
theorem dL_law_1591 : decode cL_law 1591 = .ok (.invokevirtual 166, 3) := by decide +kernel
theorem dL_law_1594 : decode cL_law 1594 = .ok (.istore 6, 2) := by decide +kernel
theorem dL_law_1596 : decode cL_law 1596 = .ok (.aload_n 2, 1) := by decide +kernel
theorem dL_law_1597 : decode cL_law 1597 = .ok (.invokevirtual 101, 3) := by decide +kernel
theorem dL_law_1600 : decode cL_law 1600 = .ok (.iload 5, 2) := by decide +kernel
theorem dL_law_1602 : decode cL_law 1602 = .ok (.if_icmp .eq 5, 3) := by decide +kernel
theorem dL_law_1605 : decode cL_law 1605 = .ok (.iconst 0, 1) := by decide +kernel
theorem dL_law_1606 : decode cL_law 1606 = .ok (.ireturn, 1) := by decide +kernel
theorem dL_law_1607 : decode cL_law 1607 = .ok (.iload 5, 2) := by decide +kernel
theorem dL_law_1609 : decode cL_law 1609 = .ok (.ifCond .ne 15, 3) := by decide +kernel
theorem dL_law_1612 : decode cL_law 1612 = .ok (.aload_n 3, 1) := by decide +kernel
theorem dL_law_1613 : decode cL_law 1613 = .ok (.iconst 0, 1) := by decide +kernel
theorem dL_law_1614 : decode cL_law 1614 = .ok (.laload, 1) := by decide +kernel
theorem dL_law_1615 : decode cL_law 1615 = .ok (.iload 6, 2) := by decide +kernel
theorem dL_law_1617 : decode cL_law 1617 = .ok (.i2l, 1) := by decide +kernel
theorem dL_law_1618 : decode cL_law 1618 = .ok (.lcmp, 1) := by decide +kernel
theorem dL_law_1619 : decode cL_law 1619 = .ok (.ifCond .eq 5, 3) := by decide +kernel
theorem dL_law_1622 : decode cL_law 1622 = .ok (.iconst 0, 1) := by decide +kernel
theorem dL_law_1623 : decode cL_law 1623 = .ok (.ireturn, 1) := by decide +kernel
theorem dL_law_1624 : decode cL_law 1624 = .ok (.goto 287, 3) := by decide +kernel
theorem dL_law_1627 : decode cL_law 1627 = .ok (.aload_n 1, 1) := by decide +kernel
theorem dL_law_1628 : decode cL_law 1628 = .ok (.aload_n 0, 1) := by decide +kernel
theorem dL_law_1629 : decode cL_law 1629 = .ok (.iload 4, 2) := by decide +kernel
theorem dL_law_1631 : decode cL_law 1631 = .ok (.iconst 1, 1) := by decide +kernel
theorem dL_law_1632 : decode cL_law 1632 = .ok (.iadd, 1) := by decide +kernel
theorem dL_law_1633 : decode cL_law 1633 = .ok (.iaload, 1) := by decide +kernel
theorem dL_law_1634 : decode cL_law 1634 = .ok (.aload_n 0, 1) := by decide +kernel
theorem dL_law_1635 : decode cL_law 1635 = .ok (.iload 4, 2) := by decide +kernel
theorem dL_law_1637 : decode cL_law 1637 = .ok (.iconst 2, 1) := by decide +kernel
theorem dL_law_1638 : decode cL_law 1638 = .ok (.iadd, 1) := by decide +kernel
theorem dL_law_1639 : decode cL_law 1639 = .ok (.iaload, 1) := by decide +kernel
theorem dL_law_1640 : decode cL_law 1640 = .ok (.aload_n 0, 1) := by decide +kernel
theorem dL_law_1641 : decode cL_law 1641 = .ok (.iload 4, 2) := by decide +kernel
theorem dL_law_1643 : decode cL_law 1643 = .ok (.iconst 3, 1) := by decide +kernel
theorem dL_law_1644 : decode cL_law 1644 = .ok (.iadd, 1) := by decide +kernel
theorem dL_law_1645 : decode cL_law 1645 = .ok (.iaload, 1) := by decide +kernel
theorem dL_law_1646 : decode cL_law 1646 = .ok (.aload_n 3, 1) := by decide +kernel
theorem dL_law_1647 : decode cL_law 1647 = .ok (.invokestatic 167, 3) := by decide +kernel
theorem dL_law_1650 : decode cL_law 1650 = .ok (.istore 5, 2) := by decide +kernel
theorem dL_law_1652 : decode cL_law 1652 = .ok (.aload_n 2, 1) := by decide +kernel
theorem dL_law_1653 : decode cL_law 1653 = .ok (.aload_n 0, 1) := by decide +kernel
theorem dL_law_1654 : decode cL_law 1654 = .ok (.iload 4, 2) := by decide +kernel
theorem dL_law_1656 : decode cL_law 1656 = .ok (.iconst 1, 1) := by decide +kernel
theorem dL_law_1657 : decode cL_law 1657 = .ok (.iadd, 1) := by decide +kernel
theorem dL_law_1658 : decode cL_law 1658 = .ok (.iaload, 1) := by decide +kernel
theorem dL_law_1659 : decode cL_law 1659 = .ok (.aload_n 0, 1) := by decide +kernel
theorem dL_law_1660 : decode cL_law 1660 = .ok (.iload 4, 2) := by decide +kernel
theorem dL_law_1662 : decode cL_law 1662 = .ok (.iconst 2, 1) := by decide +kernel
theorem dL_law_1663 : decode cL_law 1663 = .ok (.iadd, 1) := by decide +kernel
theorem dL_law_1664 : decode cL_law 1664 = .ok (.iaload, 1) := by decide +kernel
theorem dL_law_1665 : decode cL_law 1665 = .ok (.aload_n 0, 1) := by decide +kernel
theorem dL_law_1666 : decode cL_law 1666 = .ok (.iload 4, 2) := by decide +kernel
theorem dL_law_1668 : decode cL_law 1668 = .ok (.iconst 3, 1) := by decide +kernel
theorem dL_law_1669 : decode cL_law 1669 = .ok (.iadd, 1) := by decide +kernel
theorem dL_law_1670 : decode cL_law 1670 = .ok (.iaload, 1) := by decide +kernel
theorem dL_law_1671 : decode cL_law 1671 = .ok (.invokevirtual 169, 3) := by decide +kernel
theorem dL_law_1674 : decode cL_law 1674 = .ok (.istore 6, 2) := by decide +kernel
theorem dL_law_1676 : decode cL_law 1676 = .ok (.aload_n 2, 1) := by decide +kernel
theorem dL_law_1677 : decode cL_law 1677 = .ok (.invokevirtual 101, 3) := by decide +kernel
theorem dL_law_1680 : decode cL_law 1680 = .ok (.iload 5, 2) := by decide +kernel
theorem dL_law_1682 : decode cL_law 1682 = .ok (.if_icmp .eq 5, 3) := by decide +kernel
theorem dL_law_1685 : decode cL_law 1685 = .ok (.iconst 0, 1) := by decide +kernel
theorem dL_law_1686 : decode cL_law 1686 = .ok (.ireturn, 1) := by decide +kernel
theorem dL_law_1687 : decode cL_law 1687 = .ok (.iload 5, 2) := by decide +kernel
theorem dL_law_1689 : decode cL_law 1689 = .ok (.ifCond .ne 15, 3) := by decide +kernel
theorem dL_law_1692 : decode cL_law 1692 = .ok (.aload_n 3, 1) := by decide +kernel
theorem dL_law_1693 : decode cL_law 1693 = .ok (.iconst 0, 1) := by decide +kernel
theorem dL_law_1694 : decode cL_law 1694 = .ok (.laload, 1) := by decide +kernel
theorem dL_law_1695 : decode cL_law 1695 = .ok (.iload 6, 2) := by decide +kernel
theorem dL_law_1697 : decode cL_law 1697 = .ok (.i2l, 1) := by decide +kernel
theorem dL_law_1698 : decode cL_law 1698 = .ok (.lcmp, 1) := by decide +kernel
theorem dL_law_1699 : decode cL_law 1699 = .ok (.ifCond .eq 5, 3) := by decide +kernel
theorem dL_law_1702 : decode cL_law 1702 = .ok (.iconst 0, 1) := by decide +kernel
theorem dL_law_1703 : decode cL_law 1703 = .ok (.ireturn, 1) := by decide +kernel
theorem dL_law_1704 : decode cL_law 1704 = .ok (.goto 207, 3) := by decide +kernel
theorem dL_law_1707 : decode cL_law 1707 = .ok (.aload_n 1, 1) := by decide +kernel
theorem dL_law_1708 : decode cL_law 1708 = .ok (.aload_n 0, 1) := by decide +kernel
theorem dL_law_1709 : decode cL_law 1709 = .ok (.iload 4, 2) := by decide +kernel
theorem dL_law_1711 : decode cL_law 1711 = .ok (.iconst 1, 1) := by decide +kernel
theorem dL_law_1712 : decode cL_law 1712 = .ok (.iadd, 1) := by decide +kernel
theorem dL_law_1713 : decode cL_law 1713 = .ok (.iaload, 1) := by decide +kernel
theorem dL_law_1714 : decode cL_law 1714 = .ok (.aload_n 0, 1) := by decide +kernel
theorem dL_law_1715 : decode cL_law 1715 = .ok (.iload 4, 2) := by decide +kernel
theorem dL_law_1717 : decode cL_law 1717 = .ok (.iconst 2, 1) := by decide +kernel
theorem dL_law_1718 : decode cL_law 1718 = .ok (.iadd, 1) := by decide +kernel
theorem dL_law_1719 : decode cL_law 1719 = .ok (.iaload, 1) := by decide +kernel
theorem dL_law_1720 : decode cL_law 1720 = .ok (.aload_n 3, 1) := by decide +kernel
theorem dL_law_1721 : decode cL_law 1721 = .ok (.invokestatic 170, 3) := by decide +kernel
theorem dL_law_1724 : decode cL_law 1724 = .ok (.istore 5, 2) := by decide +kernel
theorem dL_law_1726 : decode cL_law 1726 = .ok (.aload_n 2, 1) := by decide +kernel
theorem dL_law_1727 : decode cL_law 1727 = .ok (.aload_n 0, 1) := by decide +kernel
theorem dL_law_1728 : decode cL_law 1728 = .ok (.iload 4, 2) := by decide +kernel
theorem dL_law_1730 : decode cL_law 1730 = .ok (.iconst 1, 1) := by decide +kernel
theorem dL_law_1731 : decode cL_law 1731 = .ok (.iadd, 1) := by decide +kernel
theorem dL_law_1732 : decode cL_law 1732 = .ok (.iaload, 1) := by decide +kernel
theorem dL_law_1733 : decode cL_law 1733 = .ok (.aload_n 0, 1) := by decide +kernel
theorem dL_law_1734 : decode cL_law 1734 = .ok (.iload 4, 2) := by decide +kernel
theorem dL_law_1736 : decode cL_law 1736 = .ok (.iconst 2, 1) := by decide +kernel
theorem dL_law_1737 : decode cL_law 1737 = .ok (.iadd, 1) := by decide +kernel
theorem dL_law_1738 : decode cL_law 1738 = .ok (.iaload, 1) := by decide +kernel
theorem dL_law_1739 : decode cL_law 1739 = .ok (.invokevirtual 172, 3) := by decide +kernel
theorem dL_law_1742 : decode cL_law 1742 = .ok (.istore 6, 2) := by decide +kernel
theorem dL_law_1744 : decode cL_law 1744 = .ok (.aload_n 2, 1) := by decide +kernel
theorem dL_law_1745 : decode cL_law 1745 = .ok (.invokevirtual 101, 3) := by decide +kernel
theorem dL_law_1748 : decode cL_law 1748 = .ok (.iload 5, 2) := by decide +kernel
theorem dL_law_1750 : decode cL_law 1750 = .ok (.if_icmp .eq 5, 3) := by decide +kernel
theorem dL_law_1753 : decode cL_law 1753 = .ok (.iconst 0, 1) := by decide +kernel
theorem dL_law_1754 : decode cL_law 1754 = .ok (.ireturn, 1) := by decide +kernel
theorem dL_law_1755 : decode cL_law 1755 = .ok (.iload 5, 2) := by decide +kernel
theorem dL_law_1757 : decode cL_law 1757 = .ok (.ifCond .ne 15, 3) := by decide +kernel
theorem dL_law_1760 : decode cL_law 1760 = .ok (.aload_n 3, 1) := by decide +kernel
theorem dL_law_1761 : decode cL_law 1761 = .ok (.iconst 0, 1) := by decide +kernel
theorem dL_law_1762 : decode cL_law 1762 = .ok (.laload, 1) := by decide +kernel
theorem dL_law_1763 : decode cL_law 1763 = .ok (.iload 6, 2) := by decide +kernel
theorem dL_law_1765 : decode cL_law 1765 = .ok (.i2l, 1) := by decide +kernel
theorem dL_law_1766 : decode cL_law 1766 = .ok (.lcmp, 1) := by decide +kernel
theorem dL_law_1767 : decode cL_law 1767 = .ok (.ifCond .eq 5, 3) := by decide +kernel
theorem dL_law_1770 : decode cL_law 1770 = .ok (.iconst 0, 1) := by decide +kernel
theorem dL_law_1771 : decode cL_law 1771 = .ok (.ireturn, 1) := by decide +kernel
theorem dL_law_1772 : decode cL_law 1772 = .ok (.goto 139, 3) := by decide +kernel
theorem dL_law_1775 : decode cL_law 1775 = .ok (.aload_n 1, 1) := by decide +kernel
theorem dL_law_1776 : decode cL_law 1776 = .ok (.aload_n 0, 1) := by decide +kernel
theorem dL_law_1777 : decode cL_law 1777 = .ok (.iload 4, 2) := by decide +kernel
theorem dL_law_1779 : decode cL_law 1779 = .ok (.iconst 1, 1) := by decide +kernel
theorem dL_law_1780 : decode cL_law 1780 = .ok (.iadd, 1) := by decide +kernel
theorem dL_law_1781 : decode cL_law 1781 = .ok (.iaload, 1) := by decide +kernel
theorem dL_law_1782 : decode cL_law 1782 = .ok (.aload_n 0, 1) := by decide +kernel
theorem dL_law_1783 : decode cL_law 1783 = .ok (.iload 4, 2) := by decide +kernel
theorem dL_law_1785 : decode cL_law 1785 = .ok (.iconst 2, 1) := by decide +kernel
theorem dL_law_1786 : decode cL_law 1786 = .ok (.iadd, 1) := by decide +kernel
theorem dL_law_1787 : decode cL_law 1787 = .ok (.iaload, 1) := by decide +kernel
theorem dL_law_1788 : decode cL_law 1788 = .ok (.aload_n 3, 1) := by decide +kernel
theorem dL_law_1789 : decode cL_law 1789 = .ok (.invokestatic 173, 3) := by decide +kernel
theorem dL_law_1792 : decode cL_law 1792 = .ok (.istore 5, 2) := by decide +kernel
theorem dL_law_1794 : decode cL_law 1794 = .ok (.aload_n 2, 1) := by decide +kernel
theorem dL_law_1795 : decode cL_law 1795 = .ok (.aload_n 0, 1) := by decide +kernel
theorem dL_law_1796 : decode cL_law 1796 = .ok (.iload 4, 2) := by decide +kernel
theorem dL_law_1798 : decode cL_law 1798 = .ok (.iconst 1, 1) := by decide +kernel
theorem dL_law_1799 : decode cL_law 1799 = .ok (.iadd, 1) := by decide +kernel
theorem dL_law_1800 : decode cL_law 1800 = .ok (.iaload, 1) := by decide +kernel
theorem dL_law_1801 : decode cL_law 1801 = .ok (.aload_n 0, 1) := by decide +kernel
theorem dL_law_1802 : decode cL_law 1802 = .ok (.iload 4, 2) := by decide +kernel
theorem dL_law_1804 : decode cL_law 1804 = .ok (.iconst 2, 1) := by decide +kernel
theorem dL_law_1805 : decode cL_law 1805 = .ok (.iadd, 1) := by decide +kernel
theorem dL_law_1806 : decode cL_law 1806 = .ok (.iaload, 1) := by decide +kernel
theorem dL_law_1807 : decode cL_law 1807 = .ok (.invokevirtual 175, 3) := by decide +kernel
theorem dL_law_1810 : decode cL_law 1810 = .ok (.istore 6, 2) := by decide +kernel
theorem dL_law_1812 : decode cL_law 1812 = .ok (.aload_n 2, 1) := by decide +kernel
theorem dL_law_1813 : decode cL_law 1813 = .ok (.invokevirtual 101, 3) := by decide +kernel
theorem dL_law_1816 : decode cL_law 1816 = .ok (.iload 5, 2) := by decide +kernel
theorem dL_law_1818 : decode cL_law 1818 = .ok (.if_icmp .eq 5, 3) := by decide +kernel
theorem dL_law_1821 : decode cL_law 1821 = .ok (.iconst 0, 1) := by decide +kernel
theorem dL_law_1822 : decode cL_law 1822 = .ok (.ireturn, 1) := by decide +kernel
theorem dL_law_1823 : decode cL_law 1823 = .ok (.iload 5, 2) := by decide +kernel
theorem dL_law_1825 : decode cL_law 1825 = .ok (.ifCond .ne 15, 3) := by decide +kernel
theorem dL_law_1828 : decode cL_law 1828 = .ok (.aload_n 3, 1) := by decide +kernel
theorem dL_law_1829 : decode cL_law 1829 = .ok (.iconst 0, 1) := by decide +kernel
theorem dL_law_1830 : decode cL_law 1830 = .ok (.laload, 1) := by decide +kernel
theorem dL_law_1831 : decode cL_law 1831 = .ok (.iload 6, 2) := by decide +kernel
theorem dL_law_1833 : decode cL_law 1833 = .ok (.i2l, 1) := by decide +kernel
theorem dL_law_1834 : decode cL_law 1834 = .ok (.lcmp, 1) := by decide +kernel
theorem dL_law_1835 : decode cL_law 1835 = .ok (.ifCond .eq 5, 3) := by decide +kernel
theorem dL_law_1838 : decode cL_law 1838 = .ok (.iconst 0, 1) := by decide +kernel
theorem dL_law_1839 : decode cL_law 1839 = .ok (.ireturn, 1) := by decide +kernel
theorem dL_law_1840 : decode cL_law 1840 = .ok (.goto 71, 3) := by decide +kernel
theorem dL_law_1843 : decode cL_law 1843 = .ok (.aload_n 1, 1) := by decide +kernel
theorem dL_law_1844 : decode cL_law 1844 = .ok (.aload_n 0, 1) := by decide +kernel
theorem dL_law_1845 : decode cL_law 1845 = .ok (.iload 4, 2) := by decide +kernel
theorem dL_law_1847 : decode cL_law 1847 = .ok (.iconst 1, 1) := by decide +kernel
theorem dL_law_1848 : decode cL_law 1848 = .ok (.iadd, 1) := by decide +kernel
theorem dL_law_1849 : decode cL_law 1849 = .ok (.iaload, 1) := by decide +kernel
theorem dL_law_1850 : decode cL_law 1850 = .ok (.aload_n 0, 1) := by decide +kernel
theorem dL_law_1851 : decode cL_law 1851 = .ok (.iload 4, 2) := by decide +kernel
theorem dL_law_1853 : decode cL_law 1853 = .ok (.iconst 2, 1) := by decide +kernel
theorem dL_law_1854 : decode cL_law 1854 = .ok (.iadd, 1) := by decide +kernel
theorem dL_law_1855 : decode cL_law 1855 = .ok (.iaload, 1) := by decide +kernel
theorem dL_law_1856 : decode cL_law 1856 = .ok (.aload_n 3, 1) := by decide +kernel
theorem dL_law_1857 : decode cL_law 1857 = .ok (.invokestatic 176, 3) := by decide +kernel
theorem dL_law_1860 : decode cL_law 1860 = .ok (.istore 5, 2) := by decide +kernel
theorem dL_law_1862 : decode cL_law 1862 = .ok (.aload_n 2, 1) := by decide +kernel
theorem dL_law_1863 : decode cL_law 1863 = .ok (.aload_n 0, 1) := by decide +kernel
theorem dL_law_1864 : decode cL_law 1864 = .ok (.iload 4, 2) := by decide +kernel
theorem dL_law_1866 : decode cL_law 1866 = .ok (.iconst 1, 1) := by decide +kernel
theorem dL_law_1867 : decode cL_law 1867 = .ok (.iadd, 1) := by decide +kernel
theorem dL_law_1868 : decode cL_law 1868 = .ok (.iaload, 1) := by decide +kernel
theorem dL_law_1869 : decode cL_law 1869 = .ok (.aload_n 0, 1) := by decide +kernel
theorem dL_law_1870 : decode cL_law 1870 = .ok (.iload 4, 2) := by decide +kernel
theorem dL_law_1872 : decode cL_law 1872 = .ok (.iconst 2, 1) := by decide +kernel
theorem dL_law_1873 : decode cL_law 1873 = .ok (.iadd, 1) := by decide +kernel
theorem dL_law_1874 : decode cL_law 1874 = .ok (.iaload, 1) := by decide +kernel
theorem dL_law_1875 : decode cL_law 1875 = .ok (.invokevirtual 178, 3) := by decide +kernel
theorem dL_law_1878 : decode cL_law 1878 = .ok (.istore 6, 2) := by decide +kernel
theorem dL_law_1880 : decode cL_law 1880 = .ok (.aload_n 2, 1) := by decide +kernel
theorem dL_law_1881 : decode cL_law 1881 = .ok (.invokevirtual 101, 3) := by decide +kernel
theorem dL_law_1884 : decode cL_law 1884 = .ok (.iload 5, 2) := by decide +kernel
theorem dL_law_1886 : decode cL_law 1886 = .ok (.if_icmp .eq 5, 3) := by decide +kernel
theorem dL_law_1889 : decode cL_law 1889 = .ok (.iconst 0, 1) := by decide +kernel
theorem dL_law_1890 : decode cL_law 1890 = .ok (.ireturn, 1) := by decide +kernel
theorem dL_law_1891 : decode cL_law 1891 = .ok (.iload 5, 2) := by decide +kernel
theorem dL_law_1893 : decode cL_law 1893 = .ok (.ifCond .ne 15, 3) := by decide +kernel
theorem dL_law_1896 : decode cL_law 1896 = .ok (.aload_n 3, 1) := by decide +kernel
theorem dL_law_1897 : decode cL_law 1897 = .ok (.iconst 0, 1) := by decide +kernel
theorem dL_law_1898 : decode cL_law 1898 = .ok (.laload, 1) := by decide +kernel
theorem dL_law_1899 : decode cL_law 1899 = .ok (.iload 6, 2) := by decide +kernel
theorem dL_law_1901 : decode cL_law 1901 = .ok (.i2l, 1) := by decide +kernel
theorem dL_law_1902 : decode cL_law 1902 = .ok (.lcmp, 1) := by decide +kernel
theorem dL_law_1903 : decode cL_law 1903 = .ok (.ifCond .eq 5, 3) := by decide +kernel
theorem dL_law_1906 : decode cL_law 1906 = .ok (.iconst 0, 1) := by decide +kernel
theorem dL_law_1907 : decode cL_law 1907 = .ok (.ireturn, 1) := by decide +kernel
theorem dL_law_1908 : decode cL_law 1908 = .ok (.goto 3, 3) := by decide +kernel
theorem dL_law_1911 : decode cL_law 1911 = .ok (.iinc 4 5, 3) := by decide +kernel
theorem dL_law_1914 : decode cL_law 1914 = .ok (.goto (-1891), 3) := by decide +kernel
theorem dL_law_1917 : decode cL_law 1917 = .ok (.iconst 1, 1) := by decide +kernel
theorem dL_law_1918 : decode cL_law 1918 = .ok (.ireturn, 1) := by decide +kernel
