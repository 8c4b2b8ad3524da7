set_option maxRecDepth 20000 in
theorem ggX3_inTimed_X3_in : GoodIn wsX3_inTimed wsX3_in := goodIn_r _ [11] (by decide +kernel) (by decide +kernel)
set_option maxRecDepth 20000 in
theorem gX3_inTimed_X3_in : GoodIn wsX3_inTimed (va_wsS RX3 79 yX3_in wsX3_in) := goodIn_app (goodIn_of _ (by decide +kernel)) ggX3_inTimed_X3_in
set_option maxRecDepth 20000 in
theorem ggX3_inTimed_X3_goes : GoodIn wsX3_inTimed wsX3_goes := goodIn_r _ [18, 19, 20, 21, 22, 23, 24, 25, 26, 27, 28, 29, 30, 31, 32, 33] (by decide +kernel) (by decide +kernel)
set_option maxRecDepth 20000 in
theorem gX3_inTimed_X3_goes : GoodIn wsX3_inTimed (wsV RX3 135 RX3 yX3_goes wsX3_goes) := goodIn_app (goodIn_of _ (by decide +kernel)) ggX3_inTimed_X3_goes
theorem dX3_inTimed_0 : decode cX3_inTimed 0 = .ok (.aload_n 0, 1) := by decide +kernel
theorem dX3_inTimed_1 : decode cX3_inTimed 1 = .ok (.aload_n 0, 1) := by decide +kernel
theorem dX3_inTimed_2 : decode cX3_inTimed 2 = .ok (.iload_n 1, 1) := by decide +kernel
theorem dX3_inTimed_3 : decode cX3_inTimed 3 = .ok (.invokevirtual 94, 3) := by decide +kernel
theorem dX3_inTimed_6 : decode cX3_inTimed 6 = .ok (.ifCond .eq 23, 3) := by decide +kernel
theorem dX3_inTimed_9 : decode cX3_inTimed 9 = .ok (.iload_n 2, 1) := by decide +kernel
theorem dX3_inTimed_10 : decode cX3_inTimed 10 = .ok (.invokestatic 120, 3) := by decide +kernel
theorem dX3_inTimed_13 : decode cX3_inTimed 13 = .ok (.ifCond .eq 16, 3) := by decide +kernel
theorem dX3_inTimed_16 : decode cX3_inTimed 16 = .ok (.iload_n 3, 1) := by decide +kernel
theorem dX3_inTimed_17 : decode cX3_inTimed 17 = .ok (.iconst 0, 1) := by decide +kernel
theorem dX3_inTimed_18 : decode cX3_inTimed 18 = .ok (.iconst 2, 1) := by decide +kernel
theorem dX3_inTimed_19 : decode cX3_inTimed 19 = .ok (.invokestatic 79, 3) := by decide +kernel
theorem dX3_inTimed_22 : decode cX3_inTimed 22 = .ok (.ifCond .eq 7, 3) := by decide +kernel
theorem dX3_inTimed_25 : decode cX3_inTimed 25 = .ok (.iconst 1, 1) := by decide +kernel
theorem dX3_inTimed_26 : decode cX3_inTimed 26 = .ok (.goto 4, 3) := by decide +kernel
theorem dX3_inTimed_29 : decode cX3_inTimed 29 = .ok (.iconst 0, 1) := by decide +kernel
theorem dX3_inTimed_30 : decode cX3_inTimed 30 = .ok (.invokevirtual 135, 3) := by decide +kernel
theorem dX3_inTimed_33 : decode cX3_inTimed 33 = .ok (.ifCond .ne 5, 3) := by decide +kernel
theorem dX3_inTimed_36 : decode cX3_inTimed 36 = .ok (.iconst 0, 1) := by decide +kernel
theorem dX3_inTimed_37 : decode cX3_inTimed 37 = .ok (.ireturn, 1) := by decide +kernel
theorem dX3_inTimed_38 : decode cX3_inTimed 38 = .ok (.bipush 32, 2) := by decide +kernel
theorem dX3_inTimed_40 : decode cX3_inTimed 40 = .ok (.iload_n 1, 1) := by decide +kernel
theorem dX3_inTimed_41 : decode cX3_inTimed 41 = .ok (.imul, 1) := by decide +kernel
theorem dX3_inTimed_42 : decode cX3_inTimed 42 = .ok (.iload_n 2, 1) := by decide +kernel
theorem dX3_inTimed_43 : decode cX3_inTimed 43 = .ok (.iadd, 1) := by decide +kernel
theorem dX3_inTimed_44 : decode cX3_inTimed 44 = .ok (.istore 4, 2) := by decide +kernel
theorem dX3_inTimed_46 : decode cX3_inTimed 46 = .ok (.iload_n 3, 1) := by decide +kernel
theorem dX3_inTimed_47 : decode cX3_inTimed 47 = .ok (.ifCond .ne 21, 3) := by decide +kernel
theorem dX3_inTimed_50 : decode cX3_inTimed 50 = .ok (.aload_n 0, 1) := by decide +kernel
theorem dX3_inTimed_51 : decode cX3_inTimed 51 = .ok (.getfield 29, 3) := by decide +kernel
theorem dX3_inTimed_54 : decode cX3_inTimed 54 = .ok (.iload 4, 2) := by decide +kernel
theorem dX3_inTimed_56 : decode cX3_inTimed 56 = .ok (.baload, 1) := by decide +kernel
theorem dX3_inTimed_57 : decode cX3_inTimed 57 = .ok (.ifCond .eq 7, 3) := by decide +kernel
theorem dX3_inTimed_60 : decode cX3_inTimed 60 = .ok (.iconst 1, 1) := by decide +kernel
theorem dX3_inTimed_61 : decode cX3_inTimed 61 = .ok (.goto 45, 3) := by decide +kernel
theorem dX3_inTimed_64 : decode cX3_inTimed 64 = .ok (.iconst 0, 1) := by decide +kernel
theorem dX3_inTimed_65 : decode cX3_inTimed 65 = .ok (.goto 41, 3) := by decide +kernel
theorem dX3_inTimed_68 : decode cX3_inTimed 68 = .ok (.iload_n 3, 1) := by decide +kernel
theorem dX3_inTimed_69 : decode cX3_inTimed 69 = .ok (.iconst 1, 1) := by decide +kernel
theorem dX3_inTimed_70 : decode cX3_inTimed 70 = .ok (.if_icmp .ne 15, 3) := by decide +kernel
theorem dX3_inTimed_73 : decode cX3_inTimed 73 = .ok (.aload_n 0, 1) := by decide +kernel
theorem dX3_inTimed_74 : decode cX3_inTimed 74 = .ok (.getfield 23, 3) := by decide +kernel
theorem dX3_inTimed_77 : decode cX3_inTimed 77 = .ok (.iload 4, 2) := by decide +kernel
theorem dX3_inTimed_79 : decode cX3_inTimed 79 = .ok (.iaload, 1) := by decide +kernel
theorem dX3_inTimed_80 : decode cX3_inTimed 80 = .ok (.iconst 1, 1) := by decide +kernel
theorem dX3_inTimed_81 : decode cX3_inTimed 81 = .ok (.isub, 1) := by decide +kernel
theorem dX3_inTimed_82 : decode cX3_inTimed 82 = .ok (.goto 24, 3) := by decide +kernel
theorem dX3_inTimed_85 : decode cX3_inTimed 85 = .ok (.aload_n 0, 1) := by decide +kernel
theorem dX3_inTimed_86 : decode cX3_inTimed 86 = .ok (.getfield 23, 3) := by decide +kernel
theorem dX3_inTimed_89 : decode cX3_inTimed 89 = .ok (.iload 4, 2) := by decide +kernel
theorem dX3_inTimed_91 : decode cX3_inTimed 91 = .ok (.iaload, 1) := by decide +kernel
theorem dX3_inTimed_92 : decode cX3_inTimed 92 = .ok (.ifCond .le 13, 3) := by decide +kernel
theorem dX3_inTimed_95 : decode cX3_inTimed 95 = .ok (.aload_n 0, 1) := by decide +kernel
theorem dX3_inTimed_96 : decode cX3_inTimed 96 = .ok (.getfield 26, 3) := by decide +kernel
theorem dX3_inTimed_99 : decode cX3_inTimed 99 = .ok (.iload 4, 2) := by decide +kernel
theorem dX3_inTimed_101 : decode cX3_inTimed 101 = .ok (.iaload, 1) := by decide +kernel
theorem dX3_inTimed_102 : decode cX3_inTimed 102 = .ok (.goto 4, 3) := by decide +kernel
theorem dX3_inTimed_105 : decode cX3_inTimed 105 = .ok (.iconst (-1), 1) := by decide +kernel
theorem dX3_inTimed_106 : decode cX3_inTimed 106 = .ok (.ireturn, 1) := by decide +kernel
set_option maxRecDepth 20000 in
theorem ggX3_countOf_X3_isSet : GoodIn wsX3_countOf wsX3_isSet := goodIn_r _ [4] (by decide +kernel) (by decide +kernel)
set_option maxRecDepth 20000 in
theorem gX3_countOf_X3_isSet : GoodIn wsX3_countOf (va_wsS RX3 49 yX3_isSet wsX3_isSet) := goodIn_app (goodIn_of _ (by decide +kernel)) ggX3_countOf_X3_isSet
theorem dX3_countOf_0 : decode cX3_countOf 0 = .ok (.iconst 0, 1) := by decide +kernel
theorem dX3_countOf_1 : decode cX3_countOf 1 = .ok (.istore 4, 2) := by decide +kernel
theorem dX3_countOf_3 : decode cX3_countOf 3 = .ok (.iconst 1, 1) := by decide +kernel
theorem dX3_countOf_4 : decode cX3_countOf 4 = .ok (.istore 5, 2) := by decide +kernel
theorem dX3_countOf_6 : decode cX3_countOf 6 = .ok (.iload 5, 2) := by decide +kernel
theorem dX3_countOf_8 : decode cX3_countOf 8 = .ok (.bipush 100, 2) := by decide +kernel
theorem dX3_countOf_10 : decode cX3_countOf 10 = .ok (.if_icmp .gt 31, 3) := by decide +kernel
theorem dX3_countOf_13 : decode cX3_countOf 13 = .ok (.aload_n 1, 1) := by decide +kernel
theorem dX3_countOf_14 : decode cX3_countOf 14 = .ok (.iload_n 2, 1) := by decide +kernel
theorem dX3_countOf_15 : decode cX3_countOf 15 = .ok (.iload_n 3, 1) := by decide +kernel
theorem dX3_countOf_16 : decode cX3_countOf 16 = .ok (.iload 5, 2) := by decide +kernel
theorem dX3_countOf_18 : decode cX3_countOf 18 = .ok (.invokestatic 49, 3) := by decide +kernel
theorem dX3_countOf_21 : decode cX3_countOf 21 = .ok (.ifCond .eq 10, 3) := by decide +kernel
theorem dX3_countOf_24 : decode cX3_countOf 24 = .ok (.iload 4, 2) := by decide +kernel
theorem dX3_countOf_26 : decode cX3_countOf 26 = .ok (.iconst 1, 1) := by decide +kernel
theorem dX3_countOf_27 : decode cX3_countOf 27 = .ok (.iadd, 1) := by decide +kernel
theorem dX3_countOf_28 : decode cX3_countOf 28 = .ok (.goto 5, 3) := by decide +kernel
theorem dX3_countOf_31 : decode cX3_countOf 31 = .ok (.iload 4, 2) := by decide +kernel
theorem dX3_countOf_33 : decode cX3_countOf 33 = .ok (.istore 4, 2) := by decide +kernel
theorem dX3_countOf_35 : decode cX3_countOf 35 = .ok (.iinc 5 1, 3) := by decide +kernel
theorem dX3_countOf_38 : decode cX3_countOf 38 = .ok (.goto (-32), 3) := by decide +kernel
theorem dX3_countOf_41 : decode cX3_countOf 41 = .ok (.iload 4, 2) := by decide +kernel
theorem dX3_countOf_43 : decode cX3_countOf 43 = .ok (.ireturn, 1) := by decide +kernel
set_option maxRecDepth 20000 in
theorem ggX3_seen_X3_isReplica : GoodIn wsX3_seen wsX3_isReplica := goodIn_r _ [6, 7, 8, 5, 9] (by decide +kernel) (by decide +kernel)
set_option maxRecDepth 20000 in
theorem gX3_seen_X3_isReplica : GoodIn wsX3_seen (wsV RX3 94 RX3 yX3_isReplica wsX3_isReplica) := goodIn_app (goodIn_of _ (by decide +kernel)) ggX3_seen_X3_isReplica
set_option maxRecDepth 20000 in
theorem ggX3_seen_X3_in : GoodIn wsX3_seen wsX3_in := goodIn_r _ [9] (by decide +kernel) (by decide +kernel)
set_option maxRecDepth 20000 in
theorem gX3_seen_X3_in : GoodIn wsX3_seen (va_wsS RX3 79 yX3_in wsX3_in) := goodIn_app (goodIn_of _ (by decide +kernel)) ggX3_seen_X3_in
set_option maxRecDepth 20000 in
theorem ggX3_seen_X3_goes : GoodIn wsX3_seen wsX3_goes := goodIn_r _ [13, 14, 26, 27, 28, 29, 30, 31, 32, 33, 34, 35, 36, 37, 38, 39] (by decide +kernel) (by decide +kernel)
set_option maxRecDepth 20000 in
theorem gX3_seen_X3_goes : GoodIn wsX3_seen (wsV RX3 135 RX3 yX3_goes wsX3_goes) := goodIn_app (goodIn_of _ (by decide +kernel)) ggX3_seen_X3_goes
set_option maxRecDepth 20000 in
theorem ggX3_seen_X3_greatest : GoodIn wsX3_seen wsX3_greatest := goodIn_r _ [18, 1, 19, 20, 5, 21, 26, 27, 28, 29, 30, 31, 32, 33, 34, 35, 36, 37, 38, 39] (by decide +kernel) (by decide +kernel)
set_option maxRecDepth 20000 in
theorem gX3_seen_X3_greatest : GoodIn wsX3_seen (wsV RX3 91 RX3 yX3_greatest wsX3_greatest) := goodIn_app (goodIn_of _ (by decide +kernel)) ggX3_seen_X3_greatest
set_option maxRecDepth 20000 in
theorem ggX3_seen_X3_countOf : GoodIn wsX3_seen wsX3_countOf := goodIn_r _ [25, 19, 20, 5, 21] (by decide +kernel) (by decide +kernel)
set_option maxRecDepth 20000 in
theorem gX3_seen_X3_countOf : GoodIn wsX3_seen (wsV RX3 152 RX3 yX3_countOf wsX3_countOf) := goodIn_app (goodIn_of _ (by decide +kernel)) ggX3_seen_X3_countOf
set_option maxRecDepth 20000 in
theorem ggX3_seen_X3_isSet : GoodIn wsX3_seen wsX3_isSet := goodIn_r _ [21] (by decide +kernel) (by decide +kernel)
set_option maxRecDepth 20000 in
theorem gX3_seen_X3_isSet : GoodIn wsX3_seen (va_wsS RX3 49 yX3_isSet wsX3_isSet) := goodIn_app (goodIn_of _ (by decide +kernel)) ggX3_seen_X3_isSet
theorem dX3_seen_0 : decode cX3_seen 0 = .ok (.aload_n 0, 1) := by decide +kernel
theorem dX3_seen_1 : decode cX3_seen 1 = .ok (.aload_n 0, 1) := by decide +kernel
theorem dX3_seen_2 : decode cX3_seen 2 = .ok (.iload_n 1, 1) := by decide +kernel
theorem dX3_seen_3 : decode cX3_seen 3 = .ok (.invokevirtual 94, 3) := by decide +kernel
theorem dX3_seen_6 : decode cX3_seen 6 = .ok (.ifCond .eq 24, 3) := by decide +kernel
theorem dX3_seen_9 : decode cX3_seen 9 = .ok (.aload_n 0, 1) := by decide +kernel
theorem dX3_seen_10 : decode cX3_seen 10 = .ok (.iload_n 2, 1) := by decide +kernel
theorem dX3_seen_11 : decode cX3_seen 11 = .ok (.invokevirtual 94, 3) := by decide +kernel
theorem dX3_seen_14 : decode cX3_seen 14 = .ok (.ifCond .eq 16, 3) := by decide +kernel
theorem dX3_seen_17 : decode cX3_seen 17 = .ok (.iload_n 3, 1) := by decide +kernel
theorem dX3_seen_18 : decode cX3_seen 18 = .ok (.iconst 0, 1) := by decide +kernel
theorem dX3_seen_19 : decode cX3_seen 19 = .ok (.iconst 2, 1) := by decide +kernel
theorem dX3_seen_20 : decode cX3_seen 20 = .ok (.invokestatic 79, 3) := by decide +kernel
theorem dX3_seen_23 : decode cX3_seen 23 = .ok (.ifCond .eq 7, 3) := by decide +kernel
theorem dX3_seen_26 : decode cX3_seen 26 = .ok (.iconst 1, 1) := by decide +kernel
theorem dX3_seen_27 : decode cX3_seen 27 = .ok (.goto 4, 3) := by decide +kernel
theorem dX3_seen_30 : decode cX3_seen 30 = .ok (.iconst 0, 1) := by decide +kernel
theorem dX3_seen_31 : decode cX3_seen 31 = .ok (.invokevirtual 135, 3) := by decide +kernel
theorem dX3_seen_34 : decode cX3_seen 34 = .ok (.ifCond .ne 5, 3) := by decide +kernel
theorem dX3_seen_37 : decode cX3_seen 37 = .ok (.iconst 0, 1) := by decide +kernel
theorem dX3_seen_38 : decode cX3_seen 38 = .ok (.ireturn, 1) := by decide +kernel
theorem dX3_seen_39 : decode cX3_seen 39 = .ok (.iload_n 3, 1) := by decide +kernel
theorem dX3_seen_40 : decode cX3_seen 40 = .ok (.iconst 2, 1) := by decide +kernel
theorem dX3_seen_41 : decode cX3_seen 41 = .ok (.if_icmp .ne 10, 3) := by decide +kernel
theorem dX3_seen_44 : decode cX3_seen 44 = .ok (.aload_n 0, 1) := by decide +kernel
theorem dX3_seen_45 : decode cX3_seen 45 = .ok (.iload_n 1, 1) := by decide +kernel
theorem dX3_seen_46 : decode cX3_seen 46 = .ok (.iload_n 2, 1) := by decide +kernel
theorem dX3_seen_47 : decode cX3_seen 47 = .ok (.invokevirtual 91, 3) := by decide +kernel
theorem dX3_seen_50 : decode cX3_seen 50 = .ok (.ireturn, 1) := by decide +kernel
theorem dX3_seen_51 : decode cX3_seen 51 = .ok (.iload_n 3, 1) := by decide +kernel
theorem dX3_seen_52 : decode cX3_seen 52 = .ok (.iconst 1, 1) := by decide +kernel
theorem dX3_seen_53 : decode cX3_seen 53 = .ok (.if_icmp .ne 14, 3) := by decide +kernel
theorem dX3_seen_56 : decode cX3_seen 56 = .ok (.aload_n 0, 1) := by decide +kernel
theorem dX3_seen_57 : decode cX3_seen 57 = .ok (.aload_n 0, 1) := by decide +kernel
theorem dX3_seen_58 : decode cX3_seen 58 = .ok (.getfield 7, 3) := by decide +kernel
theorem dX3_seen_61 : decode cX3_seen 61 = .ok (.iload_n 1, 1) := by decide +kernel
theorem dX3_seen_62 : decode cX3_seen 62 = .ok (.iload_n 2, 1) := by decide +kernel
theorem dX3_seen_63 : decode cX3_seen 63 = .ok (.invokevirtual 152, 3) := by decide +kernel
theorem dX3_seen_66 : decode cX3_seen 66 = .ok (.ireturn, 1) := by decide +kernel
theorem dX3_seen_67 : decode cX3_seen 67 = .ok (.iconst 0, 1) := by decide +kernel
theorem dX3_seen_68 : decode cX3_seen 68 = .ok (.istore 4, 2) := by decide +kernel
theorem dX3_seen_70 : decode cX3_seen 70 = .ok (.iload 4, 2) := by decide +kernel
theorem dX3_seen_72 : decode cX3_seen 72 = .ok (.bipush 100, 2) := by decide +kernel
theorem dX3_seen_74 : decode cX3_seen 74 = .ok (.if_icmp .ge 25, 3) := by decide +kernel
theorem dX3_seen_77 : decode cX3_seen 77 = .ok (.aload_n 0, 1) := by decide +kernel
theorem dX3_seen_78 : decode cX3_seen 78 = .ok (.getfield 7, 3) := by decide +kernel
theorem dX3_seen_81 : decode cX3_seen 81 = .ok (.iload_n 1, 1) := by decide +kernel
theorem dX3_seen_82 : decode cX3_seen 82 = .ok (.iload_n 2, 1) := by decide +kernel
theorem dX3_seen_83 : decode cX3_seen 83 = .ok (.iload 4, 2) := by decide +kernel
theorem dX3_seen_85 : decode cX3_seen 85 = .ok (.iconst 1, 1) := by decide +kernel
theorem dX3_seen_86 : decode cX3_seen 86 = .ok (.iadd, 1) := by decide +kernel
theorem dX3_seen_87 : decode cX3_seen 87 = .ok (.invokestatic 49, 3) := by decide +kernel
theorem dX3_seen_90 : decode cX3_seen 90 = .ok (.ifCond .eq 9, 3) := by decide +kernel
theorem dX3_seen_93 : decode cX3_seen 93 = .ok (.iinc 4 1, 3) := by decide +kernel
theorem dX3_seen_96 : decode cX3_seen 96 = .ok (.goto (-26), 3) := by decide +kernel
theorem dX3_seen_99 : decode cX3_seen 99 = .ok (.iload 4, 2) := by decide +kernel
theorem dX3_seen_101 : decode cX3_seen 101 = .ok (.ireturn, 1) := by decide +kernel
set_option maxRecDepth 20000 in
theorem ggX3_size_X3_isReplica : GoodIn wsX3_size wsX3_isReplica := goodIn_r _ [7, 8, 9, 6, 10] (by decide +kernel) (by decide +kernel)
set_option maxRecDepth 20000 in
theorem gX3_size_X3_isReplica : GoodIn wsX3_size (wsV RX3 94 RX3 yX3_isReplica wsX3_isReplica) := goodIn_app (goodIn_of _ (by decide +kernel)) ggX3_size_X3_isReplica
set_option maxRecDepth 20000 in
theorem ggX3_size_X3_isDelta : GoodIn wsX3_size wsX3_isDelta := goodIn_r _ [14, 15, 8, 9, 6, 10, 28, 29, 30, 31, 32, 33, 34, 35, 36, 37, 38, 39, 40, 41] (by decide +kernel) (by decide +kernel)
set_option maxRecDepth 20000 in
theorem gX3_size_X3_isDelta : GoodIn wsX3_size (wsV RX3 132 RX3 yX3_isDelta wsX3_isDelta) := goodIn_app (goodIn_of _ (by decide +kernel)) ggX3_size_X3_isDelta
set_option maxRecDepth 20000 in
theorem ggX3_size_X3_in : GoodIn wsX3_size wsX3_in := goodIn_r _ [10] (by decide +kernel) (by decide +kernel)
set_option maxRecDepth 20000 in
theorem gX3_size_X3_in : GoodIn wsX3_size (va_wsS RX3 79 yX3_in wsX3_in) := goodIn_app (goodIn_of _ (by decide +kernel)) ggX3_size_X3_in
set_option maxRecDepth 20000 in
theorem ggX3_size_X3_goes : GoodIn wsX3_size wsX3_goes := goodIn_r _ [19, 20, 28, 29, 30, 31, 32, 33, 34, 35, 36, 37, 38, 39, 40, 41] (by decide +kernel) (by decide +kernel)
set_option maxRecDepth 20000 in
theorem gX3_size_X3_goes : GoodIn wsX3_size (wsV RX3 135 RX3 yX3_goes wsX3_goes) := goodIn_app (goodIn_of _ (by decide +kernel)) ggX3_size_X3_goes
set_option maxRecDepth 20000 in
theorem ggX3_size_X3_countOf : GoodIn wsX3_size wsX3_countOf := goodIn_r _ [24, 25, 26, 6, 27] (by decide +kernel) (by decide +kernel)
set_option maxRecDepth 20000 in
theorem gX3_size_X3_countOf : GoodIn wsX3_size (wsV RX3 152 RX3 yX3_countOf wsX3_countOf) := goodIn_app (goodIn_of _ (by decide +kernel)) ggX3_size_X3_countOf
theorem dX3_size_0 : decode cX3_size 0 = .ok (.bipush (-2), 2) := by decide +kernel
theorem dX3_size_2 : decode cX3_size 2 = .ok (.iload_n 1, 1) := by decide +kernel
theorem dX3_size_3 : decode cX3_size 3 = .ok (.isub, 1) := by decide +kernel
theorem dX3_size_4 : decode cX3_size 4 = .ok (.istore_n 3, 1) := by decide +kernel
theorem dX3_size_5 : decode cX3_size 5 = .ok (.aload_n 0, 1) := by decide +kernel
theorem dX3_size_6 : decode cX3_size 6 = .ok (.iload_n 1, 1) := by decide +kernel
theorem dX3_size_7 : decode cX3_size 7 = .ok (.invokevirtual 94, 3) := by decide +kernel
theorem dX3_size_10 : decode cX3_size 10 = .ok (.ifCond .ne 20, 3) := by decide +kernel
theorem dX3_size_13 : decode cX3_size 13 = .ok (.iload_n 1, 1) := by decide +kernel
theorem dX3_size_14 : decode cX3_size 14 = .ok (.iconst (-1), 1) := by decide +kernel
theorem dX3_size_15 : decode cX3_size 15 = .ok (.if_icmp .ge 19, 3) := by decide +kernel
theorem dX3_size_18 : decode cX3_size 18 = .ok (.iload_n 3, 1) := by decide +kernel
theorem dX3_size_19 : decode cX3_size 19 = .ok (.ifCond .lt 15, 3) := by decide +kernel
theorem dX3_size_22 : decode cX3_size 22 = .ok (.aload_n 0, 1) := by decide +kernel
theorem dX3_size_23 : decode cX3_size 23 = .ok (.iload_n 3, 1) := by decide +kernel
theorem dX3_size_24 : decode cX3_size 24 = .ok (.invokevirtual 132, 3) := by decide +kernel
theorem dX3_size_27 : decode cX3_size 27 = .ok (.ifCond .eq 7, 3) := by decide +kernel
theorem dX3_size_30 : decode cX3_size 30 = .ok (.iconst 1, 1) := by decide +kernel
theorem dX3_size_31 : decode cX3_size 31 = .ok (.goto 4, 3) := by decide +kernel
theorem dX3_size_34 : decode cX3_size 34 = .ok (.iconst 0, 1) := by decide +kernel
theorem dX3_size_35 : decode cX3_size 35 = .ok (.istore 4, 2) := by decide +kernel
theorem dX3_size_37 : decode cX3_size 37 = .ok (.aload_n 0, 1) := by decide +kernel
theorem dX3_size_38 : decode cX3_size 38 = .ok (.iload 4, 2) := by decide +kernel
theorem dX3_size_40 : decode cX3_size 40 = .ok (.ifCond .eq 16, 3) := by decide +kernel
theorem dX3_size_43 : decode cX3_size 43 = .ok (.iload_n 2, 1) := by decide +kernel
theorem dX3_size_44 : decode cX3_size 44 = .ok (.iconst 0, 1) := by decide +kernel
theorem dX3_size_45 : decode cX3_size 45 = .ok (.iconst 1, 1) := by decide +kernel
theorem dX3_size_46 : decode cX3_size 46 = .ok (.invokestatic 79, 3) := by decide +kernel
theorem dX3_size_49 : decode cX3_size 49 = .ok (.ifCond .eq 7, 3) := by decide +kernel
theorem dX3_size_52 : decode cX3_size 52 = .ok (.iconst 1, 1) := by decide +kernel
theorem dX3_size_53 : decode cX3_size 53 = .ok (.goto 4, 3) := by decide +kernel
theorem dX3_size_56 : decode cX3_size 56 = .ok (.iconst 0, 1) := by decide +kernel
theorem dX3_size_57 : decode cX3_size 57 = .ok (.invokevirtual 135, 3) := by decide +kernel
theorem dX3_size_60 : decode cX3_size 60 = .ok (.ifCond .ne 5, 3) := by decide +kernel
theorem dX3_size_63 : decode cX3_size 63 = .ok (.iconst 0, 1) := by decide +kernel
theorem dX3_size_64 : decode cX3_size 64 = .ok (.ireturn, 1) := by decide +kernel
theorem dX3_size_65 : decode cX3_size 65 = .ok (.iload_n 1, 1) := by decide +kernel
theorem dX3_size_66 : decode cX3_size 66 = .ok (.ifCond .lt 7, 3) := by decide +kernel
theorem dX3_size_69 : decode cX3_size 69 = .ok (.iload_n 1, 1) := by decide +kernel
theorem dX3_size_70 : decode cX3_size 70 = .ok (.goto 7, 3) := by decide +kernel
theorem dX3_size_73 : decode cX3_size 73 = .ok (.bipush 6, 2) := by decide +kernel
theorem dX3_size_75 : decode cX3_size 75 = .ok (.iload_n 3, 1) := by decide +kernel
theorem dX3_size_76 : decode cX3_size 76 = .ok (.iadd, 1) := by decide +kernel
theorem dX3_size_77 : decode cX3_size 77 = .ok (.istore 5, 2) := by decide +kernel
theorem dX3_size_79 : decode cX3_size 79 = .ok (.iconst 0, 1) := by decide +kernel
theorem dX3_size_80 : decode cX3_size 80 = .ok (.istore 6, 2) := by decide +kernel
theorem dX3_size_82 : decode cX3_size 82 = .ok (.iconst 0, 1) := by decide +kernel
theorem dX3_size_83 : decode cX3_size 83 = .ok (.istore 7, 2) := by decide +kernel
theorem dX3_size_85 : decode cX3_size 85 = .ok (.iload 7, 2) := by decide +kernel
theorem dX3_size_87 : decode cX3_size 87 = .ok (.bipush 6, 2) := by decide +kernel
theorem dX3_size_89 : decode cX3_size 89 = .ok (.if_icmp .ge 37, 3) := by decide +kernel
theorem dX3_size_92 : decode cX3_size 92 = .ok (.iload 6, 2) := by decide +kernel
theorem dX3_size_94 : decode cX3_size 94 = .ok (.aload_n 0, 1) := by decide +kernel
theorem dX3_size_95 : decode cX3_size 95 = .ok (.iload_n 2, 1) := by decide +kernel
theorem dX3_size_96 : decode cX3_size 96 = .ok (.ifCond .ne 10, 3) := by decide +kernel
theorem dX3_size_99 : decode cX3_size 99 = .ok (.aload_n 0, 1) := by decide +kernel
theorem dX3_size_100 : decode cX3_size 100 = .ok (.getfield 13, 3) := by decide +kernel
theorem dX3_size_103 : decode cX3_size 103 = .ok (.goto 7, 3) := by decide +kernel
theorem dX3_size_106 : decode cX3_size 106 = .ok (.aload_n 0, 1) := by decide +kernel
theorem dX3_size_107 : decode cX3_size 107 = .ok (.getfield 7, 3) := by decide +kernel
theorem dX3_size_110 : decode cX3_size 110 = .ok (.iload 5, 2) := by decide +kernel
theorem dX3_size_112 : decode cX3_size 112 = .ok (.iload 7, 2) := by decide +kernel
theorem dX3_size_114 : decode cX3_size 114 = .ok (.invokevirtual 152, 3) := by decide +kernel
theorem dX3_size_117 : decode cX3_size 117 = .ok (.iadd, 1) := by decide +kernel
theorem dX3_size_118 : decode cX3_size 118 = .ok (.istore 6, 2) := by decide +kernel
theorem dX3_size_120 : decode cX3_size 120 = .ok (.iinc 7 1, 3) := by decide +kernel
theorem dX3_size_123 : decode cX3_size 123 = .ok (.goto (-38), 3) := by decide +kernel
theorem dX3_size_126 : decode cX3_size 126 = .ok (.iload 6, 2) := by decide +kernel
theorem dX3_size_128 : decode cX3_size 128 = .ok (.ireturn, 1) := by decide +kernel
set_option maxRecDepth 20000 in
theorem ggX3_same_X3_isReplica : GoodIn wsX3_same wsX3_isReplica := goodIn_r _ [5, 6, 7, 4, 8] (by decide +kernel) (by decide +kernel)
set_option maxRecDepth 20000 in
theorem gX3_same_X3_isReplica : GoodIn wsX3_same (wsV RX3 94 RX3 yX3_isReplica wsX3_isReplica) := goodIn_app (goodIn_of _ (by decide +kernel)) ggX3_same_X3_isReplica
set_option maxRecDepth 20000 in
theorem ggX3_same_X3_goes : GoodIn wsX3_same wsX3_goes := goodIn_r _ [12, 13, 25, 26, 27, 28, 29, 30, 31, 32, 33, 34, 35, 36, 37, 38] (by decide +kernel) (by decide +kernel)
set_option maxRecDepth 20000 in
theorem gX3_same_X3_goes : GoodIn wsX3_same (wsV RX3 135 RX3 yX3_goes wsX3_goes) := goodIn_app (goodIn_of _ (by decide +kernel)) ggX3_same_X3_goes
set_option maxRecDepth 20000 in
theorem ggX3_same_X3_isSame : GoodIn wsX3_same wsX3_isSame := goodIn_r _ [17, 18, 19, 20, 21, 22, 23, 24, 25, 26, 27, 28, 29, 30, 31, 32, 33, 34, 35, 36, 37, 38] (by decide +kernel) (by decide +kernel)
set_option maxRecDepth 20000 in
theorem gX3_same_X3_isSame : GoodIn wsX3_same (wsV RX3 69 RX3 yX3_isSame wsX3_isSame) := goodIn_app (goodIn_of _ (by decide +kernel)) ggX3_same_X3_isSame
theorem dX3_same_0 : decode cX3_same 0 = .ok (.aload_n 0, 1) := by decide +kernel
theorem dX3_same_1 : decode cX3_same 1 = .ok (.aload_n 0, 1) := by decide +kernel
theorem dX3_same_2 : decode cX3_same 2 = .ok (.iload_n 1, 1) := by decide +kernel
theorem dX3_same_3 : decode cX3_same 3 = .ok (.invokevirtual 94, 3) := by decide +kernel
theorem dX3_same_6 : decode cX3_same 6 = .ok (.ifCond .eq 15, 3) := by decide +kernel
theorem dX3_same_9 : decode cX3_same 9 = .ok (.aload_n 0, 1) := by decide +kernel
theorem dX3_same_10 : decode cX3_same 10 = .ok (.iload_n 2, 1) := by decide +kernel
theorem dX3_same_11 : decode cX3_same 11 = .ok (.invokevirtual 94, 3) := by decide +kernel
theorem dX3_same_14 : decode cX3_same 14 = .ok (.ifCond .eq 7, 3) := by decide +kernel
theorem dX3_same_17 : decode cX3_same 17 = .ok (.iconst 1, 1) := by decide +kernel
theorem dX3_same_18 : decode cX3_same 18 = .ok (.goto 4, 3) := by decide +kernel
theorem dX3_same_21 : decode cX3_same 21 = .ok (.iconst 0, 1) := by decide +kernel
theorem dX3_same_22 : decode cX3_same 22 = .ok (.invokevirtual 135, 3) := by decide +kernel
theorem dX3_same_25 : decode cX3_same 25 = .ok (.ifCond .eq 16, 3) := by decide +kernel
theorem dX3_same_28 : decode cX3_same 28 = .ok (.aload_n 0, 1) := by decide +kernel
theorem dX3_same_29 : decode cX3_same 29 = .ok (.iload_n 1, 1) := by decide +kernel
theorem dX3_same_30 : decode cX3_same 30 = .ok (.iload_n 2, 1) := by decide +kernel
theorem dX3_same_31 : decode cX3_same 31 = .ok (.invokevirtual 69, 3) := by decide +kernel
theorem dX3_same_34 : decode cX3_same 34 = .ok (.ifCond .eq 7, 3) := by decide +kernel
theorem dX3_same_37 : decode cX3_same 37 = .ok (.iconst 1, 1) := by decide +kernel
theorem dX3_same_38 : decode cX3_same 38 = .ok (.goto 4, 3) := by decide +kernel
theorem dX3_same_41 : decode cX3_same 41 = .ok (.iconst 0, 1) := by decide +kernel
theorem dX3_same_42 : decode cX3_same 42 = .ok (.ireturn, 1) := by decide +kernel
set_option maxRecDepth 20000 in
theorem ggX3_below_X3_isReplica : GoodIn wsX3_below wsX3_isReplica := goodIn_r _ [5, 6, 7, 4, 8] (by decide +kernel) (by decide +kernel)
set_option maxRecDepth 20000 in
theorem gX3_below_X3_isReplica : GoodIn wsX3_below (wsV RX3 94 RX3 yX3_isReplica wsX3_isReplica) := goodIn_app (goodIn_of _ (by decide +kernel)) ggX3_below_X3_isReplica
set_option maxRecDepth 20000 in
theorem ggX3_below_X3_goes : GoodIn wsX3_below wsX3_goes := goodIn_r _ [12, 13, 42, 43, 44, 45, 46, 47, 48, 49, 50, 51, 52, 53, 54, 55] (by decide +kernel) (by decide +kernel)
set_option maxRecDepth 20000 in
theorem gX3_below_X3_goes : GoodIn wsX3_below (wsV RX3 135 RX3 yX3_goes wsX3_goes) := goodIn_app (goodIn_of _ (by decide +kernel)) ggX3_below_X3_goes
set_option maxRecDepth 20000 in
theorem ggX3_below_X3_copy : GoodIn wsX3_below wsX3_copy := goodIn_r _ [17, 18, 19, 20, 21, 22, 23, 24, 4, 25, 26, 27, 28, 42, 43, 44, 45, 46, 47, 48, 49, 50, 51, 52, 53, 54, 55] (by decide +kernel) (by decide +kernel)
set_option maxRecDepth 20000 in
theorem gX3_below_X3_copy : GoodIn wsX3_below (wsV RX3 63 RX3 yX3_copy wsX3_copy) := goodIn_app (goodIn_of _ (by decide +kernel)) ggX3_below_X3_copy
set_option maxRecDepth 20000 in
theorem ggX3_below_X3_joinTo : GoodIn wsX3_below wsX3_joinTo := goodIn_r _ [32, 19, 18, 33, 20, 21, 34, 35, 36, 4, 37, 26, 27, 28, 22, 23, 24, 25, 42, 43, 44, 45, 46, 47, 48, 49, 50, 51, 52, 53, 54, 55] (by decide +kernel) (by decide +kernel)
set_option maxRecDepth 20000 in
theorem gX3_below_X3_joinTo : GoodIn wsX3_below (wsV RX3 66 RX3 yX3_joinTo wsX3_joinTo) := goodIn_app (goodIn_of _ (by decide +kernel)) ggX3_below_X3_joinTo
set_option maxRecDepth 20000 in
theorem ggX3_below_X3_isSame : GoodIn wsX3_below wsX3_isSame := goodIn_r _ [41, 20, 21, 18, 19, 26, 27, 28, 42, 43, 44, 45, 46, 47, 48, 49, 50, 51, 52, 53, 54, 55] (by decide +kernel) (by decide +kernel)
set_option maxRecDepth 20000 in
theorem gX3_below_X3_isSame : GoodIn wsX3_below (wsV RX3 69 RX3 yX3_isSame wsX3_isSame) := goodIn_app (goodIn_of _ (by decide +kernel)) ggX3_below_X3_isSame
theorem dX3_below_0 : decode cX3_below 0 = .ok (.aload_n 0, 1) := by decide +kernel
theorem dX3_below_1 : decode cX3_below 1 = .ok (.aload_n 0, 1) := by decide +kernel
theorem dX3_below_2 : decode cX3_below 2 = .ok (.iload_n 1, 1) := by decide +kernel
theorem dX3_below_3 : decode cX3_below 3 = .ok (.invokevirtual 94, 3) := by decide +kernel
theorem dX3_below_6 : decode cX3_below 6 = .ok (.ifCond .eq 15, 3) := by decide +kernel
theorem dX3_below_9 : decode cX3_below 9 = .ok (.aload_n 0, 1) := by decide +kernel
theorem dX3_below_10 : decode cX3_below 10 = .ok (.iload_n 2, 1) := by decide +kernel
theorem dX3_below_11 : decode cX3_below 11 = .ok (.invokevirtual 94, 3) := by decide +kernel
theorem dX3_below_14 : decode cX3_below 14 = .ok (.ifCond .eq 7, 3) := by decide +kernel
theorem dX3_below_17 : decode cX3_below 17 = .ok (.iconst 1, 1) := by decide +kernel
theorem dX3_below_18 : decode cX3_below 18 = .ok (.goto 4, 3) := by decide +kernel
theorem dX3_below_21 : decode cX3_below 21 = .ok (.iconst 0, 1) := by decide +kernel
theorem dX3_below_22 : decode cX3_below 22 = .ok (.invokevirtual 135, 3) := by decide +kernel
theorem dX3_below_25 : decode cX3_below 25 = .ok (.ifCond .ne 5, 3) := by decide +kernel
theorem dX3_below_28 : decode cX3_below 28 = .ok (.iconst 0, 1) := by decide +kernel
theorem dX3_below_29 : decode cX3_below 29 = .ok (.ireturn, 1) := by decide +kernel
theorem dX3_below_30 : decode cX3_below 30 = .ok (.aload_n 0, 1) := by decide +kernel
theorem dX3_below_31 : decode cX3_below 31 = .ok (.iload_n 2, 1) := by decide +kernel
theorem dX3_below_32 : decode cX3_below 32 = .ok (.sipush 256, 3) := by decide +kernel
theorem dX3_below_35 : decode cX3_below 35 = .ok (.invokevirtual 63, 3) := by decide +kernel
theorem dX3_below_38 : decode cX3_below 38 = .ok (.aload_n 0, 1) := by decide +kernel
theorem dX3_below_39 : decode cX3_below 39 = .ok (.iload_n 1, 1) := by decide +kernel
theorem dX3_below_40 : decode cX3_below 40 = .ok (.sipush 256, 3) := by decide +kernel
theorem dX3_below_43 : decode cX3_below 43 = .ok (.invokevirtual 66, 3) := by decide +kernel
theorem dX3_below_46 : decode cX3_below 46 = .ok (.aload_n 0, 1) := by decide +kernel
theorem dX3_below_47 : decode cX3_below 47 = .ok (.iload_n 2, 1) := by decide +kernel
theorem dX3_below_48 : decode cX3_below 48 = .ok (.sipush 256, 3) := by decide +kernel
theorem dX3_below_51 : decode cX3_below 51 = .ok (.invokevirtual 69, 3) := by decide +kernel
theorem dX3_below_54 : decode cX3_below 54 = .ok (.ifCond .eq 7, 3) := by decide +kernel
theorem dX3_below_57 : decode cX3_below 57 = .ok (.iconst 1, 1) := by decide +kernel
theorem dX3_below_58 : decode cX3_below 58 = .ok (.goto 4, 3) := by decide +kernel
theorem dX3_below_61 : decode cX3_below 61 = .ok (.iconst 0, 1) := by decide +kernel
theorem dX3_below_62 : decode cX3_below 62 = .ok (.ireturn, 1) := by decide +kernel
theorem dJ13_bitCount_95d88_0 : decode cJ13_bitCount_95d88 0 = .ok (.lload_n 0, 1) := by decide +kernel
theorem dJ13_bitCount_95d88_1 : decode cJ13_bitCount_95d88 1 = .ok (.lload_n 0, 1) := by decide +kernel
theorem dJ13_bitCount_95d88_2 : decode cJ13_bitCount_95d88 2 = .ok (.iconst 1, 1) := by decide +kernel
theorem dJ13_bitCount_95d88_3 : decode cJ13_bitCount_95d88 3 = .ok (.lushr, 1) := by decide +kernel
theorem dJ13_bitCount_95d88_4 : decode cJ13_bitCount_95d88 4 = .ok (.ldc2_w 314, 3) := by decide +kernel
theorem dJ13_bitCount_95d88_7 : decode cJ13_bitCount_95d88 7 = .ok (.land, 1) := by decide +kernel
theorem dJ13_bitCount_95d88_8 : decode cJ13_bitCount_95d88 8 = .ok (.lsub, 1) := by decide +kernel
theorem dJ13_bitCount_95d88_9 : decode cJ13_bitCount_95d88 9 = .ok (.lstore_n 0, 1) := by decide +kernel
theorem dJ13_bitCount_95d88_10 : decode cJ13_bitCount_95d88 10 = .ok (.lload_n 0, 1) := by decide +kernel
theorem dJ13_bitCount_95d88_11 : decode cJ13_bitCount_95d88 11 = .ok (.ldc2_w 316, 3) := by decide +kernel
theorem dJ13_bitCount_95d88_14 : decode cJ13_bitCount_95d88 14 = .ok (.land, 1) := by decide +kernel
theorem dJ13_bitCount_95d88_15 : decode cJ13_bitCount_95d88 15 = .ok (.lload_n 0, 1) := by decide +kernel
theorem dJ13_bitCount_95d88_16 : decode cJ13_bitCount_95d88 16 = .ok (.iconst 2, 1) := by decide +kernel
theorem dJ13_bitCount_95d88_17 : decode cJ13_bitCount_95d88 17 = .ok (.lushr, 1) := by decide +kernel
theorem dJ13_bitCount_95d88_18 : decode cJ13_bitCount_95d88 18 = .ok (.ldc2_w 316, 3) := by decide +kernel
theorem dJ13_bitCount_95d88_21 : decode cJ13_bitCount_95d88 21 = .ok (.land, 1) := by decide +kernel
theorem dJ13_bitCount_95d88_22 : decode cJ13_bitCount_95d88 22 = .ok (.ladd, 1) := by decide +kernel
theorem dJ13_bitCount_95d88_23 : decode cJ13_bitCount_95d88 23 = .ok (.lstore_n 0, 1) := by decide +kernel
theorem dJ13_bitCount_95d88_24 : decode cJ13_bitCount_95d88 24 = .ok (.lload_n 0, 1) := by decide +kernel
theorem dJ13_bitCount_95d88_25 : decode cJ13_bitCount_95d88 25 = .ok (.lload_n 0, 1) := by decide +kernel
theorem dJ13_bitCount_95d88_26 : decode cJ13_bitCount_95d88 26 = .ok (.iconst 4, 1) := by decide +kernel
theorem dJ13_bitCount_95d88_27 : decode cJ13_bitCount_95d88 27 = .ok (.lushr, 1) := by decide +kernel
theorem dJ13_bitCount_95d88_28 : decode cJ13_bitCount_95d88 28 = .ok (.ladd, 1) := by decide +kernel
theorem dJ13_bitCount_95d88_29 : decode cJ13_bitCount_95d88 29 = .ok (.ldc2_w 318, 3) := by decide +kernel
theorem dJ13_bitCount_95d88_32 : decode cJ13_bitCount_95d88 32 = .ok (.land, 1) := by decide +kernel
theorem dJ13_bitCount_95d88_33 : decode cJ13_bitCount_95d88 33 = .ok (.lstore_n 0, 1) := by decide +kernel
theorem dJ13_bitCount_95d88_34 : decode cJ13_bitCount_95d88 34 = .ok (.lload_n 0, 1) := by decide +kernel
theorem dJ13_bitCount_95d88_35 : decode cJ13_bitCount_95d88 35 = .ok (.lload_n 0, 1) := by decide +kernel
theorem dJ13_bitCount_95d88_36 : decode cJ13_bitCount_95d88 36 = .ok (.bipush 8, 2) := by decide +kernel
theorem dJ13_bitCount_95d88_38 : decode cJ13_bitCount_95d88 38 = .ok (.lushr, 1) := by decide +kernel
theorem dJ13_bitCount_95d88_39 : decode cJ13_bitCount_95d88 39 = .ok (.ladd, 1) := by decide +kernel
theorem dJ13_bitCount_95d88_40 : decode cJ13_bitCount_95d88 40 = .ok (.lstore_n 0, 1) := by decide +kernel
theorem dJ13_bitCount_95d88_41 : decode cJ13_bitCount_95d88 41 = .ok (.lload_n 0, 1) := by decide +kernel
theorem dJ13_bitCount_95d88_42 : decode cJ13_bitCount_95d88 42 = .ok (.lload_n 0, 1) := by decide +kernel
theorem dJ13_bitCount_95d88_43 : decode cJ13_bitCount_95d88 43 = .ok (.bipush 16, 2) := by decide +kernel
theorem dJ13_bitCount_95d88_45 : decode cJ13_bitCount_95d88 45 = .ok (.lushr, 1) := by decide +kernel
theorem dJ13_bitCount_95d88_46 : decode cJ13_bitCount_95d88 46 = .ok (.ladd, 1) := by decide +kernel
theorem dJ13_bitCount_95d88_47 : decode cJ13_bitCount_95d88 47 = .ok (.lstore_n 0, 1) := by decide +kernel
theorem dJ13_bitCount_95d88_48 : decode cJ13_bitCount_95d88 48 = .ok (.lload_n 0, 1) := by decide +kernel
theorem dJ13_bitCount_95d88_49 : decode cJ13_bitCount_95d88 49 = .ok (.lload_n 0, 1) := by decide +kernel
theorem dJ13_bitCount_95d88_50 : decode cJ13_bitCount_95d88 50 = .ok (.bipush 32, 2) := by decide +kernel
theorem dJ13_bitCount_95d88_52 : decode cJ13_bitCount_95d88 52 = .ok (.lushr, 1) := by decide +kernel
theorem dJ13_bitCount_95d88_53 : decode cJ13_bitCount_95d88 53 = .ok (.ladd, 1) := by decide +kernel
theorem dJ13_bitCount_95d88_54 : decode cJ13_bitCount_95d88 54 = .ok (.lstore_n 0, 1) := by decide +kernel
theorem dJ13_bitCount_95d88_55 : decode cJ13_bitCount_95d88 55 = .ok (.lload_n 0, 1) := by decide +kernel
theorem dJ13_bitCount_95d88_56 : decode cJ13_bitCount_95d88 56 = .ok (.l2i, 1) := by decide +kernel
theorem dJ13_bitCount_95d88_57 : decode cJ13_bitCount_95d88 57 = .ok (.bipush 127, 2) := by decide +kernel
theorem dJ13_bitCount_95d88_59 : decode cJ13_bitCount_95d88 59 = .ok (.iand, 1) := by decide +kernel
theorem dJ13_bitCount_95d88_60 : decode cJ13_bitCount_95d88 60 = .ok (.ireturn, 1) := by decide +kernel
