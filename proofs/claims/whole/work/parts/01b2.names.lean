theorem dX3_joinTo_51 : decode cX3_joinTo 51 = .ok (.laload, 1) := by decide +kernel
theorem dX3_joinTo_52 : decode cX3_joinTo 52 = .ok (.aload_n 0, 1) := by decide +kernel
theorem dX3_joinTo_53 : decode cX3_joinTo 53 = .ok (.getfield 7, 3) := by decide +kernel
theorem dX3_joinTo_56 : decode cX3_joinTo 56 = .ok (.iload 5, 2) := by decide +kernel
theorem dX3_joinTo_58 : decode cX3_joinTo 58 = .ok (.laload, 1) := by decide +kernel
theorem dX3_joinTo_59 : decode cX3_joinTo 59 = .ok (.ldc2_w 57, 3) := by decide +kernel
theorem dX3_joinTo_62 : decode cX3_joinTo 62 = .ok (.lxor, 1) := by decide +kernel
theorem dX3_joinTo_63 : decode cX3_joinTo 63 = .ok (.land, 1) := by decide +kernel
theorem dX3_joinTo_64 : decode cX3_joinTo 64 = .ok (.lor, 1) := by decide +kernel
theorem dX3_joinTo_65 : decode cX3_joinTo 65 = .ok (.aload_n 0, 1) := by decide +kernel
theorem dX3_joinTo_66 : decode cX3_joinTo 66 = .ok (.getfield 13, 3) := by decide +kernel
theorem dX3_joinTo_69 : decode cX3_joinTo 69 = .ok (.iload 5, 2) := by decide +kernel
theorem dX3_joinTo_71 : decode cX3_joinTo 71 = .ok (.laload, 1) := by decide +kernel
theorem dX3_joinTo_72 : decode cX3_joinTo 72 = .ok (.aload_n 0, 1) := by decide +kernel
theorem dX3_joinTo_73 : decode cX3_joinTo 73 = .ok (.getfield 7, 3) := by decide +kernel
theorem dX3_joinTo_76 : decode cX3_joinTo 76 = .ok (.iload 4, 2) := by decide +kernel
theorem dX3_joinTo_78 : decode cX3_joinTo 78 = .ok (.laload, 1) := by decide +kernel
theorem dX3_joinTo_79 : decode cX3_joinTo 79 = .ok (.ldc2_w 57, 3) := by decide +kernel
theorem dX3_joinTo_82 : decode cX3_joinTo 82 = .ok (.lxor, 1) := by decide +kernel
theorem dX3_joinTo_83 : decode cX3_joinTo 83 = .ok (.land, 1) := by decide +kernel
theorem dX3_joinTo_84 : decode cX3_joinTo 84 = .ok (.lor, 1) := by decide +kernel
theorem dX3_joinTo_85 : decode cX3_joinTo 85 = .ok (.lastore, 1) := by decide +kernel
theorem dX3_joinTo_86 : decode cX3_joinTo 86 = .ok (.aload_n 0, 1) := by decide +kernel
theorem dX3_joinTo_87 : decode cX3_joinTo 87 = .ok (.getfield 7, 3) := by decide +kernel
theorem dX3_joinTo_90 : decode cX3_joinTo 90 = .ok (.iload 5, 2) := by decide +kernel
theorem dX3_joinTo_92 : decode cX3_joinTo 92 = .ok (.aload_n 0, 1) := by decide +kernel
theorem dX3_joinTo_93 : decode cX3_joinTo 93 = .ok (.getfield 7, 3) := by decide +kernel
theorem dX3_joinTo_96 : decode cX3_joinTo 96 = .ok (.iload 4, 2) := by decide +kernel
theorem dX3_joinTo_98 : decode cX3_joinTo 98 = .ok (.laload, 1) := by decide +kernel
theorem dX3_joinTo_99 : decode cX3_joinTo 99 = .ok (.aload_n 0, 1) := by decide +kernel
theorem dX3_joinTo_100 : decode cX3_joinTo 100 = .ok (.getfield 7, 3) := by decide +kernel
theorem dX3_joinTo_103 : decode cX3_joinTo 103 = .ok (.iload 5, 2) := by decide +kernel
theorem dX3_joinTo_105 : decode cX3_joinTo 105 = .ok (.laload, 1) := by decide +kernel
theorem dX3_joinTo_106 : decode cX3_joinTo 106 = .ok (.lor, 1) := by decide +kernel
theorem dX3_joinTo_107 : decode cX3_joinTo 107 = .ok (.lastore, 1) := by decide +kernel
theorem dX3_joinTo_108 : decode cX3_joinTo 108 = .ok (.iinc 3 1, 3) := by decide +kernel
theorem dX3_joinTo_111 : decode cX3_joinTo 111 = .ok (.goto (-109), 3) := by decide +kernel
theorem dX3_joinTo_114 : decode cX3_joinTo 114 = .ok (.aload_n 0, 1) := by decide +kernel
theorem dX3_joinTo_115 : decode cX3_joinTo 115 = .ok (.getfield 16, 3) := by decide +kernel
theorem dX3_joinTo_118 : decode cX3_joinTo 118 = .ok (.iload_n 2, 1) := by decide +kernel
theorem dX3_joinTo_119 : decode cX3_joinTo 119 = .ok (.aload_n 0, 1) := by decide +kernel
theorem dX3_joinTo_120 : decode cX3_joinTo 120 = .ok (.getfield 16, 3) := by decide +kernel
theorem dX3_joinTo_123 : decode cX3_joinTo 123 = .ok (.iload_n 2, 1) := by decide +kernel
theorem dX3_joinTo_124 : decode cX3_joinTo 124 = .ok (.iaload, 1) := by decide +kernel
theorem dX3_joinTo_125 : decode cX3_joinTo 125 = .ok (.aload_n 0, 1) := by decide +kernel
theorem dX3_joinTo_126 : decode cX3_joinTo 126 = .ok (.getfield 16, 3) := by decide +kernel
theorem dX3_joinTo_129 : decode cX3_joinTo 129 = .ok (.iload_n 1, 1) := by decide +kernel
theorem dX3_joinTo_130 : decode cX3_joinTo 130 = .ok (.iaload, 1) := by decide +kernel
theorem dX3_joinTo_131 : decode cX3_joinTo 131 = .ok (.ior, 1) := by decide +kernel
theorem dX3_joinTo_132 : decode cX3_joinTo 132 = .ok (.iastore, 1) := by decide +kernel
theorem dX3_joinTo_133 : decode cX3_joinTo 133 = .ok (.aload_n 0, 1) := by decide +kernel
theorem dX3_joinTo_134 : decode cX3_joinTo 134 = .ok (.getfield 20, 3) := by decide +kernel
theorem dX3_joinTo_137 : decode cX3_joinTo 137 = .ok (.iload_n 2, 1) := by decide +kernel
theorem dX3_joinTo_138 : decode cX3_joinTo 138 = .ok (.aload_n 0, 1) := by decide +kernel
theorem dX3_joinTo_139 : decode cX3_joinTo 139 = .ok (.getfield 20, 3) := by decide +kernel
theorem dX3_joinTo_142 : decode cX3_joinTo 142 = .ok (.iload_n 2, 1) := by decide +kernel
theorem dX3_joinTo_143 : decode cX3_joinTo 143 = .ok (.iaload, 1) := by decide +kernel
theorem dX3_joinTo_144 : decode cX3_joinTo 144 = .ok (.aload_n 0, 1) := by decide +kernel
theorem dX3_joinTo_145 : decode cX3_joinTo 145 = .ok (.getfield 20, 3) := by decide +kernel
theorem dX3_joinTo_148 : decode cX3_joinTo 148 = .ok (.iload_n 1, 1) := by decide +kernel
theorem dX3_joinTo_149 : decode cX3_joinTo 149 = .ok (.iaload, 1) := by decide +kernel
theorem dX3_joinTo_150 : decode cX3_joinTo 150 = .ok (.ior, 1) := by decide +kernel
theorem dX3_joinTo_151 : decode cX3_joinTo 151 = .ok (.iastore, 1) := by decide +kernel
theorem dX3_joinTo_152 : decode cX3_joinTo 152 = .ok (.iconst 0, 1) := by decide +kernel
theorem dX3_joinTo_153 : decode cX3_joinTo 153 = .ok (.istore_n 3, 1) := by decide +kernel
theorem dX3_joinTo_154 : decode cX3_joinTo 154 = .ok (.iload_n 3, 1) := by decide +kernel
theorem dX3_joinTo_155 : decode cX3_joinTo 155 = .ok (.bipush 32, 2) := by decide +kernel
theorem dX3_joinTo_157 : decode cX3_joinTo 157 = .ok (.if_icmp .ge 44, 3) := by decide +kernel
theorem dX3_joinTo_160 : decode cX3_joinTo 160 = .ok (.bipush 32, 2) := by decide +kernel
theorem dX3_joinTo_162 : decode cX3_joinTo 162 = .ok (.iload_n 1, 1) := by decide +kernel
theorem dX3_joinTo_163 : decode cX3_joinTo 163 = .ok (.imul, 1) := by decide +kernel
theorem dX3_joinTo_164 : decode cX3_joinTo 164 = .ok (.iload_n 3, 1) := by decide +kernel
theorem dX3_joinTo_165 : decode cX3_joinTo 165 = .ok (.iadd, 1) := by decide +kernel
theorem dX3_joinTo_166 : decode cX3_joinTo 166 = .ok (.istore 4, 2) := by decide +kernel
theorem dX3_joinTo_168 : decode cX3_joinTo 168 = .ok (.bipush 32, 2) := by decide +kernel
theorem dX3_joinTo_170 : decode cX3_joinTo 170 = .ok (.iload_n 2, 1) := by decide +kernel
theorem dX3_joinTo_171 : decode cX3_joinTo 171 = .ok (.imul, 1) := by decide +kernel
theorem dX3_joinTo_172 : decode cX3_joinTo 172 = .ok (.iload_n 3, 1) := by decide +kernel
theorem dX3_joinTo_173 : decode cX3_joinTo 173 = .ok (.iadd, 1) := by decide +kernel
theorem dX3_joinTo_174 : decode cX3_joinTo 174 = .ok (.istore 5, 2) := by decide +kernel
theorem dX3_joinTo_176 : decode cX3_joinTo 176 = .ok (.aload_n 0, 1) := by decide +kernel
theorem dX3_joinTo_177 : decode cX3_joinTo 177 = .ok (.iload 4, 2) := by decide +kernel
theorem dX3_joinTo_179 : decode cX3_joinTo 179 = .ok (.iload 5, 2) := by decide +kernel
theorem dX3_joinTo_181 : decode cX3_joinTo 181 = .ok (.invokevirtual 59, 3) := by decide +kernel
theorem dX3_joinTo_184 : decode cX3_joinTo 184 = .ok (.ifCond .eq 11, 3) := by decide +kernel
theorem dX3_joinTo_187 : decode cX3_joinTo 187 = .ok (.aload_n 0, 1) := by decide +kernel
theorem dX3_joinTo_188 : decode cX3_joinTo 188 = .ok (.iload 4, 2) := by decide +kernel
theorem dX3_joinTo_190 : decode cX3_joinTo 190 = .ok (.iload 5, 2) := by decide +kernel
theorem dX3_joinTo_192 : decode cX3_joinTo 192 = .ok (.invokevirtual 53, 3) := by decide +kernel
theorem dX3_joinTo_195 : decode cX3_joinTo 195 = .ok (.iinc 3 1, 3) := by decide +kernel
theorem dX3_joinTo_198 : decode cX3_joinTo 198 = .ok (.goto (-44), 3) := by decide +kernel
theorem dX3_joinTo_201 : decode cX3_joinTo 201 = .ok (.return_, 1) := by decide +kernel
set_option maxRecDepth 20000 in
theorem ggX3_joined_X3_copy : GoodIn wsX3_joined wsX3_copy := goodIn_r _ [5, 6, 7, 8, 9, 10, 11, 12, 4, 13, 14, 15, 16, 30, 31, 32, 33, 34, 35, 36, 37, 38, 39, 40, 41, 42, 43] (by decide +kernel) (by decide +kernel)
set_option maxRecDepth 20000 in
theorem gX3_joined_X3_copy : GoodIn wsX3_joined (wsV RX3 63 RX3 yX3_copy wsX3_copy) := goodIn_app (goodIn_of _ (by decide +kernel)) ggX3_joined_X3_copy
set_option maxRecDepth 20000 in
theorem ggX3_joined_X3_joinTo : GoodIn wsX3_joined wsX3_joinTo := goodIn_r _ [20, 7, 6, 21, 8, 9, 22, 23, 24, 4, 25, 14, 15, 16, 10, 11, 12, 13, 30, 31, 32, 33, 34, 35, 36, 37, 38, 39, 40, 41, 42, 43] (by decide +kernel) (by decide +kernel)
set_option maxRecDepth 20000 in
theorem gX3_joined_X3_joinTo : GoodIn wsX3_joined (wsV RX3 66 RX3 yX3_joinTo wsX3_joinTo) := goodIn_app (goodIn_of _ (by decide +kernel)) ggX3_joined_X3_joinTo
set_option maxRecDepth 20000 in
theorem ggX3_joined_X3_isSame : GoodIn wsX3_joined wsX3_isSame := goodIn_r _ [29, 8, 9, 6, 7, 14, 15, 16, 30, 31, 32, 33, 34, 35, 36, 37, 38, 39, 40, 41, 42, 43] (by decide +kernel) (by decide +kernel)
set_option maxRecDepth 20000 in
theorem gX3_joined_X3_isSame : GoodIn wsX3_joined (wsV RX3 69 RX3 yX3_isSame wsX3_isSame) := goodIn_app (goodIn_of _ (by decide +kernel)) ggX3_joined_X3_isSame
theorem dX3_joined_0 : decode cX3_joined 0 = .ok (.aload_n 0, 1) := by decide +kernel
theorem dX3_joined_1 : decode cX3_joined 1 = .ok (.iload_n 2, 1) := by decide +kernel
theorem dX3_joined_2 : decode cX3_joined 2 = .ok (.sipush 256, 3) := by decide +kernel
theorem dX3_joined_5 : decode cX3_joined 5 = .ok (.invokevirtual 63, 3) := by decide +kernel
theorem dX3_joined_8 : decode cX3_joined 8 = .ok (.aload_n 0, 1) := by decide +kernel
theorem dX3_joined_9 : decode cX3_joined 9 = .ok (.iload_n 1, 1) := by decide +kernel
theorem dX3_joined_10 : decode cX3_joined 10 = .ok (.iload_n 2, 1) := by decide +kernel
theorem dX3_joined_11 : decode cX3_joined 11 = .ok (.invokevirtual 66, 3) := by decide +kernel
theorem dX3_joined_14 : decode cX3_joined 14 = .ok (.aload_n 0, 1) := by decide +kernel
theorem dX3_joined_15 : decode cX3_joined 15 = .ok (.iload_n 2, 1) := by decide +kernel
theorem dX3_joined_16 : decode cX3_joined 16 = .ok (.sipush 256, 3) := by decide +kernel
theorem dX3_joined_19 : decode cX3_joined 19 = .ok (.invokevirtual 69, 3) := by decide +kernel
theorem dX3_joined_22 : decode cX3_joined 22 = .ok (.ifCond .eq 7, 3) := by decide +kernel
theorem dX3_joined_25 : decode cX3_joined 25 = .ok (.iconst 0, 1) := by decide +kernel
theorem dX3_joined_26 : decode cX3_joined 26 = .ok (.goto 4, 3) := by decide +kernel
theorem dX3_joined_29 : decode cX3_joined 29 = .ok (.iconst 1, 1) := by decide +kernel
theorem dX3_joined_30 : decode cX3_joined 30 = .ok (.ireturn, 1) := by decide +kernel
set_option maxRecDepth 20000 in
theorem ggX3_fresh_X3_empty : GoodIn wsX3_fresh wsX3_empty := goodIn_r _ [6, 7, 8, 9, 10, 11, 12, 13, 14, 15, 16, 17, 18, 19, 20, 21, 22, 23, 24, 25, 26, 27] (by decide +kernel) (by decide +kernel)
set_option maxRecDepth 20000 in
theorem gX3_fresh_X3_empty : GoodIn wsX3_fresh (wsV RX3 75 RX3 yX3_empty wsX3_empty) := goodIn_app (goodIn_of _ (by decide +kernel)) ggX3_fresh_X3_empty
theorem dX3_fresh_0 : decode cX3_fresh 0 = .ok (.bipush 6, 2) := by decide +kernel
theorem dX3_fresh_2 : decode cX3_fresh 2 = .ok (.aload_n 0, 1) := by decide +kernel
theorem dX3_fresh_3 : decode cX3_fresh 3 = .ok (.getfield 72, 3) := by decide +kernel
theorem dX3_fresh_6 : decode cX3_fresh 6 = .ok (.iadd, 1) := by decide +kernel
theorem dX3_fresh_7 : decode cX3_fresh 7 = .ok (.istore_n 1, 1) := by decide +kernel
theorem dX3_fresh_8 : decode cX3_fresh 8 = .ok (.aload_n 0, 1) := by decide +kernel
theorem dX3_fresh_9 : decode cX3_fresh 9 = .ok (.iload_n 1, 1) := by decide +kernel
theorem dX3_fresh_10 : decode cX3_fresh 10 = .ok (.invokevirtual 75, 3) := by decide +kernel
theorem dX3_fresh_13 : decode cX3_fresh 13 = .ok (.iload_n 1, 1) := by decide +kernel
theorem dX3_fresh_14 : decode cX3_fresh 14 = .ok (.ireturn, 1) := by decide +kernel
set_option maxRecDepth 20000 in
theorem ggX3_done_X3_joinTo : GoodIn wsX3_done wsX3_joinTo := goodIn_r _ [6, 7, 8, 9, 10, 11, 12, 13, 14, 5, 15, 16, 17, 18, 19, 20, 21, 22, 23, 24, 25, 26, 27, 28, 29, 30, 31, 32, 33, 34, 35, 36] (by decide +kernel) (by decide +kernel)
set_option maxRecDepth 20000 in
theorem gX3_done_X3_joinTo : GoodIn wsX3_done (wsV RX3 66 RX3 yX3_joinTo wsX3_joinTo) := goodIn_app (goodIn_of _ (by decide +kernel)) ggX3_done_X3_joinTo
theorem dX3_done_0 : decode cX3_done 0 = .ok (.aload_n 0, 1) := by decide +kernel
theorem dX3_done_1 : decode cX3_done 1 = .ok (.iload_n 2, 1) := by decide +kernel
theorem dX3_done_2 : decode cX3_done 2 = .ok (.iload_n 1, 1) := by decide +kernel
theorem dX3_done_3 : decode cX3_done 3 = .ok (.invokevirtual 66, 3) := by decide +kernel
theorem dX3_done_6 : decode cX3_done 6 = .ok (.aload_n 0, 1) := by decide +kernel
theorem dX3_done_7 : decode cX3_done 7 = .ok (.dup, 1) := by decide +kernel
theorem dX3_done_8 : decode cX3_done 8 = .ok (.getfield 72, 3) := by decide +kernel
theorem dX3_done_11 : decode cX3_done 11 = .ok (.iconst 1, 1) := by decide +kernel
theorem dX3_done_12 : decode cX3_done 12 = .ok (.iadd, 1) := by decide +kernel
theorem dX3_done_13 : decode cX3_done 13 = .ok (.putfield 72, 3) := by decide +kernel
theorem dX3_done_16 : decode cX3_done 16 = .ok (.aload_n 0, 1) := by decide +kernel
theorem dX3_done_17 : decode cX3_done 17 = .ok (.getfield 72, 3) := by decide +kernel
theorem dX3_done_20 : decode cX3_done 20 = .ok (.iconst 1, 1) := by decide +kernel
theorem dX3_done_21 : decode cX3_done 21 = .ok (.isub, 1) := by decide +kernel
theorem dX3_done_22 : decode cX3_done 22 = .ok (.ireturn, 1) := by decide +kernel
set_option maxRecDepth 20000 in
theorem ggX3_isReplica_X3_in : GoodIn wsX3_isReplica wsX3_in := goodIn_r _ [4] (by decide +kernel) (by decide +kernel)
set_option maxRecDepth 20000 in
theorem gX3_isReplica_X3_in : GoodIn wsX3_isReplica (va_wsS RX3 79 yX3_in wsX3_in) := goodIn_app (goodIn_of _ (by decide +kernel)) ggX3_isReplica_X3_in
theorem dX3_isReplica_0 : decode cX3_isReplica 0 = .ok (.iload_n 1, 1) := by decide +kernel
theorem dX3_isReplica_1 : decode cX3_isReplica 1 = .ok (.iconst 0, 1) := by decide +kernel
theorem dX3_isReplica_2 : decode cX3_isReplica 2 = .ok (.iconst 5, 1) := by decide +kernel
theorem dX3_isReplica_3 : decode cX3_isReplica 3 = .ok (.invokestatic 79, 3) := by decide +kernel
theorem dX3_isReplica_6 : decode cX3_isReplica 6 = .ok (.ireturn, 1) := by decide +kernel
set_option maxRecDepth 20000 in
theorem ggX3_isKey_X3_in : GoodIn wsX3_isKey wsX3_in := goodIn_r _ [4] (by decide +kernel) (by decide +kernel)
set_option maxRecDepth 20000 in
theorem gX3_isKey_X3_in : GoodIn wsX3_isKey (va_wsS RX3 79 yX3_in wsX3_in) := goodIn_app (goodIn_of _ (by decide +kernel)) ggX3_isKey_X3_in
theorem dX3_isKey_0 : decode cX3_isKey 0 = .ok (.iload_n 0, 1) := by decide +kernel
theorem dX3_isKey_1 : decode cX3_isKey 1 = .ok (.iconst 0, 1) := by decide +kernel
theorem dX3_isKey_2 : decode cX3_isKey 2 = .ok (.bipush 15, 2) := by decide +kernel
theorem dX3_isKey_4 : decode cX3_isKey 4 = .ok (.invokestatic 79, 3) := by decide +kernel
theorem dX3_isKey_7 : decode cX3_isKey 7 = .ok (.ireturn, 1) := by decide +kernel
set_option maxRecDepth 20000 in
theorem ggX3_isElement_X3_in : GoodIn wsX3_isElement wsX3_in := goodIn_r _ [4] (by decide +kernel) (by decide +kernel)
set_option maxRecDepth 20000 in
theorem gX3_isElement_X3_in : GoodIn wsX3_isElement (va_wsS RX3 79 yX3_in wsX3_in) := goodIn_app (goodIn_of _ (by decide +kernel)) ggX3_isElement_X3_in
theorem dX3_isElement_0 : decode cX3_isElement 0 = .ok (.iload_n 0, 1) := by decide +kernel
theorem dX3_isElement_1 : decode cX3_isElement 1 = .ok (.iconst 0, 1) := by decide +kernel
theorem dX3_isElement_2 : decode cX3_isElement 2 = .ok (.bipush 31, 2) := by decide +kernel
theorem dX3_isElement_4 : decode cX3_isElement 4 = .ok (.invokestatic 79, 3) := by decide +kernel
theorem dX3_isElement_7 : decode cX3_isElement 7 = .ok (.ireturn, 1) := by decide +kernel
set_option maxRecDepth 20000 in
theorem ggX3_takeBack_X3_dot : GoodIn wsX3_takeBack wsX3_dot := goodIn_r _ [9] (by decide +kernel) (by decide +kernel)
set_option maxRecDepth 20000 in
theorem gX3_takeBack_X3_dot : GoodIn wsX3_takeBack (va_wsS RX3 83 yX3_dot wsX3_dot) := goodIn_app (goodIn_of _ (by decide +kernel)) ggX3_takeBack_X3_dot
set_option maxRecDepth 20000 in
theorem ggX3_takeBack_X3_isSet : GoodIn wsX3_takeBack wsX3_isSet := goodIn_r _ [12] (by decide +kernel) (by decide +kernel)
set_option maxRecDepth 20000 in
theorem gX3_takeBack_X3_isSet : GoodIn wsX3_takeBack (va_wsS RX3 49 yX3_isSet wsX3_isSet) := goodIn_app (goodIn_of _ (by decide +kernel)) ggX3_takeBack_X3_isSet
set_option maxRecDepth 20000 in
theorem ggX3_takeBack_X3_set : GoodIn wsX3_takeBack wsX3_set := goodIn_r _ [15] (by decide +kernel) (by decide +kernel)
set_option maxRecDepth 20000 in
theorem gX3_takeBack_X3_set : GoodIn wsX3_takeBack (va_wsS RX3 87 yX3_set wsX3_set) := goodIn_app (goodIn_of _ (by decide +kernel)) ggX3_takeBack_X3_set
theorem dX3_takeBack_0 : decode cX3_takeBack 0 = .ok (.lconst 0, 1) := by decide +kernel
theorem dX3_takeBack_1 : decode cX3_takeBack 1 = .ok (.lstore 6, 2) := by decide +kernel
theorem dX3_takeBack_3 : decode cX3_takeBack 3 = .ok (.iconst 0, 1) := by decide +kernel
theorem dX3_takeBack_4 : decode cX3_takeBack 4 = .ok (.istore 8, 2) := by decide +kernel
theorem dX3_takeBack_6 : decode cX3_takeBack 6 = .ok (.iload 8, 2) := by decide +kernel
theorem dX3_takeBack_8 : decode cX3_takeBack 8 = .ok (.bipush 6, 2) := by decide +kernel
theorem dX3_takeBack_10 : decode cX3_takeBack 10 = .ok (.if_icmp .ge 127, 3) := by decide +kernel
theorem dX3_takeBack_13 : decode cX3_takeBack 13 = .ok (.iconst 1, 1) := by decide +kernel
theorem dX3_takeBack_14 : decode cX3_takeBack 14 = .ok (.istore 9, 2) := by decide +kernel
theorem dX3_takeBack_16 : decode cX3_takeBack 16 = .ok (.iload 9, 2) := by decide +kernel
theorem dX3_takeBack_18 : decode cX3_takeBack 18 = .ok (.bipush 100, 2) := by decide +kernel
theorem dX3_takeBack_20 : decode cX3_takeBack 20 = .ok (.if_icmp .gt 111, 3) := by decide +kernel
theorem dX3_takeBack_23 : decode cX3_takeBack 23 = .ok (.iload 8, 2) := by decide +kernel
theorem dX3_takeBack_25 : decode cX3_takeBack 25 = .ok (.iload 9, 2) := by decide +kernel
theorem dX3_takeBack_27 : decode cX3_takeBack 27 = .ok (.invokestatic 83, 3) := by decide +kernel
theorem dX3_takeBack_30 : decode cX3_takeBack 30 = .ok (.istore 10, 2) := by decide +kernel
theorem dX3_takeBack_32 : decode cX3_takeBack 32 = .ok (.aload_n 0, 1) := by decide +kernel
theorem dX3_takeBack_33 : decode cX3_takeBack 33 = .ok (.getfield 13, 3) := by decide +kernel
theorem dX3_takeBack_36 : decode cX3_takeBack 36 = .ok (.iload_n 1, 1) := by decide +kernel
theorem dX3_takeBack_37 : decode cX3_takeBack 37 = .ok (.iload 8, 2) := by decide +kernel
theorem dX3_takeBack_39 : decode cX3_takeBack 39 = .ok (.iload 9, 2) := by decide +kernel
theorem dX3_takeBack_41 : decode cX3_takeBack 41 = .ok (.invokestatic 49, 3) := by decide +kernel
theorem dX3_takeBack_44 : decode cX3_takeBack 44 = .ok (.ifCond .eq 49, 3) := by decide +kernel
theorem dX3_takeBack_47 : decode cX3_takeBack 47 = .ok (.aload_n 0, 1) := by decide +kernel
theorem dX3_takeBack_48 : decode cX3_takeBack 48 = .ok (.getfield 33, 3) := by decide +kernel
theorem dX3_takeBack_51 : decode cX3_takeBack 51 = .ok (.iload 10, 2) := by decide +kernel
theorem dX3_takeBack_53 : decode cX3_takeBack 53 = .ok (.iaload, 1) := by decide +kernel
theorem dX3_takeBack_54 : decode cX3_takeBack 54 = .ok (.iload_n 3, 1) := by decide +kernel
theorem dX3_takeBack_55 : decode cX3_takeBack 55 = .ok (.if_icmp .ne 38, 3) := by decide +kernel
theorem dX3_takeBack_58 : decode cX3_takeBack 58 = .ok (.iload 4, 2) := by decide +kernel
theorem dX3_takeBack_60 : decode cX3_takeBack 60 = .ok (.iconst (-1), 1) := by decide +kernel
theorem dX3_takeBack_61 : decode cX3_takeBack 61 = .ok (.if_icmp .eq 15, 3) := by decide +kernel
theorem dX3_takeBack_64 : decode cX3_takeBack 64 = .ok (.aload_n 0, 1) := by decide +kernel
theorem dX3_takeBack_65 : decode cX3_takeBack 65 = .ok (.getfield 36, 3) := by decide +kernel
theorem dX3_takeBack_68 : decode cX3_takeBack 68 = .ok (.iload 10, 2) := by decide +kernel
theorem dX3_takeBack_70 : decode cX3_takeBack 70 = .ok (.iaload, 1) := by decide +kernel
theorem dX3_takeBack_71 : decode cX3_takeBack 71 = .ok (.iload 4, 2) := by decide +kernel
theorem dX3_takeBack_73 : decode cX3_takeBack 73 = .ok (.if_icmp .ne 20, 3) := by decide +kernel
theorem dX3_takeBack_76 : decode cX3_takeBack 76 = .ok (.iload 5, 2) := by decide +kernel
theorem dX3_takeBack_78 : decode cX3_takeBack 78 = .ok (.iconst (-1), 1) := by decide +kernel
theorem dX3_takeBack_79 : decode cX3_takeBack 79 = .ok (.if_icmp .eq 10, 3) := by decide +kernel
theorem dX3_takeBack_82 : decode cX3_takeBack 82 = .ok (.iload 8, 2) := by decide +kernel
theorem dX3_takeBack_84 : decode cX3_takeBack 84 = .ok (.iload 5, 2) := by decide +kernel
theorem dX3_takeBack_86 : decode cX3_takeBack 86 = .ok (.if_icmp .ne 7, 3) := by decide +kernel
theorem dX3_takeBack_89 : decode cX3_takeBack 89 = .ok (.iconst 1, 1) := by decide +kernel
theorem dX3_takeBack_90 : decode cX3_takeBack 90 = .ok (.goto 4, 3) := by decide +kernel
theorem dX3_takeBack_93 : decode cX3_takeBack 93 = .ok (.iconst 0, 1) := by decide +kernel
theorem dX3_takeBack_94 : decode cX3_takeBack 94 = .ok (.istore 11, 2) := by decide +kernel
theorem dX3_takeBack_96 : decode cX3_takeBack 96 = .ok (.iload 11, 2) := by decide +kernel
theorem dX3_takeBack_98 : decode cX3_takeBack 98 = .ok (.ifCond .eq 27, 3) := by decide +kernel
theorem dX3_takeBack_101 : decode cX3_takeBack 101 = .ok (.aload_n 0, 1) := by decide +kernel
theorem dX3_takeBack_102 : decode cX3_takeBack 102 = .ok (.getfield 7, 3) := by decide +kernel
theorem dX3_takeBack_105 : decode cX3_takeBack 105 = .ok (.iload_n 2, 1) := by decide +kernel
theorem dX3_takeBack_106 : decode cX3_takeBack 106 = .ok (.iload 8, 2) := by decide +kernel
theorem dX3_takeBack_108 : decode cX3_takeBack 108 = .ok (.iload 9, 2) := by decide +kernel
theorem dX3_takeBack_110 : decode cX3_takeBack 110 = .ok (.invokestatic 87, 3) := by decide +kernel
theorem dX3_takeBack_113 : decode cX3_takeBack 113 = .ok (.lload 6, 2) := by decide +kernel
theorem dX3_takeBack_115 : decode cX3_takeBack 115 = .ok (.aload_n 0, 1) := by decide +kernel
theorem dX3_takeBack_116 : decode cX3_takeBack 116 = .ok (.getfield 39, 3) := by decide +kernel
theorem dX3_takeBack_119 : decode cX3_takeBack 119 = .ok (.iload 10, 2) := by decide +kernel
theorem dX3_takeBack_121 : decode cX3_takeBack 121 = .ok (.laload, 1) := by decide +kernel
theorem dX3_takeBack_122 : decode cX3_takeBack 122 = .ok (.ladd, 1) := by decide +kernel
theorem dX3_takeBack_123 : decode cX3_takeBack 123 = .ok (.lstore 6, 2) := by decide +kernel
theorem dX3_takeBack_125 : decode cX3_takeBack 125 = .ok (.iinc 9 1, 3) := by decide +kernel
theorem dX3_takeBack_128 : decode cX3_takeBack 128 = .ok (.goto (-112), 3) := by decide +kernel
theorem dX3_takeBack_131 : decode cX3_takeBack 131 = .ok (.iinc 8 1, 3) := by decide +kernel
theorem dX3_takeBack_134 : decode cX3_takeBack 134 = .ok (.goto (-128), 3) := by decide +kernel
theorem dX3_takeBack_137 : decode cX3_takeBack 137 = .ok (.lload 6, 2) := by decide +kernel
theorem dX3_takeBack_139 : decode cX3_takeBack 139 = .ok (.lreturn, 1) := by decide +kernel
set_option maxRecDepth 20000 in
theorem ggX3_newDot_X3_greatest : GoodIn wsX3_newDot wsX3_greatest := goodIn_r _ [10, 4, 11, 12, 9, 13, 20, 21, 22, 23, 24, 25, 26, 27, 28, 29, 30, 31, 32, 33] (by decide +kernel) (by decide +kernel)
set_option maxRecDepth 20000 in
theorem gX3_newDot_X3_greatest : GoodIn wsX3_newDot (wsV RX3 91 RX3 yX3_greatest wsX3_greatest) := goodIn_app (goodIn_of _ (by decide +kernel)) ggX3_newDot_X3_greatest
set_option maxRecDepth 20000 in
theorem ggX3_newDot_X3_dot : GoodIn wsX3_newDot wsX3_dot := goodIn_r _ [16] (by decide +kernel) (by decide +kernel)
set_option maxRecDepth 20000 in
theorem gX3_newDot_X3_dot : GoodIn wsX3_newDot (va_wsS RX3 83 yX3_dot wsX3_dot) := goodIn_app (goodIn_of _ (by decide +kernel)) ggX3_newDot_X3_dot
set_option maxRecDepth 20000 in
theorem ggX3_newDot_X3_set : GoodIn wsX3_newDot wsX3_set := goodIn_r _ [19] (by decide +kernel) (by decide +kernel)
set_option maxRecDepth 20000 in
theorem gX3_newDot_X3_set : GoodIn wsX3_newDot (va_wsS RX3 87 yX3_set wsX3_set) := goodIn_app (goodIn_of _ (by decide +kernel)) ggX3_newDot_X3_set
theorem dX3_newDot_0 : decode cX3_newDot 0 = .ok (.aload_n 0, 1) := by decide +kernel
theorem dX3_newDot_1 : decode cX3_newDot 1 = .ok (.iload_n 1, 1) := by decide +kernel
theorem dX3_newDot_2 : decode cX3_newDot 2 = .ok (.iload_n 1, 1) := by decide +kernel
theorem dX3_newDot_3 : decode cX3_newDot 3 = .ok (.invokevirtual 91, 3) := by decide +kernel
theorem dX3_newDot_6 : decode cX3_newDot 6 = .ok (.iconst 1, 1) := by decide +kernel
theorem dX3_newDot_7 : decode cX3_newDot 7 = .ok (.iadd, 1) := by decide +kernel
theorem dX3_newDot_8 : decode cX3_newDot 8 = .ok (.istore 7, 2) := by decide +kernel
theorem dX3_newDot_10 : decode cX3_newDot 10 = .ok (.iload_n 1, 1) := by decide +kernel
theorem dX3_newDot_11 : decode cX3_newDot 11 = .ok (.iload 7, 2) := by decide +kernel
theorem dX3_newDot_13 : decode cX3_newDot 13 = .ok (.invokestatic 83, 3) := by decide +kernel
theorem dX3_newDot_16 : decode cX3_newDot 16 = .ok (.istore 8, 2) := by decide +kernel
theorem dX3_newDot_18 : decode cX3_newDot 18 = .ok (.aload_n 0, 1) := by decide +kernel
theorem dX3_newDot_19 : decode cX3_newDot 19 = .ok (.getfield 33, 3) := by decide +kernel
theorem dX3_newDot_22 : decode cX3_newDot 22 = .ok (.iload 8, 2) := by decide +kernel
theorem dX3_newDot_24 : decode cX3_newDot 24 = .ok (.iload_n 3, 1) := by decide +kernel
theorem dX3_newDot_25 : decode cX3_newDot 25 = .ok (.iastore, 1) := by decide +kernel
theorem dX3_newDot_26 : decode cX3_newDot 26 = .ok (.aload_n 0, 1) := by decide +kernel
theorem dX3_newDot_27 : decode cX3_newDot 27 = .ok (.getfield 36, 3) := by decide +kernel
theorem dX3_newDot_30 : decode cX3_newDot 30 = .ok (.iload 8, 2) := by decide +kernel
theorem dX3_newDot_32 : decode cX3_newDot 32 = .ok (.iload 4, 2) := by decide +kernel
theorem dX3_newDot_34 : decode cX3_newDot 34 = .ok (.iastore, 1) := by decide +kernel
theorem dX3_newDot_35 : decode cX3_newDot 35 = .ok (.aload_n 0, 1) := by decide +kernel
theorem dX3_newDot_36 : decode cX3_newDot 36 = .ok (.getfield 39, 3) := by decide +kernel
theorem dX3_newDot_39 : decode cX3_newDot 39 = .ok (.iload 8, 2) := by decide +kernel
theorem dX3_newDot_41 : decode cX3_newDot 41 = .ok (.lload 5, 2) := by decide +kernel
theorem dX3_newDot_43 : decode cX3_newDot 43 = .ok (.lastore, 1) := by decide +kernel
theorem dX3_newDot_44 : decode cX3_newDot 44 = .ok (.aload_n 0, 1) := by decide +kernel
theorem dX3_newDot_45 : decode cX3_newDot 45 = .ok (.getfield 7, 3) := by decide +kernel
theorem dX3_newDot_48 : decode cX3_newDot 48 = .ok (.iload_n 2, 1) := by decide +kernel
theorem dX3_newDot_49 : decode cX3_newDot 49 = .ok (.iload_n 1, 1) := by decide +kernel
theorem dX3_newDot_50 : decode cX3_newDot 50 = .ok (.iload 7, 2) := by decide +kernel
theorem dX3_newDot_52 : decode cX3_newDot 52 = .ok (.invokestatic 87, 3) := by decide +kernel
theorem dX3_newDot_55 : decode cX3_newDot 55 = .ok (.aload_n 0, 1) := by decide +kernel
theorem dX3_newDot_56 : decode cX3_newDot 56 = .ok (.getfield 13, 3) := by decide +kernel
theorem dX3_newDot_59 : decode cX3_newDot 59 = .ok (.iload_n 2, 1) := by decide +kernel
theorem dX3_newDot_60 : decode cX3_newDot 60 = .ok (.iload_n 1, 1) := by decide +kernel
theorem dX3_newDot_61 : decode cX3_newDot 61 = .ok (.iload 7, 2) := by decide +kernel
theorem dX3_newDot_63 : decode cX3_newDot 63 = .ok (.invokestatic 87, 3) := by decide +kernel
theorem dX3_newDot_66 : decode cX3_newDot 66 = .ok (.return_, 1) := by decide +kernel
set_option maxRecDepth 20000 in
theorem ggX3_hasRoom_X3_greatest : GoodIn wsX3_hasRoom wsX3_greatest := goodIn_r _ [6, 7, 8, 9, 5, 10, 11, 12, 13, 14, 15, 16, 17, 18, 19, 20, 21, 22, 23, 24] (by decide +kernel) (by decide +kernel)
set_option maxRecDepth 20000 in
theorem gX3_hasRoom_X3_greatest : GoodIn wsX3_hasRoom (wsV RX3 91 RX3 yX3_greatest wsX3_greatest) := goodIn_app (goodIn_of _ (by decide +kernel)) ggX3_hasRoom_X3_greatest
theorem dX3_hasRoom_0 : decode cX3_hasRoom 0 = .ok (.aload_n 0, 1) := by decide +kernel
theorem dX3_hasRoom_1 : decode cX3_hasRoom 1 = .ok (.getfield 72, 3) := by decide +kernel
theorem dX3_hasRoom_4 : decode cX3_hasRoom 4 = .ok (.sipush 250, 3) := by decide +kernel
theorem dX3_hasRoom_7 : decode cX3_hasRoom 7 = .ok (.if_icmp .ge 22, 3) := by decide +kernel
theorem dX3_hasRoom_10 : decode cX3_hasRoom 10 = .ok (.iload_n 2, 1) := by decide +kernel
theorem dX3_hasRoom_11 : decode cX3_hasRoom 11 = .ok (.ifCond .eq 14, 3) := by decide +kernel
theorem dX3_hasRoom_14 : decode cX3_hasRoom 14 = .ok (.aload_n 0, 1) := by decide +kernel
theorem dX3_hasRoom_15 : decode cX3_hasRoom 15 = .ok (.iload_n 1, 1) := by decide +kernel
theorem dX3_hasRoom_16 : decode cX3_hasRoom 16 = .ok (.iload_n 1, 1) := by decide +kernel
theorem dX3_hasRoom_17 : decode cX3_hasRoom 17 = .ok (.invokevirtual 91, 3) := by decide +kernel
theorem dX3_hasRoom_20 : decode cX3_hasRoom 20 = .ok (.bipush 100, 2) := by decide +kernel
theorem dX3_hasRoom_22 : decode cX3_hasRoom 22 = .ok (.if_icmp .ge 7, 3) := by decide +kernel
theorem dX3_hasRoom_25 : decode cX3_hasRoom 25 = .ok (.iconst 1, 1) := by decide +kernel
theorem dX3_hasRoom_26 : decode cX3_hasRoom 26 = .ok (.goto 4, 3) := by decide +kernel
theorem dX3_hasRoom_29 : decode cX3_hasRoom 29 = .ok (.iconst 0, 1) := by decide +kernel
theorem dX3_hasRoom_30 : decode cX3_hasRoom 30 = .ok (.ireturn, 1) := by decide +kernel
set_option maxRecDepth 20000 in
theorem ggX3_refusal_X3_isReplica : GoodIn wsX3_refusal wsX3_isReplica := goodIn_r _ [5, 6, 7, 4, 8] (by decide +kernel) (by decide +kernel)
set_option maxRecDepth 20000 in
theorem gX3_refusal_X3_isReplica : GoodIn wsX3_refusal (wsV RX3 94 RX3 yX3_isReplica wsX3_isReplica) := goodIn_app (goodIn_of _ (by decide +kernel)) ggX3_refusal_X3_isReplica
set_option maxRecDepth 20000 in
theorem ggX3_refusal_X3_isKey : GoodIn wsX3_refusal wsX3_isKey := goodIn_r _ [11, 6, 7, 4, 8] (by decide +kernel) (by decide +kernel)
set_option maxRecDepth 20000 in
theorem gX3_refusal_X3_isKey : GoodIn wsX3_refusal (va_wsS RX3 98 yX3_isKey wsX3_isKey) := goodIn_app (goodIn_of _ (by decide +kernel)) ggX3_refusal_X3_isKey
set_option maxRecDepth 20000 in
theorem ggX3_refusal_X3_hasRoom : GoodIn wsX3_refusal wsX3_hasRoom := goodIn_r _ [15, 16, 17, 18, 19, 4, 20, 21, 22, 23, 24, 25, 26, 27, 28, 29, 30, 31, 32, 33, 34, 35, 36, 37, 38] (by decide +kernel) (by decide +kernel)
set_option maxRecDepth 20000 in
theorem gX3_refusal_X3_hasRoom : GoodIn wsX3_refusal (wsV RX3 101 RX3 yX3_hasRoom wsX3_hasRoom) := goodIn_app (goodIn_of _ (by decide +kernel)) ggX3_refusal_X3_hasRoom
theorem dX3_refusal_0 : decode cX3_refusal 0 = .ok (.aload_n 0, 1) := by decide +kernel
theorem dX3_refusal_1 : decode cX3_refusal 1 = .ok (.iload_n 1, 1) := by decide +kernel
theorem dX3_refusal_2 : decode cX3_refusal 2 = .ok (.invokevirtual 94, 3) := by decide +kernel
theorem dX3_refusal_5 : decode cX3_refusal 5 = .ok (.ifCond .eq 14, 3) := by decide +kernel
theorem dX3_refusal_8 : decode cX3_refusal 8 = .ok (.iload_n 2, 1) := by decide +kernel
theorem dX3_refusal_9 : decode cX3_refusal 9 = .ok (.invokestatic 98, 3) := by decide +kernel
theorem dX3_refusal_12 : decode cX3_refusal 12 = .ok (.ifCond .eq 7, 3) := by decide +kernel
theorem dX3_refusal_15 : decode cX3_refusal 15 = .ok (.iload_n 3, 1) := by decide +kernel
theorem dX3_refusal_16 : decode cX3_refusal 16 = .ok (.ifCond .ne 5, 3) := by decide +kernel
theorem dX3_refusal_19 : decode cX3_refusal 19 = .ok (.iconst 1, 1) := by decide +kernel
theorem dX3_refusal_20 : decode cX3_refusal 20 = .ok (.ireturn, 1) := by decide +kernel
theorem dX3_refusal_21 : decode cX3_refusal 21 = .ok (.iload_n 2, 1) := by decide +kernel
theorem dX3_refusal_22 : decode cX3_refusal 22 = .ok (.iconst 4, 1) := by decide +kernel
theorem dX3_refusal_23 : decode cX3_refusal 23 = .ok (.irem, 1) := by decide +kernel
theorem dX3_refusal_24 : decode cX3_refusal 24 = .ok (.iload 4, 2) := by decide +kernel
theorem dX3_refusal_26 : decode cX3_refusal 26 = .ok (.if_icmp .eq 7, 3) := by decide +kernel
theorem dX3_refusal_29 : decode cX3_refusal 29 = .ok (.iconst 2, 1) := by decide +kernel
theorem dX3_refusal_30 : decode cX3_refusal 30 = .ok (.goto 18, 3) := by decide +kernel
theorem dX3_refusal_33 : decode cX3_refusal 33 = .ok (.aload_n 0, 1) := by decide +kernel
theorem dX3_refusal_34 : decode cX3_refusal 34 = .ok (.iload_n 1, 1) := by decide +kernel
theorem dX3_refusal_35 : decode cX3_refusal 35 = .ok (.iload 5, 2) := by decide +kernel
theorem dX3_refusal_37 : decode cX3_refusal 37 = .ok (.invokevirtual 101, 3) := by decide +kernel
theorem dX3_refusal_40 : decode cX3_refusal 40 = .ok (.ifCond .eq 7, 3) := by decide +kernel
theorem dX3_refusal_43 : decode cX3_refusal 43 = .ok (.iconst 0, 1) := by decide +kernel
theorem dX3_refusal_44 : decode cX3_refusal 44 = .ok (.goto 4, 3) := by decide +kernel
theorem dX3_refusal_47 : decode cX3_refusal 47 = .ok (.iconst 3, 1) := by decide +kernel
theorem dX3_refusal_48 : decode cX3_refusal 48 = .ok (.ireturn, 1) := by decide +kernel
set_option maxRecDepth 20000 in
theorem ggX3_change_X3_fresh : GoodIn wsX3_change wsX3_fresh := goodIn_r _ [5, 6, 7, 8, 9, 4, 10, 11, 12, 13, 14, 15, 16, 17, 59, 60, 61, 62, 63, 64, 65, 66, 67, 68, 69, 70, 71, 72] (by decide +kernel) (by decide +kernel)
set_option maxRecDepth 20000 in
theorem gX3_change_X3_fresh : GoodIn wsX3_change (wsV RX3 105 RX3 yX3_fresh wsX3_fresh) := goodIn_app (goodIn_of _ (by decide +kernel)) ggX3_change_X3_fresh
set_option maxRecDepth 20000 in
theorem ggX3_change_X3_takeBack : GoodIn wsX3_change wsX3_takeBack := goodIn_r _ [21, 12, 22, 23, 11, 24, 25, 26, 4, 27, 28, 29, 30, 31, 32, 33, 59, 60, 61, 62, 63, 64, 65, 66, 67, 68, 69, 70, 71, 72] (by decide +kernel) (by decide +kernel)
set_option maxRecDepth 20000 in
theorem gX3_change_X3_takeBack : GoodIn wsX3_change (wsV RX3 109 RX3 yX3_takeBack wsX3_takeBack) := goodIn_app (goodIn_of _ (by decide +kernel)) ggX3_change_X3_takeBack
set_option maxRecDepth 20000 in
theorem ggX3_change_X3_newDot : GoodIn wsX3_change wsX3_newDot := goodIn_r _ [37, 22, 23, 24, 11, 12, 38, 39, 40, 4, 41, 28, 29, 30, 25, 26, 27, 31, 32, 33, 59, 60, 61, 62, 63, 64, 65, 66, 67, 68, 69, 70, 71, 72] (by decide +kernel) (by decide +kernel)
set_option maxRecDepth 20000 in
theorem gX3_change_X3_newDot : GoodIn wsX3_change (wsV RX3 113 RX3 yX3_newDot wsX3_newDot) := goodIn_app (goodIn_of _ (by decide +kernel)) ggX3_change_X3_newDot
set_option maxRecDepth 20000 in
theorem ggX3_change_X3_done : GoodIn wsX3_change wsX3_done := goodIn_r _ [45, 6, 46, 47, 48, 4, 49, 12, 11, 50, 13, 14, 51, 52, 53, 54, 15, 16, 17, 55, 56, 57, 58, 59, 60, 61, 62, 63, 64, 65, 66, 67, 68, 69, 70, 71, 72] (by decide +kernel) (by decide +kernel)
set_option maxRecDepth 20000 in
theorem gX3_change_X3_done : GoodIn wsX3_change (wsV RX3 117 RX3 yX3_done wsX3_done) := goodIn_app (goodIn_of _ (by decide +kernel)) ggX3_change_X3_done
theorem dX3_change_0 : decode cX3_change 0 = .ok (.aload_n 0, 1) := by decide +kernel
theorem dX3_change_1 : decode cX3_change 1 = .ok (.invokevirtual 105, 3) := by decide +kernel
theorem dX3_change_4 : decode cX3_change 4 = .ok (.istore 5, 2) := by decide +kernel
theorem dX3_change_6 : decode cX3_change 6 = .ok (.aload_n 0, 1) := by decide +kernel
theorem dX3_change_7 : decode cX3_change 7 = .ok (.iload_n 1, 1) := by decide +kernel
theorem dX3_change_8 : decode cX3_change 8 = .ok (.iload 5, 2) := by decide +kernel
theorem dX3_change_10 : decode cX3_change 10 = .ok (.iload_n 2, 1) := by decide +kernel
theorem dX3_change_11 : decode cX3_change 11 = .ok (.iload_n 3, 1) := by decide +kernel
theorem dX3_change_12 : decode cX3_change 12 = .ok (.iconst (-1), 1) := by decide +kernel
theorem dX3_change_13 : decode cX3_change 13 = .ok (.invokevirtual 109, 3) := by decide +kernel
theorem dX3_change_16 : decode cX3_change 16 = .ok (.pop2, 1) := by decide +kernel
theorem dX3_change_17 : decode cX3_change 17 = .ok (.iload 4, 2) := by decide +kernel
theorem dX3_change_19 : decode cX3_change 19 = .ok (.ifCond .eq 13, 3) := by decide +kernel
theorem dX3_change_22 : decode cX3_change 22 = .ok (.aload_n 0, 1) := by decide +kernel
theorem dX3_change_23 : decode cX3_change 23 = .ok (.iload_n 1, 1) := by decide +kernel
theorem dX3_change_24 : decode cX3_change 24 = .ok (.iload 5, 2) := by decide +kernel
theorem dX3_change_26 : decode cX3_change 26 = .ok (.iload_n 2, 1) := by decide +kernel
theorem dX3_change_27 : decode cX3_change 27 = .ok (.iload_n 3, 1) := by decide +kernel
theorem dX3_change_28 : decode cX3_change 28 = .ok (.lconst 0, 1) := by decide +kernel
theorem dX3_change_29 : decode cX3_change 29 = .ok (.invokevirtual 113, 3) := by decide +kernel
theorem dX3_change_32 : decode cX3_change 32 = .ok (.aload_n 0, 1) := by decide +kernel
theorem dX3_change_33 : decode cX3_change 33 = .ok (.iload_n 1, 1) := by decide +kernel
theorem dX3_change_34 : decode cX3_change 34 = .ok (.iload 5, 2) := by decide +kernel
theorem dX3_change_36 : decode cX3_change 36 = .ok (.invokevirtual 117, 3) := by decide +kernel
theorem dX3_change_39 : decode cX3_change 39 = .ok (.ireturn, 1) := by decide +kernel
set_option maxRecDepth 20000 in
theorem ggX3_element_X3_isElement : GoodIn wsX3_element wsX3_isElement := goodIn_r _ [5, 6, 7, 4, 8] (by decide +kernel) (by decide +kernel)
set_option maxRecDepth 20000 in
theorem gX3_element_X3_isElement : GoodIn wsX3_element (va_wsS RX3 120 yX3_isElement wsX3_isElement) := goodIn_app (goodIn_of _ (by decide +kernel)) ggX3_element_X3_isElement
set_option maxRecDepth 20000 in
theorem ggX3_element_X3_refusal : GoodIn wsX3_element wsX3_refusal := goodIn_r _ [12, 13, 14, 15, 4, 16, 6, 7, 8, 17, 18, 19, 20, 21, 22, 23, 24, 25, 26, 27, 28, 29, 30, 31, 32, 85, 86, 87, 88, 89, 90, 91, 92, 93, 94, 95, 96, 97, 98] (by decide +kernel) (by decide +kernel)
set_option maxRecDepth 20000 in
theorem gX3_element_X3_refusal : GoodIn wsX3_element (wsV RX3 123 RX3 yX3_refusal wsX3_refusal) := goodIn_app (goodIn_of _ (by decide +kernel)) ggX3_element_X3_refusal
set_option maxRecDepth 20000 in
theorem ggX3_element_X3_change : GoodIn wsX3_element wsX3_change := goodIn_r _ [36, 37, 38, 39, 4, 40, 24, 41, 42, 43, 44, 29, 45, 46, 47, 48, 49, 50, 51, 52, 53, 54, 55, 56, 57, 58, 59, 60, 30, 31, 32, 61, 62, 63, 64, 65, 66, 67, 25, 26, 27, 28, 68, 69, 70, 71, 72, 73, 74, 75, 76, 77, 78, 79, 80, 81, 82, 83, 84, 85, 86, 87, 88, 89, 90, 91, 92, 93, 94, 95, 96, 97, 98] (by decide +kernel) (by decide +kernel)
set_option maxRecDepth 20000 in
theorem gX3_element_X3_change : GoodIn wsX3_element (wsV RX3 127 RX3 yX3_change wsX3_change) := goodIn_app (goodIn_of _ (by decide +kernel)) ggX3_element_X3_change
theorem dX3_element_0 : decode cX3_element 0 = .ok (.aload_n 0, 1) := by decide +kernel
theorem dX3_element_1 : decode cX3_element 1 = .ok (.aload_n 0, 1) := by decide +kernel
theorem dX3_element_2 : decode cX3_element 2 = .ok (.iload_n 1, 1) := by decide +kernel
theorem dX3_element_3 : decode cX3_element 3 = .ok (.iload_n 2, 1) := by decide +kernel
theorem dX3_element_4 : decode cX3_element 4 = .ok (.iload_n 3, 1) := by decide +kernel
theorem dX3_element_5 : decode cX3_element 5 = .ok (.invokestatic 120, 3) := by decide +kernel
theorem dX3_element_8 : decode cX3_element 8 = .ok (.iconst 0, 1) := by decide +kernel
theorem dX3_element_9 : decode cX3_element 9 = .ok (.iload 4, 2) := by decide +kernel
theorem dX3_element_11 : decode cX3_element 11 = .ok (.invokevirtual 123, 3) := by decide +kernel
theorem dX3_element_14 : decode cX3_element 14 = .ok (.putfield 45, 3) := by decide +kernel
theorem dX3_element_17 : decode cX3_element 17 = .ok (.aload_n 0, 1) := by decide +kernel
theorem dX3_element_18 : decode cX3_element 18 = .ok (.getfield 45, 3) := by decide +kernel
theorem dX3_element_21 : decode cX3_element 21 = .ok (.ifCond .le 7, 3) := by decide +kernel
theorem dX3_element_24 : decode cX3_element 24 = .ok (.iconst 0, 1) := by decide +kernel
theorem dX3_element_25 : decode cX3_element 25 = .ok (.goto 12, 3) := by decide +kernel
theorem dX3_element_28 : decode cX3_element 28 = .ok (.aload_n 0, 1) := by decide +kernel
theorem dX3_element_29 : decode cX3_element 29 = .ok (.iload_n 1, 1) := by decide +kernel
theorem dX3_element_30 : decode cX3_element 30 = .ok (.iload_n 2, 1) := by decide +kernel
theorem dX3_element_31 : decode cX3_element 31 = .ok (.iload_n 3, 1) := by decide +kernel
theorem dX3_element_32 : decode cX3_element 32 = .ok (.iload 4, 2) := by decide +kernel
theorem dX3_element_34 : decode cX3_element 34 = .ok (.invokevirtual 127, 3) := by decide +kernel
theorem dX3_element_37 : decode cX3_element 37 = .ok (.ireturn, 1) := by decide +kernel
set_option maxRecDepth 20000 in
theorem ggX3_write_X3_refusal : GoodIn wsX3_write wsX3_refusal := goodIn_r _ [6, 7, 8, 9, 5, 10, 11, 12, 13, 14, 15, 16, 17, 18, 19, 20, 21, 22, 23, 24, 25, 26, 27, 28, 29, 78, 79, 80, 81, 82, 83, 84, 85, 86, 87, 88, 89, 90, 91] (by decide +kernel) (by decide +kernel)
set_option maxRecDepth 20000 in
theorem gX3_write_X3_refusal : GoodIn wsX3_write (wsV RX3 123 RX3 yX3_refusal wsX3_refusal) := goodIn_app (goodIn_of _ (by decide +kernel)) ggX3_write_X3_refusal
set_option maxRecDepth 20000 in
theorem ggX3_write_X3_fresh : GoodIn wsX3_write wsX3_fresh := goodIn_r _ [33, 21, 34, 35, 36, 5, 37, 26, 38, 39, 40, 41, 42, 43, 78, 79, 80, 81, 82, 83, 84, 85, 86, 87, 88, 89, 90, 91] (by decide +kernel) (by decide +kernel)
set_option maxRecDepth 20000 in
theorem gX3_write_X3_fresh : GoodIn wsX3_write (wsV RX3 105 RX3 yX3_fresh wsX3_fresh) := goodIn_app (goodIn_of _ (by decide +kernel)) ggX3_write_X3_fresh
set_option maxRecDepth 20000 in
theorem ggX3_write_X3_takeBack : GoodIn wsX3_write wsX3_takeBack := goodIn_r _ [47, 38, 48, 49, 26, 50, 51, 52, 5, 53, 27, 28, 29, 54, 55, 56, 78, 79, 80, 81, 82, 83, 84, 85, 86, 87, 88, 89, 90, 91] (by decide +kernel) (by decide +kernel)
set_option maxRecDepth 20000 in
theorem gX3_write_X3_takeBack : GoodIn wsX3_write (wsV RX3 109 RX3 yX3_takeBack wsX3_takeBack) := goodIn_app (goodIn_of _ (by decide +kernel)) ggX3_write_X3_takeBack
set_option maxRecDepth 20000 in
theorem ggX3_write_X3_newDot : GoodIn wsX3_write wsX3_newDot := goodIn_r _ [60, 48, 49, 50, 26, 38, 22, 23, 24, 5, 25, 27, 28, 29, 51, 52, 53, 54, 55, 56, 78, 79, 80, 81, 82, 83, 84, 85, 86, 87, 88, 89, 90, 91] (by decide +kernel) (by decide +kernel)
set_option maxRecDepth 20000 in
theorem gX3_write_X3_newDot : GoodIn wsX3_write (wsV RX3 113 RX3 yX3_newDot wsX3_newDot) := goodIn_app (goodIn_of _ (by decide +kernel)) ggX3_write_X3_newDot
set_option maxRecDepth 20000 in
theorem ggX3_write_X3_done : GoodIn wsX3_write wsX3_done := goodIn_r _ [64, 21, 65, 66, 67, 5, 68, 38, 26, 69, 39, 40, 70, 71, 72, 73, 41, 42, 43, 74, 75, 76, 77, 78, 79, 80, 81, 82, 83, 84, 85, 86, 87, 88, 89, 90, 91] (by decide +kernel) (by decide +kernel)
set_option maxRecDepth 20000 in
theorem gX3_write_X3_done : GoodIn wsX3_write (wsV RX3 117 RX3 yX3_done wsX3_done) := goodIn_app (goodIn_of _ (by decide +kernel)) ggX3_write_X3_done
theorem dX3_write_0 : decode cX3_write 0 = .ok (.aload_n 0, 1) := by decide +kernel
theorem dX3_write_1 : decode cX3_write 1 = .ok (.aload_n 0, 1) := by decide +kernel
theorem dX3_write_2 : decode cX3_write 2 = .ok (.iload_n 1, 1) := by decide +kernel
theorem dX3_write_3 : decode cX3_write 3 = .ok (.iload_n 2, 1) := by decide +kernel
theorem dX3_write_4 : decode cX3_write 4 = .ok (.iconst 1, 1) := by decide +kernel
theorem dX3_write_5 : decode cX3_write 5 = .ok (.iconst 1, 1) := by decide +kernel
theorem dX3_write_6 : decode cX3_write 6 = .ok (.iconst 1, 1) := by decide +kernel
theorem dX3_write_7 : decode cX3_write 7 = .ok (.invokevirtual 123, 3) := by decide +kernel
theorem dX3_write_10 : decode cX3_write 10 = .ok (.putfield 45, 3) := by decide +kernel
theorem dX3_write_13 : decode cX3_write 13 = .ok (.aload_n 0, 1) := by decide +kernel
theorem dX3_write_14 : decode cX3_write 14 = .ok (.getfield 45, 3) := by decide +kernel
theorem dX3_write_17 : decode cX3_write 17 = .ok (.ifCond .le 5, 3) := by decide +kernel
theorem dX3_write_20 : decode cX3_write 20 = .ok (.iconst 0, 1) := by decide +kernel
theorem dX3_write_21 : decode cX3_write 21 = .ok (.ireturn, 1) := by decide +kernel
theorem dX3_write_22 : decode cX3_write 22 = .ok (.aload_n 0, 1) := by decide +kernel
theorem dX3_write_23 : decode cX3_write 23 = .ok (.invokevirtual 105, 3) := by decide +kernel
theorem dX3_write_26 : decode cX3_write 26 = .ok (.istore 5, 2) := by decide +kernel
theorem dX3_write_28 : decode cX3_write 28 = .ok (.aload_n 0, 1) := by decide +kernel
theorem dX3_write_29 : decode cX3_write 29 = .ok (.iload_n 1, 1) := by decide +kernel
theorem dX3_write_30 : decode cX3_write 30 = .ok (.iload 5, 2) := by decide +kernel
theorem dX3_write_32 : decode cX3_write 32 = .ok (.iload_n 2, 1) := by decide +kernel
theorem dX3_write_33 : decode cX3_write 33 = .ok (.iconst (-1), 1) := by decide +kernel
theorem dX3_write_34 : decode cX3_write 34 = .ok (.iconst (-1), 1) := by decide +kernel
theorem dX3_write_35 : decode cX3_write 35 = .ok (.invokevirtual 109, 3) := by decide +kernel
theorem dX3_write_38 : decode cX3_write 38 = .ok (.pop2, 1) := by decide +kernel
theorem dX3_write_39 : decode cX3_write 39 = .ok (.aload_n 0, 1) := by decide +kernel
theorem dX3_write_40 : decode cX3_write 40 = .ok (.iload_n 1, 1) := by decide +kernel
theorem dX3_write_41 : decode cX3_write 41 = .ok (.iload 5, 2) := by decide +kernel
theorem dX3_write_43 : decode cX3_write 43 = .ok (.iload_n 2, 1) := by decide +kernel
theorem dX3_write_44 : decode cX3_write 44 = .ok (.iconst 0, 1) := by decide +kernel
theorem dX3_write_45 : decode cX3_write 45 = .ok (.lload_n 3, 1) := by decide +kernel
theorem dX3_write_46 : decode cX3_write 46 = .ok (.invokevirtual 113, 3) := by decide +kernel
theorem dX3_write_49 : decode cX3_write 49 = .ok (.aload_n 0, 1) := by decide +kernel
theorem dX3_write_50 : decode cX3_write 50 = .ok (.iload_n 1, 1) := by decide +kernel
theorem dX3_write_51 : decode cX3_write 51 = .ok (.iload 5, 2) := by decide +kernel
theorem dX3_write_53 : decode cX3_write 53 = .ok (.invokevirtual 117, 3) := by decide +kernel
theorem dX3_write_56 : decode cX3_write 56 = .ok (.ireturn, 1) := by decide +kernel
set_option maxRecDepth 20000 in
theorem ggX3_count_X3_refusal : GoodIn wsX3_count wsX3_refusal := goodIn_r _ [6, 7, 8, 9, 5, 10, 11, 12, 13, 14, 15, 16, 17, 18, 19, 20, 21, 22, 23, 24, 25, 26, 27, 28, 29, 78, 79, 80, 81, 82, 83, 84, 85, 86, 87, 88, 89, 90, 91] (by decide +kernel) (by decide +kernel)
set_option maxRecDepth 20000 in
theorem gX3_count_X3_refusal : GoodIn wsX3_count (wsV RX3 123 RX3 yX3_refusal wsX3_refusal) := goodIn_app (goodIn_of _ (by decide +kernel)) ggX3_count_X3_refusal
set_option maxRecDepth 20000 in
theorem ggX3_count_X3_fresh : GoodIn wsX3_count wsX3_fresh := goodIn_r _ [33, 21, 34, 35, 36, 5, 37, 26, 38, 39, 40, 41, 42, 43, 78, 79, 80, 81, 82, 83, 84, 85, 86, 87, 88, 89, 90, 91] (by decide +kernel) (by decide +kernel)
set_option maxRecDepth 20000 in
theorem gX3_count_X3_fresh : GoodIn wsX3_count (wsV RX3 105 RX3 yX3_fresh wsX3_fresh) := goodIn_app (goodIn_of _ (by decide +kernel)) ggX3_count_X3_fresh
set_option maxRecDepth 20000 in
theorem ggX3_count_X3_takeBack : GoodIn wsX3_count wsX3_takeBack := goodIn_r _ [47, 38, 48, 49, 26, 50, 51, 52, 5, 53, 27, 28, 29, 54, 55, 56, 78, 79, 80, 81, 82, 83, 84, 85, 86, 87, 88, 89, 90, 91] (by decide +kernel) (by decide +kernel)
set_option maxRecDepth 20000 in
theorem gX3_count_X3_takeBack : GoodIn wsX3_count (wsV RX3 109 RX3 yX3_takeBack wsX3_takeBack) := goodIn_app (goodIn_of _ (by decide +kernel)) ggX3_count_X3_takeBack
set_option maxRecDepth 20000 in
theorem ggX3_count_X3_newDot : GoodIn wsX3_count wsX3_newDot := goodIn_r _ [60, 48, 49, 50, 26, 38, 22, 23, 24, 5, 25, 27, 28, 29, 51, 52, 53, 54, 55, 56, 78, 79, 80, 81, 82, 83, 84, 85, 86, 87, 88, 89, 90, 91] (by decide +kernel) (by decide +kernel)
set_option maxRecDepth 20000 in
theorem gX3_count_X3_newDot : GoodIn wsX3_count (wsV RX3 113 RX3 yX3_newDot wsX3_newDot) := goodIn_app (goodIn_of _ (by decide +kernel)) ggX3_count_X3_newDot
set_option maxRecDepth 20000 in
theorem ggX3_count_X3_done : GoodIn wsX3_count wsX3_done := goodIn_r _ [64, 21, 65, 66, 67, 5, 68, 38, 26, 69, 39, 40, 70, 71, 72, 73, 41, 42, 43, 74, 75, 76, 77, 78, 79, 80, 81, 82, 83, 84, 85, 86, 87, 88, 89, 90, 91] (by decide +kernel) (by decide +kernel)
set_option maxRecDepth 20000 in
theorem gX3_count_X3_done : GoodIn wsX3_count (wsV RX3 117 RX3 yX3_done wsX3_done) := goodIn_app (goodIn_of _ (by decide +kernel)) ggX3_count_X3_done
theorem dX3_count_0 : decode cX3_count 0 = .ok (.aload_n 0, 1) := by decide +kernel
theorem dX3_count_1 : decode cX3_count 1 = .ok (.aload_n 0, 1) := by decide +kernel
theorem dX3_count_2 : decode cX3_count 2 = .ok (.iload_n 1, 1) := by decide +kernel
theorem dX3_count_3 : decode cX3_count 3 = .ok (.iload_n 2, 1) := by decide +kernel
theorem dX3_count_4 : decode cX3_count 4 = .ok (.iconst 1, 1) := by decide +kernel
theorem dX3_count_5 : decode cX3_count 5 = .ok (.iconst 2, 1) := by decide +kernel
theorem dX3_count_6 : decode cX3_count 6 = .ok (.iconst 1, 1) := by decide +kernel
theorem dX3_count_7 : decode cX3_count 7 = .ok (.invokevirtual 123, 3) := by decide +kernel
theorem dX3_count_10 : decode cX3_count 10 = .ok (.putfield 45, 3) := by decide +kernel
theorem dX3_count_13 : decode cX3_count 13 = .ok (.aload_n 0, 1) := by decide +kernel
theorem dX3_count_14 : decode cX3_count 14 = .ok (.getfield 45, 3) := by decide +kernel
theorem dX3_count_17 : decode cX3_count 17 = .ok (.ifCond .le 5, 3) := by decide +kernel
theorem dX3_count_20 : decode cX3_count 20 = .ok (.iconst 0, 1) := by decide +kernel
theorem dX3_count_21 : decode cX3_count 21 = .ok (.ireturn, 1) := by decide +kernel
theorem dX3_count_22 : decode cX3_count 22 = .ok (.aload_n 0, 1) := by decide +kernel
theorem dX3_count_23 : decode cX3_count 23 = .ok (.invokevirtual 105, 3) := by decide +kernel
theorem dX3_count_26 : decode cX3_count 26 = .ok (.istore 5, 2) := by decide +kernel
theorem dX3_count_28 : decode cX3_count 28 = .ok (.aload_n 0, 1) := by decide +kernel
theorem dX3_count_29 : decode cX3_count 29 = .ok (.iload_n 1, 1) := by decide +kernel
theorem dX3_count_30 : decode cX3_count 30 = .ok (.iload 5, 2) := by decide +kernel
theorem dX3_count_32 : decode cX3_count 32 = .ok (.iload_n 2, 1) := by decide +kernel
theorem dX3_count_33 : decode cX3_count 33 = .ok (.iconst (-1), 1) := by decide +kernel
theorem dX3_count_34 : decode cX3_count 34 = .ok (.iload_n 1, 1) := by decide +kernel
theorem dX3_count_35 : decode cX3_count 35 = .ok (.invokevirtual 109, 3) := by decide +kernel
theorem dX3_count_38 : decode cX3_count 38 = .ok (.lstore 6, 2) := by decide +kernel
theorem dX3_count_40 : decode cX3_count 40 = .ok (.aload_n 0, 1) := by decide +kernel
theorem dX3_count_41 : decode cX3_count 41 = .ok (.iload_n 1, 1) := by decide +kernel
theorem dX3_count_42 : decode cX3_count 42 = .ok (.iload 5, 2) := by decide +kernel
theorem dX3_count_44 : decode cX3_count 44 = .ok (.iload_n 2, 1) := by decide +kernel
theorem dX3_count_45 : decode cX3_count 45 = .ok (.iconst 0, 1) := by decide +kernel
theorem dX3_count_46 : decode cX3_count 46 = .ok (.lload 6, 2) := by decide +kernel
theorem dX3_count_48 : decode cX3_count 48 = .ok (.lload_n 3, 1) := by decide +kernel
theorem dX3_count_49 : decode cX3_count 49 = .ok (.ladd, 1) := by decide +kernel
theorem dX3_count_50 : decode cX3_count 50 = .ok (.invokevirtual 113, 3) := by decide +kernel
theorem dX3_count_53 : decode cX3_count 53 = .ok (.aload_n 0, 1) := by decide +kernel
theorem dX3_count_54 : decode cX3_count 54 = .ok (.iload_n 1, 1) := by decide +kernel
theorem dX3_count_55 : decode cX3_count 55 = .ok (.iload 5, 2) := by decide +kernel
theorem dX3_count_57 : decode cX3_count 57 = .ok (.invokevirtual 117, 3) := by decide +kernel
theorem dX3_count_60 : decode cX3_count 60 = .ok (.ireturn, 1) := by decide +kernel
set_option maxRecDepth 20000 in
theorem ggX3_flag_X3_in : GoodIn wsX3_flag wsX3_in := goodIn_r _ [5] (by decide +kernel) (by decide +kernel)
set_option maxRecDepth 20000 in
theorem gX3_flag_X3_in : GoodIn wsX3_flag (va_wsS RX3 79 yX3_in wsX3_in) := goodIn_app (goodIn_of _ (by decide +kernel)) ggX3_flag_X3_in
set_option maxRecDepth 20000 in
theorem ggX3_flag_X3_refusal : GoodIn wsX3_flag wsX3_refusal := goodIn_r _ [9, 10, 11, 12, 4, 13, 2, 3, 5, 14, 15, 16, 17, 18, 19, 20, 21, 22, 23, 24, 25, 26, 27, 28, 29, 82, 83, 84, 85, 86, 87, 88, 89, 90, 91, 92, 93, 94, 95] (by decide +kernel) (by decide +kernel)
set_option maxRecDepth 20000 in
theorem gX3_flag_X3_refusal : GoodIn wsX3_flag (wsV RX3 123 RX3 yX3_refusal wsX3_refusal) := goodIn_app (goodIn_of _ (by decide +kernel)) ggX3_flag_X3_refusal
set_option maxRecDepth 20000 in
theorem ggX3_flag_X3_change : GoodIn wsX3_flag wsX3_change := goodIn_r _ [33, 34, 35, 36, 4, 37, 21, 38, 39, 40, 41, 26, 42, 43, 44, 45, 46, 47, 48, 49, 50, 51, 52, 53, 54, 55, 56, 57, 27, 28, 29, 58, 59, 60, 61, 62, 63, 64, 22, 23, 24, 25, 65, 66, 67, 68, 69, 70, 71, 72, 73, 74, 75, 76, 77, 78, 79, 80, 81, 82, 83, 84, 85, 86, 87, 88, 89, 90, 91, 92, 93, 94, 95] (by decide +kernel) (by decide +kernel)
set_option maxRecDepth 20000 in
theorem gX3_flag_X3_change : GoodIn wsX3_flag (wsV RX3 127 RX3 yX3_change wsX3_change) := goodIn_app (goodIn_of _ (by decide +kernel)) ggX3_flag_X3_change
theorem dX3_flag_0 : decode cX3_flag 0 = .ok (.aload_n 0, 1) := by decide +kernel
theorem dX3_flag_1 : decode cX3_flag 1 = .ok (.aload_n 0, 1) := by decide +kernel
theorem dX3_flag_2 : decode cX3_flag 2 = .ok (.iload_n 1, 1) := by decide +kernel
theorem dX3_flag_3 : decode cX3_flag 3 = .ok (.iload_n 2, 1) := by decide +kernel
theorem dX3_flag_4 : decode cX3_flag 4 = .ok (.iload_n 3, 1) := by decide +kernel
theorem dX3_flag_5 : decode cX3_flag 5 = .ok (.iconst 0, 1) := by decide +kernel
theorem dX3_flag_6 : decode cX3_flag 6 = .ok (.bipush 7, 2) := by decide +kernel
theorem dX3_flag_8 : decode cX3_flag 8 = .ok (.invokestatic 79, 3) := by decide +kernel
theorem dX3_flag_11 : decode cX3_flag 11 = .ok (.iconst 3, 1) := by decide +kernel
theorem dX3_flag_12 : decode cX3_flag 12 = .ok (.iload 4, 2) := by decide +kernel
theorem dX3_flag_14 : decode cX3_flag 14 = .ok (.invokevirtual 123, 3) := by decide +kernel
theorem dX3_flag_17 : decode cX3_flag 17 = .ok (.putfield 45, 3) := by decide +kernel
theorem dX3_flag_20 : decode cX3_flag 20 = .ok (.aload_n 0, 1) := by decide +kernel
theorem dX3_flag_21 : decode cX3_flag 21 = .ok (.getfield 45, 3) := by decide +kernel
theorem dX3_flag_24 : decode cX3_flag 24 = .ok (.ifCond .le 7, 3) := by decide +kernel
theorem dX3_flag_27 : decode cX3_flag 27 = .ok (.iconst 0, 1) := by decide +kernel
theorem dX3_flag_28 : decode cX3_flag 28 = .ok (.goto 12, 3) := by decide +kernel
theorem dX3_flag_31 : decode cX3_flag 31 = .ok (.aload_n 0, 1) := by decide +kernel
theorem dX3_flag_32 : decode cX3_flag 32 = .ok (.iload_n 1, 1) := by decide +kernel
theorem dX3_flag_33 : decode cX3_flag 33 = .ok (.iload_n 2, 1) := by decide +kernel
theorem dX3_flag_34 : decode cX3_flag 34 = .ok (.iload_n 3, 1) := by decide +kernel
theorem dX3_flag_35 : decode cX3_flag 35 = .ok (.iload 4, 2) := by decide +kernel
theorem dX3_flag_37 : decode cX3_flag 37 = .ok (.invokevirtual 127, 3) := by decide +kernel
theorem dX3_flag_40 : decode cX3_flag 40 = .ok (.ireturn, 1) := by decide +kernel
set_option maxRecDepth 20000 in
theorem ggX3_clear_X3_isReplica : GoodIn wsX3_clear wsX3_isReplica := goodIn_r _ [6, 7, 8, 5, 9] (by decide +kernel) (by decide +kernel)
set_option maxRecDepth 20000 in
theorem gX3_clear_X3_isReplica : GoodIn wsX3_clear (wsV RX3 94 RX3 yX3_isReplica wsX3_isReplica) := goodIn_app (goodIn_of _ (by decide +kernel)) ggX3_clear_X3_isReplica
set_option maxRecDepth 20000 in
theorem ggX3_clear_X3_isKey : GoodIn wsX3_clear wsX3_isKey := goodIn_r _ [12, 7, 8, 5, 9] (by decide +kernel) (by decide +kernel)
set_option maxRecDepth 20000 in
theorem gX3_clear_X3_isKey : GoodIn wsX3_clear (va_wsS RX3 98 yX3_isKey wsX3_isKey) := goodIn_app (goodIn_of _ (by decide +kernel)) ggX3_clear_X3_isKey
set_option maxRecDepth 20000 in
theorem ggX3_clear_X3_hasRoom : GoodIn wsX3_clear wsX3_hasRoom := goodIn_r _ [16, 17, 18, 19, 20, 5, 21, 22, 23, 24, 25, 70, 71, 72, 73, 74, 75, 76, 77, 78, 79, 80, 81, 82, 83] (by decide +kernel) (by decide +kernel)
set_option maxRecDepth 20000 in
theorem gX3_clear_X3_hasRoom : GoodIn wsX3_clear (wsV RX3 101 RX3 yX3_hasRoom wsX3_hasRoom) := goodIn_app (goodIn_of _ (by decide +kernel)) ggX3_clear_X3_hasRoom
set_option maxRecDepth 20000 in
theorem ggX3_clear_X3_fresh : GoodIn wsX3_clear wsX3_fresh := goodIn_r _ [29, 17, 30, 31, 32, 5, 33, 22, 34, 35, 36, 37, 38, 39, 70, 71, 72, 73, 74, 75, 76, 77, 78, 79, 80, 81, 82, 83] (by decide +kernel) (by decide +kernel)
set_option maxRecDepth 20000 in
theorem gX3_clear_X3_fresh : GoodIn wsX3_clear (wsV RX3 105 RX3 yX3_fresh wsX3_fresh) := goodIn_app (goodIn_of _ (by decide +kernel)) ggX3_clear_X3_fresh
set_option maxRecDepth 20000 in
theorem ggX3_clear_X3_takeBack : GoodIn wsX3_clear wsX3_takeBack := goodIn_r _ [43, 34, 44, 45, 22, 46, 47, 48, 5, 49, 23, 24, 25, 50, 51, 52, 70, 71, 72, 73, 74, 75, 76, 77, 78, 79, 80, 81, 82, 83] (by decide +kernel) (by decide +kernel)
set_option maxRecDepth 20000 in
theorem gX3_clear_X3_takeBack : GoodIn wsX3_clear (wsV RX3 109 RX3 yX3_takeBack wsX3_takeBack) := goodIn_app (goodIn_of _ (by decide +kernel)) ggX3_clear_X3_takeBack
set_option maxRecDepth 20000 in
theorem ggX3_clear_X3_done : GoodIn wsX3_clear wsX3_done := goodIn_r _ [56, 17, 57, 58, 59, 5, 60, 34, 22, 61, 35, 36, 62, 63, 64, 65, 37, 38, 39, 66, 67, 68, 69, 70, 71, 72, 73, 74, 75, 76, 77, 78, 79, 80, 81, 82, 83] (by decide +kernel) (by decide +kernel)
set_option maxRecDepth 20000 in
theorem gX3_clear_X3_done : GoodIn wsX3_clear (wsV RX3 117 RX3 yX3_done wsX3_done) := goodIn_app (goodIn_of _ (by decide +kernel)) ggX3_clear_X3_done
theorem dX3_clear_0 : decode cX3_clear 0 = .ok (.aload_n 0, 1) := by decide +kernel
theorem dX3_clear_1 : decode cX3_clear 1 = .ok (.aload_n 0, 1) := by decide +kernel
theorem dX3_clear_2 : decode cX3_clear 2 = .ok (.iload_n 1, 1) := by decide +kernel
theorem dX3_clear_3 : decode cX3_clear 3 = .ok (.invokevirtual 94, 3) := by decide +kernel
theorem dX3_clear_6 : decode cX3_clear 6 = .ok (.ifCond .eq 10, 3) := by decide +kernel
theorem dX3_clear_9 : decode cX3_clear 9 = .ok (.iload_n 2, 1) := by decide +kernel
theorem dX3_clear_10 : decode cX3_clear 10 = .ok (.invokestatic 98, 3) := by decide +kernel
theorem dX3_clear_13 : decode cX3_clear 13 = .ok (.ifCond .ne 7, 3) := by decide +kernel
theorem dX3_clear_16 : decode cX3_clear 16 = .ok (.iconst 1, 1) := by decide +kernel
theorem dX3_clear_17 : decode cX3_clear 17 = .ok (.goto 17, 3) := by decide +kernel
theorem dX3_clear_20 : decode cX3_clear 20 = .ok (.aload_n 0, 1) := by decide +kernel
theorem dX3_clear_21 : decode cX3_clear 21 = .ok (.iload_n 1, 1) := by decide +kernel
theorem dX3_clear_22 : decode cX3_clear 22 = .ok (.iconst 0, 1) := by decide +kernel
theorem dX3_clear_23 : decode cX3_clear 23 = .ok (.invokevirtual 101, 3) := by decide +kernel
theorem dX3_clear_26 : decode cX3_clear 26 = .ok (.ifCond .eq 7, 3) := by decide +kernel
theorem dX3_clear_29 : decode cX3_clear 29 = .ok (.iconst 0, 1) := by decide +kernel
theorem dX3_clear_30 : decode cX3_clear 30 = .ok (.goto 4, 3) := by decide +kernel
theorem dX3_clear_33 : decode cX3_clear 33 = .ok (.iconst 2, 1) := by decide +kernel
theorem dX3_clear_34 : decode cX3_clear 34 = .ok (.putfield 45, 3) := by decide +kernel
theorem dX3_clear_37 : decode cX3_clear 37 = .ok (.aload_n 0, 1) := by decide +kernel
theorem dX3_clear_38 : decode cX3_clear 38 = .ok (.getfield 45, 3) := by decide +kernel
theorem dX3_clear_41 : decode cX3_clear 41 = .ok (.ifCond .le 5, 3) := by decide +kernel
theorem dX3_clear_44 : decode cX3_clear 44 = .ok (.iconst 0, 1) := by decide +kernel
theorem dX3_clear_45 : decode cX3_clear 45 = .ok (.ireturn, 1) := by decide +kernel
theorem dX3_clear_46 : decode cX3_clear 46 = .ok (.aload_n 0, 1) := by decide +kernel
theorem dX3_clear_47 : decode cX3_clear 47 = .ok (.invokevirtual 105, 3) := by decide +kernel
theorem dX3_clear_50 : decode cX3_clear 50 = .ok (.istore_n 3, 1) := by decide +kernel
theorem dX3_clear_51 : decode cX3_clear 51 = .ok (.aload_n 0, 1) := by decide +kernel
theorem dX3_clear_52 : decode cX3_clear 52 = .ok (.iload_n 1, 1) := by decide +kernel
theorem dX3_clear_53 : decode cX3_clear 53 = .ok (.iload_n 3, 1) := by decide +kernel
theorem dX3_clear_54 : decode cX3_clear 54 = .ok (.iload_n 2, 1) := by decide +kernel
theorem dX3_clear_55 : decode cX3_clear 55 = .ok (.iconst (-1), 1) := by decide +kernel
theorem dX3_clear_56 : decode cX3_clear 56 = .ok (.iconst (-1), 1) := by decide +kernel
theorem dX3_clear_57 : decode cX3_clear 57 = .ok (.invokevirtual 109, 3) := by decide +kernel
theorem dX3_clear_60 : decode cX3_clear 60 = .ok (.pop2, 1) := by decide +kernel
theorem dX3_clear_61 : decode cX3_clear 61 = .ok (.aload_n 0, 1) := by decide +kernel
theorem dX3_clear_62 : decode cX3_clear 62 = .ok (.iload_n 1, 1) := by decide +kernel
theorem dX3_clear_63 : decode cX3_clear 63 = .ok (.iload_n 3, 1) := by decide +kernel
theorem dX3_clear_64 : decode cX3_clear 64 = .ok (.invokevirtual 117, 3) := by decide +kernel
theorem dX3_clear_67 : decode cX3_clear 67 = .ok (.ireturn, 1) := by decide +kernel
set_option maxRecDepth 20000 in
theorem ggX3_twice_X3_isReplica : GoodIn wsX3_twice wsX3_isReplica := goodIn_r _ [8, 9, 10, 7, 11] (by decide +kernel) (by decide +kernel)
set_option maxRecDepth 20000 in
theorem gX3_twice_X3_isReplica : GoodIn wsX3_twice (wsV RX3 94 RX3 yX3_isReplica wsX3_isReplica) := goodIn_app (goodIn_of _ (by decide +kernel)) ggX3_twice_X3_isReplica
set_option maxRecDepth 20000 in
theorem ggX3_twice_X3_isElement : GoodIn wsX3_twice wsX3_isElement := goodIn_r _ [14, 9, 10, 7, 11] (by decide +kernel) (by decide +kernel)
set_option maxRecDepth 20000 in
theorem gX3_twice_X3_isElement : GoodIn wsX3_twice (va_wsS RX3 120 yX3_isElement wsX3_isElement) := goodIn_app (goodIn_of _ (by decide +kernel)) ggX3_twice_X3_isElement
set_option maxRecDepth 20000 in
theorem ggX3_twice_X3_hasRoom : GoodIn wsX3_twice wsX3_hasRoom := goodIn_r _ [18, 19, 20, 21, 22, 7, 23, 24, 25, 26, 27, 57, 58, 59, 60, 61, 62, 63, 64, 65, 66, 67, 68, 69, 70] (by decide +kernel) (by decide +kernel)
set_option maxRecDepth 20000 in
theorem gX3_twice_X3_hasRoom : GoodIn wsX3_twice (wsV RX3 101 RX3 yX3_hasRoom wsX3_hasRoom) := goodIn_app (goodIn_of _ (by decide +kernel)) ggX3_twice_X3_hasRoom
set_option maxRecDepth 20000 in
theorem ggX3_twice_X3_fresh : GoodIn wsX3_twice wsX3_fresh := goodIn_r _ [31, 19, 32, 33, 34, 7, 35, 24, 36, 2, 3, 37, 38, 39, 57, 58, 59, 60, 61, 62, 63, 64, 65, 66, 67, 68, 69, 70] (by decide +kernel) (by decide +kernel)
set_option maxRecDepth 20000 in
theorem gX3_twice_X3_fresh : GoodIn wsX3_twice (wsV RX3 105 RX3 yX3_fresh wsX3_fresh) := goodIn_app (goodIn_of _ (by decide +kernel)) ggX3_twice_X3_fresh
set_option maxRecDepth 20000 in
theorem ggX3_twice_X3_done : GoodIn wsX3_twice wsX3_done := goodIn_r _ [43, 19, 44, 45, 46, 7, 47, 36, 24, 48, 2, 3, 49, 50, 51, 52, 37, 38, 39, 53, 54, 55, 56, 57, 58, 59, 60, 61, 62, 63, 64, 65, 66, 67, 68, 69, 70] (by decide +kernel) (by decide +kernel)
set_option maxRecDepth 20000 in
theorem gX3_twice_X3_done : GoodIn wsX3_twice (wsV RX3 117 RX3 yX3_done wsX3_done) := goodIn_app (goodIn_of _ (by decide +kernel)) ggX3_twice_X3_done
theorem dX3_twice_0 : decode cX3_twice 0 = .ok (.aload_n 0, 1) := by decide +kernel
theorem dX3_twice_1 : decode cX3_twice 1 = .ok (.aload_n 0, 1) := by decide +kernel
theorem dX3_twice_2 : decode cX3_twice 2 = .ok (.iload_n 1, 1) := by decide +kernel
theorem dX3_twice_3 : decode cX3_twice 3 = .ok (.invokevirtual 94, 3) := by decide +kernel
theorem dX3_twice_6 : decode cX3_twice 6 = .ok (.ifCond .eq 10, 3) := by decide +kernel
theorem dX3_twice_9 : decode cX3_twice 9 = .ok (.iload_n 2, 1) := by decide +kernel
theorem dX3_twice_10 : decode cX3_twice 10 = .ok (.invokestatic 120, 3) := by decide +kernel
theorem dX3_twice_13 : decode cX3_twice 13 = .ok (.ifCond .ne 7, 3) := by decide +kernel
theorem dX3_twice_16 : decode cX3_twice 16 = .ok (.iconst 1, 1) := by decide +kernel
theorem dX3_twice_17 : decode cX3_twice 17 = .ok (.goto 17, 3) := by decide +kernel
theorem dX3_twice_20 : decode cX3_twice 20 = .ok (.aload_n 0, 1) := by decide +kernel
theorem dX3_twice_21 : decode cX3_twice 21 = .ok (.iload_n 1, 1) := by decide +kernel
theorem dX3_twice_22 : decode cX3_twice 22 = .ok (.iconst 0, 1) := by decide +kernel
theorem dX3_twice_23 : decode cX3_twice 23 = .ok (.invokevirtual 101, 3) := by decide +kernel
theorem dX3_twice_26 : decode cX3_twice 26 = .ok (.ifCond .eq 7, 3) := by decide +kernel
theorem dX3_twice_29 : decode cX3_twice 29 = .ok (.iconst 0, 1) := by decide +kernel
theorem dX3_twice_30 : decode cX3_twice 30 = .ok (.goto 4, 3) := by decide +kernel
theorem dX3_twice_33 : decode cX3_twice 33 = .ok (.iconst 2, 1) := by decide +kernel
theorem dX3_twice_34 : decode cX3_twice 34 = .ok (.putfield 45, 3) := by decide +kernel
theorem dX3_twice_37 : decode cX3_twice 37 = .ok (.aload_n 0, 1) := by decide +kernel
theorem dX3_twice_38 : decode cX3_twice 38 = .ok (.getfield 45, 3) := by decide +kernel
theorem dX3_twice_41 : decode cX3_twice 41 = .ok (.ifCond .le 5, 3) := by decide +kernel
theorem dX3_twice_44 : decode cX3_twice 44 = .ok (.iconst 0, 1) := by decide +kernel
theorem dX3_twice_45 : decode cX3_twice 45 = .ok (.ireturn, 1) := by decide +kernel
theorem dX3_twice_46 : decode cX3_twice 46 = .ok (.aload_n 0, 1) := by decide +kernel
theorem dX3_twice_47 : decode cX3_twice 47 = .ok (.invokevirtual 105, 3) := by decide +kernel
theorem dX3_twice_50 : decode cX3_twice 50 = .ok (.istore 4, 2) := by decide +kernel
theorem dX3_twice_52 : decode cX3_twice 52 = .ok (.aload_n 0, 1) := by decide +kernel
theorem dX3_twice_53 : decode cX3_twice 53 = .ok (.getfield 16, 3) := by decide +kernel
theorem dX3_twice_56 : decode cX3_twice 56 = .ok (.iload 4, 2) := by decide +kernel
theorem dX3_twice_58 : decode cX3_twice 58 = .ok (.iload_n 3, 1) := by decide +kernel
theorem dX3_twice_59 : decode cX3_twice 59 = .ok (.ifCond .eq 9, 3) := by decide +kernel
theorem dX3_twice_62 : decode cX3_twice 62 = .ok (.iconst 1, 1) := by decide +kernel
theorem dX3_twice_63 : decode cX3_twice 63 = .ok (.iload_n 2, 1) := by decide +kernel
theorem dX3_twice_64 : decode cX3_twice 64 = .ok (.ishl, 1) := by decide +kernel
theorem dX3_twice_65 : decode cX3_twice 65 = .ok (.goto 4, 3) := by decide +kernel
theorem dX3_twice_68 : decode cX3_twice 68 = .ok (.iconst 0, 1) := by decide +kernel
theorem dX3_twice_69 : decode cX3_twice 69 = .ok (.iastore, 1) := by decide +kernel
theorem dX3_twice_70 : decode cX3_twice 70 = .ok (.aload_n 0, 1) := by decide +kernel
theorem dX3_twice_71 : decode cX3_twice 71 = .ok (.getfield 20, 3) := by decide +kernel
theorem dX3_twice_74 : decode cX3_twice 74 = .ok (.iload 4, 2) := by decide +kernel
theorem dX3_twice_76 : decode cX3_twice 76 = .ok (.iload_n 3, 1) := by decide +kernel
theorem dX3_twice_77 : decode cX3_twice 77 = .ok (.ifCond .eq 7, 3) := by decide +kernel
theorem dX3_twice_80 : decode cX3_twice 80 = .ok (.iconst 0, 1) := by decide +kernel
theorem dX3_twice_81 : decode cX3_twice 81 = .ok (.goto 6, 3) := by decide +kernel
theorem dX3_twice_84 : decode cX3_twice 84 = .ok (.iconst 1, 1) := by decide +kernel
theorem dX3_twice_85 : decode cX3_twice 85 = .ok (.iload_n 2, 1) := by decide +kernel
theorem dX3_twice_86 : decode cX3_twice 86 = .ok (.ishl, 1) := by decide +kernel
theorem dX3_twice_87 : decode cX3_twice 87 = .ok (.iastore, 1) := by decide +kernel
theorem dX3_twice_88 : decode cX3_twice 88 = .ok (.aload_n 0, 1) := by decide +kernel
theorem dX3_twice_89 : decode cX3_twice 89 = .ok (.iload_n 1, 1) := by decide +kernel
theorem dX3_twice_90 : decode cX3_twice 90 = .ok (.iload 4, 2) := by decide +kernel
theorem dX3_twice_92 : decode cX3_twice 92 = .ok (.invokevirtual 117, 3) := by decide +kernel
theorem dX3_twice_95 : decode cX3_twice 95 = .ok (.ireturn, 1) := by decide +kernel
set_option maxRecDepth 20000 in
theorem ggX3_timed_X3_isReplica : GoodIn wsX3_timed wsX3_isReplica := goodIn_r _ [10, 11, 12, 9, 13] (by decide +kernel) (by decide +kernel)
set_option maxRecDepth 20000 in
theorem gX3_timed_X3_isReplica : GoodIn wsX3_timed (wsV RX3 94 RX3 yX3_isReplica wsX3_isReplica) := goodIn_app (goodIn_of _ (by decide +kernel)) ggX3_timed_X3_isReplica
set_option maxRecDepth 20000 in
theorem ggX3_timed_X3_isElement : GoodIn wsX3_timed wsX3_isElement := goodIn_r _ [16, 11, 12, 9, 13] (by decide +kernel) (by decide +kernel)
set_option maxRecDepth 20000 in
theorem gX3_timed_X3_isElement : GoodIn wsX3_timed (va_wsS RX3 120 yX3_isElement wsX3_isElement) := goodIn_app (goodIn_of _ (by decide +kernel)) ggX3_timed_X3_isElement
set_option maxRecDepth 20000 in
theorem ggX3_timed_X3_in : GoodIn wsX3_timed wsX3_in := goodIn_r _ [13] (by decide +kernel) (by decide +kernel)
set_option maxRecDepth 20000 in
theorem gX3_timed_X3_in : GoodIn wsX3_timed (va_wsS RX3 79 yX3_in wsX3_in) := goodIn_app (goodIn_of _ (by decide +kernel)) ggX3_timed_X3_in
set_option maxRecDepth 20000 in
theorem ggX3_timed_X3_hasRoom : GoodIn wsX3_timed wsX3_hasRoom := goodIn_r _ [20, 21, 22, 23, 24, 9, 25, 26, 27, 28, 29, 58, 59, 60, 61, 62, 63, 64, 65, 66, 67, 68, 69, 70, 71] (by decide +kernel) (by decide +kernel)
set_option maxRecDepth 20000 in
theorem gX3_timed_X3_hasRoom : GoodIn wsX3_timed (wsV RX3 101 RX3 yX3_hasRoom wsX3_hasRoom) := goodIn_app (goodIn_of _ (by decide +kernel)) ggX3_timed_X3_hasRoom
set_option maxRecDepth 20000 in
theorem ggX3_timed_X3_fresh : GoodIn wsX3_timed wsX3_fresh := goodIn_r _ [33, 21, 34, 35, 36, 9, 37, 26, 38, 39, 40, 3, 4, 5, 58, 59, 60, 61, 62, 63, 64, 65, 66, 67, 68, 69, 70, 71] (by decide +kernel) (by decide +kernel)
set_option maxRecDepth 20000 in
theorem gX3_timed_X3_fresh : GoodIn wsX3_timed (wsV RX3 105 RX3 yX3_fresh wsX3_fresh) := goodIn_app (goodIn_of _ (by decide +kernel)) ggX3_timed_X3_fresh
set_option maxRecDepth 20000 in
theorem ggX3_timed_X3_done : GoodIn wsX3_timed wsX3_done := goodIn_r _ [44, 21, 45, 46, 47, 9, 48, 38, 26, 49, 39, 40, 50, 51, 52, 53, 3, 4, 5, 54, 55, 56, 57, 58, 59, 60, 61, 62, 63, 64, 65, 66, 67, 68, 69, 70, 71] (by decide +kernel) (by decide +kernel)
set_option maxRecDepth 20000 in
theorem gX3_timed_X3_done : GoodIn wsX3_timed (wsV RX3 117 RX3 yX3_done wsX3_done) := goodIn_app (goodIn_of _ (by decide +kernel)) ggX3_timed_X3_done
theorem dX3_timed_0 : decode cX3_timed 0 = .ok (.aload_n 0, 1) := by decide +kernel
theorem dX3_timed_1 : decode cX3_timed 1 = .ok (.aload_n 0, 1) := by decide +kernel
theorem dX3_timed_2 : decode cX3_timed 2 = .ok (.iload_n 1, 1) := by decide +kernel
theorem dX3_timed_3 : decode cX3_timed 3 = .ok (.invokevirtual 94, 3) := by decide +kernel
theorem dX3_timed_6 : decode cX3_timed 6 = .ok (.ifCond .eq 10, 3) := by decide +kernel
theorem dX3_timed_9 : decode cX3_timed 9 = .ok (.iload_n 2, 1) := by decide +kernel
theorem dX3_timed_10 : decode cX3_timed 10 = .ok (.invokestatic 120, 3) := by decide +kernel
theorem dX3_timed_13 : decode cX3_timed 13 = .ok (.ifCond .ne 7, 3) := by decide +kernel
theorem dX3_timed_16 : decode cX3_timed 16 = .ok (.iconst 1, 1) := by decide +kernel
theorem dX3_timed_17 : decode cX3_timed 17 = .ok (.goto 31, 3) := by decide +kernel
theorem dX3_timed_20 : decode cX3_timed 20 = .ok (.iload_n 3, 1) := by decide +kernel
theorem dX3_timed_21 : decode cX3_timed 21 = .ok (.iconst 0, 1) := by decide +kernel
theorem dX3_timed_22 : decode cX3_timed 22 = .ok (.ldc 131, 2) := by decide +kernel
theorem dX3_timed_24 : decode cX3_timed 24 = .ok (.invokestatic 79, 3) := by decide +kernel
theorem dX3_timed_27 : decode cX3_timed 27 = .ok (.ifCond .ne 7, 3) := by decide +kernel
theorem dX3_timed_30 : decode cX3_timed 30 = .ok (.iconst 2, 1) := by decide +kernel
theorem dX3_timed_31 : decode cX3_timed 31 = .ok (.goto 17, 3) := by decide +kernel
theorem dX3_timed_34 : decode cX3_timed 34 = .ok (.aload_n 0, 1) := by decide +kernel
theorem dX3_timed_35 : decode cX3_timed 35 = .ok (.iload_n 1, 1) := by decide +kernel
theorem dX3_timed_36 : decode cX3_timed 36 = .ok (.iconst 0, 1) := by decide +kernel
theorem dX3_timed_37 : decode cX3_timed 37 = .ok (.invokevirtual 101, 3) := by decide +kernel
theorem dX3_timed_40 : decode cX3_timed 40 = .ok (.ifCond .eq 7, 3) := by decide +kernel
theorem dX3_timed_43 : decode cX3_timed 43 = .ok (.iconst 0, 1) := by decide +kernel
theorem dX3_timed_44 : decode cX3_timed 44 = .ok (.goto 4, 3) := by decide +kernel
theorem dX3_timed_47 : decode cX3_timed 47 = .ok (.iconst 3, 1) := by decide +kernel
theorem dX3_timed_48 : decode cX3_timed 48 = .ok (.putfield 45, 3) := by decide +kernel
theorem dX3_timed_51 : decode cX3_timed 51 = .ok (.aload_n 0, 1) := by decide +kernel
theorem dX3_timed_52 : decode cX3_timed 52 = .ok (.getfield 45, 3) := by decide +kernel
theorem dX3_timed_55 : decode cX3_timed 55 = .ok (.ifCond .le 5, 3) := by decide +kernel
theorem dX3_timed_58 : decode cX3_timed 58 = .ok (.iconst 0, 1) := by decide +kernel
theorem dX3_timed_59 : decode cX3_timed 59 = .ok (.ireturn, 1) := by decide +kernel
theorem dX3_timed_60 : decode cX3_timed 60 = .ok (.aload_n 0, 1) := by decide +kernel
theorem dX3_timed_61 : decode cX3_timed 61 = .ok (.invokevirtual 105, 3) := by decide +kernel
theorem dX3_timed_64 : decode cX3_timed 64 = .ok (.istore 5, 2) := by decide +kernel
theorem dX3_timed_66 : decode cX3_timed 66 = .ok (.bipush 32, 2) := by decide +kernel
theorem dX3_timed_68 : decode cX3_timed 68 = .ok (.iload 5, 2) := by decide +kernel
theorem dX3_timed_70 : decode cX3_timed 70 = .ok (.imul, 1) := by decide +kernel
theorem dX3_timed_71 : decode cX3_timed 71 = .ok (.iload_n 2, 1) := by decide +kernel
theorem dX3_timed_72 : decode cX3_timed 72 = .ok (.iadd, 1) := by decide +kernel
theorem dX3_timed_73 : decode cX3_timed 73 = .ok (.istore 6, 2) := by decide +kernel
theorem dX3_timed_75 : decode cX3_timed 75 = .ok (.aload_n 0, 1) := by decide +kernel
theorem dX3_timed_76 : decode cX3_timed 76 = .ok (.getfield 23, 3) := by decide +kernel
theorem dX3_timed_79 : decode cX3_timed 79 = .ok (.iload 6, 2) := by decide +kernel
theorem dX3_timed_81 : decode cX3_timed 81 = .ok (.iload_n 3, 1) := by decide +kernel
theorem dX3_timed_82 : decode cX3_timed 82 = .ok (.iconst 1, 1) := by decide +kernel
theorem dX3_timed_83 : decode cX3_timed 83 = .ok (.iadd, 1) := by decide +kernel
theorem dX3_timed_84 : decode cX3_timed 84 = .ok (.iastore, 1) := by decide +kernel
theorem dX3_timed_85 : decode cX3_timed 85 = .ok (.aload_n 0, 1) := by decide +kernel
theorem dX3_timed_86 : decode cX3_timed 86 = .ok (.getfield 26, 3) := by decide +kernel
theorem dX3_timed_89 : decode cX3_timed 89 = .ok (.iload 6, 2) := by decide +kernel
theorem dX3_timed_91 : decode cX3_timed 91 = .ok (.iload_n 1, 1) := by decide +kernel
theorem dX3_timed_92 : decode cX3_timed 92 = .ok (.iastore, 1) := by decide +kernel
theorem dX3_timed_93 : decode cX3_timed 93 = .ok (.aload_n 0, 1) := by decide +kernel
theorem dX3_timed_94 : decode cX3_timed 94 = .ok (.getfield 29, 3) := by decide +kernel
theorem dX3_timed_97 : decode cX3_timed 97 = .ok (.iload 6, 2) := by decide +kernel
theorem dX3_timed_99 : decode cX3_timed 99 = .ok (.iload 4, 2) := by decide +kernel
theorem dX3_timed_101 : decode cX3_timed 101 = .ok (.bastore, 1) := by decide +kernel
theorem dX3_timed_102 : decode cX3_timed 102 = .ok (.aload_n 0, 1) := by decide +kernel
theorem dX3_timed_103 : decode cX3_timed 103 = .ok (.iload_n 1, 1) := by decide +kernel
theorem dX3_timed_104 : decode cX3_timed 104 = .ok (.iload 5, 2) := by decide +kernel
theorem dX3_timed_106 : decode cX3_timed 106 = .ok (.invokevirtual 117, 3) := by decide +kernel
theorem dX3_timed_109 : decode cX3_timed 109 = .ok (.ireturn, 1) := by decide +kernel
set_option maxRecDepth 20000 in
theorem ggX3_isDelta_X3_in : GoodIn wsX3_isDelta wsX3_in := goodIn_r _ [5] (by decide +kernel) (by decide +kernel)
set_option maxRecDepth 20000 in
theorem gX3_isDelta_X3_in : GoodIn wsX3_isDelta (va_wsS RX3 79 yX3_in wsX3_in) := goodIn_app (goodIn_of _ (by decide +kernel)) ggX3_isDelta_X3_in
theorem dX3_isDelta_0 : decode cX3_isDelta 0 = .ok (.iload_n 1, 1) := by decide +kernel
theorem dX3_isDelta_1 : decode cX3_isDelta 1 = .ok (.iconst 0, 1) := by decide +kernel
theorem dX3_isDelta_2 : decode cX3_isDelta 2 = .ok (.aload_n 0, 1) := by decide +kernel
theorem dX3_isDelta_3 : decode cX3_isDelta 3 = .ok (.getfield 72, 3) := by decide +kernel
theorem dX3_isDelta_6 : decode cX3_isDelta 6 = .ok (.iconst 1, 1) := by decide +kernel
theorem dX3_isDelta_7 : decode cX3_isDelta 7 = .ok (.isub, 1) := by decide +kernel
theorem dX3_isDelta_8 : decode cX3_isDelta 8 = .ok (.invokestatic 79, 3) := by decide +kernel
theorem dX3_isDelta_11 : decode cX3_isDelta 11 = .ok (.ireturn, 1) := by decide +kernel
set_option maxRecDepth 20000 in
theorem ggX3_join_X3_isReplica : GoodIn wsX3_join wsX3_isReplica := goodIn_r _ [5, 6, 7, 4, 8] (by decide +kernel) (by decide +kernel)
set_option maxRecDepth 20000 in
theorem gX3_join_X3_isReplica : GoodIn wsX3_join (wsV RX3 94 RX3 yX3_isReplica wsX3_isReplica) := goodIn_app (goodIn_of _ (by decide +kernel)) ggX3_join_X3_isReplica
set_option maxRecDepth 20000 in
theorem ggX3_join_X3_isDelta : GoodIn wsX3_join wsX3_isDelta := goodIn_r _ [12, 13, 6, 7, 4, 8, 51, 52, 53, 54, 55, 56, 57, 58, 59, 60, 61, 62, 63, 64] (by decide +kernel) (by decide +kernel)
set_option maxRecDepth 20000 in
theorem gX3_join_X3_isDelta : GoodIn wsX3_join (wsV RX3 132 RX3 yX3_isDelta wsX3_isDelta) := goodIn_app (goodIn_of _ (by decide +kernel)) ggX3_join_X3_isDelta
set_option maxRecDepth 20000 in
theorem ggX3_join_X3_goes : GoodIn wsX3_join wsX3_goes := goodIn_r _ [17, 18, 51, 52, 53, 54, 55, 56, 57, 58, 59, 60, 61, 62, 63, 64] (by decide +kernel) (by decide +kernel)
set_option maxRecDepth 20000 in
theorem gX3_join_X3_goes : GoodIn wsX3_join (wsV RX3 135 RX3 yX3_goes wsX3_goes) := goodIn_app (goodIn_of _ (by decide +kernel)) ggX3_join_X3_goes
set_option maxRecDepth 20000 in
theorem ggX3_join_X3_joined : GoodIn wsX3_join wsX3_joined := goodIn_r _ [22, 23, 24, 25, 4, 26, 27, 28, 29, 30, 31, 32, 33, 34, 35, 36, 37, 38, 39, 40, 41, 42, 43, 44, 45, 46, 47, 48, 49, 50, 51, 52, 53, 54, 55, 56, 57, 58, 59, 60, 61, 62, 63, 64] (by decide +kernel) (by decide +kernel)
set_option maxRecDepth 20000 in
theorem gX3_join_X3_joined : GoodIn wsX3_join (wsV RX3 139 RX3 yX3_joined wsX3_joined) := goodIn_app (goodIn_of _ (by decide +kernel)) ggX3_join_X3_joined
theorem dX3_join_0 : decode cX3_join 0 = .ok (.aload_n 0, 1) := by decide +kernel
theorem dX3_join_1 : decode cX3_join 1 = .ok (.aload_n 0, 1) := by decide +kernel
theorem dX3_join_2 : decode cX3_join 2 = .ok (.iload_n 1, 1) := by decide +kernel
theorem dX3_join_3 : decode cX3_join 3 = .ok (.invokevirtual 94, 3) := by decide +kernel
theorem dX3_join_6 : decode cX3_join 6 = .ok (.ifCond .eq 15, 3) := by decide +kernel
theorem dX3_join_9 : decode cX3_join 9 = .ok (.aload_n 0, 1) := by decide +kernel
theorem dX3_join_10 : decode cX3_join 10 = .ok (.iload_n 2, 1) := by decide +kernel
theorem dX3_join_11 : decode cX3_join 11 = .ok (.invokevirtual 132, 3) := by decide +kernel
theorem dX3_join_14 : decode cX3_join 14 = .ok (.ifCond .eq 7, 3) := by decide +kernel
theorem dX3_join_17 : decode cX3_join 17 = .ok (.iconst 1, 1) := by decide +kernel
theorem dX3_join_18 : decode cX3_join 18 = .ok (.goto 4, 3) := by decide +kernel
theorem dX3_join_21 : decode cX3_join 21 = .ok (.iconst 0, 1) := by decide +kernel
theorem dX3_join_22 : decode cX3_join 22 = .ok (.invokevirtual 135, 3) := by decide +kernel
theorem dX3_join_25 : decode cX3_join 25 = .ok (.ifCond .eq 15, 3) := by decide +kernel
theorem dX3_join_28 : decode cX3_join 28 = .ok (.aload_n 0, 1) := by decide +kernel
theorem dX3_join_29 : decode cX3_join 29 = .ok (.bipush 6, 2) := by decide +kernel
theorem dX3_join_31 : decode cX3_join 31 = .ok (.iload_n 2, 1) := by decide +kernel
theorem dX3_join_32 : decode cX3_join 32 = .ok (.iadd, 1) := by decide +kernel
theorem dX3_join_33 : decode cX3_join 33 = .ok (.iload_n 1, 1) := by decide +kernel
theorem dX3_join_34 : decode cX3_join 34 = .ok (.invokevirtual 139, 3) := by decide +kernel
theorem dX3_join_37 : decode cX3_join 37 = .ok (.goto 4, 3) := by decide +kernel
theorem dX3_join_40 : decode cX3_join 40 = .ok (.iconst 0, 1) := by decide +kernel
theorem dX3_join_41 : decode cX3_join 41 = .ok (.ireturn, 1) := by decide +kernel
set_option maxRecDepth 20000 in
theorem ggX3_merge_X3_isReplica : GoodIn wsX3_merge wsX3_isReplica := goodIn_r _ [5, 6, 7, 4, 8] (by decide +kernel) (by decide +kernel)
set_option maxRecDepth 20000 in
theorem gX3_merge_X3_isReplica : GoodIn wsX3_merge (wsV RX3 94 RX3 yX3_isReplica wsX3_isReplica) := goodIn_app (goodIn_of _ (by decide +kernel)) ggX3_merge_X3_isReplica
set_option maxRecDepth 20000 in
theorem ggX3_merge_X3_goes : GoodIn wsX3_merge wsX3_goes := goodIn_r _ [12, 13, 46, 47, 48, 49, 50, 51, 52, 53, 54, 55, 56, 57, 58, 59] (by decide +kernel) (by decide +kernel)
set_option maxRecDepth 20000 in
theorem gX3_merge_X3_goes : GoodIn wsX3_merge (wsV RX3 135 RX3 yX3_goes wsX3_goes) := goodIn_app (goodIn_of _ (by decide +kernel)) ggX3_merge_X3_goes
set_option maxRecDepth 20000 in
theorem ggX3_merge_X3_joined : GoodIn wsX3_merge wsX3_joined := goodIn_r _ [17, 18, 19, 20, 4, 21, 22, 23, 24, 25, 26, 27, 28, 29, 30, 31, 32, 33, 34, 35, 36, 37, 38, 39, 40, 41, 42, 43, 44, 45, 46, 47, 48, 49, 50, 51, 52, 53, 54, 55, 56, 57, 58, 59] (by decide +kernel) (by decide +kernel)
set_option maxRecDepth 20000 in
theorem gX3_merge_X3_joined : GoodIn wsX3_merge (wsV RX3 139 RX3 yX3_joined wsX3_joined) := goodIn_app (goodIn_of _ (by decide +kernel)) ggX3_merge_X3_joined
theorem dX3_merge_0 : decode cX3_merge 0 = .ok (.aload_n 0, 1) := by decide +kernel
theorem dX3_merge_1 : decode cX3_merge 1 = .ok (.aload_n 0, 1) := by decide +kernel
theorem dX3_merge_2 : decode cX3_merge 2 = .ok (.iload_n 1, 1) := by decide +kernel
theorem dX3_merge_3 : decode cX3_merge 3 = .ok (.invokevirtual 94, 3) := by decide +kernel
theorem dX3_merge_6 : decode cX3_merge 6 = .ok (.ifCond .eq 15, 3) := by decide +kernel
theorem dX3_merge_9 : decode cX3_merge 9 = .ok (.aload_n 0, 1) := by decide +kernel
theorem dX3_merge_10 : decode cX3_merge 10 = .ok (.iload_n 2, 1) := by decide +kernel
theorem dX3_merge_11 : decode cX3_merge 11 = .ok (.invokevirtual 94, 3) := by decide +kernel
theorem dX3_merge_14 : decode cX3_merge 14 = .ok (.ifCond .eq 7, 3) := by decide +kernel
theorem dX3_merge_17 : decode cX3_merge 17 = .ok (.iconst 1, 1) := by decide +kernel
theorem dX3_merge_18 : decode cX3_merge 18 = .ok (.goto 4, 3) := by decide +kernel
theorem dX3_merge_21 : decode cX3_merge 21 = .ok (.iconst 0, 1) := by decide +kernel
theorem dX3_merge_22 : decode cX3_merge 22 = .ok (.invokevirtual 135, 3) := by decide +kernel
theorem dX3_merge_25 : decode cX3_merge 25 = .ok (.ifCond .eq 12, 3) := by decide +kernel
theorem dX3_merge_28 : decode cX3_merge 28 = .ok (.aload_n 0, 1) := by decide +kernel
theorem dX3_merge_29 : decode cX3_merge 29 = .ok (.iload_n 2, 1) := by decide +kernel
theorem dX3_merge_30 : decode cX3_merge 30 = .ok (.iload_n 1, 1) := by decide +kernel
theorem dX3_merge_31 : decode cX3_merge 31 = .ok (.invokevirtual 139, 3) := by decide +kernel
theorem dX3_merge_34 : decode cX3_merge 34 = .ok (.goto 4, 3) := by decide +kernel
theorem dX3_merge_37 : decode cX3_merge 37 = .ok (.iconst 0, 1) := by decide +kernel
theorem dX3_merge_38 : decode cX3_merge 38 = .ok (.ireturn, 1) := by decide +kernel
set_option maxRecDepth 20000 in
theorem ggX3_group_X3_isDelta : GoodIn wsX3_group wsX3_isDelta := goodIn_r _ [7, 1, 8, 9, 6, 10, 39, 40, 41, 42, 43, 44, 45, 46, 47, 48, 49, 50, 51, 52] (by decide +kernel) (by decide +kernel)
set_option maxRecDepth 20000 in
theorem gX3_group_X3_isDelta : GoodIn wsX3_group (wsV RX3 132 RX3 yX3_isDelta wsX3_isDelta) := goodIn_app (goodIn_of _ (by decide +kernel)) ggX3_group_X3_isDelta
set_option maxRecDepth 20000 in
theorem ggX3_group_X3_fresh : GoodIn wsX3_group wsX3_fresh := goodIn_r _ [14, 1, 15, 16, 17, 6, 18, 19, 20, 21, 22, 23, 24, 25, 39, 40, 41, 42, 43, 44, 45, 46, 47, 48, 49, 50, 51, 52] (by decide +kernel) (by decide +kernel)
set_option maxRecDepth 20000 in
theorem gX3_group_X3_fresh : GoodIn wsX3_group (wsV RX3 105 RX3 yX3_fresh wsX3_fresh) := goodIn_app (goodIn_of _ (by decide +kernel)) ggX3_group_X3_fresh
set_option maxRecDepth 20000 in
theorem ggX3_group_X3_joinTo : GoodIn wsX3_group wsX3_joinTo := goodIn_r _ [29, 20, 19, 30, 21, 22, 31, 32, 33, 6, 34, 23, 24, 25, 35, 36, 37, 38, 39, 40, 41, 42, 43, 44, 45, 46, 47, 48, 49, 50, 51, 52] (by decide +kernel) (by decide +kernel)
set_option maxRecDepth 20000 in
theorem gX3_group_X3_joinTo : GoodIn wsX3_group (wsV RX3 66 RX3 yX3_joinTo wsX3_joinTo) := goodIn_app (goodIn_of _ (by decide +kernel)) ggX3_group_X3_joinTo
theorem dX3_group_0 : decode cX3_group 0 = .ok (.aload_n 0, 1) := by decide +kernel
theorem dX3_group_1 : decode cX3_group 1 = .ok (.aload_n 0, 1) := by decide +kernel
theorem dX3_group_2 : decode cX3_group 2 = .ok (.iload_n 1, 1) := by decide +kernel
theorem dX3_group_3 : decode cX3_group 3 = .ok (.invokevirtual 132, 3) := by decide +kernel
theorem dX3_group_6 : decode cX3_group 6 = .ok (.ifCond .eq 11, 3) := by decide +kernel
theorem dX3_group_9 : decode cX3_group 9 = .ok (.aload_n 0, 1) := by decide +kernel
theorem dX3_group_10 : decode cX3_group 10 = .ok (.iload_n 2, 1) := by decide +kernel
theorem dX3_group_11 : decode cX3_group 11 = .ok (.invokevirtual 132, 3) := by decide +kernel
theorem dX3_group_14 : decode cX3_group 14 = .ok (.ifCond .ne 7, 3) := by decide +kernel
theorem dX3_group_17 : decode cX3_group 17 = .ok (.iconst 1, 1) := by decide +kernel
theorem dX3_group_18 : decode cX3_group 18 = .ok (.goto 18, 3) := by decide +kernel
theorem dX3_group_21 : decode cX3_group 21 = .ok (.aload_n 0, 1) := by decide +kernel
theorem dX3_group_22 : decode cX3_group 22 = .ok (.getfield 72, 3) := by decide +kernel
theorem dX3_group_25 : decode cX3_group 25 = .ok (.sipush 250, 3) := by decide +kernel
theorem dX3_group_28 : decode cX3_group 28 = .ok (.if_icmp .ne 7, 3) := by decide +kernel
theorem dX3_group_31 : decode cX3_group 31 = .ok (.iconst 2, 1) := by decide +kernel
theorem dX3_group_32 : decode cX3_group 32 = .ok (.goto 4, 3) := by decide +kernel
theorem dX3_group_35 : decode cX3_group 35 = .ok (.iconst 0, 1) := by decide +kernel
theorem dX3_group_36 : decode cX3_group 36 = .ok (.putfield 45, 3) := by decide +kernel
theorem dX3_group_39 : decode cX3_group 39 = .ok (.aload_n 0, 1) := by decide +kernel
theorem dX3_group_40 : decode cX3_group 40 = .ok (.getfield 45, 3) := by decide +kernel
theorem dX3_group_43 : decode cX3_group 43 = .ok (.ifCond .le 5, 3) := by decide +kernel
theorem dX3_group_46 : decode cX3_group 46 = .ok (.iconst 0, 1) := by decide +kernel
theorem dX3_group_47 : decode cX3_group 47 = .ok (.ireturn, 1) := by decide +kernel
theorem dX3_group_48 : decode cX3_group 48 = .ok (.aload_n 0, 1) := by decide +kernel
theorem dX3_group_49 : decode cX3_group 49 = .ok (.invokevirtual 105, 3) := by decide +kernel
theorem dX3_group_52 : decode cX3_group 52 = .ok (.istore_n 3, 1) := by decide +kernel
theorem dX3_group_53 : decode cX3_group 53 = .ok (.aload_n 0, 1) := by decide +kernel
theorem dX3_group_54 : decode cX3_group 54 = .ok (.bipush 6, 2) := by decide +kernel
theorem dX3_group_56 : decode cX3_group 56 = .ok (.iload_n 1, 1) := by decide +kernel
theorem dX3_group_57 : decode cX3_group 57 = .ok (.iadd, 1) := by decide +kernel
theorem dX3_group_58 : decode cX3_group 58 = .ok (.iload_n 3, 1) := by decide +kernel
theorem dX3_group_59 : decode cX3_group 59 = .ok (.invokevirtual 66, 3) := by decide +kernel
theorem dX3_group_62 : decode cX3_group 62 = .ok (.aload_n 0, 1) := by decide +kernel
theorem dX3_group_63 : decode cX3_group 63 = .ok (.bipush 6, 2) := by decide +kernel
theorem dX3_group_65 : decode cX3_group 65 = .ok (.iload_n 2, 1) := by decide +kernel
theorem dX3_group_66 : decode cX3_group 66 = .ok (.iadd, 1) := by decide +kernel
theorem dX3_group_67 : decode cX3_group 67 = .ok (.iload_n 3, 1) := by decide +kernel
theorem dX3_group_68 : decode cX3_group 68 = .ok (.invokevirtual 66, 3) := by decide +kernel
theorem dX3_group_71 : decode cX3_group 71 = .ok (.aload_n 0, 1) := by decide +kernel
theorem dX3_group_72 : decode cX3_group 72 = .ok (.dup, 1) := by decide +kernel
theorem dX3_group_73 : decode cX3_group 73 = .ok (.getfield 72, 3) := by decide +kernel
theorem dX3_group_76 : decode cX3_group 76 = .ok (.iconst 1, 1) := by decide +kernel
theorem dX3_group_77 : decode cX3_group 77 = .ok (.iadd, 1) := by decide +kernel
theorem dX3_group_78 : decode cX3_group 78 = .ok (.putfield 72, 3) := by decide +kernel
theorem dX3_group_81 : decode cX3_group 81 = .ok (.aload_n 0, 1) := by decide +kernel
theorem dX3_group_82 : decode cX3_group 82 = .ok (.getfield 72, 3) := by decide +kernel
theorem dX3_group_85 : decode cX3_group 85 = .ok (.iconst 1, 1) := by decide +kernel
theorem dX3_group_86 : decode cX3_group 86 = .ok (.isub, 1) := by decide +kernel
theorem dX3_group_87 : decode cX3_group 87 = .ok (.ireturn, 1) := by decide +kernel
set_option maxRecDepth 20000 in
theorem ggX3_whole_X3_isReplica : GoodIn wsX3_whole wsX3_isReplica := goodIn_r _ [7, 8, 9, 6, 10] (by decide +kernel) (by decide +kernel)
set_option maxRecDepth 20000 in
theorem gX3_whole_X3_isReplica : GoodIn wsX3_whole (wsV RX3 94 RX3 yX3_isReplica wsX3_isReplica) := goodIn_app (goodIn_of _ (by decide +kernel)) ggX3_whole_X3_isReplica
set_option maxRecDepth 20000 in
theorem ggX3_whole_X3_copy : GoodIn wsX3_whole wsX3_copy := goodIn_r _ [14, 15, 16, 17, 18, 19, 20, 21, 6, 22, 23, 24, 25, 26, 27, 28, 29, 30, 31, 32, 33, 34, 35, 36, 37, 38, 39] (by decide +kernel) (by decide +kernel)
set_option maxRecDepth 20000 in
theorem gX3_whole_X3_copy : GoodIn wsX3_whole (wsV RX3 63 RX3 yX3_copy wsX3_copy) := goodIn_app (goodIn_of _ (by decide +kernel)) ggX3_whole_X3_copy
theorem dX3_whole_0 : decode cX3_whole 0 = .ok (.aload_n 0, 1) := by decide +kernel
theorem dX3_whole_1 : decode cX3_whole 1 = .ok (.aload_n 0, 1) := by decide +kernel
theorem dX3_whole_2 : decode cX3_whole 2 = .ok (.iload_n 1, 1) := by decide +kernel
theorem dX3_whole_3 : decode cX3_whole 3 = .ok (.invokevirtual 94, 3) := by decide +kernel
theorem dX3_whole_6 : decode cX3_whole 6 = .ok (.ifCond .ne 7, 3) := by decide +kernel
theorem dX3_whole_9 : decode cX3_whole 9 = .ok (.iconst 1, 1) := by decide +kernel
theorem dX3_whole_10 : decode cX3_whole 10 = .ok (.goto 18, 3) := by decide +kernel
theorem dX3_whole_13 : decode cX3_whole 13 = .ok (.aload_n 0, 1) := by decide +kernel
theorem dX3_whole_14 : decode cX3_whole 14 = .ok (.getfield 72, 3) := by decide +kernel
theorem dX3_whole_17 : decode cX3_whole 17 = .ok (.sipush 250, 3) := by decide +kernel
theorem dX3_whole_20 : decode cX3_whole 20 = .ok (.if_icmp .ne 7, 3) := by decide +kernel
theorem dX3_whole_23 : decode cX3_whole 23 = .ok (.iconst 2, 1) := by decide +kernel
theorem dX3_whole_24 : decode cX3_whole 24 = .ok (.goto 4, 3) := by decide +kernel
theorem dX3_whole_27 : decode cX3_whole 27 = .ok (.iconst 0, 1) := by decide +kernel
theorem dX3_whole_28 : decode cX3_whole 28 = .ok (.putfield 45, 3) := by decide +kernel
theorem dX3_whole_31 : decode cX3_whole 31 = .ok (.aload_n 0, 1) := by decide +kernel
theorem dX3_whole_32 : decode cX3_whole 32 = .ok (.getfield 45, 3) := by decide +kernel
theorem dX3_whole_35 : decode cX3_whole 35 = .ok (.ifCond .le 5, 3) := by decide +kernel
theorem dX3_whole_38 : decode cX3_whole 38 = .ok (.iconst 0, 1) := by decide +kernel
theorem dX3_whole_39 : decode cX3_whole 39 = .ok (.ireturn, 1) := by decide +kernel
theorem dX3_whole_40 : decode cX3_whole 40 = .ok (.aload_n 0, 1) := by decide +kernel
theorem dX3_whole_41 : decode cX3_whole 41 = .ok (.iload_n 1, 1) := by decide +kernel
theorem dX3_whole_42 : decode cX3_whole 42 = .ok (.bipush 6, 2) := by decide +kernel
theorem dX3_whole_44 : decode cX3_whole 44 = .ok (.aload_n 0, 1) := by decide +kernel
theorem dX3_whole_45 : decode cX3_whole 45 = .ok (.getfield 72, 3) := by decide +kernel
theorem dX3_whole_48 : decode cX3_whole 48 = .ok (.iadd, 1) := by decide +kernel
theorem dX3_whole_49 : decode cX3_whole 49 = .ok (.invokevirtual 63, 3) := by decide +kernel
theorem dX3_whole_52 : decode cX3_whole 52 = .ok (.aload_n 0, 1) := by decide +kernel
theorem dX3_whole_53 : decode cX3_whole 53 = .ok (.dup, 1) := by decide +kernel
theorem dX3_whole_54 : decode cX3_whole 54 = .ok (.getfield 72, 3) := by decide +kernel
theorem dX3_whole_57 : decode cX3_whole 57 = .ok (.iconst 1, 1) := by decide +kernel
theorem dX3_whole_58 : decode cX3_whole 58 = .ok (.iadd, 1) := by decide +kernel
theorem dX3_whole_59 : decode cX3_whole 59 = .ok (.putfield 72, 3) := by decide +kernel
theorem dX3_whole_62 : decode cX3_whole 62 = .ok (.aload_n 0, 1) := by decide +kernel
theorem dX3_whole_63 : decode cX3_whole 63 = .ok (.getfield 72, 3) := by decide +kernel
theorem dX3_whole_66 : decode cX3_whole 66 = .ok (.iconst 1, 1) := by decide +kernel
theorem dX3_whole_67 : decode cX3_whole 67 = .ok (.isub, 1) := by decide +kernel
theorem dX3_whole_68 : decode cX3_whole 68 = .ok (.ireturn, 1) := by decide +kernel
theorem dX3_deltas_0 : decode cX3_deltas 0 = .ok (.aload_n 0, 1) := by decide +kernel
theorem dX3_deltas_1 : decode cX3_deltas 1 = .ok (.iconst 0, 1) := by decide +kernel
theorem dX3_deltas_2 : decode cX3_deltas 2 = .ok (.putfield 45, 3) := by decide +kernel
theorem dX3_deltas_5 : decode cX3_deltas 5 = .ok (.aload_n 0, 1) := by decide +kernel
theorem dX3_deltas_6 : decode cX3_deltas 6 = .ok (.getfield 72, 3) := by decide +kernel
theorem dX3_deltas_9 : decode cX3_deltas 9 = .ok (.ireturn, 1) := by decide +kernel
set_option maxRecDepth 20000 in
theorem ggX3_has_X3_isReplica : GoodIn wsX3_has wsX3_isReplica := goodIn_r _ [8, 9, 10, 7, 11] (by decide +kernel) (by decide +kernel)
set_option maxRecDepth 20000 in
theorem gX3_has_X3_isReplica : GoodIn wsX3_has (wsV RX3 94 RX3 yX3_isReplica wsX3_isReplica) := goodIn_app (goodIn_of _ (by decide +kernel)) ggX3_has_X3_isReplica
set_option maxRecDepth 20000 in
theorem ggX3_has_X3_isKey : GoodIn wsX3_has wsX3_isKey := goodIn_r _ [14, 9, 10, 7, 11] (by decide +kernel) (by decide +kernel)
set_option maxRecDepth 20000 in
theorem gX3_has_X3_isKey : GoodIn wsX3_has (va_wsS RX3 98 yX3_isKey wsX3_isKey) := goodIn_app (goodIn_of _ (by decide +kernel)) ggX3_has_X3_isKey
set_option maxRecDepth 20000 in
theorem ggX3_has_X3_isElement : GoodIn wsX3_has wsX3_isElement := goodIn_r _ [17, 9, 10, 7, 11] (by decide +kernel) (by decide +kernel)
set_option maxRecDepth 20000 in
theorem gX3_has_X3_isElement : GoodIn wsX3_has (va_wsS RX3 120 yX3_isElement wsX3_isElement) := goodIn_app (goodIn_of _ (by decide +kernel)) ggX3_has_X3_isElement
set_option maxRecDepth 20000 in
theorem ggX3_has_X3_goes : GoodIn wsX3_has wsX3_goes := goodIn_r _ [21, 22, 29, 30, 31, 32, 33, 34, 35, 36, 37, 38, 39, 40, 41, 42] (by decide +kernel) (by decide +kernel)
set_option maxRecDepth 20000 in
theorem gX3_has_X3_goes : GoodIn wsX3_has (wsV RX3 135 RX3 yX3_goes wsX3_goes) := goodIn_app (goodIn_of _ (by decide +kernel)) ggX3_has_X3_goes
set_option maxRecDepth 20000 in
theorem ggX3_has_X3_dot : GoodIn wsX3_has wsX3_dot := goodIn_r _ [25] (by decide +kernel) (by decide +kernel)
set_option maxRecDepth 20000 in
theorem gX3_has_X3_dot : GoodIn wsX3_has (va_wsS RX3 83 yX3_dot wsX3_dot) := goodIn_app (goodIn_of _ (by decide +kernel)) ggX3_has_X3_dot
set_option maxRecDepth 20000 in
theorem ggX3_has_X3_isSet : GoodIn wsX3_has wsX3_isSet := goodIn_r _ [28] (by decide +kernel) (by decide +kernel)
set_option maxRecDepth 20000 in
theorem gX3_has_X3_isSet : GoodIn wsX3_has (va_wsS RX3 49 yX3_isSet wsX3_isSet) := goodIn_app (goodIn_of _ (by decide +kernel)) ggX3_has_X3_isSet
theorem dX3_has_0 : decode cX3_has 0 = .ok (.aload_n 0, 1) := by decide +kernel
theorem dX3_has_1 : decode cX3_has 1 = .ok (.aload_n 0, 1) := by decide +kernel
theorem dX3_has_2 : decode cX3_has 2 = .ok (.iload_n 1, 1) := by decide +kernel
theorem dX3_has_3 : decode cX3_has 3 = .ok (.invokevirtual 94, 3) := by decide +kernel
theorem dX3_has_6 : decode cX3_has 6 = .ok (.ifCond .eq 21, 3) := by decide +kernel
theorem dX3_has_9 : decode cX3_has 9 = .ok (.iload_n 2, 1) := by decide +kernel
theorem dX3_has_10 : decode cX3_has 10 = .ok (.invokestatic 98, 3) := by decide +kernel
theorem dX3_has_13 : decode cX3_has 13 = .ok (.ifCond .eq 14, 3) := by decide +kernel
theorem dX3_has_16 : decode cX3_has 16 = .ok (.iload_n 3, 1) := by decide +kernel
theorem dX3_has_17 : decode cX3_has 17 = .ok (.invokestatic 120, 3) := by decide +kernel
theorem dX3_has_20 : decode cX3_has 20 = .ok (.ifCond .eq 7, 3) := by decide +kernel
theorem dX3_has_23 : decode cX3_has 23 = .ok (.iconst 1, 1) := by decide +kernel
theorem dX3_has_24 : decode cX3_has 24 = .ok (.goto 4, 3) := by decide +kernel
theorem dX3_has_27 : decode cX3_has 27 = .ok (.iconst 0, 1) := by decide +kernel
theorem dX3_has_28 : decode cX3_has 28 = .ok (.invokevirtual 135, 3) := by decide +kernel
theorem dX3_has_31 : decode cX3_has 31 = .ok (.ifCond .ne 5, 3) := by decide +kernel
theorem dX3_has_34 : decode cX3_has 34 = .ok (.iconst 0, 1) := by decide +kernel
theorem dX3_has_35 : decode cX3_has 35 = .ok (.ireturn, 1) := by decide +kernel
theorem dX3_has_36 : decode cX3_has 36 = .ok (.iconst 0, 1) := by decide +kernel
theorem dX3_has_37 : decode cX3_has 37 = .ok (.istore 4, 2) := by decide +kernel
theorem dX3_has_39 : decode cX3_has 39 = .ok (.iload 4, 2) := by decide +kernel
theorem dX3_has_41 : decode cX3_has 41 = .ok (.bipush 6, 2) := by decide +kernel
theorem dX3_has_43 : decode cX3_has 43 = .ok (.if_icmp .ge 73, 3) := by decide +kernel
theorem dX3_has_46 : decode cX3_has 46 = .ok (.iconst 1, 1) := by decide +kernel
theorem dX3_has_47 : decode cX3_has 47 = .ok (.istore 5, 2) := by decide +kernel
theorem dX3_has_49 : decode cX3_has 49 = .ok (.iload 5, 2) := by decide +kernel
theorem dX3_has_51 : decode cX3_has 51 = .ok (.bipush 100, 2) := by decide +kernel
theorem dX3_has_53 : decode cX3_has 53 = .ok (.if_icmp .gt 57, 3) := by decide +kernel
theorem dX3_has_56 : decode cX3_has 56 = .ok (.iload 4, 2) := by decide +kernel
theorem dX3_has_58 : decode cX3_has 58 = .ok (.iload 5, 2) := by decide +kernel
theorem dX3_has_60 : decode cX3_has 60 = .ok (.invokestatic 83, 3) := by decide +kernel
theorem dX3_has_63 : decode cX3_has 63 = .ok (.istore 6, 2) := by decide +kernel
theorem dX3_has_65 : decode cX3_has 65 = .ok (.aload_n 0, 1) := by decide +kernel
theorem dX3_has_66 : decode cX3_has 66 = .ok (.getfield 13, 3) := by decide +kernel
theorem dX3_has_69 : decode cX3_has 69 = .ok (.iload_n 1, 1) := by decide +kernel
theorem dX3_has_70 : decode cX3_has 70 = .ok (.iload 4, 2) := by decide +kernel
theorem dX3_has_72 : decode cX3_has 72 = .ok (.iload 5, 2) := by decide +kernel
theorem dX3_has_74 : decode cX3_has 74 = .ok (.invokestatic 49, 3) := by decide +kernel
theorem dX3_has_77 : decode cX3_has 77 = .ok (.ifCond .eq 27, 3) := by decide +kernel
theorem dX3_has_80 : decode cX3_has 80 = .ok (.aload_n 0, 1) := by decide +kernel
theorem dX3_has_81 : decode cX3_has 81 = .ok (.getfield 33, 3) := by decide +kernel
theorem dX3_has_84 : decode cX3_has 84 = .ok (.iload 6, 2) := by decide +kernel
theorem dX3_has_86 : decode cX3_has 86 = .ok (.iaload, 1) := by decide +kernel
theorem dX3_has_87 : decode cX3_has 87 = .ok (.iload_n 2, 1) := by decide +kernel
theorem dX3_has_88 : decode cX3_has 88 = .ok (.if_icmp .ne 16, 3) := by decide +kernel
theorem dX3_has_91 : decode cX3_has 91 = .ok (.aload_n 0, 1) := by decide +kernel
theorem dX3_has_92 : decode cX3_has 92 = .ok (.getfield 36, 3) := by decide +kernel
theorem dX3_has_95 : decode cX3_has 95 = .ok (.iload 6, 2) := by decide +kernel
theorem dX3_has_97 : decode cX3_has 97 = .ok (.iaload, 1) := by decide +kernel
theorem dX3_has_98 : decode cX3_has 98 = .ok (.iload_n 3, 1) := by decide +kernel
theorem dX3_has_99 : decode cX3_has 99 = .ok (.if_icmp .ne 5, 3) := by decide +kernel
theorem dX3_has_102 : decode cX3_has 102 = .ok (.iconst 1, 1) := by decide +kernel
theorem dX3_has_103 : decode cX3_has 103 = .ok (.ireturn, 1) := by decide +kernel
theorem dX3_has_104 : decode cX3_has 104 = .ok (.iinc 5 1, 3) := by decide +kernel
theorem dX3_has_107 : decode cX3_has 107 = .ok (.goto (-58), 3) := by decide +kernel
theorem dX3_has_110 : decode cX3_has 110 = .ok (.iinc 4 1, 3) := by decide +kernel
theorem dX3_has_113 : decode cX3_has 113 = .ok (.goto (-74), 3) := by decide +kernel
theorem dX3_has_116 : decode cX3_has 116 = .ok (.iconst 0, 1) := by decide +kernel
theorem dX3_has_117 : decode cX3_has 117 = .ok (.ireturn, 1) := by decide +kernel
set_option maxRecDepth 20000 in
theorem ggX3_lay_X3_dot : GoodIn wsX3_lay wsX3_dot := goodIn_r _ [8] (by decide +kernel) (by decide +kernel)
set_option maxRecDepth 20000 in
theorem gX3_lay_X3_dot : GoodIn wsX3_lay (va_wsS RX3 83 yX3_dot wsX3_dot) := goodIn_app (goodIn_of _ (by decide +kernel)) ggX3_lay_X3_dot
set_option maxRecDepth 20000 in
theorem ggX3_lay_X3_isSet : GoodIn wsX3_lay wsX3_isSet := goodIn_r _ [11] (by decide +kernel) (by decide +kernel)
set_option maxRecDepth 20000 in
theorem gX3_lay_X3_isSet : GoodIn wsX3_lay (va_wsS RX3 49 yX3_isSet wsX3_isSet) := goodIn_app (goodIn_of _ (by decide +kernel)) ggX3_lay_X3_isSet
set_option maxRecDepth 20000 in
theorem ggX3_lay_X3_enter : GoodIn wsX3_lay wsX3_enter := goodIn_r _ [15, 1, 16, 17, 18, 19, 20, 21, 22, 23, 24, 25, 26, 27, 28, 29, 30] (by decide +kernel) (by decide +kernel)
set_option maxRecDepth 20000 in
theorem gX3_lay_X3_enter : GoodIn wsX3_lay (wsV RX3 145 RX3 yX3_enter wsX3_enter) := goodIn_app (goodIn_of _ (by decide +kernel)) ggX3_lay_X3_enter
theorem dX3_lay_0 : decode cX3_lay 0 = .ok (.aload_n 0, 1) := by decide +kernel
theorem dX3_lay_1 : decode cX3_lay 1 = .ok (.iconst 0, 1) := by decide +kernel
theorem dX3_lay_2 : decode cX3_lay 2 = .ok (.putfield 142, 3) := by decide +kernel
theorem dX3_lay_5 : decode cX3_lay 5 = .ok (.iconst 0, 1) := by decide +kernel
theorem dX3_lay_6 : decode cX3_lay 6 = .ok (.istore_n 3, 1) := by decide +kernel
theorem dX3_lay_7 : decode cX3_lay 7 = .ok (.iload_n 3, 1) := by decide +kernel
theorem dX3_lay_8 : decode cX3_lay 8 = .ok (.bipush 6, 2) := by decide +kernel
theorem dX3_lay_10 : decode cX3_lay 10 = .ok (.if_icmp .ge 69, 3) := by decide +kernel
theorem dX3_lay_13 : decode cX3_lay 13 = .ok (.iconst 1, 1) := by decide +kernel
theorem dX3_lay_14 : decode cX3_lay 14 = .ok (.istore 4, 2) := by decide +kernel
theorem dX3_lay_16 : decode cX3_lay 16 = .ok (.iload 4, 2) := by decide +kernel
theorem dX3_lay_18 : decode cX3_lay 18 = .ok (.bipush 100, 2) := by decide +kernel
theorem dX3_lay_20 : decode cX3_lay 20 = .ok (.if_icmp .gt 53, 3) := by decide +kernel
theorem dX3_lay_23 : decode cX3_lay 23 = .ok (.iload_n 3, 1) := by decide +kernel
theorem dX3_lay_24 : decode cX3_lay 24 = .ok (.iload 4, 2) := by decide +kernel
theorem dX3_lay_26 : decode cX3_lay 26 = .ok (.invokestatic 83, 3) := by decide +kernel
theorem dX3_lay_29 : decode cX3_lay 29 = .ok (.istore 5, 2) := by decide +kernel
theorem dX3_lay_31 : decode cX3_lay 31 = .ok (.aload_n 0, 1) := by decide +kernel
theorem dX3_lay_32 : decode cX3_lay 32 = .ok (.getfield 13, 3) := by decide +kernel
theorem dX3_lay_35 : decode cX3_lay 35 = .ok (.iload_n 1, 1) := by decide +kernel
theorem dX3_lay_36 : decode cX3_lay 36 = .ok (.iload_n 3, 1) := by decide +kernel
theorem dX3_lay_37 : decode cX3_lay 37 = .ok (.iload 4, 2) := by decide +kernel
theorem dX3_lay_39 : decode cX3_lay 39 = .ok (.invokestatic 49, 3) := by decide +kernel
theorem dX3_lay_42 : decode cX3_lay 42 = .ok (.ifCond .eq 25, 3) := by decide +kernel
theorem dX3_lay_45 : decode cX3_lay 45 = .ok (.aload_n 0, 1) := by decide +kernel
theorem dX3_lay_46 : decode cX3_lay 46 = .ok (.getfield 33, 3) := by decide +kernel
theorem dX3_lay_49 : decode cX3_lay 49 = .ok (.iload 5, 2) := by decide +kernel
theorem dX3_lay_51 : decode cX3_lay 51 = .ok (.iaload, 1) := by decide +kernel
theorem dX3_lay_52 : decode cX3_lay 52 = .ok (.iload_n 2, 1) := by decide +kernel
theorem dX3_lay_53 : decode cX3_lay 53 = .ok (.if_icmp .ne 14, 3) := by decide +kernel
theorem dX3_lay_56 : decode cX3_lay 56 = .ok (.aload_n 0, 1) := by decide +kernel
theorem dX3_lay_57 : decode cX3_lay 57 = .ok (.aload_n 0, 1) := by decide +kernel
theorem dX3_lay_58 : decode cX3_lay 58 = .ok (.getfield 39, 3) := by decide +kernel
theorem dX3_lay_61 : decode cX3_lay 61 = .ok (.iload 5, 2) := by decide +kernel
theorem dX3_lay_63 : decode cX3_lay 63 = .ok (.laload, 1) := by decide +kernel
theorem dX3_lay_64 : decode cX3_lay 64 = .ok (.invokevirtual 145, 3) := by decide +kernel
theorem dX3_lay_67 : decode cX3_lay 67 = .ok (.iinc 4 1, 3) := by decide +kernel
theorem dX3_lay_70 : decode cX3_lay 70 = .ok (.goto (-54), 3) := by decide +kernel
theorem dX3_lay_73 : decode cX3_lay 73 = .ok (.iinc 3 1, 3) := by decide +kernel
theorem dX3_lay_76 : decode cX3_lay 76 = .ok (.goto (-69), 3) := by decide +kernel
theorem dX3_lay_79 : decode cX3_lay 79 = .ok (.return_, 1) := by decide +kernel
theorem dX3_enter_0 : decode cX3_enter 0 = .ok (.iconst 0, 1) := by decide +kernel
theorem dX3_enter_1 : decode cX3_enter 1 = .ok (.istore_n 3, 1) := by decide +kernel
theorem dX3_enter_2 : decode cX3_enter 2 = .ok (.iload_n 3, 1) := by decide +kernel
theorem dX3_enter_3 : decode cX3_enter 3 = .ok (.aload_n 0, 1) := by decide +kernel
theorem dX3_enter_4 : decode cX3_enter 4 = .ok (.getfield 142, 3) := by decide +kernel
theorem dX3_enter_7 : decode cX3_enter 7 = .ok (.if_icmp .ge 20, 3) := by decide +kernel
theorem dX3_enter_10 : decode cX3_enter 10 = .ok (.aload_n 0, 1) := by decide +kernel
theorem dX3_enter_11 : decode cX3_enter 11 = .ok (.getfield 42, 3) := by decide +kernel
theorem dX3_enter_14 : decode cX3_enter 14 = .ok (.iload_n 3, 1) := by decide +kernel
theorem dX3_enter_15 : decode cX3_enter 15 = .ok (.laload, 1) := by decide +kernel
theorem dX3_enter_16 : decode cX3_enter 16 = .ok (.lload_n 1, 1) := by decide +kernel
theorem dX3_enter_17 : decode cX3_enter 17 = .ok (.lcmp, 1) := by decide +kernel
theorem dX3_enter_18 : decode cX3_enter 18 = .ok (.ifCond .ge 9, 3) := by decide +kernel
theorem dX3_enter_21 : decode cX3_enter 21 = .ok (.iinc 3 1, 3) := by decide +kernel
theorem dX3_enter_24 : decode cX3_enter 24 = .ok (.goto (-22), 3) := by decide +kernel
theorem dX3_enter_27 : decode cX3_enter 27 = .ok (.iload_n 3, 1) := by decide +kernel
theorem dX3_enter_28 : decode cX3_enter 28 = .ok (.aload_n 0, 1) := by decide +kernel
theorem dX3_enter_29 : decode cX3_enter 29 = .ok (.getfield 142, 3) := by decide +kernel
theorem dX3_enter_32 : decode cX3_enter 32 = .ok (.if_icmp .ge 15, 3) := by decide +kernel
theorem dX3_enter_35 : decode cX3_enter 35 = .ok (.aload_n 0, 1) := by decide +kernel
theorem dX3_enter_36 : decode cX3_enter 36 = .ok (.getfield 42, 3) := by decide +kernel
theorem dX3_enter_39 : decode cX3_enter 39 = .ok (.iload_n 3, 1) := by decide +kernel
theorem dX3_enter_40 : decode cX3_enter 40 = .ok (.laload, 1) := by decide +kernel
theorem dX3_enter_41 : decode cX3_enter 41 = .ok (.lload_n 1, 1) := by decide +kernel
theorem dX3_enter_42 : decode cX3_enter 42 = .ok (.lcmp, 1) := by decide +kernel
theorem dX3_enter_43 : decode cX3_enter 43 = .ok (.ifCond .ne 4, 3) := by decide +kernel
theorem dX3_enter_46 : decode cX3_enter 46 = .ok (.return_, 1) := by decide +kernel
theorem dX3_enter_47 : decode cX3_enter 47 = .ok (.aload_n 0, 1) := by decide +kernel
theorem dX3_enter_48 : decode cX3_enter 48 = .ok (.getfield 142, 3) := by decide +kernel
theorem dX3_enter_51 : decode cX3_enter 51 = .ok (.istore 4, 2) := by decide +kernel
theorem dX3_enter_53 : decode cX3_enter 53 = .ok (.iload 4, 2) := by decide +kernel
theorem dX3_enter_55 : decode cX3_enter 55 = .ok (.iload_n 3, 1) := by decide +kernel
theorem dX3_enter_56 : decode cX3_enter 56 = .ok (.if_icmp .le 25, 3) := by decide +kernel
theorem dX3_enter_59 : decode cX3_enter 59 = .ok (.aload_n 0, 1) := by decide +kernel
theorem dX3_enter_60 : decode cX3_enter 60 = .ok (.getfield 42, 3) := by decide +kernel
theorem dX3_enter_63 : decode cX3_enter 63 = .ok (.iload 4, 2) := by decide +kernel
theorem dX3_enter_65 : decode cX3_enter 65 = .ok (.aload_n 0, 1) := by decide +kernel
theorem dX3_enter_66 : decode cX3_enter 66 = .ok (.getfield 42, 3) := by decide +kernel
theorem dX3_enter_69 : decode cX3_enter 69 = .ok (.iload 4, 2) := by decide +kernel
theorem dX3_enter_71 : decode cX3_enter 71 = .ok (.iconst 1, 1) := by decide +kernel
theorem dX3_enter_72 : decode cX3_enter 72 = .ok (.isub, 1) := by decide +kernel
theorem dX3_enter_73 : decode cX3_enter 73 = .ok (.laload, 1) := by decide +kernel
theorem dX3_enter_74 : decode cX3_enter 74 = .ok (.lastore, 1) := by decide +kernel
theorem dX3_enter_75 : decode cX3_enter 75 = .ok (.iinc 4 (-1), 3) := by decide +kernel
theorem dX3_enter_78 : decode cX3_enter 78 = .ok (.goto (-25), 3) := by decide +kernel
theorem dX3_enter_81 : decode cX3_enter 81 = .ok (.aload_n 0, 1) := by decide +kernel
theorem dX3_enter_82 : decode cX3_enter 82 = .ok (.getfield 42, 3) := by decide +kernel
theorem dX3_enter_85 : decode cX3_enter 85 = .ok (.iload_n 3, 1) := by decide +kernel
theorem dX3_enter_86 : decode cX3_enter 86 = .ok (.lload_n 1, 1) := by decide +kernel
theorem dX3_enter_87 : decode cX3_enter 87 = .ok (.lastore, 1) := by decide +kernel
theorem dX3_enter_88 : decode cX3_enter 88 = .ok (.aload_n 0, 1) := by decide +kernel
theorem dX3_enter_89 : decode cX3_enter 89 = .ok (.dup, 1) := by decide +kernel
theorem dX3_enter_90 : decode cX3_enter 90 = .ok (.getfield 142, 3) := by decide +kernel
theorem dX3_enter_93 : decode cX3_enter 93 = .ok (.iconst 1, 1) := by decide +kernel
theorem dX3_enter_94 : decode cX3_enter 94 = .ok (.iadd, 1) := by decide +kernel
theorem dX3_enter_95 : decode cX3_enter 95 = .ok (.putfield 142, 3) := by decide +kernel
theorem dX3_enter_98 : decode cX3_enter 98 = .ok (.return_, 1) := by decide +kernel
set_option maxRecDepth 20000 in
theorem ggX3_values_X3_isReplica : GoodIn wsX3_values wsX3_isReplica := goodIn_r _ [6, 7, 8, 5, 9] (by decide +kernel) (by decide +kernel)
set_option maxRecDepth 20000 in
theorem gX3_values_X3_isReplica : GoodIn wsX3_values (wsV RX3 94 RX3 yX3_isReplica wsX3_isReplica) := goodIn_app (goodIn_of _ (by decide +kernel)) ggX3_values_X3_isReplica
set_option maxRecDepth 20000 in
theorem ggX3_values_X3_isKey : GoodIn wsX3_values wsX3_isKey := goodIn_r _ [12, 7, 8, 5, 9] (by decide +kernel) (by decide +kernel)
set_option maxRecDepth 20000 in
theorem gX3_values_X3_isKey : GoodIn wsX3_values (va_wsS RX3 98 yX3_isKey wsX3_isKey) := goodIn_app (goodIn_of _ (by decide +kernel)) ggX3_values_X3_isKey
set_option maxRecDepth 20000 in
theorem ggX3_values_X3_goes : GoodIn wsX3_values wsX3_goes := goodIn_r _ [16, 17, 36, 37, 38, 39, 40, 41, 42, 43, 44, 45, 46, 47, 48, 49] (by decide +kernel) (by decide +kernel)
set_option maxRecDepth 20000 in
theorem gX3_values_X3_goes : GoodIn wsX3_values (wsV RX3 135 RX3 yX3_goes wsX3_goes) := goodIn_app (goodIn_of _ (by decide +kernel)) ggX3_values_X3_goes
set_option maxRecDepth 20000 in
theorem ggX3_values_X3_lay : GoodIn wsX3_values wsX3_lay := goodIn_r _ [21, 1, 22, 23, 24, 25, 26, 5, 27, 28, 29, 30, 31, 32, 33, 34, 35, 36, 37, 38, 39, 40, 41, 42, 43, 44, 45, 46, 47, 48, 49] (by decide +kernel) (by decide +kernel)
set_option maxRecDepth 20000 in
theorem gX3_values_X3_lay : GoodIn wsX3_values (wsV RX3 149 RX3 yX3_lay wsX3_lay) := goodIn_app (goodIn_of _ (by decide +kernel)) ggX3_values_X3_lay
theorem dX3_values_0 : decode cX3_values 0 = .ok (.aload_n 0, 1) := by decide +kernel
theorem dX3_values_1 : decode cX3_values 1 = .ok (.aload_n 0, 1) := by decide +kernel
theorem dX3_values_2 : decode cX3_values 2 = .ok (.iload_n 1, 1) := by decide +kernel
theorem dX3_values_3 : decode cX3_values 3 = .ok (.invokevirtual 94, 3) := by decide +kernel
theorem dX3_values_6 : decode cX3_values 6 = .ok (.ifCond .eq 14, 3) := by decide +kernel
theorem dX3_values_9 : decode cX3_values 9 = .ok (.iload_n 2, 1) := by decide +kernel
theorem dX3_values_10 : decode cX3_values 10 = .ok (.invokestatic 98, 3) := by decide +kernel
theorem dX3_values_13 : decode cX3_values 13 = .ok (.ifCond .eq 7, 3) := by decide +kernel
theorem dX3_values_16 : decode cX3_values 16 = .ok (.iconst 1, 1) := by decide +kernel
theorem dX3_values_17 : decode cX3_values 17 = .ok (.goto 4, 3) := by decide +kernel
theorem dX3_values_20 : decode cX3_values 20 = .ok (.iconst 0, 1) := by decide +kernel
theorem dX3_values_21 : decode cX3_values 21 = .ok (.invokevirtual 135, 3) := by decide +kernel
theorem dX3_values_24 : decode cX3_values 24 = .ok (.ifCond .ne 5, 3) := by decide +kernel
theorem dX3_values_27 : decode cX3_values 27 = .ok (.iconst 0, 1) := by decide +kernel
theorem dX3_values_28 : decode cX3_values 28 = .ok (.ireturn, 1) := by decide +kernel
theorem dX3_values_29 : decode cX3_values 29 = .ok (.aload_n 0, 1) := by decide +kernel
theorem dX3_values_30 : decode cX3_values 30 = .ok (.iload_n 1, 1) := by decide +kernel
theorem dX3_values_31 : decode cX3_values 31 = .ok (.iload_n 2, 1) := by decide +kernel
theorem dX3_values_32 : decode cX3_values 32 = .ok (.invokevirtual 149, 3) := by decide +kernel
theorem dX3_values_35 : decode cX3_values 35 = .ok (.aload_n 0, 1) := by decide +kernel
theorem dX3_values_36 : decode cX3_values 36 = .ok (.getfield 142, 3) := by decide +kernel
theorem dX3_values_39 : decode cX3_values 39 = .ok (.ireturn, 1) := by decide +kernel
set_option maxRecDepth 20000 in
theorem ggX3_value_X3_isReplica : GoodIn wsX3_value wsX3_isReplica := goodIn_r _ [7, 8, 9, 6, 10] (by decide +kernel) (by decide +kernel)
set_option maxRecDepth 20000 in
theorem gX3_value_X3_isReplica : GoodIn wsX3_value (wsV RX3 94 RX3 yX3_isReplica wsX3_isReplica) := goodIn_app (goodIn_of _ (by decide +kernel)) ggX3_value_X3_isReplica
set_option maxRecDepth 20000 in
theorem ggX3_value_X3_isKey : GoodIn wsX3_value wsX3_isKey := goodIn_r _ [13, 8, 9, 6, 10] (by decide +kernel) (by decide +kernel)
set_option maxRecDepth 20000 in
theorem gX3_value_X3_isKey : GoodIn wsX3_value (va_wsS RX3 98 yX3_isKey wsX3_isKey) := goodIn_app (goodIn_of _ (by decide +kernel)) ggX3_value_X3_isKey
set_option maxRecDepth 20000 in
theorem ggX3_value_X3_goes : GoodIn wsX3_value wsX3_goes := goodIn_r _ [17, 18, 36, 37, 38, 39, 40, 41, 42, 43, 44, 45, 46, 47, 48, 49] (by decide +kernel) (by decide +kernel)
set_option maxRecDepth 20000 in
theorem gX3_value_X3_goes : GoodIn wsX3_value (wsV RX3 135 RX3 yX3_goes wsX3_goes) := goodIn_app (goodIn_of _ (by decide +kernel)) ggX3_value_X3_goes
set_option maxRecDepth 20000 in
theorem ggX3_value_X3_lay : GoodIn wsX3_value wsX3_lay := goodIn_r _ [22, 1, 23, 24, 25, 26, 27, 6, 28, 29, 30, 31, 32, 33, 34, 35, 2, 36, 37, 38, 39, 40, 41, 42, 43, 44, 45, 46, 47, 48, 49] (by decide +kernel) (by decide +kernel)
set_option maxRecDepth 20000 in
theorem gX3_value_X3_lay : GoodIn wsX3_value (wsV RX3 149 RX3 yX3_lay wsX3_lay) := goodIn_app (goodIn_of _ (by decide +kernel)) ggX3_value_X3_lay
set_option maxRecDepth 20000 in
theorem ggX3_value_X3_in : GoodIn wsX3_value wsX3_in := goodIn_r _ [10] (by decide +kernel) (by decide +kernel)
set_option maxRecDepth 20000 in
theorem gX3_value_X3_in : GoodIn wsX3_value (va_wsS RX3 79 yX3_in wsX3_in) := goodIn_app (goodIn_of _ (by decide +kernel)) ggX3_value_X3_in
theorem dX3_value_0 : decode cX3_value 0 = .ok (.aload_n 0, 1) := by decide +kernel
theorem dX3_value_1 : decode cX3_value 1 = .ok (.aload_n 0, 1) := by decide +kernel
theorem dX3_value_2 : decode cX3_value 2 = .ok (.iload_n 1, 1) := by decide +kernel
theorem dX3_value_3 : decode cX3_value 3 = .ok (.invokevirtual 94, 3) := by decide +kernel
theorem dX3_value_6 : decode cX3_value 6 = .ok (.ifCond .eq 14, 3) := by decide +kernel
theorem dX3_value_9 : decode cX3_value 9 = .ok (.iload_n 2, 1) := by decide +kernel
theorem dX3_value_10 : decode cX3_value 10 = .ok (.invokestatic 98, 3) := by decide +kernel
theorem dX3_value_13 : decode cX3_value 13 = .ok (.ifCond .eq 7, 3) := by decide +kernel
theorem dX3_value_16 : decode cX3_value 16 = .ok (.iconst 1, 1) := by decide +kernel
theorem dX3_value_17 : decode cX3_value 17 = .ok (.goto 4, 3) := by decide +kernel
theorem dX3_value_20 : decode cX3_value 20 = .ok (.iconst 0, 1) := by decide +kernel
theorem dX3_value_21 : decode cX3_value 21 = .ok (.invokevirtual 135, 3) := by decide +kernel
theorem dX3_value_24 : decode cX3_value 24 = .ok (.ifCond .ne 5, 3) := by decide +kernel
theorem dX3_value_27 : decode cX3_value 27 = .ok (.lconst 0, 1) := by decide +kernel
theorem dX3_value_28 : decode cX3_value 28 = .ok (.lreturn, 1) := by decide +kernel
theorem dX3_value_29 : decode cX3_value 29 = .ok (.aload_n 0, 1) := by decide +kernel
theorem dX3_value_30 : decode cX3_value 30 = .ok (.iload_n 1, 1) := by decide +kernel
theorem dX3_value_31 : decode cX3_value 31 = .ok (.iload_n 2, 1) := by decide +kernel
theorem dX3_value_32 : decode cX3_value 32 = .ok (.invokevirtual 149, 3) := by decide +kernel
theorem dX3_value_35 : decode cX3_value 35 = .ok (.aload_n 0, 1) := by decide +kernel
theorem dX3_value_36 : decode cX3_value 36 = .ok (.iload_n 3, 1) := by decide +kernel
theorem dX3_value_37 : decode cX3_value 37 = .ok (.iconst 0, 1) := by decide +kernel
theorem dX3_value_38 : decode cX3_value 38 = .ok (.aload_n 0, 1) := by decide +kernel
theorem dX3_value_39 : decode cX3_value 39 = .ok (.getfield 142, 3) := by decide +kernel
theorem dX3_value_42 : decode cX3_value 42 = .ok (.iconst 1, 1) := by decide +kernel
theorem dX3_value_43 : decode cX3_value 43 = .ok (.isub, 1) := by decide +kernel
theorem dX3_value_44 : decode cX3_value 44 = .ok (.invokestatic 79, 3) := by decide +kernel
theorem dX3_value_47 : decode cX3_value 47 = .ok (.invokevirtual 135, 3) := by decide +kernel
theorem dX3_value_50 : decode cX3_value 50 = .ok (.ifCond .eq 12, 3) := by decide +kernel
theorem dX3_value_53 : decode cX3_value 53 = .ok (.aload_n 0, 1) := by decide +kernel
theorem dX3_value_54 : decode cX3_value 54 = .ok (.getfield 42, 3) := by decide +kernel
theorem dX3_value_57 : decode cX3_value 57 = .ok (.iload_n 3, 1) := by decide +kernel
theorem dX3_value_58 : decode cX3_value 58 = .ok (.laload, 1) := by decide +kernel
theorem dX3_value_59 : decode cX3_value 59 = .ok (.goto 4, 3) := by decide +kernel
theorem dX3_value_62 : decode cX3_value 62 = .ok (.lconst 0, 1) := by decide +kernel
theorem dX3_value_63 : decode cX3_value 63 = .ok (.lreturn, 1) := by decide +kernel
set_option maxRecDepth 20000 in
theorem ggX3_sum_X3_isReplica : GoodIn wsX3_sum wsX3_isReplica := goodIn_r _ [8, 9, 10, 7, 11] (by decide +kernel) (by decide +kernel)
set_option maxRecDepth 20000 in
theorem gX3_sum_X3_isReplica : GoodIn wsX3_sum (wsV RX3 94 RX3 yX3_isReplica wsX3_isReplica) := goodIn_app (goodIn_of _ (by decide +kernel)) ggX3_sum_X3_isReplica
set_option maxRecDepth 20000 in
theorem ggX3_sum_X3_isKey : GoodIn wsX3_sum wsX3_isKey := goodIn_r _ [14, 9, 10, 7, 11] (by decide +kernel) (by decide +kernel)
set_option maxRecDepth 20000 in
theorem gX3_sum_X3_isKey : GoodIn wsX3_sum (va_wsS RX3 98 yX3_isKey wsX3_isKey) := goodIn_app (goodIn_of _ (by decide +kernel)) ggX3_sum_X3_isKey
set_option maxRecDepth 20000 in
theorem ggX3_sum_X3_goes : GoodIn wsX3_sum wsX3_goes := goodIn_r _ [18, 19, 26, 27, 28, 29, 30, 31, 32, 33, 34, 35, 36, 37, 38, 39] (by decide +kernel) (by decide +kernel)
set_option maxRecDepth 20000 in
theorem gX3_sum_X3_goes : GoodIn wsX3_sum (wsV RX3 135 RX3 yX3_goes wsX3_goes) := goodIn_app (goodIn_of _ (by decide +kernel)) ggX3_sum_X3_goes
set_option maxRecDepth 20000 in
theorem ggX3_sum_X3_dot : GoodIn wsX3_sum wsX3_dot := goodIn_r _ [22] (by decide +kernel) (by decide +kernel)
set_option maxRecDepth 20000 in
theorem gX3_sum_X3_dot : GoodIn wsX3_sum (va_wsS RX3 83 yX3_dot wsX3_dot) := goodIn_app (goodIn_of _ (by decide +kernel)) ggX3_sum_X3_dot
set_option maxRecDepth 20000 in
theorem ggX3_sum_X3_isSet : GoodIn wsX3_sum wsX3_isSet := goodIn_r _ [25] (by decide +kernel) (by decide +kernel)
set_option maxRecDepth 20000 in
theorem gX3_sum_X3_isSet : GoodIn wsX3_sum (va_wsS RX3 49 yX3_isSet wsX3_isSet) := goodIn_app (goodIn_of _ (by decide +kernel)) ggX3_sum_X3_isSet
theorem dX3_sum_0 : decode cX3_sum 0 = .ok (.lconst 0, 1) := by decide +kernel
theorem dX3_sum_1 : decode cX3_sum 1 = .ok (.lstore_n 3, 1) := by decide +kernel
theorem dX3_sum_2 : decode cX3_sum 2 = .ok (.aload_n 0, 1) := by decide +kernel
theorem dX3_sum_3 : decode cX3_sum 3 = .ok (.aload_n 0, 1) := by decide +kernel
theorem dX3_sum_4 : decode cX3_sum 4 = .ok (.iload_n 1, 1) := by decide +kernel
theorem dX3_sum_5 : decode cX3_sum 5 = .ok (.invokevirtual 94, 3) := by decide +kernel
theorem dX3_sum_8 : decode cX3_sum 8 = .ok (.ifCond .eq 14, 3) := by decide +kernel
theorem dX3_sum_11 : decode cX3_sum 11 = .ok (.iload_n 2, 1) := by decide +kernel
theorem dX3_sum_12 : decode cX3_sum 12 = .ok (.invokestatic 98, 3) := by decide +kernel
theorem dX3_sum_15 : decode cX3_sum 15 = .ok (.ifCond .eq 7, 3) := by decide +kernel
theorem dX3_sum_18 : decode cX3_sum 18 = .ok (.iconst 1, 1) := by decide +kernel
theorem dX3_sum_19 : decode cX3_sum 19 = .ok (.goto 4, 3) := by decide +kernel
theorem dX3_sum_22 : decode cX3_sum 22 = .ok (.iconst 0, 1) := by decide +kernel
theorem dX3_sum_23 : decode cX3_sum 23 = .ok (.invokevirtual 135, 3) := by decide +kernel
theorem dX3_sum_26 : decode cX3_sum 26 = .ok (.ifCond .ne 5, 3) := by decide +kernel
theorem dX3_sum_29 : decode cX3_sum 29 = .ok (.lload_n 3, 1) := by decide +kernel
theorem dX3_sum_30 : decode cX3_sum 30 = .ok (.lreturn, 1) := by decide +kernel
theorem dX3_sum_31 : decode cX3_sum 31 = .ok (.iconst 0, 1) := by decide +kernel
theorem dX3_sum_32 : decode cX3_sum 32 = .ok (.istore 5, 2) := by decide +kernel
theorem dX3_sum_34 : decode cX3_sum 34 = .ok (.iload 5, 2) := by decide +kernel
theorem dX3_sum_36 : decode cX3_sum 36 = .ok (.bipush 6, 2) := by decide +kernel
theorem dX3_sum_38 : decode cX3_sum 38 = .ok (.if_icmp .ge 74, 3) := by decide +kernel
theorem dX3_sum_41 : decode cX3_sum 41 = .ok (.iconst 1, 1) := by decide +kernel
theorem dX3_sum_42 : decode cX3_sum 42 = .ok (.istore 6, 2) := by decide +kernel
theorem dX3_sum_44 : decode cX3_sum 44 = .ok (.iload 6, 2) := by decide +kernel
theorem dX3_sum_46 : decode cX3_sum 46 = .ok (.bipush 100, 2) := by decide +kernel
theorem dX3_sum_48 : decode cX3_sum 48 = .ok (.if_icmp .gt 58, 3) := by decide +kernel
theorem dX3_sum_51 : decode cX3_sum 51 = .ok (.iload 5, 2) := by decide +kernel
theorem dX3_sum_53 : decode cX3_sum 53 = .ok (.iload 6, 2) := by decide +kernel
theorem dX3_sum_55 : decode cX3_sum 55 = .ok (.invokestatic 83, 3) := by decide +kernel
theorem dX3_sum_58 : decode cX3_sum 58 = .ok (.istore 7, 2) := by decide +kernel
theorem dX3_sum_60 : decode cX3_sum 60 = .ok (.aload_n 0, 1) := by decide +kernel
theorem dX3_sum_61 : decode cX3_sum 61 = .ok (.getfield 13, 3) := by decide +kernel
theorem dX3_sum_64 : decode cX3_sum 64 = .ok (.iload_n 1, 1) := by decide +kernel
theorem dX3_sum_65 : decode cX3_sum 65 = .ok (.iload 5, 2) := by decide +kernel
theorem dX3_sum_67 : decode cX3_sum 67 = .ok (.iload 6, 2) := by decide +kernel
theorem dX3_sum_69 : decode cX3_sum 69 = .ok (.invokestatic 49, 3) := by decide +kernel
theorem dX3_sum_72 : decode cX3_sum 72 = .ok (.ifCond .eq 26, 3) := by decide +kernel
theorem dX3_sum_75 : decode cX3_sum 75 = .ok (.aload_n 0, 1) := by decide +kernel
theorem dX3_sum_76 : decode cX3_sum 76 = .ok (.getfield 33, 3) := by decide +kernel
theorem dX3_sum_79 : decode cX3_sum 79 = .ok (.iload 7, 2) := by decide +kernel
theorem dX3_sum_81 : decode cX3_sum 81 = .ok (.iaload, 1) := by decide +kernel
theorem dX3_sum_82 : decode cX3_sum 82 = .ok (.iload_n 2, 1) := by decide +kernel
theorem dX3_sum_83 : decode cX3_sum 83 = .ok (.if_icmp .ne 15, 3) := by decide +kernel
theorem dX3_sum_86 : decode cX3_sum 86 = .ok (.lload_n 3, 1) := by decide +kernel
theorem dX3_sum_87 : decode cX3_sum 87 = .ok (.aload_n 0, 1) := by decide +kernel
theorem dX3_sum_88 : decode cX3_sum 88 = .ok (.getfield 39, 3) := by decide +kernel
theorem dX3_sum_91 : decode cX3_sum 91 = .ok (.iload 7, 2) := by decide +kernel
theorem dX3_sum_93 : decode cX3_sum 93 = .ok (.laload, 1) := by decide +kernel
theorem dX3_sum_94 : decode cX3_sum 94 = .ok (.ladd, 1) := by decide +kernel
theorem dX3_sum_95 : decode cX3_sum 95 = .ok (.goto 4, 3) := by decide +kernel
theorem dX3_sum_98 : decode cX3_sum 98 = .ok (.lload_n 3, 1) := by decide +kernel
theorem dX3_sum_99 : decode cX3_sum 99 = .ok (.lstore_n 3, 1) := by decide +kernel
theorem dX3_sum_100 : decode cX3_sum 100 = .ok (.iinc 6 1, 3) := by decide +kernel
theorem dX3_sum_103 : decode cX3_sum 103 = .ok (.goto (-59), 3) := by decide +kernel
theorem dX3_sum_106 : decode cX3_sum 106 = .ok (.iinc 5 1, 3) := by decide +kernel
theorem dX3_sum_109 : decode cX3_sum 109 = .ok (.goto (-75), 3) := by decide +kernel
theorem dX3_sum_112 : decode cX3_sum 112 = .ok (.lload_n 3, 1) := by decide +kernel
theorem dX3_sum_113 : decode cX3_sum 113 = .ok (.lreturn, 1) := by decide +kernel
set_option maxRecDepth 20000 in
theorem ggX3_keys_X3_isReplica : GoodIn wsX3_keys wsX3_isReplica := goodIn_r _ [7, 8, 9, 6, 10] (by decide +kernel) (by decide +kernel)
set_option maxRecDepth 20000 in
theorem gX3_keys_X3_isReplica : GoodIn wsX3_keys (wsV RX3 94 RX3 yX3_isReplica wsX3_isReplica) := goodIn_app (goodIn_of _ (by decide +kernel)) ggX3_keys_X3_isReplica
set_option maxRecDepth 20000 in
theorem ggX3_keys_X3_goes : GoodIn wsX3_keys wsX3_goes := goodIn_r _ [14, 15, 22, 23, 24, 25, 26, 27, 28, 29, 30, 31, 32, 33, 34, 35] (by decide +kernel) (by decide +kernel)
set_option maxRecDepth 20000 in
theorem gX3_keys_X3_goes : GoodIn wsX3_keys (wsV RX3 135 RX3 yX3_goes wsX3_goes) := goodIn_app (goodIn_of _ (by decide +kernel)) ggX3_keys_X3_goes
set_option maxRecDepth 20000 in
theorem ggX3_keys_X3_isSet : GoodIn wsX3_keys wsX3_isSet := goodIn_r _ [18] (by decide +kernel) (by decide +kernel)
set_option maxRecDepth 20000 in
theorem gX3_keys_X3_isSet : GoodIn wsX3_keys (va_wsS RX3 49 yX3_isSet wsX3_isSet) := goodIn_app (goodIn_of _ (by decide +kernel)) ggX3_keys_X3_isSet
set_option maxRecDepth 20000 in
theorem ggX3_keys_X3_dot : GoodIn wsX3_keys wsX3_dot := goodIn_r _ [21] (by decide +kernel) (by decide +kernel)
set_option maxRecDepth 20000 in
theorem gX3_keys_X3_dot : GoodIn wsX3_keys (va_wsS RX3 83 yX3_dot wsX3_dot) := goodIn_app (goodIn_of _ (by decide +kernel)) ggX3_keys_X3_dot
theorem dX3_keys_0 : decode cX3_keys 0 = .ok (.iconst 0, 1) := by decide +kernel
theorem dX3_keys_1 : decode cX3_keys 1 = .ok (.istore_n 2, 1) := by decide +kernel
theorem dX3_keys_2 : decode cX3_keys 2 = .ok (.aload_n 0, 1) := by decide +kernel
theorem dX3_keys_3 : decode cX3_keys 3 = .ok (.aload_n 0, 1) := by decide +kernel
theorem dX3_keys_4 : decode cX3_keys 4 = .ok (.iload_n 1, 1) := by decide +kernel
theorem dX3_keys_5 : decode cX3_keys 5 = .ok (.invokevirtual 94, 3) := by decide +kernel
theorem dX3_keys_8 : decode cX3_keys 8 = .ok (.invokevirtual 135, 3) := by decide +kernel
theorem dX3_keys_11 : decode cX3_keys 11 = .ok (.ifCond .ne 5, 3) := by decide +kernel
theorem dX3_keys_14 : decode cX3_keys 14 = .ok (.iconst 0, 1) := by decide +kernel
theorem dX3_keys_15 : decode cX3_keys 15 = .ok (.ireturn, 1) := by decide +kernel
theorem dX3_keys_16 : decode cX3_keys 16 = .ok (.iconst 0, 1) := by decide +kernel
theorem dX3_keys_17 : decode cX3_keys 17 = .ok (.istore_n 3, 1) := by decide +kernel
theorem dX3_keys_18 : decode cX3_keys 18 = .ok (.iload_n 3, 1) := by decide +kernel
theorem dX3_keys_19 : decode cX3_keys 19 = .ok (.bipush 6, 2) := by decide +kernel
theorem dX3_keys_21 : decode cX3_keys 21 = .ok (.if_icmp .ge 59, 3) := by decide +kernel
theorem dX3_keys_24 : decode cX3_keys 24 = .ok (.iconst 1, 1) := by decide +kernel
theorem dX3_keys_25 : decode cX3_keys 25 = .ok (.istore 4, 2) := by decide +kernel
theorem dX3_keys_27 : decode cX3_keys 27 = .ok (.iload 4, 2) := by decide +kernel
theorem dX3_keys_29 : decode cX3_keys 29 = .ok (.bipush 100, 2) := by decide +kernel
theorem dX3_keys_31 : decode cX3_keys 31 = .ok (.if_icmp .gt 43, 3) := by decide +kernel
theorem dX3_keys_34 : decode cX3_keys 34 = .ok (.aload_n 0, 1) := by decide +kernel
theorem dX3_keys_35 : decode cX3_keys 35 = .ok (.getfield 13, 3) := by decide +kernel
theorem dX3_keys_38 : decode cX3_keys 38 = .ok (.iload_n 1, 1) := by decide +kernel
theorem dX3_keys_39 : decode cX3_keys 39 = .ok (.iload_n 3, 1) := by decide +kernel
theorem dX3_keys_40 : decode cX3_keys 40 = .ok (.iload 4, 2) := by decide +kernel
theorem dX3_keys_42 : decode cX3_keys 42 = .ok (.invokestatic 49, 3) := by decide +kernel
theorem dX3_keys_45 : decode cX3_keys 45 = .ok (.ifCond .eq 21, 3) := by decide +kernel
theorem dX3_keys_48 : decode cX3_keys 48 = .ok (.iload_n 2, 1) := by decide +kernel
theorem dX3_keys_49 : decode cX3_keys 49 = .ok (.iconst 1, 1) := by decide +kernel
theorem dX3_keys_50 : decode cX3_keys 50 = .ok (.aload_n 0, 1) := by decide +kernel
theorem dX3_keys_51 : decode cX3_keys 51 = .ok (.getfield 33, 3) := by decide +kernel
theorem dX3_keys_54 : decode cX3_keys 54 = .ok (.iload_n 3, 1) := by decide +kernel
theorem dX3_keys_55 : decode cX3_keys 55 = .ok (.iload 4, 2) := by decide +kernel
theorem dX3_keys_57 : decode cX3_keys 57 = .ok (.invokestatic 83, 3) := by decide +kernel
theorem dX3_keys_60 : decode cX3_keys 60 = .ok (.iaload, 1) := by decide +kernel
theorem dX3_keys_61 : decode cX3_keys 61 = .ok (.ishl, 1) := by decide +kernel
theorem dX3_keys_62 : decode cX3_keys 62 = .ok (.ior, 1) := by decide +kernel
theorem dX3_keys_63 : decode cX3_keys 63 = .ok (.goto 4, 3) := by decide +kernel
theorem dX3_keys_66 : decode cX3_keys 66 = .ok (.iload_n 2, 1) := by decide +kernel
theorem dX3_keys_67 : decode cX3_keys 67 = .ok (.istore_n 2, 1) := by decide +kernel
theorem dX3_keys_68 : decode cX3_keys 68 = .ok (.iinc 4 1, 3) := by decide +kernel
theorem dX3_keys_71 : decode cX3_keys 71 = .ok (.goto (-44), 3) := by decide +kernel
theorem dX3_keys_74 : decode cX3_keys 74 = .ok (.iinc 3 1, 3) := by decide +kernel
theorem dX3_keys_77 : decode cX3_keys 77 = .ok (.goto (-59), 3) := by decide +kernel
theorem dX3_keys_80 : decode cX3_keys 80 = .ok (.iload_n 2, 1) := by decide +kernel
theorem dX3_keys_81 : decode cX3_keys 81 = .ok (.ireturn, 1) := by decide +kernel
set_option maxRecDepth 20000 in
theorem ggX3_inTwice_X3_isReplica : GoodIn wsX3_inTwice wsX3_isReplica := goodIn_r _ [7, 8, 9, 6, 10] (by decide +kernel) (by decide +kernel)
set_option maxRecDepth 20000 in
theorem gX3_inTwice_X3_isReplica : GoodIn wsX3_inTwice (wsV RX3 94 RX3 yX3_isReplica wsX3_isReplica) := goodIn_app (goodIn_of _ (by decide +kernel)) ggX3_inTwice_X3_isReplica
set_option maxRecDepth 20000 in
theorem ggX3_inTwice_X3_isElement : GoodIn wsX3_inTwice wsX3_isElement := goodIn_r _ [13, 8, 9, 6, 10] (by decide +kernel) (by decide +kernel)
set_option maxRecDepth 20000 in
theorem gX3_inTwice_X3_isElement : GoodIn wsX3_inTwice (va_wsS RX3 120 yX3_isElement wsX3_isElement) := goodIn_app (goodIn_of _ (by decide +kernel)) ggX3_inTwice_X3_isElement
set_option maxRecDepth 20000 in
theorem ggX3_inTwice_X3_goes : GoodIn wsX3_inTwice wsX3_goes := goodIn_r _ [17, 18, 19, 20, 21, 22, 23, 24, 25, 26, 27, 28, 29, 30, 31, 32] (by decide +kernel) (by decide +kernel)
set_option maxRecDepth 20000 in
theorem gX3_inTwice_X3_goes : GoodIn wsX3_inTwice (wsV RX3 135 RX3 yX3_goes wsX3_goes) := goodIn_app (goodIn_of _ (by decide +kernel)) ggX3_inTwice_X3_goes
theorem dX3_inTwice_0 : decode cX3_inTwice 0 = .ok (.aload_n 0, 1) := by decide +kernel
theorem dX3_inTwice_1 : decode cX3_inTwice 1 = .ok (.aload_n 0, 1) := by decide +kernel
theorem dX3_inTwice_2 : decode cX3_inTwice 2 = .ok (.iload_n 1, 1) := by decide +kernel
theorem dX3_inTwice_3 : decode cX3_inTwice 3 = .ok (.invokevirtual 94, 3) := by decide +kernel
theorem dX3_inTwice_6 : decode cX3_inTwice 6 = .ok (.ifCond .eq 14, 3) := by decide +kernel
theorem dX3_inTwice_9 : decode cX3_inTwice 9 = .ok (.iload_n 2, 1) := by decide +kernel
theorem dX3_inTwice_10 : decode cX3_inTwice 10 = .ok (.invokestatic 120, 3) := by decide +kernel
theorem dX3_inTwice_13 : decode cX3_inTwice 13 = .ok (.ifCond .eq 7, 3) := by decide +kernel
theorem dX3_inTwice_16 : decode cX3_inTwice 16 = .ok (.iconst 1, 1) := by decide +kernel
theorem dX3_inTwice_17 : decode cX3_inTwice 17 = .ok (.goto 4, 3) := by decide +kernel
theorem dX3_inTwice_20 : decode cX3_inTwice 20 = .ok (.iconst 0, 1) := by decide +kernel
theorem dX3_inTwice_21 : decode cX3_inTwice 21 = .ok (.invokevirtual 135, 3) := by decide +kernel
theorem dX3_inTwice_24 : decode cX3_inTwice 24 = .ok (.ifCond .eq 25, 3) := by decide +kernel
theorem dX3_inTwice_27 : decode cX3_inTwice 27 = .ok (.aload_n 0, 1) := by decide +kernel
theorem dX3_inTwice_28 : decode cX3_inTwice 28 = .ok (.getfield 16, 3) := by decide +kernel
theorem dX3_inTwice_31 : decode cX3_inTwice 31 = .ok (.iload_n 1, 1) := by decide +kernel
theorem dX3_inTwice_32 : decode cX3_inTwice 32 = .ok (.iaload, 1) := by decide +kernel
theorem dX3_inTwice_33 : decode cX3_inTwice 33 = .ok (.aload_n 0, 1) := by decide +kernel
theorem dX3_inTwice_34 : decode cX3_inTwice 34 = .ok (.getfield 20, 3) := by decide +kernel
theorem dX3_inTwice_37 : decode cX3_inTwice 37 = .ok (.iload_n 1, 1) := by decide +kernel
theorem dX3_inTwice_38 : decode cX3_inTwice 38 = .ok (.iaload, 1) := by decide +kernel
theorem dX3_inTwice_39 : decode cX3_inTwice 39 = .ok (.iconst (-1), 1) := by decide +kernel
theorem dX3_inTwice_40 : decode cX3_inTwice 40 = .ok (.ixor, 1) := by decide +kernel
theorem dX3_inTwice_41 : decode cX3_inTwice 41 = .ok (.iand, 1) := by decide +kernel
theorem dX3_inTwice_42 : decode cX3_inTwice 42 = .ok (.iload_n 2, 1) := by decide +kernel
theorem dX3_inTwice_43 : decode cX3_inTwice 43 = .ok (.ishr, 1) := by decide +kernel
theorem dX3_inTwice_44 : decode cX3_inTwice 44 = .ok (.iconst 1, 1) := by decide +kernel
theorem dX3_inTwice_45 : decode cX3_inTwice 45 = .ok (.iand, 1) := by decide +kernel
theorem dX3_inTwice_46 : decode cX3_inTwice 46 = .ok (.goto 4, 3) := by decide +kernel
theorem dX3_inTwice_49 : decode cX3_inTwice 49 = .ok (.iconst 0, 1) := by decide +kernel
theorem dX3_inTwice_50 : decode cX3_inTwice 50 = .ok (.ireturn, 1) := by decide +kernel
set_option maxRecDepth 20000 in
theorem ggX3_inTimed_X3_isReplica : GoodIn wsX3_inTimed wsX3_isReplica := goodIn_r _ [8, 9, 10, 7, 11] (by decide +kernel) (by decide +kernel)
set_option maxRecDepth 20000 in
theorem gX3_inTimed_X3_isReplica : GoodIn wsX3_inTimed (wsV RX3 94 RX3 yX3_isReplica wsX3_isReplica) := goodIn_app (goodIn_of _ (by decide +kernel)) ggX3_inTimed_X3_isReplica
set_option maxRecDepth 20000 in
theorem ggX3_inTimed_X3_isElement : GoodIn wsX3_inTimed wsX3_isElement := goodIn_r _ [14, 9, 10, 7, 11] (by decide +kernel) (by decide +kernel)
set_option maxRecDepth 20000 in
theorem gX3_inTimed_X3_isElement : GoodIn wsX3_inTimed (va_wsS RX3 120 yX3_isElement wsX3_isElement) := goodIn_app (goodIn_of _ (by decide +kernel)) ggX3_inTimed_X3_isElement
