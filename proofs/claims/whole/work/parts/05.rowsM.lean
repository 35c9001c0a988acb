theorem dX5_init_0 : decode cX5_init 0 = .ok (.aload_n 0, 1) := by decide +kernel
theorem dX5_init_1 : decode cX5_init 1 = .ok (.invokespecial 1, 3) := by decide +kernel
theorem dX5_init_4 : decode cX5_init 4 = .ok (.aload_n 0, 1) := by decide +kernel
theorem dX5_init_5 : decode cX5_init 5 = .ok (.iconst 4, 1) := by decide +kernel
theorem dX5_init_6 : decode cX5_init 6 = .ok (.newarray .int, 2) := by decide +kernel
theorem dX5_init_8 : decode cX5_init 8 = .ok (.dup, 1) := by decide +kernel
theorem dX5_init_9 : decode cX5_init 9 = .ok (.iconst 0, 1) := by decide +kernel
theorem dX5_init_10 : decode cX5_init 10 = .ok (.bipush 10, 2) := by decide +kernel
theorem dX5_init_12 : decode cX5_init 12 = .ok (.iastore, 1) := by decide +kernel
theorem dX5_init_13 : decode cX5_init 13 = .ok (.dup, 1) := by decide +kernel
theorem dX5_init_14 : decode cX5_init 14 = .ok (.iconst 1, 1) := by decide +kernel
theorem dX5_init_15 : decode cX5_init 15 = .ok (.bipush 10, 2) := by decide +kernel
theorem dX5_init_17 : decode cX5_init 17 = .ok (.iastore, 1) := by decide +kernel
theorem dX5_init_18 : decode cX5_init 18 = .ok (.dup, 1) := by decide +kernel
theorem dX5_init_19 : decode cX5_init 19 = .ok (.iconst 2, 1) := by decide +kernel
theorem dX5_init_20 : decode cX5_init 20 = .ok (.bipush 10, 2) := by decide +kernel
theorem dX5_init_22 : decode cX5_init 22 = .ok (.iastore, 1) := by decide +kernel
theorem dX5_init_23 : decode cX5_init 23 = .ok (.dup, 1) := by decide +kernel
theorem dX5_init_24 : decode cX5_init 24 = .ok (.iconst 3, 1) := by decide +kernel
theorem dX5_init_25 : decode cX5_init 25 = .ok (.bipush 10, 2) := by decide +kernel
theorem dX5_init_27 : decode cX5_init 27 = .ok (.iastore, 1) := by decide +kernel
theorem dX5_init_28 : decode cX5_init 28 = .ok (.putfield 7, 3) := by decide +kernel
theorem dX5_init_31 : decode cX5_init 31 = .ok (.aload_n 0, 1) := by decide +kernel
theorem dX5_init_32 : decode cX5_init 32 = .ok (.iconst 4, 1) := by decide +kernel
theorem dX5_init_33 : decode cX5_init 33 = .ok (.newarray .int, 2) := by decide +kernel
theorem dX5_init_35 : decode cX5_init 35 = .ok (.dup, 1) := by decide +kernel
theorem dX5_init_36 : decode cX5_init 36 = .ok (.iconst 0, 1) := by decide +kernel
theorem dX5_init_37 : decode cX5_init 37 = .ok (.iconst 1, 1) := by decide +kernel
theorem dX5_init_38 : decode cX5_init 38 = .ok (.iastore, 1) := by decide +kernel
theorem dX5_init_39 : decode cX5_init 39 = .ok (.dup, 1) := by decide +kernel
theorem dX5_init_40 : decode cX5_init 40 = .ok (.iconst 1, 1) := by decide +kernel
theorem dX5_init_41 : decode cX5_init 41 = .ok (.iconst 1, 1) := by decide +kernel
theorem dX5_init_42 : decode cX5_init 42 = .ok (.iastore, 1) := by decide +kernel
theorem dX5_init_43 : decode cX5_init 43 = .ok (.dup, 1) := by decide +kernel
theorem dX5_init_44 : decode cX5_init 44 = .ok (.iconst 2, 1) := by decide +kernel
theorem dX5_init_45 : decode cX5_init 45 = .ok (.iconst 1, 1) := by decide +kernel
theorem dX5_init_46 : decode cX5_init 46 = .ok (.iastore, 1) := by decide +kernel
theorem dX5_init_47 : decode cX5_init 47 = .ok (.dup, 1) := by decide +kernel
theorem dX5_init_48 : decode cX5_init 48 = .ok (.iconst 3, 1) := by decide +kernel
theorem dX5_init_49 : decode cX5_init 49 = .ok (.iconst 1, 1) := by decide +kernel
theorem dX5_init_50 : decode cX5_init 50 = .ok (.iastore, 1) := by decide +kernel
theorem dX5_init_51 : decode cX5_init 51 = .ok (.putfield 13, 3) := by decide +kernel
theorem dX5_init_54 : decode cX5_init 54 = .ok (.aload_n 0, 1) := by decide +kernel
theorem dX5_init_55 : decode cX5_init 55 = .ok (.iconst 4, 1) := by decide +kernel
theorem dX5_init_56 : decode cX5_init 56 = .ok (.newarray .int, 2) := by decide +kernel
theorem dX5_init_58 : decode cX5_init 58 = .ok (.putfield 16, 3) := by decide +kernel
theorem dX5_init_61 : decode cX5_init 61 = .ok (.aload_n 0, 1) := by decide +kernel
theorem dX5_init_62 : decode cX5_init 62 = .ok (.bipush 6, 2) := by decide +kernel
theorem dX5_init_64 : decode cX5_init 64 = .ok (.newarray .int, 2) := by decide +kernel
theorem dX5_init_66 : decode cX5_init 66 = .ok (.dup, 1) := by decide +kernel
theorem dX5_init_67 : decode cX5_init 67 = .ok (.iconst 0, 1) := by decide +kernel
theorem dX5_init_68 : decode cX5_init 68 = .ok (.bipush 10, 2) := by decide +kernel
theorem dX5_init_70 : decode cX5_init 70 = .ok (.iastore, 1) := by decide +kernel
theorem dX5_init_71 : decode cX5_init 71 = .ok (.dup, 1) := by decide +kernel
theorem dX5_init_72 : decode cX5_init 72 = .ok (.iconst 1, 1) := by decide +kernel
theorem dX5_init_73 : decode cX5_init 73 = .ok (.bipush 10, 2) := by decide +kernel
theorem dX5_init_75 : decode cX5_init 75 = .ok (.iastore, 1) := by decide +kernel
theorem dX5_init_76 : decode cX5_init 76 = .ok (.dup, 1) := by decide +kernel
theorem dX5_init_77 : decode cX5_init 77 = .ok (.iconst 2, 1) := by decide +kernel
theorem dX5_init_78 : decode cX5_init 78 = .ok (.bipush 10, 2) := by decide +kernel
theorem dX5_init_80 : decode cX5_init 80 = .ok (.iastore, 1) := by decide +kernel
theorem dX5_init_81 : decode cX5_init 81 = .ok (.dup, 1) := by decide +kernel
theorem dX5_init_82 : decode cX5_init 82 = .ok (.iconst 3, 1) := by decide +kernel
theorem dX5_init_83 : decode cX5_init 83 = .ok (.bipush 10, 2) := by decide +kernel
theorem dX5_init_85 : decode cX5_init 85 = .ok (.iastore, 1) := by decide +kernel
theorem dX5_init_86 : decode cX5_init 86 = .ok (.dup, 1) := by decide +kernel
theorem dX5_init_87 : decode cX5_init 87 = .ok (.iconst 4, 1) := by decide +kernel
theorem dX5_init_88 : decode cX5_init 88 = .ok (.bipush 10, 2) := by decide +kernel
theorem dX5_init_90 : decode cX5_init 90 = .ok (.iastore, 1) := by decide +kernel
theorem dX5_init_91 : decode cX5_init 91 = .ok (.dup, 1) := by decide +kernel
theorem dX5_init_92 : decode cX5_init 92 = .ok (.iconst 5, 1) := by decide +kernel
theorem dX5_init_93 : decode cX5_init 93 = .ok (.bipush 10, 2) := by decide +kernel
theorem dX5_init_95 : decode cX5_init 95 = .ok (.iastore, 1) := by decide +kernel
theorem dX5_init_96 : decode cX5_init 96 = .ok (.putfield 19, 3) := by decide +kernel
theorem dX5_init_99 : decode cX5_init 99 = .ok (.aload_n 0, 1) := by decide +kernel
theorem dX5_init_100 : decode cX5_init 100 = .ok (.bipush 6, 2) := by decide +kernel
theorem dX5_init_102 : decode cX5_init 102 = .ok (.newarray .int, 2) := by decide +kernel
theorem dX5_init_104 : decode cX5_init 104 = .ok (.dup, 1) := by decide +kernel
theorem dX5_init_105 : decode cX5_init 105 = .ok (.iconst 0, 1) := by decide +kernel
theorem dX5_init_106 : decode cX5_init 106 = .ok (.iconst 1, 1) := by decide +kernel
theorem dX5_init_107 : decode cX5_init 107 = .ok (.iastore, 1) := by decide +kernel
theorem dX5_init_108 : decode cX5_init 108 = .ok (.dup, 1) := by decide +kernel
theorem dX5_init_109 : decode cX5_init 109 = .ok (.iconst 1, 1) := by decide +kernel
theorem dX5_init_110 : decode cX5_init 110 = .ok (.iconst 1, 1) := by decide +kernel
theorem dX5_init_111 : decode cX5_init 111 = .ok (.iastore, 1) := by decide +kernel
theorem dX5_init_112 : decode cX5_init 112 = .ok (.dup, 1) := by decide +kernel
theorem dX5_init_113 : decode cX5_init 113 = .ok (.iconst 2, 1) := by decide +kernel
theorem dX5_init_114 : decode cX5_init 114 = .ok (.iconst 1, 1) := by decide +kernel
theorem dX5_init_115 : decode cX5_init 115 = .ok (.iastore, 1) := by decide +kernel
theorem dX5_init_116 : decode cX5_init 116 = .ok (.dup, 1) := by decide +kernel
theorem dX5_init_117 : decode cX5_init 117 = .ok (.iconst 3, 1) := by decide +kernel
theorem dX5_init_118 : decode cX5_init 118 = .ok (.iconst 1, 1) := by decide +kernel
theorem dX5_init_119 : decode cX5_init 119 = .ok (.iastore, 1) := by decide +kernel
theorem dX5_init_120 : decode cX5_init 120 = .ok (.dup, 1) := by decide +kernel
theorem dX5_init_121 : decode cX5_init 121 = .ok (.iconst 4, 1) := by decide +kernel
theorem dX5_init_122 : decode cX5_init 122 = .ok (.iconst 1, 1) := by decide +kernel
theorem dX5_init_123 : decode cX5_init 123 = .ok (.iastore, 1) := by decide +kernel
theorem dX5_init_124 : decode cX5_init 124 = .ok (.dup, 1) := by decide +kernel
theorem dX5_init_125 : decode cX5_init 125 = .ok (.iconst 5, 1) := by decide +kernel
theorem dX5_init_126 : decode cX5_init 126 = .ok (.iconst 1, 1) := by decide +kernel
theorem dX5_init_127 : decode cX5_init 127 = .ok (.iastore, 1) := by decide +kernel
theorem dX5_init_128 : decode cX5_init 128 = .ok (.putfield 22, 3) := by decide +kernel
theorem dX5_init_131 : decode cX5_init 131 = .ok (.aload_n 0, 1) := by decide +kernel
theorem dX5_init_132 : decode cX5_init 132 = .ok (.bipush 8, 2) := by decide +kernel
theorem dX5_init_134 : decode cX5_init 134 = .ok (.newarray .int, 2) := by decide +kernel
theorem dX5_init_136 : decode cX5_init 136 = .ok (.putfield 25, 3) := by decide +kernel
theorem dX5_init_139 : decode cX5_init 139 = .ok (.aload_n 0, 1) := by decide +kernel
theorem dX5_init_140 : decode cX5_init 140 = .ok (.bipush 8, 2) := by decide +kernel
theorem dX5_init_142 : decode cX5_init 142 = .ok (.newarray .int, 2) := by decide +kernel
theorem dX5_init_144 : decode cX5_init 144 = .ok (.putfield 28, 3) := by decide +kernel
theorem dX5_init_147 : decode cX5_init 147 = .ok (.aload_n 0, 1) := by decide +kernel
theorem dX5_init_148 : decode cX5_init 148 = .ok (.bipush 8, 2) := by decide +kernel
theorem dX5_init_150 : decode cX5_init 150 = .ok (.newarray .int, 2) := by decide +kernel
theorem dX5_init_152 : decode cX5_init 152 = .ok (.putfield 31, 3) := by decide +kernel
theorem dX5_init_155 : decode cX5_init 155 = .ok (.aload_n 0, 1) := by decide +kernel
theorem dX5_init_156 : decode cX5_init 156 = .ok (.bipush 8, 2) := by decide +kernel
theorem dX5_init_158 : decode cX5_init 158 = .ok (.newarray .int, 2) := by decide +kernel
theorem dX5_init_160 : decode cX5_init 160 = .ok (.putfield 34, 3) := by decide +kernel
theorem dX5_init_163 : decode cX5_init 163 = .ok (.aload_n 0, 1) := by decide +kernel
theorem dX5_init_164 : decode cX5_init 164 = .ok (.bipush 8, 2) := by decide +kernel
theorem dX5_init_166 : decode cX5_init 166 = .ok (.newarray .int, 2) := by decide +kernel
theorem dX5_init_168 : decode cX5_init 168 = .ok (.putfield 37, 3) := by decide +kernel
theorem dX5_init_171 : decode cX5_init 171 = .ok (.aload_n 0, 1) := by decide +kernel
theorem dX5_init_172 : decode cX5_init 172 = .ok (.bipush 8, 2) := by decide +kernel
theorem dX5_init_174 : decode cX5_init 174 = .ok (.newarray .int, 2) := by decide +kernel
theorem dX5_init_176 : decode cX5_init 176 = .ok (.putfield 40, 3) := by decide +kernel
theorem dX5_init_179 : decode cX5_init 179 = .ok (.aload_n 0, 1) := by decide +kernel
theorem dX5_init_180 : decode cX5_init 180 = .ok (.bipush 80, 2) := by decide +kernel
theorem dX5_init_182 : decode cX5_init 182 = .ok (.newarray .int, 2) := by decide +kernel
theorem dX5_init_184 : decode cX5_init 184 = .ok (.putfield 43, 3) := by decide +kernel
theorem dX5_init_187 : decode cX5_init 187 = .ok (.aload_n 0, 1) := by decide +kernel
theorem dX5_init_188 : decode cX5_init 188 = .ok (.bipush 80, 2) := by decide +kernel
theorem dX5_init_190 : decode cX5_init 190 = .ok (.newarray .int, 2) := by decide +kernel
theorem dX5_init_192 : decode cX5_init 192 = .ok (.putfield 46, 3) := by decide +kernel
theorem dX5_init_195 : decode cX5_init 195 = .ok (.aload_n 0, 1) := by decide +kernel
theorem dX5_init_196 : decode cX5_init 196 = .ok (.bipush 80, 2) := by decide +kernel
theorem dX5_init_198 : decode cX5_init 198 = .ok (.newarray .int, 2) := by decide +kernel
theorem dX5_init_200 : decode cX5_init 200 = .ok (.putfield 49, 3) := by decide +kernel
theorem dX5_init_203 : decode cX5_init 203 = .ok (.aload_n 0, 1) := by decide +kernel
theorem dX5_init_204 : decode cX5_init 204 = .ok (.bipush 80, 2) := by decide +kernel
theorem dX5_init_206 : decode cX5_init 206 = .ok (.newarray .int, 2) := by decide +kernel
theorem dX5_init_208 : decode cX5_init 208 = .ok (.putfield 52, 3) := by decide +kernel
theorem dX5_init_211 : decode cX5_init 211 = .ok (.aload_n 0, 1) := by decide +kernel
theorem dX5_init_212 : decode cX5_init 212 = .ok (.bipush 80, 2) := by decide +kernel
theorem dX5_init_214 : decode cX5_init 214 = .ok (.newarray .int, 2) := by decide +kernel
theorem dX5_init_216 : decode cX5_init 216 = .ok (.putfield 55, 3) := by decide +kernel
theorem dX5_init_219 : decode cX5_init 219 = .ok (.aload_n 0, 1) := by decide +kernel
theorem dX5_init_220 : decode cX5_init 220 = .ok (.bipush 80, 2) := by decide +kernel
theorem dX5_init_222 : decode cX5_init 222 = .ok (.newarray .int, 2) := by decide +kernel
theorem dX5_init_224 : decode cX5_init 224 = .ok (.putfield 58, 3) := by decide +kernel
theorem dX5_init_227 : decode cX5_init 227 = .ok (.aload_n 0, 1) := by decide +kernel
theorem dX5_init_228 : decode cX5_init 228 = .ok (.bipush 80, 2) := by decide +kernel
theorem dX5_init_230 : decode cX5_init 230 = .ok (.newarray .boolean, 2) := by decide +kernel
theorem dX5_init_232 : decode cX5_init 232 = .ok (.putfield 61, 3) := by decide +kernel
theorem dX5_init_235 : decode cX5_init 235 = .ok (.aload_n 0, 1) := by decide +kernel
theorem dX5_init_236 : decode cX5_init 236 = .ok (.bipush 80, 2) := by decide +kernel
theorem dX5_init_238 : decode cX5_init 238 = .ok (.newarray .boolean, 2) := by decide +kernel
theorem dX5_init_240 : decode cX5_init 240 = .ok (.putfield 65, 3) := by decide +kernel
theorem dX5_init_243 : decode cX5_init 243 = .ok (.return_, 1) := by decide +kernel
theorem dX5_thrown_0 : decode cX5_thrown 0 = .ok (.aload_n 0, 1) := by decide +kernel
theorem dX5_thrown_1 : decode cX5_thrown 1 = .ok (.getfield 68, 3) := by decide +kernel
theorem dX5_thrown_4 : decode cX5_thrown 4 = .ok (.ireturn, 1) := by decide +kernel
theorem dX5_goesWell_0 : decode cX5_goesWell 0 = .ok (.aload_n 0, 1) := by decide +kernel
theorem dX5_goesWell_1 : decode cX5_goesWell 1 = .ok (.iload_n 1, 1) := by decide +kernel
theorem dX5_goesWell_2 : decode cX5_goesWell 2 = .ok (.putfield 68, 3) := by decide +kernel
theorem dX5_goesWell_5 : decode cX5_goesWell 5 = .ok (.iload_n 1, 1) := by decide +kernel
theorem dX5_goesWell_6 : decode cX5_goesWell 6 = .ok (.ifCond .ne 7, 3) := by decide +kernel
theorem dX5_goesWell_9 : decode cX5_goesWell 9 = .ok (.iconst 1, 1) := by decide +kernel
theorem dX5_goesWell_10 : decode cX5_goesWell 10 = .ok (.goto 4, 3) := by decide +kernel
theorem dX5_goesWell_13 : decode cX5_goesWell 13 = .ok (.iconst 0, 1) := by decide +kernel
theorem dX5_goesWell_14 : decode cX5_goesWell 14 = .ok (.ireturn, 1) := by decide +kernel
theorem dX5_in_0 : decode cX5_in 0 = .ok (.iload_n 0, 1) := by decide +kernel
theorem dX5_in_1 : decode cX5_in 1 = .ok (.iload_n 1, 1) := by decide +kernel
theorem dX5_in_2 : decode cX5_in 2 = .ok (.if_icmp .lt 12, 3) := by decide +kernel
theorem dX5_in_5 : decode cX5_in 5 = .ok (.iload_n 0, 1) := by decide +kernel
theorem dX5_in_6 : decode cX5_in 6 = .ok (.iload_n 2, 1) := by decide +kernel
theorem dX5_in_7 : decode cX5_in 7 = .ok (.if_icmp .gt 7, 3) := by decide +kernel
theorem dX5_in_10 : decode cX5_in 10 = .ok (.iconst 1, 1) := by decide +kernel
theorem dX5_in_11 : decode cX5_in 11 = .ok (.goto 4, 3) := by decide +kernel
theorem dX5_in_14 : decode cX5_in 14 = .ok (.iconst 0, 1) := by decide +kernel
theorem dX5_in_15 : decode cX5_in 15 = .ok (.ireturn, 1) := by decide +kernel
set_option maxRecDepth 20000 in
theorem ggX5_isPlan_X5_in : GoodIn wsX5_isPlan wsX5_in := goodIn_r _ [4] (by decide +kernel) (by decide +kernel)
set_option maxRecDepth 20000 in
theorem gX5_isPlan_X5_in : GoodIn wsX5_isPlan (va_wsS RX5 72 yX5_in wsX5_in) := goodIn_app (goodIn_of _ (by decide +kernel)) ggX5_isPlan_X5_in
theorem dX5_isPlan_0 : decode cX5_isPlan 0 = .ok (.iload_n 0, 1) := by decide +kernel
theorem dX5_isPlan_1 : decode cX5_isPlan 1 = .ok (.iconst 0, 1) := by decide +kernel
theorem dX5_isPlan_2 : decode cX5_isPlan 2 = .ok (.iconst 3, 1) := by decide +kernel
theorem dX5_isPlan_3 : decode cX5_isPlan 3 = .ok (.invokestatic 72, 3) := by decide +kernel
theorem dX5_isPlan_6 : decode cX5_isPlan 6 = .ok (.ireturn, 1) := by decide +kernel
set_option maxRecDepth 20000 in
theorem ggX5_isRoute_X5_in : GoodIn wsX5_isRoute wsX5_in := goodIn_r _ [4] (by decide +kernel) (by decide +kernel)
set_option maxRecDepth 20000 in
theorem gX5_isRoute_X5_in : GoodIn wsX5_isRoute (va_wsS RX5 72 yX5_in wsX5_in) := goodIn_app (goodIn_of _ (by decide +kernel)) ggX5_isRoute_X5_in
theorem dX5_isRoute_0 : decode cX5_isRoute 0 = .ok (.iload_n 0, 1) := by decide +kernel
theorem dX5_isRoute_1 : decode cX5_isRoute 1 = .ok (.iconst 0, 1) := by decide +kernel
theorem dX5_isRoute_2 : decode cX5_isRoute 2 = .ok (.iconst 5, 1) := by decide +kernel
theorem dX5_isRoute_3 : decode cX5_isRoute 3 = .ok (.invokestatic 72, 3) := by decide +kernel
theorem dX5_isRoute_6 : decode cX5_isRoute 6 = .ok (.ireturn, 1) := by decide +kernel
set_option maxRecDepth 20000 in
theorem ggX5_isKey_X5_in : GoodIn wsX5_isKey wsX5_in := goodIn_r _ [5] (by decide +kernel) (by decide +kernel)
set_option maxRecDepth 20000 in
theorem gX5_isKey_X5_in : GoodIn wsX5_isKey (va_wsS RX5 72 yX5_in wsX5_in) := goodIn_app (goodIn_of _ (by decide +kernel)) ggX5_isKey_X5_in
theorem dX5_isKey_0 : decode cX5_isKey 0 = .ok (.iload_n 1, 1) := by decide +kernel
theorem dX5_isKey_1 : decode cX5_isKey 1 = .ok (.iconst 0, 1) := by decide +kernel
theorem dX5_isKey_2 : decode cX5_isKey 2 = .ok (.aload_n 0, 1) := by decide +kernel
theorem dX5_isKey_3 : decode cX5_isKey 3 = .ok (.getfield 76, 3) := by decide +kernel
theorem dX5_isKey_6 : decode cX5_isKey 6 = .ok (.iconst 1, 1) := by decide +kernel
theorem dX5_isKey_7 : decode cX5_isKey 7 = .ok (.isub, 1) := by decide +kernel
theorem dX5_isKey_8 : decode cX5_isKey 8 = .ok (.invokestatic 72, 3) := by decide +kernel
theorem dX5_isKey_11 : decode cX5_isKey 11 = .ok (.ireturn, 1) := by decide +kernel
set_option maxRecDepth 20000 in
theorem ggX5_isCall_X5_in : GoodIn wsX5_isCall wsX5_in := goodIn_r _ [5] (by decide +kernel) (by decide +kernel)
set_option maxRecDepth 20000 in
theorem gX5_isCall_X5_in : GoodIn wsX5_isCall (va_wsS RX5 72 yX5_in wsX5_in) := goodIn_app (goodIn_of _ (by decide +kernel)) ggX5_isCall_X5_in
theorem dX5_isCall_0 : decode cX5_isCall 0 = .ok (.iload_n 1, 1) := by decide +kernel
theorem dX5_isCall_1 : decode cX5_isCall 1 = .ok (.iconst 0, 1) := by decide +kernel
theorem dX5_isCall_2 : decode cX5_isCall 2 = .ok (.aload_n 0, 1) := by decide +kernel
theorem dX5_isCall_3 : decode cX5_isCall 3 = .ok (.getfield 79, 3) := by decide +kernel
theorem dX5_isCall_6 : decode cX5_isCall 6 = .ok (.iconst 1, 1) := by decide +kernel
theorem dX5_isCall_7 : decode cX5_isCall 7 = .ok (.isub, 1) := by decide +kernel
theorem dX5_isCall_8 : decode cX5_isCall 8 = .ok (.invokestatic 72, 3) := by decide +kernel
theorem dX5_isCall_11 : decode cX5_isCall 11 = .ok (.ireturn, 1) := by decide +kernel
set_option maxRecDepth 20000 in
theorem ggX5_setPlan_X5_isPlan : GoodIn wsX5_setPlan wsX5_isPlan := goodIn_r _ [7, 8, 9, 6, 10] (by decide +kernel) (by decide +kernel)
set_option maxRecDepth 20000 in
theorem gX5_setPlan_X5_isPlan : GoodIn wsX5_setPlan (va_wsS RX5 82 yX5_isPlan wsX5_isPlan) := goodIn_app (goodIn_of _ (by decide +kernel)) ggX5_setPlan_X5_isPlan
set_option maxRecDepth 20000 in
theorem ggX5_setPlan_X5_in : GoodIn wsX5_setPlan wsX5_in := goodIn_r _ [10] (by decide +kernel) (by decide +kernel)
set_option maxRecDepth 20000 in
theorem gX5_setPlan_X5_in : GoodIn wsX5_setPlan (va_wsS RX5 72 yX5_in wsX5_in) := goodIn_app (goodIn_of _ (by decide +kernel)) ggX5_setPlan_X5_in
set_option maxRecDepth 20000 in
theorem ggX5_setPlan_X5_goesWell : GoodIn wsX5_setPlan wsX5_goesWell := goodIn_r _ [14, 15, 16, 17, 18, 19, 20, 21, 22, 23, 24, 25, 26, 27, 28, 29, 30, 31, 32, 33, 34, 35, 36, 37, 38] (by decide +kernel) (by decide +kernel)
set_option maxRecDepth 20000 in
theorem gX5_setPlan_X5_goesWell : GoodIn wsX5_setPlan (wsV RX5 86 RX5 yX5_goesWell wsX5_goesWell) := goodIn_app (goodIn_of _ (by decide +kernel)) ggX5_setPlan_X5_goesWell
theorem dX5_setPlan_0 : decode cX5_setPlan 0 = .ok (.aload_n 0, 1) := by decide +kernel
theorem dX5_setPlan_1 : decode cX5_setPlan 1 = .ok (.iload_n 1, 1) := by decide +kernel
theorem dX5_setPlan_2 : decode cX5_setPlan 2 = .ok (.invokestatic 82, 3) := by decide +kernel
theorem dX5_setPlan_5 : decode cX5_setPlan 5 = .ok (.ifCond .eq 37, 3) := by decide +kernel
theorem dX5_setPlan_8 : decode cX5_setPlan 8 = .ok (.iload_n 2, 1) := by decide +kernel
theorem dX5_setPlan_9 : decode cX5_setPlan 9 = .ok (.iconst 1, 1) := by decide +kernel
theorem dX5_setPlan_10 : decode cX5_setPlan 10 = .ok (.bipush 100, 2) := by decide +kernel
theorem dX5_setPlan_12 : decode cX5_setPlan 12 = .ok (.invokestatic 72, 3) := by decide +kernel
theorem dX5_setPlan_15 : decode cX5_setPlan 15 = .ok (.ifCond .eq 27, 3) := by decide +kernel
theorem dX5_setPlan_18 : decode cX5_setPlan 18 = .ok (.iload_n 3, 1) := by decide +kernel
theorem dX5_setPlan_19 : decode cX5_setPlan 19 = .ok (.iconst 0, 1) := by decide +kernel
theorem dX5_setPlan_20 : decode cX5_setPlan 20 = .ok (.bipush 100, 2) := by decide +kernel
theorem dX5_setPlan_22 : decode cX5_setPlan 22 = .ok (.invokestatic 72, 3) := by decide +kernel
theorem dX5_setPlan_25 : decode cX5_setPlan 25 = .ok (.ifCond .eq 17, 3) := by decide +kernel
theorem dX5_setPlan_28 : decode cX5_setPlan 28 = .ok (.iload 4, 2) := by decide +kernel
theorem dX5_setPlan_30 : decode cX5_setPlan 30 = .ok (.iconst 0, 1) := by decide +kernel
theorem dX5_setPlan_31 : decode cX5_setPlan 31 = .ok (.iload_n 3, 1) := by decide +kernel
theorem dX5_setPlan_32 : decode cX5_setPlan 32 = .ok (.invokestatic 72, 3) := by decide +kernel
theorem dX5_setPlan_35 : decode cX5_setPlan 35 = .ok (.ifCond .eq 7, 3) := by decide +kernel
theorem dX5_setPlan_38 : decode cX5_setPlan 38 = .ok (.iconst 0, 1) := by decide +kernel
theorem dX5_setPlan_39 : decode cX5_setPlan 39 = .ok (.goto 4, 3) := by decide +kernel
theorem dX5_setPlan_42 : decode cX5_setPlan 42 = .ok (.iconst 1, 1) := by decide +kernel
theorem dX5_setPlan_43 : decode cX5_setPlan 43 = .ok (.invokevirtual 86, 3) := by decide +kernel
theorem dX5_setPlan_46 : decode cX5_setPlan 46 = .ok (.ifCond .eq 25, 3) := by decide +kernel
theorem dX5_setPlan_49 : decode cX5_setPlan 49 = .ok (.aload_n 0, 1) := by decide +kernel
theorem dX5_setPlan_50 : decode cX5_setPlan 50 = .ok (.getfield 7, 3) := by decide +kernel
theorem dX5_setPlan_53 : decode cX5_setPlan 53 = .ok (.iload_n 1, 1) := by decide +kernel
theorem dX5_setPlan_54 : decode cX5_setPlan 54 = .ok (.iload_n 2, 1) := by decide +kernel
theorem dX5_setPlan_55 : decode cX5_setPlan 55 = .ok (.iastore, 1) := by decide +kernel
theorem dX5_setPlan_56 : decode cX5_setPlan 56 = .ok (.aload_n 0, 1) := by decide +kernel
theorem dX5_setPlan_57 : decode cX5_setPlan 57 = .ok (.getfield 13, 3) := by decide +kernel
theorem dX5_setPlan_60 : decode cX5_setPlan 60 = .ok (.iload_n 1, 1) := by decide +kernel
theorem dX5_setPlan_61 : decode cX5_setPlan 61 = .ok (.iload_n 3, 1) := by decide +kernel
theorem dX5_setPlan_62 : decode cX5_setPlan 62 = .ok (.iastore, 1) := by decide +kernel
theorem dX5_setPlan_63 : decode cX5_setPlan 63 = .ok (.aload_n 0, 1) := by decide +kernel
theorem dX5_setPlan_64 : decode cX5_setPlan 64 = .ok (.getfield 16, 3) := by decide +kernel
theorem dX5_setPlan_67 : decode cX5_setPlan 67 = .ok (.iload_n 1, 1) := by decide +kernel
theorem dX5_setPlan_68 : decode cX5_setPlan 68 = .ok (.iload 4, 2) := by decide +kernel
theorem dX5_setPlan_70 : decode cX5_setPlan 70 = .ok (.iastore, 1) := by decide +kernel
theorem dX5_setPlan_71 : decode cX5_setPlan 71 = .ok (.return_, 1) := by decide +kernel
set_option maxRecDepth 20000 in
theorem ggX5_setRoute_X5_isRoute : GoodIn wsX5_setRoute wsX5_isRoute := goodIn_r _ [6, 7, 8, 5, 9] (by decide +kernel) (by decide +kernel)
set_option maxRecDepth 20000 in
theorem gX5_setRoute_X5_isRoute : GoodIn wsX5_setRoute (va_wsS RX5 89 yX5_isRoute wsX5_isRoute) := goodIn_app (goodIn_of _ (by decide +kernel)) ggX5_setRoute_X5_isRoute
set_option maxRecDepth 20000 in
theorem ggX5_setRoute_X5_in : GoodIn wsX5_setRoute wsX5_in := goodIn_r _ [9] (by decide +kernel) (by decide +kernel)
set_option maxRecDepth 20000 in
theorem gX5_setRoute_X5_in : GoodIn wsX5_setRoute (va_wsS RX5 72 yX5_in wsX5_in) := goodIn_app (goodIn_of _ (by decide +kernel)) ggX5_setRoute_X5_in
set_option maxRecDepth 20000 in
theorem ggX5_setRoute_X5_goesWell : GoodIn wsX5_setRoute wsX5_goesWell := goodIn_r _ [13, 14, 15, 16, 17, 18, 19, 20, 21, 22, 23, 24, 25, 26, 27, 28, 29, 30, 31, 32, 33, 34, 35, 36, 37] (by decide +kernel) (by decide +kernel)
set_option maxRecDepth 20000 in
theorem gX5_setRoute_X5_goesWell : GoodIn wsX5_setRoute (wsV RX5 86 RX5 yX5_goesWell wsX5_goesWell) := goodIn_app (goodIn_of _ (by decide +kernel)) ggX5_setRoute_X5_goesWell
theorem dX5_setRoute_0 : decode cX5_setRoute 0 = .ok (.aload_n 0, 1) := by decide +kernel
theorem dX5_setRoute_1 : decode cX5_setRoute 1 = .ok (.iload_n 1, 1) := by decide +kernel
theorem dX5_setRoute_2 : decode cX5_setRoute 2 = .ok (.invokestatic 89, 3) := by decide +kernel
theorem dX5_setRoute_5 : decode cX5_setRoute 5 = .ok (.ifCond .eq 28, 3) := by decide +kernel
theorem dX5_setRoute_8 : decode cX5_setRoute 8 = .ok (.iload_n 2, 1) := by decide +kernel
theorem dX5_setRoute_9 : decode cX5_setRoute 9 = .ok (.iconst 0, 1) := by decide +kernel
theorem dX5_setRoute_10 : decode cX5_setRoute 10 = .ok (.sipush 1000, 3) := by decide +kernel
theorem dX5_setRoute_13 : decode cX5_setRoute 13 = .ok (.invokestatic 72, 3) := by decide +kernel
theorem dX5_setRoute_16 : decode cX5_setRoute 16 = .ok (.ifCond .eq 17, 3) := by decide +kernel
theorem dX5_setRoute_19 : decode cX5_setRoute 19 = .ok (.iload_n 3, 1) := by decide +kernel
theorem dX5_setRoute_20 : decode cX5_setRoute 20 = .ok (.iconst 1, 1) := by decide +kernel
theorem dX5_setRoute_21 : decode cX5_setRoute 21 = .ok (.bipush 20, 2) := by decide +kernel
theorem dX5_setRoute_23 : decode cX5_setRoute 23 = .ok (.invokestatic 72, 3) := by decide +kernel
theorem dX5_setRoute_26 : decode cX5_setRoute 26 = .ok (.ifCond .eq 7, 3) := by decide +kernel
theorem dX5_setRoute_29 : decode cX5_setRoute 29 = .ok (.iconst 0, 1) := by decide +kernel
theorem dX5_setRoute_30 : decode cX5_setRoute 30 = .ok (.goto 4, 3) := by decide +kernel
theorem dX5_setRoute_33 : decode cX5_setRoute 33 = .ok (.iconst 1, 1) := by decide +kernel
theorem dX5_setRoute_34 : decode cX5_setRoute 34 = .ok (.invokevirtual 86, 3) := by decide +kernel
theorem dX5_setRoute_37 : decode cX5_setRoute 37 = .ok (.ifCond .eq 17, 3) := by decide +kernel
theorem dX5_setRoute_40 : decode cX5_setRoute 40 = .ok (.aload_n 0, 1) := by decide +kernel
theorem dX5_setRoute_41 : decode cX5_setRoute 41 = .ok (.getfield 19, 3) := by decide +kernel
theorem dX5_setRoute_44 : decode cX5_setRoute 44 = .ok (.iload_n 1, 1) := by decide +kernel
theorem dX5_setRoute_45 : decode cX5_setRoute 45 = .ok (.iload_n 2, 1) := by decide +kernel
theorem dX5_setRoute_46 : decode cX5_setRoute 46 = .ok (.iastore, 1) := by decide +kernel
theorem dX5_setRoute_47 : decode cX5_setRoute 47 = .ok (.aload_n 0, 1) := by decide +kernel
theorem dX5_setRoute_48 : decode cX5_setRoute 48 = .ok (.getfield 22, 3) := by decide +kernel
theorem dX5_setRoute_51 : decode cX5_setRoute 51 = .ok (.iload_n 1, 1) := by decide +kernel
theorem dX5_setRoute_52 : decode cX5_setRoute 52 = .ok (.iload_n 3, 1) := by decide +kernel
theorem dX5_setRoute_53 : decode cX5_setRoute 53 = .ok (.iastore, 1) := by decide +kernel
theorem dX5_setRoute_54 : decode cX5_setRoute 54 = .ok (.return_, 1) := by decide +kernel
set_option maxRecDepth 20000 in
theorem ggX5_addKey_X5_isPlan : GoodIn wsX5_addKey wsX5_isPlan := goodIn_r _ [8, 9, 10, 7, 11] (by decide +kernel) (by decide +kernel)
set_option maxRecDepth 20000 in
theorem gX5_addKey_X5_isPlan : GoodIn wsX5_addKey (va_wsS RX5 82 yX5_isPlan wsX5_isPlan) := goodIn_app (goodIn_of _ (by decide +kernel)) ggX5_addKey_X5_isPlan
set_option maxRecDepth 20000 in
theorem ggX5_addKey_X5_goesWell : GoodIn wsX5_addKey wsX5_goesWell := goodIn_r _ [15, 16, 17, 18, 19, 20, 21, 22, 23, 24, 25, 26, 27, 28, 29, 30, 31, 32, 33, 34, 35, 36, 37, 38, 39] (by decide +kernel) (by decide +kernel)
set_option maxRecDepth 20000 in
theorem gX5_addKey_X5_goesWell : GoodIn wsX5_addKey (wsV RX5 86 RX5 yX5_goesWell wsX5_goesWell) := goodIn_app (goodIn_of _ (by decide +kernel)) ggX5_addKey_X5_goesWell
theorem dX5_addKey_0 : decode cX5_addKey 0 = .ok (.aload_n 0, 1) := by decide +kernel
theorem dX5_addKey_1 : decode cX5_addKey 1 = .ok (.iload_n 1, 1) := by decide +kernel
theorem dX5_addKey_2 : decode cX5_addKey 2 = .ok (.invokestatic 82, 3) := by decide +kernel
theorem dX5_addKey_5 : decode cX5_addKey 5 = .ok (.ifCond .ne 7, 3) := by decide +kernel
theorem dX5_addKey_8 : decode cX5_addKey 8 = .ok (.iconst 1, 1) := by decide +kernel
theorem dX5_addKey_9 : decode cX5_addKey 9 = .ok (.goto 17, 3) := by decide +kernel
theorem dX5_addKey_12 : decode cX5_addKey 12 = .ok (.aload_n 0, 1) := by decide +kernel
theorem dX5_addKey_13 : decode cX5_addKey 13 = .ok (.getfield 76, 3) := by decide +kernel
theorem dX5_addKey_16 : decode cX5_addKey 16 = .ok (.bipush 8, 2) := by decide +kernel
theorem dX5_addKey_18 : decode cX5_addKey 18 = .ok (.if_icmp .ne 7, 3) := by decide +kernel
theorem dX5_addKey_21 : decode cX5_addKey 21 = .ok (.iconst 2, 1) := by decide +kernel
theorem dX5_addKey_22 : decode cX5_addKey 22 = .ok (.goto 4, 3) := by decide +kernel
theorem dX5_addKey_25 : decode cX5_addKey 25 = .ok (.iconst 0, 1) := by decide +kernel
theorem dX5_addKey_26 : decode cX5_addKey 26 = .ok (.invokevirtual 86, 3) := by decide +kernel
theorem dX5_addKey_29 : decode cX5_addKey 29 = .ok (.ifCond .ne 5, 3) := by decide +kernel
theorem dX5_addKey_32 : decode cX5_addKey 32 = .ok (.iconst 0, 1) := by decide +kernel
theorem dX5_addKey_33 : decode cX5_addKey 33 = .ok (.ireturn, 1) := by decide +kernel
theorem dX5_addKey_34 : decode cX5_addKey 34 = .ok (.aload_n 0, 1) := by decide +kernel
theorem dX5_addKey_35 : decode cX5_addKey 35 = .ok (.getfield 25, 3) := by decide +kernel
theorem dX5_addKey_38 : decode cX5_addKey 38 = .ok (.aload_n 0, 1) := by decide +kernel
theorem dX5_addKey_39 : decode cX5_addKey 39 = .ok (.getfield 76, 3) := by decide +kernel
theorem dX5_addKey_42 : decode cX5_addKey 42 = .ok (.iload_n 1, 1) := by decide +kernel
theorem dX5_addKey_43 : decode cX5_addKey 43 = .ok (.iastore, 1) := by decide +kernel
theorem dX5_addKey_44 : decode cX5_addKey 44 = .ok (.aload_n 0, 1) := by decide +kernel
theorem dX5_addKey_45 : decode cX5_addKey 45 = .ok (.getfield 37, 3) := by decide +kernel
theorem dX5_addKey_48 : decode cX5_addKey 48 = .ok (.aload_n 0, 1) := by decide +kernel
theorem dX5_addKey_49 : decode cX5_addKey 49 = .ok (.getfield 76, 3) := by decide +kernel
theorem dX5_addKey_52 : decode cX5_addKey 52 = .ok (.aload_n 0, 1) := by decide +kernel
theorem dX5_addKey_53 : decode cX5_addKey 53 = .ok (.getfield 7, 3) := by decide +kernel
theorem dX5_addKey_56 : decode cX5_addKey 56 = .ok (.iload_n 1, 1) := by decide +kernel
theorem dX5_addKey_57 : decode cX5_addKey 57 = .ok (.iaload, 1) := by decide +kernel
theorem dX5_addKey_58 : decode cX5_addKey 58 = .ok (.iastore, 1) := by decide +kernel
theorem dX5_addKey_59 : decode cX5_addKey 59 = .ok (.aload_n 0, 1) := by decide +kernel
theorem dX5_addKey_60 : decode cX5_addKey 60 = .ok (.dup, 1) := by decide +kernel
theorem dX5_addKey_61 : decode cX5_addKey 61 = .ok (.getfield 76, 3) := by decide +kernel
theorem dX5_addKey_64 : decode cX5_addKey 64 = .ok (.iconst 1, 1) := by decide +kernel
theorem dX5_addKey_65 : decode cX5_addKey 65 = .ok (.iadd, 1) := by decide +kernel
theorem dX5_addKey_66 : decode cX5_addKey 66 = .ok (.putfield 76, 3) := by decide +kernel
theorem dX5_addKey_69 : decode cX5_addKey 69 = .ok (.aload_n 0, 1) := by decide +kernel
theorem dX5_addKey_70 : decode cX5_addKey 70 = .ok (.getfield 76, 3) := by decide +kernel
theorem dX5_addKey_73 : decode cX5_addKey 73 = .ok (.iconst 1, 1) := by decide +kernel
theorem dX5_addKey_74 : decode cX5_addKey 74 = .ok (.isub, 1) := by decide +kernel
theorem dX5_addKey_75 : decode cX5_addKey 75 = .ok (.ireturn, 1) := by decide +kernel
set_option maxRecDepth 20000 in
theorem ggX5_setKeyPlan_X5_isKey : GoodIn wsX5_setKeyPlan wsX5_isKey := goodIn_r _ [6, 7, 8, 9, 5, 10, 19, 20, 21, 22, 23, 24, 25, 26, 27, 28, 29, 30, 31, 32, 33, 34, 35, 36, 37, 38, 39, 40, 41] (by decide +kernel) (by decide +kernel)
set_option maxRecDepth 20000 in
theorem gX5_setKeyPlan_X5_isKey : GoodIn wsX5_setKeyPlan (wsV RX5 92 RX5 yX5_isKey wsX5_isKey) := goodIn_app (goodIn_of _ (by decide +kernel)) ggX5_setKeyPlan_X5_isKey
set_option maxRecDepth 20000 in
theorem ggX5_setKeyPlan_X5_isPlan : GoodIn wsX5_setKeyPlan wsX5_isPlan := goodIn_r _ [13, 8, 9, 5, 10] (by decide +kernel) (by decide +kernel)
set_option maxRecDepth 20000 in
theorem gX5_setKeyPlan_X5_isPlan : GoodIn wsX5_setKeyPlan (va_wsS RX5 82 yX5_isPlan wsX5_isPlan) := goodIn_app (goodIn_of _ (by decide +kernel)) ggX5_setKeyPlan_X5_isPlan
set_option maxRecDepth 20000 in
theorem ggX5_setKeyPlan_X5_goesWell : GoodIn wsX5_setKeyPlan wsX5_goesWell := goodIn_r _ [17, 18, 19, 20, 21, 22, 23, 24, 25, 26, 27, 28, 29, 30, 31, 32, 33, 34, 35, 36, 37, 38, 39, 40, 41] (by decide +kernel) (by decide +kernel)
set_option maxRecDepth 20000 in
theorem gX5_setKeyPlan_X5_goesWell : GoodIn wsX5_setKeyPlan (wsV RX5 86 RX5 yX5_goesWell wsX5_goesWell) := goodIn_app (goodIn_of _ (by decide +kernel)) ggX5_setKeyPlan_X5_goesWell
theorem dX5_setKeyPlan_0 : decode cX5_setKeyPlan 0 = .ok (.aload_n 0, 1) := by decide +kernel
theorem dX5_setKeyPlan_1 : decode cX5_setKeyPlan 1 = .ok (.aload_n 0, 1) := by decide +kernel
theorem dX5_setKeyPlan_2 : decode cX5_setKeyPlan 2 = .ok (.iload_n 1, 1) := by decide +kernel
theorem dX5_setKeyPlan_3 : decode cX5_setKeyPlan 3 = .ok (.invokevirtual 92, 3) := by decide +kernel
theorem dX5_setKeyPlan_6 : decode cX5_setKeyPlan 6 = .ok (.ifCond .ne 7, 3) := by decide +kernel
theorem dX5_setKeyPlan_9 : decode cX5_setKeyPlan 9 = .ok (.iconst 1, 1) := by decide +kernel
theorem dX5_setKeyPlan_10 : decode cX5_setKeyPlan 10 = .ok (.goto 15, 3) := by decide +kernel
theorem dX5_setKeyPlan_13 : decode cX5_setKeyPlan 13 = .ok (.iload_n 2, 1) := by decide +kernel
theorem dX5_setKeyPlan_14 : decode cX5_setKeyPlan 14 = .ok (.invokestatic 82, 3) := by decide +kernel
theorem dX5_setKeyPlan_17 : decode cX5_setKeyPlan 17 = .ok (.ifCond .eq 7, 3) := by decide +kernel
theorem dX5_setKeyPlan_20 : decode cX5_setKeyPlan 20 = .ok (.iconst 0, 1) := by decide +kernel
theorem dX5_setKeyPlan_21 : decode cX5_setKeyPlan 21 = .ok (.goto 4, 3) := by decide +kernel
theorem dX5_setKeyPlan_24 : decode cX5_setKeyPlan 24 = .ok (.iconst 2, 1) := by decide +kernel
theorem dX5_setKeyPlan_25 : decode cX5_setKeyPlan 25 = .ok (.invokevirtual 86, 3) := by decide +kernel
theorem dX5_setKeyPlan_28 : decode cX5_setKeyPlan 28 = .ok (.ifCond .ne 5, 3) := by decide +kernel
theorem dX5_setKeyPlan_31 : decode cX5_setKeyPlan 31 = .ok (.iconst 0, 1) := by decide +kernel
theorem dX5_setKeyPlan_32 : decode cX5_setKeyPlan 32 = .ok (.ireturn, 1) := by decide +kernel
theorem dX5_setKeyPlan_33 : decode cX5_setKeyPlan 33 = .ok (.aload_n 0, 1) := by decide +kernel
theorem dX5_setKeyPlan_34 : decode cX5_setKeyPlan 34 = .ok (.getfield 25, 3) := by decide +kernel
theorem dX5_setKeyPlan_37 : decode cX5_setKeyPlan 37 = .ok (.iload_n 1, 1) := by decide +kernel
theorem dX5_setKeyPlan_38 : decode cX5_setKeyPlan 38 = .ok (.iaload, 1) := by decide +kernel
theorem dX5_setKeyPlan_39 : decode cX5_setKeyPlan 39 = .ok (.istore_n 3, 1) := by decide +kernel
theorem dX5_setKeyPlan_40 : decode cX5_setKeyPlan 40 = .ok (.aload_n 0, 1) := by decide +kernel
theorem dX5_setKeyPlan_41 : decode cX5_setKeyPlan 41 = .ok (.getfield 25, 3) := by decide +kernel
theorem dX5_setKeyPlan_44 : decode cX5_setKeyPlan 44 = .ok (.iload_n 1, 1) := by decide +kernel
theorem dX5_setKeyPlan_45 : decode cX5_setKeyPlan 45 = .ok (.iload_n 2, 1) := by decide +kernel
theorem dX5_setKeyPlan_46 : decode cX5_setKeyPlan 46 = .ok (.iastore, 1) := by decide +kernel
theorem dX5_setKeyPlan_47 : decode cX5_setKeyPlan 47 = .ok (.iload_n 3, 1) := by decide +kernel
theorem dX5_setKeyPlan_48 : decode cX5_setKeyPlan 48 = .ok (.ireturn, 1) := by decide +kernel
set_option maxRecDepth 20000 in
theorem ggX5_setTrust_X5_isKey : GoodIn wsX5_setTrust wsX5_isKey := goodIn_r _ [6, 7, 8, 9, 5, 10, 16, 17, 18, 19, 20, 21, 22, 23, 24, 25, 26, 27, 28, 29, 30, 31, 32, 33, 34, 35, 36, 37, 38] (by decide +kernel) (by decide +kernel)
set_option maxRecDepth 20000 in
theorem gX5_setTrust_X5_isKey : GoodIn wsX5_setTrust (wsV RX5 92 RX5 yX5_isKey wsX5_isKey) := goodIn_app (goodIn_of _ (by decide +kernel)) ggX5_setTrust_X5_isKey
set_option maxRecDepth 20000 in
theorem ggX5_setTrust_X5_in : GoodIn wsX5_setTrust wsX5_in := goodIn_r _ [10] (by decide +kernel) (by decide +kernel)
set_option maxRecDepth 20000 in
theorem gX5_setTrust_X5_in : GoodIn wsX5_setTrust (va_wsS RX5 72 yX5_in wsX5_in) := goodIn_app (goodIn_of _ (by decide +kernel)) ggX5_setTrust_X5_in
set_option maxRecDepth 20000 in
theorem ggX5_setTrust_X5_goesWell : GoodIn wsX5_setTrust wsX5_goesWell := goodIn_r _ [14, 15, 16, 17, 18, 19, 20, 21, 22, 23, 24, 25, 26, 27, 28, 29, 30, 31, 32, 33, 34, 35, 36, 37, 38] (by decide +kernel) (by decide +kernel)
set_option maxRecDepth 20000 in
theorem gX5_setTrust_X5_goesWell : GoodIn wsX5_setTrust (wsV RX5 86 RX5 yX5_goesWell wsX5_goesWell) := goodIn_app (goodIn_of _ (by decide +kernel)) ggX5_setTrust_X5_goesWell
theorem dX5_setTrust_0 : decode cX5_setTrust 0 = .ok (.aload_n 0, 1) := by decide +kernel
theorem dX5_setTrust_1 : decode cX5_setTrust 1 = .ok (.aload_n 0, 1) := by decide +kernel
theorem dX5_setTrust_2 : decode cX5_setTrust 2 = .ok (.iload_n 1, 1) := by decide +kernel
theorem dX5_setTrust_3 : decode cX5_setTrust 3 = .ok (.invokevirtual 92, 3) := by decide +kernel
theorem dX5_setTrust_6 : decode cX5_setTrust 6 = .ok (.ifCond .ne 7, 3) := by decide +kernel
theorem dX5_setTrust_9 : decode cX5_setTrust 9 = .ok (.iconst 1, 1) := by decide +kernel
theorem dX5_setTrust_10 : decode cX5_setTrust 10 = .ok (.goto 19, 3) := by decide +kernel
theorem dX5_setTrust_13 : decode cX5_setTrust 13 = .ok (.iload_n 2, 1) := by decide +kernel
theorem dX5_setTrust_14 : decode cX5_setTrust 14 = .ok (.iconst 0, 1) := by decide +kernel
theorem dX5_setTrust_15 : decode cX5_setTrust 15 = .ok (.sipush 10000, 3) := by decide +kernel
theorem dX5_setTrust_18 : decode cX5_setTrust 18 = .ok (.invokestatic 72, 3) := by decide +kernel
theorem dX5_setTrust_21 : decode cX5_setTrust 21 = .ok (.ifCond .eq 7, 3) := by decide +kernel
theorem dX5_setTrust_24 : decode cX5_setTrust 24 = .ok (.iconst 0, 1) := by decide +kernel
theorem dX5_setTrust_25 : decode cX5_setTrust 25 = .ok (.goto 4, 3) := by decide +kernel
theorem dX5_setTrust_28 : decode cX5_setTrust 28 = .ok (.iconst 2, 1) := by decide +kernel
theorem dX5_setTrust_29 : decode cX5_setTrust 29 = .ok (.invokevirtual 86, 3) := by decide +kernel
theorem dX5_setTrust_32 : decode cX5_setTrust 32 = .ok (.ifCond .ne 5, 3) := by decide +kernel
theorem dX5_setTrust_35 : decode cX5_setTrust 35 = .ok (.iconst 0, 1) := by decide +kernel
theorem dX5_setTrust_36 : decode cX5_setTrust 36 = .ok (.ireturn, 1) := by decide +kernel
theorem dX5_setTrust_37 : decode cX5_setTrust 37 = .ok (.aload_n 0, 1) := by decide +kernel
theorem dX5_setTrust_38 : decode cX5_setTrust 38 = .ok (.getfield 31, 3) := by decide +kernel
theorem dX5_setTrust_41 : decode cX5_setTrust 41 = .ok (.iload_n 1, 1) := by decide +kernel
theorem dX5_setTrust_42 : decode cX5_setTrust 42 = .ok (.iaload, 1) := by decide +kernel
theorem dX5_setTrust_43 : decode cX5_setTrust 43 = .ok (.istore_n 3, 1) := by decide +kernel
theorem dX5_setTrust_44 : decode cX5_setTrust 44 = .ok (.aload_n 0, 1) := by decide +kernel
theorem dX5_setTrust_45 : decode cX5_setTrust 45 = .ok (.getfield 31, 3) := by decide +kernel
theorem dX5_setTrust_48 : decode cX5_setTrust 48 = .ok (.iload_n 1, 1) := by decide +kernel
theorem dX5_setTrust_49 : decode cX5_setTrust 49 = .ok (.iload_n 2, 1) := by decide +kernel
theorem dX5_setTrust_50 : decode cX5_setTrust 50 = .ok (.iastore, 1) := by decide +kernel
theorem dX5_setTrust_51 : decode cX5_setTrust 51 = .ok (.iload_n 3, 1) := by decide +kernel
theorem dX5_setTrust_52 : decode cX5_setTrust 52 = .ok (.ireturn, 1) := by decide +kernel
theorem dX5_give_0 : decode cX5_give 0 = .ok (.iload_n 2, 1) := by decide +kernel
theorem dX5_give_1 : decode cX5_give 1 = .ok (.aload_n 0, 1) := by decide +kernel
theorem dX5_give_2 : decode cX5_give 2 = .ok (.getfield 34, 3) := by decide +kernel
theorem dX5_give_5 : decode cX5_give 5 = .ok (.iload_n 1, 1) := by decide +kernel
theorem dX5_give_6 : decode cX5_give 6 = .ok (.iaload, 1) := by decide +kernel
theorem dX5_give_7 : decode cX5_give 7 = .ok (.if_icmp .ge 7, 3) := by decide +kernel
theorem dX5_give_10 : decode cX5_give 10 = .ok (.iload_n 2, 1) := by decide +kernel
theorem dX5_give_11 : decode cX5_give 11 = .ok (.goto 9, 3) := by decide +kernel
theorem dX5_give_14 : decode cX5_give 14 = .ok (.aload_n 0, 1) := by decide +kernel
theorem dX5_give_15 : decode cX5_give 15 = .ok (.getfield 34, 3) := by decide +kernel
theorem dX5_give_18 : decode cX5_give 18 = .ok (.iload_n 1, 1) := by decide +kernel
theorem dX5_give_19 : decode cX5_give 19 = .ok (.iaload, 1) := by decide +kernel
theorem dX5_give_20 : decode cX5_give 20 = .ok (.istore_n 3, 1) := by decide +kernel
theorem dX5_give_21 : decode cX5_give 21 = .ok (.aload_n 0, 1) := by decide +kernel
theorem dX5_give_22 : decode cX5_give 22 = .ok (.getfield 34, 3) := by decide +kernel
theorem dX5_give_25 : decode cX5_give 25 = .ok (.iload_n 1, 1) := by decide +kernel
theorem dX5_give_26 : decode cX5_give 26 = .ok (.dup2, 1) := by decide +kernel
theorem dX5_give_27 : decode cX5_give 27 = .ok (.iaload, 1) := by decide +kernel
theorem dX5_give_28 : decode cX5_give 28 = .ok (.iload_n 3, 1) := by decide +kernel
theorem dX5_give_29 : decode cX5_give 29 = .ok (.isub, 1) := by decide +kernel
theorem dX5_give_30 : decode cX5_give 30 = .ok (.iastore, 1) := by decide +kernel
theorem dX5_give_31 : decode cX5_give 31 = .ok (.aload_n 0, 1) := by decide +kernel
theorem dX5_give_32 : decode cX5_give 32 = .ok (.getfield 28, 3) := by decide +kernel
theorem dX5_give_35 : decode cX5_give 35 = .ok (.iload_n 1, 1) := by decide +kernel
theorem dX5_give_36 : decode cX5_give 36 = .ok (.dup2, 1) := by decide +kernel
theorem dX5_give_37 : decode cX5_give 37 = .ok (.iaload, 1) := by decide +kernel
theorem dX5_give_38 : decode cX5_give 38 = .ok (.iload_n 2, 1) := by decide +kernel
theorem dX5_give_39 : decode cX5_give 39 = .ok (.iload_n 3, 1) := by decide +kernel
theorem dX5_give_40 : decode cX5_give 40 = .ok (.isub, 1) := by decide +kernel
theorem dX5_give_41 : decode cX5_give 41 = .ok (.iadd, 1) := by decide +kernel
theorem dX5_give_42 : decode cX5_give 42 = .ok (.iastore, 1) := by decide +kernel
theorem dX5_give_43 : decode cX5_give 43 = .ok (.return_, 1) := by decide +kernel
set_option maxRecDepth 20000 in
theorem ggX5_pay_X5_isKey : GoodIn wsX5_pay wsX5_isKey := goodIn_r _ [8, 9, 10, 11, 7, 12, 23, 24, 25, 26, 27, 28, 29, 30, 31, 32, 33, 34, 35, 36, 37, 38, 39, 40, 41, 42, 43, 44, 45] (by decide +kernel) (by decide +kernel)
set_option maxRecDepth 20000 in
theorem gX5_pay_X5_isKey : GoodIn wsX5_pay (wsV RX5 92 RX5 yX5_isKey wsX5_isKey) := goodIn_app (goodIn_of _ (by decide +kernel)) ggX5_pay_X5_isKey
set_option maxRecDepth 20000 in
theorem ggX5_pay_X5_in : GoodIn wsX5_pay wsX5_in := goodIn_r _ [12] (by decide +kernel) (by decide +kernel)
set_option maxRecDepth 20000 in
theorem gX5_pay_X5_in : GoodIn wsX5_pay (va_wsS RX5 72 yX5_in wsX5_in) := goodIn_app (goodIn_of _ (by decide +kernel)) ggX5_pay_X5_in
set_option maxRecDepth 20000 in
theorem ggX5_pay_X5_goesWell : GoodIn wsX5_pay wsX5_goesWell := goodIn_r _ [16, 17, 23, 24, 25, 26, 27, 28, 29, 30, 31, 32, 33, 34, 35, 36, 37, 38, 39, 40, 41, 42, 43, 44, 45] (by decide +kernel) (by decide +kernel)
set_option maxRecDepth 20000 in
theorem gX5_pay_X5_goesWell : GoodIn wsX5_pay (wsV RX5 86 RX5 yX5_goesWell wsX5_goesWell) := goodIn_app (goodIn_of _ (by decide +kernel)) ggX5_pay_X5_goesWell
set_option maxRecDepth 20000 in
theorem ggX5_pay_X5_give : GoodIn wsX5_pay wsX5_give := goodIn_r _ [21, 22, 3, 23, 24, 25, 26, 27, 28, 29, 30, 31, 32, 33, 34, 35, 36, 37, 38, 39, 40, 41, 42, 43, 44, 45] (by decide +kernel) (by decide +kernel)
set_option maxRecDepth 20000 in
theorem gX5_pay_X5_give : GoodIn wsX5_pay (wsV RX5 96 RX5 yX5_give wsX5_give) := goodIn_app (goodIn_of _ (by decide +kernel)) ggX5_pay_X5_give
theorem dX5_pay_0 : decode cX5_pay 0 = .ok (.aload_n 0, 1) := by decide +kernel
theorem dX5_pay_1 : decode cX5_pay 1 = .ok (.aload_n 0, 1) := by decide +kernel
theorem dX5_pay_2 : decode cX5_pay 2 = .ok (.iload_n 1, 1) := by decide +kernel
theorem dX5_pay_3 : decode cX5_pay 3 = .ok (.invokevirtual 92, 3) := by decide +kernel
theorem dX5_pay_6 : decode cX5_pay 6 = .ok (.ifCond .ne 7, 3) := by decide +kernel
theorem dX5_pay_9 : decode cX5_pay 9 = .ok (.iconst 1, 1) := by decide +kernel
theorem dX5_pay_10 : decode cX5_pay 10 = .ok (.goto 18, 3) := by decide +kernel
theorem dX5_pay_13 : decode cX5_pay 13 = .ok (.iload_n 2, 1) := by decide +kernel
theorem dX5_pay_14 : decode cX5_pay 14 = .ok (.iconst 1, 1) := by decide +kernel
theorem dX5_pay_15 : decode cX5_pay 15 = .ok (.ldc 95, 2) := by decide +kernel
theorem dX5_pay_17 : decode cX5_pay 17 = .ok (.invokestatic 72, 3) := by decide +kernel
theorem dX5_pay_20 : decode cX5_pay 20 = .ok (.ifCond .eq 7, 3) := by decide +kernel
theorem dX5_pay_23 : decode cX5_pay 23 = .ok (.iconst 0, 1) := by decide +kernel
theorem dX5_pay_24 : decode cX5_pay 24 = .ok (.goto 4, 3) := by decide +kernel
theorem dX5_pay_27 : decode cX5_pay 27 = .ok (.iconst 2, 1) := by decide +kernel
theorem dX5_pay_28 : decode cX5_pay 28 = .ok (.invokevirtual 86, 3) := by decide +kernel
theorem dX5_pay_31 : decode cX5_pay 31 = .ok (.ifCond .ne 5, 3) := by decide +kernel
theorem dX5_pay_34 : decode cX5_pay 34 = .ok (.iconst 0, 1) := by decide +kernel
theorem dX5_pay_35 : decode cX5_pay 35 = .ok (.ireturn, 1) := by decide +kernel
theorem dX5_pay_36 : decode cX5_pay 36 = .ok (.aload_n 0, 1) := by decide +kernel
theorem dX5_pay_37 : decode cX5_pay 37 = .ok (.iload_n 1, 1) := by decide +kernel
theorem dX5_pay_38 : decode cX5_pay 38 = .ok (.iload_n 2, 1) := by decide +kernel
theorem dX5_pay_39 : decode cX5_pay 39 = .ok (.invokevirtual 96, 3) := by decide +kernel
theorem dX5_pay_42 : decode cX5_pay 42 = .ok (.aload_n 0, 1) := by decide +kernel
theorem dX5_pay_43 : decode cX5_pay 43 = .ok (.getfield 40, 3) := by decide +kernel
theorem dX5_pay_46 : decode cX5_pay 46 = .ok (.iload_n 1, 1) := by decide +kernel
theorem dX5_pay_47 : decode cX5_pay 47 = .ok (.dup2, 1) := by decide +kernel
theorem dX5_pay_48 : decode cX5_pay 48 = .ok (.iaload, 1) := by decide +kernel
theorem dX5_pay_49 : decode cX5_pay 49 = .ok (.iload_n 2, 1) := by decide +kernel
theorem dX5_pay_50 : decode cX5_pay 50 = .ok (.iadd, 1) := by decide +kernel
theorem dX5_pay_51 : decode cX5_pay 51 = .ok (.iastore, 1) := by decide +kernel
theorem dX5_pay_52 : decode cX5_pay 52 = .ok (.aload_n 0, 1) := by decide +kernel
theorem dX5_pay_53 : decode cX5_pay 53 = .ok (.getfield 28, 3) := by decide +kernel
theorem dX5_pay_56 : decode cX5_pay 56 = .ok (.iload_n 1, 1) := by decide +kernel
theorem dX5_pay_57 : decode cX5_pay 57 = .ok (.iaload, 1) := by decide +kernel
theorem dX5_pay_58 : decode cX5_pay 58 = .ok (.ireturn, 1) := by decide +kernel
theorem dX5_leftOf_0 : decode cX5_leftOf 0 = .ok (.aload_n 0, 1) := by decide +kernel
theorem dX5_leftOf_1 : decode cX5_leftOf 1 = .ok (.getfield 31, 3) := by decide +kernel
theorem dX5_leftOf_4 : decode cX5_leftOf 4 = .ok (.iload_n 1, 1) := by decide +kernel
theorem dX5_leftOf_5 : decode cX5_leftOf 5 = .ok (.iaload, 1) := by decide +kernel
theorem dX5_leftOf_6 : decode cX5_leftOf 6 = .ok (.aload_n 0, 1) := by decide +kernel
theorem dX5_leftOf_7 : decode cX5_leftOf 7 = .ok (.getfield 34, 3) := by decide +kernel
theorem dX5_leftOf_10 : decode cX5_leftOf 10 = .ok (.iload_n 1, 1) := by decide +kernel
theorem dX5_leftOf_11 : decode cX5_leftOf 11 = .ok (.iaload, 1) := by decide +kernel
theorem dX5_leftOf_12 : decode cX5_leftOf 12 = .ok (.if_icmp .le 19, 3) := by decide +kernel
theorem dX5_leftOf_15 : decode cX5_leftOf 15 = .ok (.aload_n 0, 1) := by decide +kernel
theorem dX5_leftOf_16 : decode cX5_leftOf 16 = .ok (.getfield 31, 3) := by decide +kernel
theorem dX5_leftOf_19 : decode cX5_leftOf 19 = .ok (.iload_n 1, 1) := by decide +kernel
theorem dX5_leftOf_20 : decode cX5_leftOf 20 = .ok (.iaload, 1) := by decide +kernel
theorem dX5_leftOf_21 : decode cX5_leftOf 21 = .ok (.aload_n 0, 1) := by decide +kernel
theorem dX5_leftOf_22 : decode cX5_leftOf 22 = .ok (.getfield 34, 3) := by decide +kernel
theorem dX5_leftOf_25 : decode cX5_leftOf 25 = .ok (.iload_n 1, 1) := by decide +kernel
theorem dX5_leftOf_26 : decode cX5_leftOf 26 = .ok (.iaload, 1) := by decide +kernel
theorem dX5_leftOf_27 : decode cX5_leftOf 27 = .ok (.isub, 1) := by decide +kernel
theorem dX5_leftOf_28 : decode cX5_leftOf 28 = .ok (.goto 4, 3) := by decide +kernel
theorem dX5_leftOf_31 : decode cX5_leftOf 31 = .ok (.iconst 0, 1) := by decide +kernel
theorem dX5_leftOf_32 : decode cX5_leftOf 32 = .ok (.ireturn, 1) := by decide +kernel
set_option maxRecDepth 20000 in
theorem ggX5_call_X5_isRoute : GoodIn wsX5_call wsX5_isRoute := goodIn_r _ [15, 16, 17, 14, 18] (by decide +kernel) (by decide +kernel)
set_option maxRecDepth 20000 in
theorem gX5_call_X5_isRoute : GoodIn wsX5_call (va_wsS RX5 89 yX5_isRoute wsX5_isRoute) := goodIn_app (goodIn_of _ (by decide +kernel)) ggX5_call_X5_isRoute
set_option maxRecDepth 20000 in
theorem ggX5_call_X5_in : GoodIn wsX5_call wsX5_in := goodIn_r _ [18] (by decide +kernel) (by decide +kernel)
set_option maxRecDepth 20000 in
theorem gX5_call_X5_in : GoodIn wsX5_call (va_wsS RX5 72 yX5_in wsX5_in) := goodIn_app (goodIn_of _ (by decide +kernel)) ggX5_call_X5_in
set_option maxRecDepth 20000 in
theorem ggX5_call_X5_isKey : GoodIn wsX5_call wsX5_isKey := goodIn_r _ [22, 23, 16, 17, 14, 18, 34, 35, 36, 37, 38, 39, 40, 41, 42, 43, 44, 45, 46, 47, 48, 49, 50, 51, 52, 53, 54, 55, 56] (by decide +kernel) (by decide +kernel)
set_option maxRecDepth 20000 in
theorem gX5_call_X5_isKey : GoodIn wsX5_call (wsV RX5 92 RX5 yX5_isKey wsX5_isKey) := goodIn_app (goodIn_of _ (by decide +kernel)) ggX5_call_X5_isKey
set_option maxRecDepth 20000 in
theorem ggX5_call_X5_goesWell : GoodIn wsX5_call wsX5_goesWell := goodIn_r _ [27, 28, 34, 35, 36, 37, 38, 39, 40, 41, 42, 43, 44, 45, 46, 47, 48, 49, 50, 51, 52, 53, 54, 55, 56] (by decide +kernel) (by decide +kernel)
set_option maxRecDepth 20000 in
theorem gX5_call_X5_goesWell : GoodIn wsX5_call (wsV RX5 86 RX5 yX5_goesWell wsX5_goesWell) := goodIn_app (goodIn_of _ (by decide +kernel)) ggX5_call_X5_goesWell
set_option maxRecDepth 20000 in
theorem ggX5_call_X5_leftOf : GoodIn wsX5_call wsX5_leftOf := goodIn_r _ [32, 33, 6, 34, 35, 36, 37, 38, 39, 40, 41, 42, 43, 44, 45, 46, 47, 48, 49, 50, 51, 52, 53, 54, 55, 56] (by decide +kernel) (by decide +kernel)
set_option maxRecDepth 20000 in
theorem gX5_call_X5_leftOf : GoodIn wsX5_call (wsV RX5 100 RX5 yX5_leftOf wsX5_leftOf) := goodIn_app (goodIn_of _ (by decide +kernel)) ggX5_call_X5_leftOf
theorem dX5_call_0 : decode cX5_call 0 = .ok (.iload_n 2, 1) := by decide +kernel
theorem dX5_call_1 : decode cX5_call 1 = .ok (.invokestatic 89, 3) := by decide +kernel
theorem dX5_call_4 : decode cX5_call 4 = .ok (.ifCond .eq 17, 3) := by decide +kernel
theorem dX5_call_7 : decode cX5_call 7 = .ok (.iload_n 3, 1) := by decide +kernel
theorem dX5_call_8 : decode cX5_call 8 = .ok (.iconst 1, 1) := by decide +kernel
theorem dX5_call_9 : decode cX5_call 9 = .ok (.bipush 9, 2) := by decide +kernel
theorem dX5_call_11 : decode cX5_call 11 = .ok (.invokestatic 72, 3) := by decide +kernel
theorem dX5_call_14 : decode cX5_call 14 = .ok (.ifCond .eq 7, 3) := by decide +kernel
theorem dX5_call_17 : decode cX5_call 17 = .ok (.iconst 1, 1) := by decide +kernel
theorem dX5_call_18 : decode cX5_call 18 = .ok (.goto 4, 3) := by decide +kernel
theorem dX5_call_21 : decode cX5_call 21 = .ok (.iconst 0, 1) := by decide +kernel
theorem dX5_call_22 : decode cX5_call 22 = .ok (.istore 4, 2) := by decide +kernel
theorem dX5_call_24 : decode cX5_call 24 = .ok (.aload_n 0, 1) := by decide +kernel
theorem dX5_call_25 : decode cX5_call 25 = .ok (.aload_n 0, 1) := by decide +kernel
theorem dX5_call_26 : decode cX5_call 26 = .ok (.iload_n 1, 1) := by decide +kernel
theorem dX5_call_27 : decode cX5_call 27 = .ok (.invokevirtual 92, 3) := by decide +kernel
theorem dX5_call_30 : decode cX5_call 30 = .ok (.ifCond .ne 7, 3) := by decide +kernel
theorem dX5_call_33 : decode cX5_call 33 = .ok (.iconst 1, 1) := by decide +kernel
theorem dX5_call_34 : decode cX5_call 34 = .ok (.goto 26, 3) := by decide +kernel
theorem dX5_call_37 : decode cX5_call 37 = .ok (.iload 4, 2) := by decide +kernel
theorem dX5_call_39 : decode cX5_call 39 = .ok (.ifCond .ne 7, 3) := by decide +kernel
theorem dX5_call_42 : decode cX5_call 42 = .ok (.iconst 2, 1) := by decide +kernel
theorem dX5_call_43 : decode cX5_call 43 = .ok (.goto 17, 3) := by decide +kernel
theorem dX5_call_46 : decode cX5_call 46 = .ok (.aload_n 0, 1) := by decide +kernel
theorem dX5_call_47 : decode cX5_call 47 = .ok (.getfield 79, 3) := by decide +kernel
theorem dX5_call_50 : decode cX5_call 50 = .ok (.bipush 80, 2) := by decide +kernel
theorem dX5_call_52 : decode cX5_call 52 = .ok (.if_icmp .ne 7, 3) := by decide +kernel
theorem dX5_call_55 : decode cX5_call 55 = .ok (.iconst 3, 1) := by decide +kernel
theorem dX5_call_56 : decode cX5_call 56 = .ok (.goto 4, 3) := by decide +kernel
theorem dX5_call_59 : decode cX5_call 59 = .ok (.iconst 0, 1) := by decide +kernel
theorem dX5_call_60 : decode cX5_call 60 = .ok (.invokevirtual 86, 3) := by decide +kernel
theorem dX5_call_63 : decode cX5_call 63 = .ok (.ifCond .ne 5, 3) := by decide +kernel
theorem dX5_call_66 : decode cX5_call 66 = .ok (.iconst 0, 1) := by decide +kernel
theorem dX5_call_67 : decode cX5_call 67 = .ok (.ireturn, 1) := by decide +kernel
theorem dX5_call_68 : decode cX5_call 68 = .ok (.aload_n 0, 1) := by decide +kernel
theorem dX5_call_69 : decode cX5_call 69 = .ok (.getfield 19, 3) := by decide +kernel
theorem dX5_call_72 : decode cX5_call 72 = .ok (.iload_n 2, 1) := by decide +kernel
theorem dX5_call_73 : decode cX5_call 73 = .ok (.iaload, 1) := by decide +kernel
theorem dX5_call_74 : decode cX5_call 74 = .ok (.iload_n 3, 1) := by decide +kernel
theorem dX5_call_75 : decode cX5_call 75 = .ok (.imul, 1) := by decide +kernel
theorem dX5_call_76 : decode cX5_call 76 = .ok (.istore 5, 2) := by decide +kernel
theorem dX5_call_78 : decode cX5_call 78 = .ok (.aload_n 0, 1) := by decide +kernel
theorem dX5_call_79 : decode cX5_call 79 = .ok (.getfield 37, 3) := by decide +kernel
theorem dX5_call_82 : decode cX5_call 82 = .ok (.iload_n 1, 1) := by decide +kernel
theorem dX5_call_83 : decode cX5_call 83 = .ok (.iaload, 1) := by decide +kernel
theorem dX5_call_84 : decode cX5_call 84 = .ok (.aload_n 0, 1) := by decide +kernel
theorem dX5_call_85 : decode cX5_call 85 = .ok (.getfield 22, 3) := by decide +kernel
theorem dX5_call_88 : decode cX5_call 88 = .ok (.iload_n 2, 1) := by decide +kernel
theorem dX5_call_89 : decode cX5_call 89 = .ok (.iaload, 1) := by decide +kernel
theorem dX5_call_90 : decode cX5_call 90 = .ok (.if_icmp .ge 5, 3) := by decide +kernel
theorem dX5_call_93 : decode cX5_call 93 = .ok (.iconst 1, 1) := by decide +kernel
theorem dX5_call_94 : decode cX5_call 94 = .ok (.ireturn, 1) := by decide +kernel
theorem dX5_call_95 : decode cX5_call 95 = .ok (.aload_n 0, 1) := by decide +kernel
theorem dX5_call_96 : decode cX5_call 96 = .ok (.getfield 28, 3) := by decide +kernel
theorem dX5_call_99 : decode cX5_call 99 = .ok (.iload_n 1, 1) := by decide +kernel
theorem dX5_call_100 : decode cX5_call 100 = .ok (.iaload, 1) := by decide +kernel
theorem dX5_call_101 : decode cX5_call 101 = .ok (.iload 5, 2) := by decide +kernel
theorem dX5_call_103 : decode cX5_call 103 = .ok (.if_icmp .ge 22, 3) := by decide +kernel
theorem dX5_call_106 : decode cX5_call 106 = .ok (.aload_n 0, 1) := by decide +kernel
theorem dX5_call_107 : decode cX5_call 107 = .ok (.getfield 28, 3) := by decide +kernel
theorem dX5_call_110 : decode cX5_call 110 = .ok (.iload_n 1, 1) := by decide +kernel
theorem dX5_call_111 : decode cX5_call 111 = .ok (.iaload, 1) := by decide +kernel
theorem dX5_call_112 : decode cX5_call 112 = .ok (.aload_n 0, 1) := by decide +kernel
theorem dX5_call_113 : decode cX5_call 113 = .ok (.iload_n 1, 1) := by decide +kernel
theorem dX5_call_114 : decode cX5_call 114 = .ok (.invokevirtual 100, 3) := by decide +kernel
theorem dX5_call_117 : decode cX5_call 117 = .ok (.iadd, 1) := by decide +kernel
theorem dX5_call_118 : decode cX5_call 118 = .ok (.iload 5, 2) := by decide +kernel
theorem dX5_call_120 : decode cX5_call 120 = .ok (.if_icmp .ge 5, 3) := by decide +kernel
theorem dX5_call_123 : decode cX5_call 123 = .ok (.iconst 2, 1) := by decide +kernel
theorem dX5_call_124 : decode cX5_call 124 = .ok (.ireturn, 1) := by decide +kernel
theorem dX5_call_125 : decode cX5_call 125 = .ok (.aload_n 0, 1) := by decide +kernel
theorem dX5_call_126 : decode cX5_call 126 = .ok (.getfield 28, 3) := by decide +kernel
theorem dX5_call_129 : decode cX5_call 129 = .ok (.iload_n 1, 1) := by decide +kernel
theorem dX5_call_130 : decode cX5_call 130 = .ok (.iaload, 1) := by decide +kernel
theorem dX5_call_131 : decode cX5_call 131 = .ok (.iload 5, 2) := by decide +kernel
theorem dX5_call_133 : decode cX5_call 133 = .ok (.if_icmp .ge 12, 3) := by decide +kernel
theorem dX5_call_136 : decode cX5_call 136 = .ok (.aload_n 0, 1) := by decide +kernel
theorem dX5_call_137 : decode cX5_call 137 = .ok (.getfield 28, 3) := by decide +kernel
theorem dX5_call_140 : decode cX5_call 140 = .ok (.iload_n 1, 1) := by decide +kernel
theorem dX5_call_141 : decode cX5_call 141 = .ok (.iaload, 1) := by decide +kernel
theorem dX5_call_142 : decode cX5_call 142 = .ok (.goto 5, 3) := by decide +kernel
theorem dX5_call_145 : decode cX5_call 145 = .ok (.iload 5, 2) := by decide +kernel
theorem dX5_call_147 : decode cX5_call 147 = .ok (.istore 6, 2) := by decide +kernel
theorem dX5_call_149 : decode cX5_call 149 = .ok (.aload_n 0, 1) := by decide +kernel
theorem dX5_call_150 : decode cX5_call 150 = .ok (.getfield 28, 3) := by decide +kernel
theorem dX5_call_153 : decode cX5_call 153 = .ok (.iload_n 1, 1) := by decide +kernel
theorem dX5_call_154 : decode cX5_call 154 = .ok (.dup2, 1) := by decide +kernel
theorem dX5_call_155 : decode cX5_call 155 = .ok (.iaload, 1) := by decide +kernel
theorem dX5_call_156 : decode cX5_call 156 = .ok (.iload 6, 2) := by decide +kernel
theorem dX5_call_158 : decode cX5_call 158 = .ok (.isub, 1) := by decide +kernel
theorem dX5_call_159 : decode cX5_call 159 = .ok (.iastore, 1) := by decide +kernel
theorem dX5_call_160 : decode cX5_call 160 = .ok (.aload_n 0, 1) := by decide +kernel
theorem dX5_call_161 : decode cX5_call 161 = .ok (.getfield 34, 3) := by decide +kernel
theorem dX5_call_164 : decode cX5_call 164 = .ok (.iload_n 1, 1) := by decide +kernel
theorem dX5_call_165 : decode cX5_call 165 = .ok (.dup2, 1) := by decide +kernel
theorem dX5_call_166 : decode cX5_call 166 = .ok (.iaload, 1) := by decide +kernel
theorem dX5_call_167 : decode cX5_call 167 = .ok (.iload 5, 2) := by decide +kernel
theorem dX5_call_169 : decode cX5_call 169 = .ok (.iload 6, 2) := by decide +kernel
theorem dX5_call_171 : decode cX5_call 171 = .ok (.isub, 1) := by decide +kernel
theorem dX5_call_172 : decode cX5_call 172 = .ok (.iadd, 1) := by decide +kernel
theorem dX5_call_173 : decode cX5_call 173 = .ok (.iastore, 1) := by decide +kernel
theorem dX5_call_174 : decode cX5_call 174 = .ok (.aload_n 0, 1) := by decide +kernel
theorem dX5_call_175 : decode cX5_call 175 = .ok (.getfield 37, 3) := by decide +kernel
theorem dX5_call_178 : decode cX5_call 178 = .ok (.iload_n 1, 1) := by decide +kernel
theorem dX5_call_179 : decode cX5_call 179 = .ok (.dup2, 1) := by decide +kernel
theorem dX5_call_180 : decode cX5_call 180 = .ok (.iaload, 1) := by decide +kernel
theorem dX5_call_181 : decode cX5_call 181 = .ok (.aload_n 0, 1) := by decide +kernel
theorem dX5_call_182 : decode cX5_call 182 = .ok (.getfield 22, 3) := by decide +kernel
theorem dX5_call_185 : decode cX5_call 185 = .ok (.iload_n 2, 1) := by decide +kernel
theorem dX5_call_186 : decode cX5_call 186 = .ok (.iaload, 1) := by decide +kernel
theorem dX5_call_187 : decode cX5_call 187 = .ok (.isub, 1) := by decide +kernel
theorem dX5_call_188 : decode cX5_call 188 = .ok (.iastore, 1) := by decide +kernel
theorem dX5_call_189 : decode cX5_call 189 = .ok (.aload_n 0, 1) := by decide +kernel
theorem dX5_call_190 : decode cX5_call 190 = .ok (.getfield 43, 3) := by decide +kernel
theorem dX5_call_193 : decode cX5_call 193 = .ok (.aload_n 0, 1) := by decide +kernel
theorem dX5_call_194 : decode cX5_call 194 = .ok (.getfield 79, 3) := by decide +kernel
theorem dX5_call_197 : decode cX5_call 197 = .ok (.iload_n 1, 1) := by decide +kernel
theorem dX5_call_198 : decode cX5_call 198 = .ok (.iastore, 1) := by decide +kernel
theorem dX5_call_199 : decode cX5_call 199 = .ok (.aload_n 0, 1) := by decide +kernel
theorem dX5_call_200 : decode cX5_call 200 = .ok (.getfield 46, 3) := by decide +kernel
theorem dX5_call_203 : decode cX5_call 203 = .ok (.aload_n 0, 1) := by decide +kernel
theorem dX5_call_204 : decode cX5_call 204 = .ok (.getfield 79, 3) := by decide +kernel
theorem dX5_call_207 : decode cX5_call 207 = .ok (.iload 5, 2) := by decide +kernel
theorem dX5_call_209 : decode cX5_call 209 = .ok (.iastore, 1) := by decide +kernel
theorem dX5_call_210 : decode cX5_call 210 = .ok (.aload_n 0, 1) := by decide +kernel
theorem dX5_call_211 : decode cX5_call 211 = .ok (.getfield 49, 3) := by decide +kernel
theorem dX5_call_214 : decode cX5_call 214 = .ok (.aload_n 0, 1) := by decide +kernel
theorem dX5_call_215 : decode cX5_call 215 = .ok (.getfield 79, 3) := by decide +kernel
theorem dX5_call_218 : decode cX5_call 218 = .ok (.aload_n 0, 1) := by decide +kernel
theorem dX5_call_219 : decode cX5_call 219 = .ok (.getfield 22, 3) := by decide +kernel
theorem dX5_call_222 : decode cX5_call 222 = .ok (.iload_n 2, 1) := by decide +kernel
theorem dX5_call_223 : decode cX5_call 223 = .ok (.iaload, 1) := by decide +kernel
theorem dX5_call_224 : decode cX5_call 224 = .ok (.iastore, 1) := by decide +kernel
theorem dX5_call_225 : decode cX5_call 225 = .ok (.aload_n 0, 1) := by decide +kernel
theorem dX5_call_226 : decode cX5_call 226 = .ok (.getfield 52, 3) := by decide +kernel
theorem dX5_call_229 : decode cX5_call 229 = .ok (.aload_n 0, 1) := by decide +kernel
theorem dX5_call_230 : decode cX5_call 230 = .ok (.getfield 79, 3) := by decide +kernel
theorem dX5_call_233 : decode cX5_call 233 = .ok (.aload_n 0, 1) := by decide +kernel
theorem dX5_call_234 : decode cX5_call 234 = .ok (.getfield 104, 3) := by decide +kernel
theorem dX5_call_237 : decode cX5_call 237 = .ok (.iastore, 1) := by decide +kernel
theorem dX5_call_238 : decode cX5_call 238 = .ok (.aload_n 0, 1) := by decide +kernel
theorem dX5_call_239 : decode cX5_call 239 = .ok (.dup, 1) := by decide +kernel
theorem dX5_call_240 : decode cX5_call 240 = .ok (.getfield 79, 3) := by decide +kernel
theorem dX5_call_243 : decode cX5_call 243 = .ok (.iconst 1, 1) := by decide +kernel
theorem dX5_call_244 : decode cX5_call 244 = .ok (.iadd, 1) := by decide +kernel
theorem dX5_call_245 : decode cX5_call 245 = .ok (.putfield 79, 3) := by decide +kernel
theorem dX5_call_248 : decode cX5_call 248 = .ok (.iconst 0, 1) := by decide +kernel
theorem dX5_call_249 : decode cX5_call 249 = .ok (.ireturn, 1) := by decide +kernel
set_option maxRecDepth 20000 in
theorem ggX5_settle_X5_give : GoodIn wsX5_settle wsX5_give := goodIn_r _ [11, 12, 13, 14, 15, 16, 17, 18, 19, 20, 21, 22, 23, 24, 25, 26, 27, 28, 29, 30, 31, 32, 33, 34, 35, 36] (by decide +kernel) (by decide +kernel)
set_option maxRecDepth 20000 in
theorem gX5_settle_X5_give : GoodIn wsX5_settle (wsV RX5 96 RX5 yX5_give wsX5_give) := goodIn_app (goodIn_of _ (by decide +kernel)) ggX5_settle_X5_give
theorem dX5_settle_0 : decode cX5_settle 0 = .ok (.aload_n 0, 1) := by decide +kernel
theorem dX5_settle_1 : decode cX5_settle 1 = .ok (.getfield 61, 3) := by decide +kernel
theorem dX5_settle_4 : decode cX5_settle 4 = .ok (.iload_n 1, 1) := by decide +kernel
theorem dX5_settle_5 : decode cX5_settle 5 = .ok (.iconst 1, 1) := by decide +kernel
theorem dX5_settle_6 : decode cX5_settle 6 = .ok (.bastore, 1) := by decide +kernel
theorem dX5_settle_7 : decode cX5_settle 7 = .ok (.aload_n 0, 1) := by decide +kernel
theorem dX5_settle_8 : decode cX5_settle 8 = .ok (.getfield 55, 3) := by decide +kernel
theorem dX5_settle_11 : decode cX5_settle 11 = .ok (.iload_n 1, 1) := by decide +kernel
theorem dX5_settle_12 : decode cX5_settle 12 = .ok (.iload_n 2, 1) := by decide +kernel
theorem dX5_settle_13 : decode cX5_settle 13 = .ok (.iastore, 1) := by decide +kernel
theorem dX5_settle_14 : decode cX5_settle 14 = .ok (.aload_n 0, 1) := by decide +kernel
theorem dX5_settle_15 : decode cX5_settle 15 = .ok (.getfield 58, 3) := by decide +kernel
theorem dX5_settle_18 : decode cX5_settle 18 = .ok (.iload_n 1, 1) := by decide +kernel
theorem dX5_settle_19 : decode cX5_settle 19 = .ok (.aload_n 0, 1) := by decide +kernel
theorem dX5_settle_20 : decode cX5_settle 20 = .ok (.getfield 104, 3) := by decide +kernel
theorem dX5_settle_23 : decode cX5_settle 23 = .ok (.iastore, 1) := by decide +kernel
theorem dX5_settle_24 : decode cX5_settle 24 = .ok (.aload_n 0, 1) := by decide +kernel
theorem dX5_settle_25 : decode cX5_settle 25 = .ok (.aload_n 0, 1) := by decide +kernel
theorem dX5_settle_26 : decode cX5_settle 26 = .ok (.getfield 43, 3) := by decide +kernel
theorem dX5_settle_29 : decode cX5_settle 29 = .ok (.iload_n 1, 1) := by decide +kernel
theorem dX5_settle_30 : decode cX5_settle 30 = .ok (.iaload, 1) := by decide +kernel
theorem dX5_settle_31 : decode cX5_settle 31 = .ok (.aload_n 0, 1) := by decide +kernel
theorem dX5_settle_32 : decode cX5_settle 32 = .ok (.getfield 46, 3) := by decide +kernel
theorem dX5_settle_35 : decode cX5_settle 35 = .ok (.iload_n 1, 1) := by decide +kernel
theorem dX5_settle_36 : decode cX5_settle 36 = .ok (.iaload, 1) := by decide +kernel
theorem dX5_settle_37 : decode cX5_settle 37 = .ok (.iload_n 2, 1) := by decide +kernel
theorem dX5_settle_38 : decode cX5_settle 38 = .ok (.isub, 1) := by decide +kernel
theorem dX5_settle_39 : decode cX5_settle 39 = .ok (.invokevirtual 96, 3) := by decide +kernel
theorem dX5_settle_42 : decode cX5_settle 42 = .ok (.return_, 1) := by decide +kernel
set_option maxRecDepth 20000 in
theorem ggX5_end_X5_isCall : GoodIn wsX5_end wsX5_isCall := goodIn_r _ [8, 9, 10, 11, 7, 12, 31, 32, 33, 34, 35, 36, 37, 38, 39, 40, 41, 42, 43, 44, 45, 46, 47, 48, 49, 50, 51, 52, 53] (by decide +kernel) (by decide +kernel)
set_option maxRecDepth 20000 in
theorem gX5_end_X5_isCall : GoodIn wsX5_end (wsV RX5 107 RX5 yX5_isCall wsX5_isCall) := goodIn_app (goodIn_of _ (by decide +kernel)) ggX5_end_X5_isCall
set_option maxRecDepth 20000 in
theorem ggX5_end_X5_in : GoodIn wsX5_end wsX5_in := goodIn_r _ [12] (by decide +kernel) (by decide +kernel)
set_option maxRecDepth 20000 in
theorem gX5_end_X5_in : GoodIn wsX5_end (va_wsS RX5 72 yX5_in wsX5_in) := goodIn_app (goodIn_of _ (by decide +kernel)) ggX5_end_X5_in
set_option maxRecDepth 20000 in
theorem ggX5_end_X5_goesWell : GoodIn wsX5_end wsX5_goesWell := goodIn_r _ [16, 17, 31, 32, 33, 34, 35, 36, 37, 38, 39, 40, 41, 42, 43, 44, 45, 46, 47, 48, 49, 50, 51, 52, 53] (by decide +kernel) (by decide +kernel)
set_option maxRecDepth 20000 in
theorem gX5_end_X5_goesWell : GoodIn wsX5_end (wsV RX5 86 RX5 yX5_goesWell wsX5_goesWell) := goodIn_app (goodIn_of _ (by decide +kernel)) ggX5_end_X5_goesWell
set_option maxRecDepth 20000 in
theorem ggX5_end_X5_settle : GoodIn wsX5_end wsX5_settle := goodIn_r _ [21, 1, 3, 22, 23, 24, 2, 25, 26, 27, 7, 28, 29, 30, 31, 32, 33, 34, 35, 36, 37, 38, 39, 40, 41, 42, 43, 44, 45, 46, 47, 48, 49, 50, 51, 52, 53] (by decide +kernel) (by decide +kernel)
set_option maxRecDepth 20000 in
theorem gX5_end_X5_settle : GoodIn wsX5_end (wsV RX5 110 RX5 yX5_settle wsX5_settle) := goodIn_app (goodIn_of _ (by decide +kernel)) ggX5_end_X5_settle
theorem dX5_end_0 : decode cX5_end 0 = .ok (.aload_n 0, 1) := by decide +kernel
theorem dX5_end_1 : decode cX5_end 1 = .ok (.iload_n 1, 1) := by decide +kernel
theorem dX5_end_2 : decode cX5_end 2 = .ok (.invokevirtual 107, 3) := by decide +kernel
theorem dX5_end_5 : decode cX5_end 5 = .ok (.istore_n 3, 1) := by decide +kernel
theorem dX5_end_6 : decode cX5_end 6 = .ok (.aload_n 0, 1) := by decide +kernel
theorem dX5_end_7 : decode cX5_end 7 = .ok (.iload_n 3, 1) := by decide +kernel
theorem dX5_end_8 : decode cX5_end 8 = .ok (.ifCond .ne 7, 3) := by decide +kernel
theorem dX5_end_11 : decode cX5_end 11 = .ok (.iconst 1, 1) := by decide +kernel
theorem dX5_end_12 : decode cX5_end 12 = .ok (.goto 30, 3) := by decide +kernel
theorem dX5_end_15 : decode cX5_end 15 = .ok (.iload_n 2, 1) := by decide +kernel
theorem dX5_end_16 : decode cX5_end 16 = .ok (.iconst 0, 1) := by decide +kernel
theorem dX5_end_17 : decode cX5_end 17 = .ok (.iconst 2, 1) := by decide +kernel
theorem dX5_end_18 : decode cX5_end 18 = .ok (.invokestatic 72, 3) := by decide +kernel
theorem dX5_end_21 : decode cX5_end 21 = .ok (.ifCond .ne 7, 3) := by decide +kernel
theorem dX5_end_24 : decode cX5_end 24 = .ok (.iconst 2, 1) := by decide +kernel
theorem dX5_end_25 : decode cX5_end 25 = .ok (.goto 17, 3) := by decide +kernel
theorem dX5_end_28 : decode cX5_end 28 = .ok (.aload_n 0, 1) := by decide +kernel
theorem dX5_end_29 : decode cX5_end 29 = .ok (.getfield 61, 3) := by decide +kernel
theorem dX5_end_32 : decode cX5_end 32 = .ok (.iload_n 1, 1) := by decide +kernel
theorem dX5_end_33 : decode cX5_end 33 = .ok (.baload, 1) := by decide +kernel
theorem dX5_end_34 : decode cX5_end 34 = .ok (.ifCond .eq 7, 3) := by decide +kernel
theorem dX5_end_37 : decode cX5_end 37 = .ok (.iconst 3, 1) := by decide +kernel
theorem dX5_end_38 : decode cX5_end 38 = .ok (.goto 4, 3) := by decide +kernel
theorem dX5_end_41 : decode cX5_end 41 = .ok (.iconst 0, 1) := by decide +kernel
theorem dX5_end_42 : decode cX5_end 42 = .ok (.invokevirtual 86, 3) := by decide +kernel
theorem dX5_end_45 : decode cX5_end 45 = .ok (.ifCond .ne 5, 3) := by decide +kernel
theorem dX5_end_48 : decode cX5_end 48 = .ok (.iconst 0, 1) := by decide +kernel
theorem dX5_end_49 : decode cX5_end 49 = .ok (.ireturn, 1) := by decide +kernel
theorem dX5_end_50 : decode cX5_end 50 = .ok (.aload_n 0, 1) := by decide +kernel
theorem dX5_end_51 : decode cX5_end 51 = .ok (.getfield 46, 3) := by decide +kernel
theorem dX5_end_54 : decode cX5_end 54 = .ok (.iload_n 1, 1) := by decide +kernel
theorem dX5_end_55 : decode cX5_end 55 = .ok (.iaload, 1) := by decide +kernel
theorem dX5_end_56 : decode cX5_end 56 = .ok (.istore 4, 2) := by decide +kernel
theorem dX5_end_58 : decode cX5_end 58 = .ok (.aload_n 0, 1) := by decide +kernel
theorem dX5_end_59 : decode cX5_end 59 = .ok (.iload_n 1, 1) := by decide +kernel
theorem dX5_end_60 : decode cX5_end 60 = .ok (.iload_n 2, 1) := by decide +kernel
theorem dX5_end_61 : decode cX5_end 61 = .ok (.ifCond .ne 8, 3) := by decide +kernel
theorem dX5_end_64 : decode cX5_end 64 = .ok (.iload 4, 2) := by decide +kernel
theorem dX5_end_66 : decode cX5_end 66 = .ok (.goto 18, 3) := by decide +kernel
theorem dX5_end_69 : decode cX5_end 69 = .ok (.iload_n 2, 1) := by decide +kernel
theorem dX5_end_70 : decode cX5_end 70 = .ok (.iconst 1, 1) := by decide +kernel
theorem dX5_end_71 : decode cX5_end 71 = .ok (.if_icmp .ne 12, 3) := by decide +kernel
theorem dX5_end_74 : decode cX5_end 74 = .ok (.iload 4, 2) := by decide +kernel
theorem dX5_end_76 : decode cX5_end 76 = .ok (.iconst 1, 1) := by decide +kernel
theorem dX5_end_77 : decode cX5_end 77 = .ok (.iadd, 1) := by decide +kernel
theorem dX5_end_78 : decode cX5_end 78 = .ok (.iconst 2, 1) := by decide +kernel
theorem dX5_end_79 : decode cX5_end 79 = .ok (.idiv, 1) := by decide +kernel
theorem dX5_end_80 : decode cX5_end 80 = .ok (.goto 4, 3) := by decide +kernel
theorem dX5_end_83 : decode cX5_end 83 = .ok (.iconst 0, 1) := by decide +kernel
theorem dX5_end_84 : decode cX5_end 84 = .ok (.invokevirtual 110, 3) := by decide +kernel
theorem dX5_end_87 : decode cX5_end 87 = .ok (.aload_n 0, 1) := by decide +kernel
theorem dX5_end_88 : decode cX5_end 88 = .ok (.getfield 55, 3) := by decide +kernel
theorem dX5_end_91 : decode cX5_end 91 = .ok (.iload_n 1, 1) := by decide +kernel
theorem dX5_end_92 : decode cX5_end 92 = .ok (.iaload, 1) := by decide +kernel
theorem dX5_end_93 : decode cX5_end 93 = .ok (.ireturn, 1) := by decide +kernel
set_option maxRecDepth 20000 in
theorem ggX5_dispute_X5_isCall : GoodIn wsX5_dispute wsX5_isCall := goodIn_r _ [13, 14, 15, 16, 12, 17, 29, 30, 31, 32, 33, 34, 35, 36, 37, 38, 39, 40, 41, 42, 43, 44, 45, 46, 47, 48, 49, 50, 51] (by decide +kernel) (by decide +kernel)
set_option maxRecDepth 20000 in
theorem gX5_dispute_X5_isCall : GoodIn wsX5_dispute (wsV RX5 107 RX5 yX5_isCall wsX5_isCall) := goodIn_app (goodIn_of _ (by decide +kernel)) ggX5_dispute_X5_isCall
set_option maxRecDepth 20000 in
theorem ggX5_dispute_X5_goesWell : GoodIn wsX5_dispute wsX5_goesWell := goodIn_r _ [21, 22, 29, 30, 31, 32, 33, 34, 35, 36, 37, 38, 39, 40, 41, 42, 43, 44, 45, 46, 47, 48, 49, 50, 51] (by decide +kernel) (by decide +kernel)
set_option maxRecDepth 20000 in
theorem gX5_dispute_X5_goesWell : GoodIn wsX5_dispute (wsV RX5 86 RX5 yX5_goesWell wsX5_goesWell) := goodIn_app (goodIn_of _ (by decide +kernel)) ggX5_dispute_X5_goesWell
set_option maxRecDepth 20000 in
theorem ggX5_dispute_X5_give : GoodIn wsX5_dispute wsX5_give := goodIn_r _ [26, 27, 28, 29, 30, 31, 32, 33, 34, 35, 36, 37, 38, 39, 40, 41, 42, 43, 44, 45, 46, 47, 48, 49, 50, 51] (by decide +kernel) (by decide +kernel)
set_option maxRecDepth 20000 in
theorem gX5_dispute_X5_give : GoodIn wsX5_dispute (wsV RX5 96 RX5 yX5_give wsX5_give) := goodIn_app (goodIn_of _ (by decide +kernel)) ggX5_dispute_X5_give
theorem dX5_dispute_0 : decode cX5_dispute 0 = .ok (.aload_n 0, 1) := by decide +kernel
theorem dX5_dispute_1 : decode cX5_dispute 1 = .ok (.iload_n 1, 1) := by decide +kernel
theorem dX5_dispute_2 : decode cX5_dispute 2 = .ok (.invokevirtual 107, 3) := by decide +kernel
theorem dX5_dispute_5 : decode cX5_dispute 5 = .ok (.istore_n 2, 1) := by decide +kernel
theorem dX5_dispute_6 : decode cX5_dispute 6 = .ok (.iload_n 2, 1) := by decide +kernel
theorem dX5_dispute_7 : decode cX5_dispute 7 = .ok (.ifCond .eq 41, 3) := by decide +kernel
theorem dX5_dispute_10 : decode cX5_dispute 10 = .ok (.aload_n 0, 1) := by decide +kernel
theorem dX5_dispute_11 : decode cX5_dispute 11 = .ok (.getfield 61, 3) := by decide +kernel
theorem dX5_dispute_14 : decode cX5_dispute 14 = .ok (.iload_n 1, 1) := by decide +kernel
theorem dX5_dispute_15 : decode cX5_dispute 15 = .ok (.baload, 1) := by decide +kernel
theorem dX5_dispute_16 : decode cX5_dispute 16 = .ok (.ifCond .eq 32, 3) := by decide +kernel
theorem dX5_dispute_19 : decode cX5_dispute 19 = .ok (.aload_n 0, 1) := by decide +kernel
theorem dX5_dispute_20 : decode cX5_dispute 20 = .ok (.getfield 65, 3) := by decide +kernel
theorem dX5_dispute_23 : decode cX5_dispute 23 = .ok (.iload_n 1, 1) := by decide +kernel
theorem dX5_dispute_24 : decode cX5_dispute 24 = .ok (.baload, 1) := by decide +kernel
theorem dX5_dispute_25 : decode cX5_dispute 25 = .ok (.ifCond .ne 23, 3) := by decide +kernel
theorem dX5_dispute_28 : decode cX5_dispute 28 = .ok (.aload_n 0, 1) := by decide +kernel
theorem dX5_dispute_29 : decode cX5_dispute 29 = .ok (.getfield 104, 3) := by decide +kernel
theorem dX5_dispute_32 : decode cX5_dispute 32 = .ok (.aload_n 0, 1) := by decide +kernel
theorem dX5_dispute_33 : decode cX5_dispute 33 = .ok (.getfield 58, 3) := by decide +kernel
theorem dX5_dispute_36 : decode cX5_dispute 36 = .ok (.iload_n 1, 1) := by decide +kernel
theorem dX5_dispute_37 : decode cX5_dispute 37 = .ok (.iaload, 1) := by decide +kernel
theorem dX5_dispute_38 : decode cX5_dispute 38 = .ok (.isub, 1) := by decide +kernel
theorem dX5_dispute_39 : decode cX5_dispute 39 = .ok (.bipush 50, 2) := by decide +kernel
theorem dX5_dispute_41 : decode cX5_dispute 41 = .ok (.if_icmp .gt 7, 3) := by decide +kernel
theorem dX5_dispute_44 : decode cX5_dispute 44 = .ok (.iconst 1, 1) := by decide +kernel
theorem dX5_dispute_45 : decode cX5_dispute 45 = .ok (.goto 4, 3) := by decide +kernel
theorem dX5_dispute_48 : decode cX5_dispute 48 = .ok (.iconst 0, 1) := by decide +kernel
theorem dX5_dispute_49 : decode cX5_dispute 49 = .ok (.istore_n 3, 1) := by decide +kernel
theorem dX5_dispute_50 : decode cX5_dispute 50 = .ok (.aload_n 0, 1) := by decide +kernel
theorem dX5_dispute_51 : decode cX5_dispute 51 = .ok (.iload_n 2, 1) := by decide +kernel
theorem dX5_dispute_52 : decode cX5_dispute 52 = .ok (.ifCond .ne 7, 3) := by decide +kernel
theorem dX5_dispute_55 : decode cX5_dispute 55 = .ok (.iconst 1, 1) := by decide +kernel
theorem dX5_dispute_56 : decode cX5_dispute 56 = .ok (.goto 12, 3) := by decide +kernel
theorem dX5_dispute_59 : decode cX5_dispute 59 = .ok (.iload_n 3, 1) := by decide +kernel
theorem dX5_dispute_60 : decode cX5_dispute 60 = .ok (.ifCond .eq 7, 3) := by decide +kernel
theorem dX5_dispute_63 : decode cX5_dispute 63 = .ok (.iconst 0, 1) := by decide +kernel
theorem dX5_dispute_64 : decode cX5_dispute 64 = .ok (.goto 4, 3) := by decide +kernel
theorem dX5_dispute_67 : decode cX5_dispute 67 = .ok (.iconst 2, 1) := by decide +kernel
theorem dX5_dispute_68 : decode cX5_dispute 68 = .ok (.invokevirtual 86, 3) := by decide +kernel
theorem dX5_dispute_71 : decode cX5_dispute 71 = .ok (.ifCond .ne 5, 3) := by decide +kernel
theorem dX5_dispute_74 : decode cX5_dispute 74 = .ok (.iconst 0, 1) := by decide +kernel
theorem dX5_dispute_75 : decode cX5_dispute 75 = .ok (.ireturn, 1) := by decide +kernel
theorem dX5_dispute_76 : decode cX5_dispute 76 = .ok (.aload_n 0, 1) := by decide +kernel
theorem dX5_dispute_77 : decode cX5_dispute 77 = .ok (.getfield 65, 3) := by decide +kernel
theorem dX5_dispute_80 : decode cX5_dispute 80 = .ok (.iload_n 1, 1) := by decide +kernel
theorem dX5_dispute_81 : decode cX5_dispute 81 = .ok (.iconst 1, 1) := by decide +kernel
theorem dX5_dispute_82 : decode cX5_dispute 82 = .ok (.bastore, 1) := by decide +kernel
theorem dX5_dispute_83 : decode cX5_dispute 83 = .ok (.aload_n 0, 1) := by decide +kernel
theorem dX5_dispute_84 : decode cX5_dispute 84 = .ok (.getfield 55, 3) := by decide +kernel
theorem dX5_dispute_87 : decode cX5_dispute 87 = .ok (.iload_n 1, 1) := by decide +kernel
theorem dX5_dispute_88 : decode cX5_dispute 88 = .ok (.iaload, 1) := by decide +kernel
theorem dX5_dispute_89 : decode cX5_dispute 89 = .ok (.istore 4, 2) := by decide +kernel
theorem dX5_dispute_91 : decode cX5_dispute 91 = .ok (.aload_n 0, 1) := by decide +kernel
theorem dX5_dispute_92 : decode cX5_dispute 92 = .ok (.getfield 55, 3) := by decide +kernel
theorem dX5_dispute_95 : decode cX5_dispute 95 = .ok (.iload_n 1, 1) := by decide +kernel
theorem dX5_dispute_96 : decode cX5_dispute 96 = .ok (.iconst 0, 1) := by decide +kernel
theorem dX5_dispute_97 : decode cX5_dispute 97 = .ok (.iastore, 1) := by decide +kernel
theorem dX5_dispute_98 : decode cX5_dispute 98 = .ok (.aload_n 0, 1) := by decide +kernel
theorem dX5_dispute_99 : decode cX5_dispute 99 = .ok (.aload_n 0, 1) := by decide +kernel
theorem dX5_dispute_100 : decode cX5_dispute 100 = .ok (.getfield 43, 3) := by decide +kernel
theorem dX5_dispute_103 : decode cX5_dispute 103 = .ok (.iload_n 1, 1) := by decide +kernel
theorem dX5_dispute_104 : decode cX5_dispute 104 = .ok (.iaload, 1) := by decide +kernel
theorem dX5_dispute_105 : decode cX5_dispute 105 = .ok (.iload 4, 2) := by decide +kernel
theorem dX5_dispute_107 : decode cX5_dispute 107 = .ok (.invokevirtual 96, 3) := by decide +kernel
theorem dX5_dispute_110 : decode cX5_dispute 110 = .ok (.aload_n 0, 1) := by decide +kernel
theorem dX5_dispute_111 : decode cX5_dispute 111 = .ok (.getfield 37, 3) := by decide +kernel
theorem dX5_dispute_114 : decode cX5_dispute 114 = .ok (.aload_n 0, 1) := by decide +kernel
theorem dX5_dispute_115 : decode cX5_dispute 115 = .ok (.getfield 43, 3) := by decide +kernel
theorem dX5_dispute_118 : decode cX5_dispute 118 = .ok (.iload_n 1, 1) := by decide +kernel
theorem dX5_dispute_119 : decode cX5_dispute 119 = .ok (.iaload, 1) := by decide +kernel
theorem dX5_dispute_120 : decode cX5_dispute 120 = .ok (.dup2, 1) := by decide +kernel
theorem dX5_dispute_121 : decode cX5_dispute 121 = .ok (.iaload, 1) := by decide +kernel
theorem dX5_dispute_122 : decode cX5_dispute 122 = .ok (.aload_n 0, 1) := by decide +kernel
theorem dX5_dispute_123 : decode cX5_dispute 123 = .ok (.getfield 49, 3) := by decide +kernel
theorem dX5_dispute_126 : decode cX5_dispute 126 = .ok (.iload_n 1, 1) := by decide +kernel
theorem dX5_dispute_127 : decode cX5_dispute 127 = .ok (.iaload, 1) := by decide +kernel
theorem dX5_dispute_128 : decode cX5_dispute 128 = .ok (.iadd, 1) := by decide +kernel
theorem dX5_dispute_129 : decode cX5_dispute 129 = .ok (.iastore, 1) := by decide +kernel
theorem dX5_dispute_130 : decode cX5_dispute 130 = .ok (.iload 4, 2) := by decide +kernel
theorem dX5_dispute_132 : decode cX5_dispute 132 = .ok (.ireturn, 1) := by decide +kernel
theorem dX5_isSlow_0 : decode cX5_isSlow 0 = .ok (.aload_n 0, 1) := by decide +kernel
theorem dX5_isSlow_1 : decode cX5_isSlow 1 = .ok (.getfield 28, 3) := by decide +kernel
theorem dX5_isSlow_4 : decode cX5_isSlow 4 = .ok (.iload_n 1, 1) := by decide +kernel
theorem dX5_isSlow_5 : decode cX5_isSlow 5 = .ok (.iaload, 1) := by decide +kernel
theorem dX5_isSlow_6 : decode cX5_isSlow 6 = .ok (.ifCond .ne 7, 3) := by decide +kernel
theorem dX5_isSlow_9 : decode cX5_isSlow 9 = .ok (.iconst 1, 1) := by decide +kernel
theorem dX5_isSlow_10 : decode cX5_isSlow 10 = .ok (.goto 4, 3) := by decide +kernel
theorem dX5_isSlow_13 : decode cX5_isSlow 13 = .ok (.iconst 0, 1) := by decide +kernel
theorem dX5_isSlow_14 : decode cX5_isSlow 14 = .ok (.istore_n 2, 1) := by decide +kernel
theorem dX5_isSlow_15 : decode cX5_isSlow 15 = .ok (.iconst 0, 1) := by decide +kernel
theorem dX5_isSlow_16 : decode cX5_isSlow 16 = .ok (.istore_n 3, 1) := by decide +kernel
theorem dX5_isSlow_17 : decode cX5_isSlow 17 = .ok (.iload_n 3, 1) := by decide +kernel
theorem dX5_isSlow_18 : decode cX5_isSlow 18 = .ok (.aload_n 0, 1) := by decide +kernel
theorem dX5_isSlow_19 : decode cX5_isSlow 19 = .ok (.getfield 79, 3) := by decide +kernel
theorem dX5_isSlow_22 : decode cX5_isSlow 22 = .ok (.if_icmp .ge 38, 3) := by decide +kernel
theorem dX5_isSlow_25 : decode cX5_isSlow 25 = .ok (.iload_n 2, 1) := by decide +kernel
theorem dX5_isSlow_26 : decode cX5_isSlow 26 = .ok (.ifCond .eq 26, 3) := by decide +kernel
theorem dX5_isSlow_29 : decode cX5_isSlow 29 = .ok (.aload_n 0, 1) := by decide +kernel
theorem dX5_isSlow_30 : decode cX5_isSlow 30 = .ok (.getfield 43, 3) := by decide +kernel
theorem dX5_isSlow_33 : decode cX5_isSlow 33 = .ok (.iload_n 3, 1) := by decide +kernel
theorem dX5_isSlow_34 : decode cX5_isSlow 34 = .ok (.iaload, 1) := by decide +kernel
theorem dX5_isSlow_35 : decode cX5_isSlow 35 = .ok (.iload_n 1, 1) := by decide +kernel
theorem dX5_isSlow_36 : decode cX5_isSlow 36 = .ok (.if_icmp .ne 12, 3) := by decide +kernel
theorem dX5_isSlow_39 : decode cX5_isSlow 39 = .ok (.aload_n 0, 1) := by decide +kernel
theorem dX5_isSlow_40 : decode cX5_isSlow 40 = .ok (.getfield 61, 3) := by decide +kernel
theorem dX5_isSlow_43 : decode cX5_isSlow 43 = .ok (.iload_n 3, 1) := by decide +kernel
theorem dX5_isSlow_44 : decode cX5_isSlow 44 = .ok (.baload, 1) := by decide +kernel
theorem dX5_isSlow_45 : decode cX5_isSlow 45 = .ok (.ifCond .eq 7, 3) := by decide +kernel
theorem dX5_isSlow_48 : decode cX5_isSlow 48 = .ok (.iconst 1, 1) := by decide +kernel
theorem dX5_isSlow_49 : decode cX5_isSlow 49 = .ok (.goto 4, 3) := by decide +kernel
theorem dX5_isSlow_52 : decode cX5_isSlow 52 = .ok (.iconst 0, 1) := by decide +kernel
theorem dX5_isSlow_53 : decode cX5_isSlow 53 = .ok (.istore_n 2, 1) := by decide +kernel
theorem dX5_isSlow_54 : decode cX5_isSlow 54 = .ok (.iinc 3 1, 3) := by decide +kernel
theorem dX5_isSlow_57 : decode cX5_isSlow 57 = .ok (.goto (-40), 3) := by decide +kernel
theorem dX5_isSlow_60 : decode cX5_isSlow 60 = .ok (.iload_n 2, 1) := by decide +kernel
theorem dX5_isSlow_61 : decode cX5_isSlow 61 = .ok (.ireturn, 1) := by decide +kernel
set_option maxRecDepth 20000 in
theorem ggX5_passOne_X5_settle : GoodIn wsX5_passOne wsX5_settle := goodIn_r _ [16, 3, 17, 18, 1, 19, 5, 20, 21, 22, 15, 23, 24, 25, 30, 31, 32, 33, 34, 35, 36, 37, 38, 39, 40, 41, 42, 43, 44, 45, 46, 47, 48, 49, 50, 51, 52] (by decide +kernel) (by decide +kernel)
set_option maxRecDepth 20000 in
theorem gX5_passOne_X5_settle : GoodIn wsX5_passOne (wsV RX5 110 RX5 yX5_settle wsX5_settle) := goodIn_app (goodIn_of _ (by decide +kernel)) ggX5_passOne_X5_settle
set_option maxRecDepth 20000 in
theorem ggX5_passOne_X5_isSlow : GoodIn wsX5_passOne wsX5_isSlow := goodIn_r _ [29, 25, 2, 19, 3, 30, 31, 32, 33, 34, 35, 36, 37, 38, 39, 40, 41, 42, 43, 44, 45, 46, 47, 48, 49, 50, 51, 52] (by decide +kernel) (by decide +kernel)
set_option maxRecDepth 20000 in
theorem gX5_passOne_X5_isSlow : GoodIn wsX5_passOne (wsV RX5 113 RX5 yX5_isSlow wsX5_isSlow) := goodIn_app (goodIn_of _ (by decide +kernel)) ggX5_passOne_X5_isSlow
theorem dX5_passOne_0 : decode cX5_passOne 0 = .ok (.aload_n 0, 1) := by decide +kernel
theorem dX5_passOne_1 : decode cX5_passOne 1 = .ok (.dup, 1) := by decide +kernel
theorem dX5_passOne_2 : decode cX5_passOne 2 = .ok (.getfield 104, 3) := by decide +kernel
theorem dX5_passOne_5 : decode cX5_passOne 5 = .ok (.iconst 1, 1) := by decide +kernel
theorem dX5_passOne_6 : decode cX5_passOne 6 = .ok (.iadd, 1) := by decide +kernel
theorem dX5_passOne_7 : decode cX5_passOne 7 = .ok (.putfield 104, 3) := by decide +kernel
theorem dX5_passOne_10 : decode cX5_passOne 10 = .ok (.iconst 0, 1) := by decide +kernel
theorem dX5_passOne_11 : decode cX5_passOne 11 = .ok (.istore_n 1, 1) := by decide +kernel
theorem dX5_passOne_12 : decode cX5_passOne 12 = .ok (.iconst 0, 1) := by decide +kernel
theorem dX5_passOne_13 : decode cX5_passOne 13 = .ok (.istore_n 2, 1) := by decide +kernel
theorem dX5_passOne_14 : decode cX5_passOne 14 = .ok (.iload_n 2, 1) := by decide +kernel
theorem dX5_passOne_15 : decode cX5_passOne 15 = .ok (.aload_n 0, 1) := by decide +kernel
theorem dX5_passOne_16 : decode cX5_passOne 16 = .ok (.getfield 79, 3) := by decide +kernel
theorem dX5_passOne_19 : decode cX5_passOne 19 = .ok (.if_icmp .ge 48, 3) := by decide +kernel
theorem dX5_passOne_22 : decode cX5_passOne 22 = .ok (.aload_n 0, 1) := by decide +kernel
theorem dX5_passOne_23 : decode cX5_passOne 23 = .ok (.getfield 61, 3) := by decide +kernel
theorem dX5_passOne_26 : decode cX5_passOne 26 = .ok (.iload_n 2, 1) := by decide +kernel
theorem dX5_passOne_27 : decode cX5_passOne 27 = .ok (.baload, 1) := by decide +kernel
theorem dX5_passOne_28 : decode cX5_passOne 28 = .ok (.ifCond .ne 33, 3) := by decide +kernel
theorem dX5_passOne_31 : decode cX5_passOne 31 = .ok (.aload_n 0, 1) := by decide +kernel
theorem dX5_passOne_32 : decode cX5_passOne 32 = .ok (.getfield 104, 3) := by decide +kernel
theorem dX5_passOne_35 : decode cX5_passOne 35 = .ok (.aload_n 0, 1) := by decide +kernel
theorem dX5_passOne_36 : decode cX5_passOne 36 = .ok (.getfield 52, 3) := by decide +kernel
theorem dX5_passOne_39 : decode cX5_passOne 39 = .ok (.iload_n 2, 1) := by decide +kernel
theorem dX5_passOne_40 : decode cX5_passOne 40 = .ok (.iaload, 1) := by decide +kernel
theorem dX5_passOne_41 : decode cX5_passOne 41 = .ok (.isub, 1) := by decide +kernel
theorem dX5_passOne_42 : decode cX5_passOne 42 = .ok (.bipush 20, 2) := by decide +kernel
theorem dX5_passOne_44 : decode cX5_passOne 44 = .ok (.if_icmp .ne 17, 3) := by decide +kernel
theorem dX5_passOne_47 : decode cX5_passOne 47 = .ok (.aload_n 0, 1) := by decide +kernel
theorem dX5_passOne_48 : decode cX5_passOne 48 = .ok (.iload_n 2, 1) := by decide +kernel
theorem dX5_passOne_49 : decode cX5_passOne 49 = .ok (.aload_n 0, 1) := by decide +kernel
theorem dX5_passOne_50 : decode cX5_passOne 50 = .ok (.getfield 46, 3) := by decide +kernel
theorem dX5_passOne_53 : decode cX5_passOne 53 = .ok (.iload_n 2, 1) := by decide +kernel
theorem dX5_passOne_54 : decode cX5_passOne 54 = .ok (.iaload, 1) := by decide +kernel
theorem dX5_passOne_55 : decode cX5_passOne 55 = .ok (.invokevirtual 110, 3) := by decide +kernel
theorem dX5_passOne_58 : decode cX5_passOne 58 = .ok (.iinc 1 1, 3) := by decide +kernel
theorem dX5_passOne_61 : decode cX5_passOne 61 = .ok (.iinc 2 1, 3) := by decide +kernel
theorem dX5_passOne_64 : decode cX5_passOne 64 = .ok (.goto (-50), 3) := by decide +kernel
theorem dX5_passOne_67 : decode cX5_passOne 67 = .ok (.iconst 0, 1) := by decide +kernel
theorem dX5_passOne_68 : decode cX5_passOne 68 = .ok (.istore_n 2, 1) := by decide +kernel
theorem dX5_passOne_69 : decode cX5_passOne 69 = .ok (.iload_n 2, 1) := by decide +kernel
theorem dX5_passOne_70 : decode cX5_passOne 70 = .ok (.aload_n 0, 1) := by decide +kernel
theorem dX5_passOne_71 : decode cX5_passOne 71 = .ok (.getfield 76, 3) := by decide +kernel
theorem dX5_passOne_74 : decode cX5_passOne 74 = .ok (.if_icmp .ge 100, 3) := by decide +kernel
theorem dX5_passOne_77 : decode cX5_passOne 77 = .ok (.aload_n 0, 1) := by decide +kernel
theorem dX5_passOne_78 : decode cX5_passOne 78 = .ok (.getfield 25, 3) := by decide +kernel
theorem dX5_passOne_81 : decode cX5_passOne 81 = .ok (.iload_n 2, 1) := by decide +kernel
theorem dX5_passOne_82 : decode cX5_passOne 82 = .ok (.iaload, 1) := by decide +kernel
theorem dX5_passOne_83 : decode cX5_passOne 83 = .ok (.istore_n 3, 1) := by decide +kernel
theorem dX5_passOne_84 : decode cX5_passOne 84 = .ok (.aload_n 0, 1) := by decide +kernel
theorem dX5_passOne_85 : decode cX5_passOne 85 = .ok (.getfield 37, 3) := by decide +kernel
theorem dX5_passOne_88 : decode cX5_passOne 88 = .ok (.iload_n 2, 1) := by decide +kernel
theorem dX5_passOne_89 : decode cX5_passOne 89 = .ok (.iaload, 1) := by decide +kernel
theorem dX5_passOne_90 : decode cX5_passOne 90 = .ok (.aload_n 0, 1) := by decide +kernel
theorem dX5_passOne_91 : decode cX5_passOne 91 = .ok (.iload_n 2, 1) := by decide +kernel
theorem dX5_passOne_92 : decode cX5_passOne 92 = .ok (.invokevirtual 113, 3) := by decide +kernel
theorem dX5_passOne_95 : decode cX5_passOne 95 = .ok (.ifCond .eq 12, 3) := by decide +kernel
theorem dX5_passOne_98 : decode cX5_passOne 98 = .ok (.aload_n 0, 1) := by decide +kernel
theorem dX5_passOne_99 : decode cX5_passOne 99 = .ok (.getfield 16, 3) := by decide +kernel
theorem dX5_passOne_102 : decode cX5_passOne 102 = .ok (.iload_n 3, 1) := by decide +kernel
theorem dX5_passOne_103 : decode cX5_passOne 103 = .ok (.iaload, 1) := by decide +kernel
theorem dX5_passOne_104 : decode cX5_passOne 104 = .ok (.goto 9, 3) := by decide +kernel
theorem dX5_passOne_107 : decode cX5_passOne 107 = .ok (.aload_n 0, 1) := by decide +kernel
theorem dX5_passOne_108 : decode cX5_passOne 108 = .ok (.getfield 13, 3) := by decide +kernel
theorem dX5_passOne_111 : decode cX5_passOne 111 = .ok (.iload_n 3, 1) := by decide +kernel
theorem dX5_passOne_112 : decode cX5_passOne 112 = .ok (.iaload, 1) := by decide +kernel
theorem dX5_passOne_113 : decode cX5_passOne 113 = .ok (.iadd, 1) := by decide +kernel
theorem dX5_passOne_114 : decode cX5_passOne 114 = .ok (.istore 4, 2) := by decide +kernel
theorem dX5_passOne_116 : decode cX5_passOne 116 = .ok (.aload_n 0, 1) := by decide +kernel
theorem dX5_passOne_117 : decode cX5_passOne 117 = .ok (.getfield 37, 3) := by decide +kernel
theorem dX5_passOne_120 : decode cX5_passOne 120 = .ok (.iload_n 2, 1) := by decide +kernel
theorem dX5_passOne_121 : decode cX5_passOne 121 = .ok (.iaload, 1) := by decide +kernel
theorem dX5_passOne_122 : decode cX5_passOne 122 = .ok (.aload_n 0, 1) := by decide +kernel
theorem dX5_passOne_123 : decode cX5_passOne 123 = .ok (.getfield 7, 3) := by decide +kernel
theorem dX5_passOne_126 : decode cX5_passOne 126 = .ok (.iload_n 3, 1) := by decide +kernel
theorem dX5_passOne_127 : decode cX5_passOne 127 = .ok (.iaload, 1) := by decide +kernel
theorem dX5_passOne_128 : decode cX5_passOne 128 = .ok (.if_icmp .le 12, 3) := by decide +kernel
theorem dX5_passOne_131 : decode cX5_passOne 131 = .ok (.aload_n 0, 1) := by decide +kernel
theorem dX5_passOne_132 : decode cX5_passOne 132 = .ok (.getfield 37, 3) := by decide +kernel
theorem dX5_passOne_135 : decode cX5_passOne 135 = .ok (.iload_n 2, 1) := by decide +kernel
theorem dX5_passOne_136 : decode cX5_passOne 136 = .ok (.iaload, 1) := by decide +kernel
theorem dX5_passOne_137 : decode cX5_passOne 137 = .ok (.goto 9, 3) := by decide +kernel
theorem dX5_passOne_140 : decode cX5_passOne 140 = .ok (.aload_n 0, 1) := by decide +kernel
theorem dX5_passOne_141 : decode cX5_passOne 141 = .ok (.getfield 7, 3) := by decide +kernel
theorem dX5_passOne_144 : decode cX5_passOne 144 = .ok (.iload_n 3, 1) := by decide +kernel
theorem dX5_passOne_145 : decode cX5_passOne 145 = .ok (.iaload, 1) := by decide +kernel
theorem dX5_passOne_146 : decode cX5_passOne 146 = .ok (.istore 5, 2) := by decide +kernel
theorem dX5_passOne_148 : decode cX5_passOne 148 = .ok (.aload_n 0, 1) := by decide +kernel
theorem dX5_passOne_149 : decode cX5_passOne 149 = .ok (.getfield 37, 3) := by decide +kernel
theorem dX5_passOne_152 : decode cX5_passOne 152 = .ok (.iload_n 2, 1) := by decide +kernel
theorem dX5_passOne_153 : decode cX5_passOne 153 = .ok (.iload 4, 2) := by decide +kernel
theorem dX5_passOne_155 : decode cX5_passOne 155 = .ok (.iload 5, 2) := by decide +kernel
theorem dX5_passOne_157 : decode cX5_passOne 157 = .ok (.if_icmp .ge 8, 3) := by decide +kernel
theorem dX5_passOne_160 : decode cX5_passOne 160 = .ok (.iload 4, 2) := by decide +kernel
theorem dX5_passOne_162 : decode cX5_passOne 162 = .ok (.goto 5, 3) := by decide +kernel
theorem dX5_passOne_165 : decode cX5_passOne 165 = .ok (.iload 5, 2) := by decide +kernel
theorem dX5_passOne_167 : decode cX5_passOne 167 = .ok (.iastore, 1) := by decide +kernel
theorem dX5_passOne_168 : decode cX5_passOne 168 = .ok (.iinc 2 1, 3) := by decide +kernel
theorem dX5_passOne_171 : decode cX5_passOne 171 = .ok (.goto (-102), 3) := by decide +kernel
theorem dX5_passOne_174 : decode cX5_passOne 174 = .ok (.iload_n 1, 1) := by decide +kernel
theorem dX5_passOne_175 : decode cX5_passOne 175 = .ok (.ireturn, 1) := by decide +kernel
set_option maxRecDepth 20000 in
theorem ggX5_pass_X5_in : GoodIn wsX5_pass wsX5_in := goodIn_r _ [4] (by decide +kernel) (by decide +kernel)
set_option maxRecDepth 20000 in
theorem gX5_pass_X5_in : GoodIn wsX5_pass (va_wsS RX5 72 yX5_in wsX5_in) := goodIn_app (goodIn_of _ (by decide +kernel)) ggX5_pass_X5_in
set_option maxRecDepth 20000 in
theorem ggX5_pass_X5_goesWell : GoodIn wsX5_pass wsX5_goesWell := goodIn_r _ [8, 9, 42, 43, 44, 45, 46, 47, 48, 49, 50, 51, 52, 53, 54, 55, 56, 57, 58, 59, 60, 61, 62, 63, 64] (by decide +kernel) (by decide +kernel)
set_option maxRecDepth 20000 in
theorem gX5_pass_X5_goesWell : GoodIn wsX5_pass (wsV RX5 86 RX5 yX5_goesWell wsX5_goesWell) := goodIn_app (goodIn_of _ (by decide +kernel)) ggX5_pass_X5_goesWell
set_option maxRecDepth 20000 in
theorem ggX5_pass_X5_passOne : GoodIn wsX5_pass wsX5_passOne := goodIn_r _ [13, 14, 15, 16, 17, 18, 19, 20, 21, 22, 23, 24, 25, 26, 27, 3, 28, 29, 30, 31, 32, 33, 34, 35, 36, 37, 38, 39, 40, 41, 42, 43, 44, 45, 46, 47, 48, 49, 50, 51, 52, 53, 54, 55, 56, 57, 58, 59, 60, 61, 62, 63, 64] (by decide +kernel) (by decide +kernel)
set_option maxRecDepth 20000 in
theorem gX5_pass_X5_passOne : GoodIn wsX5_pass (wsV RX5 116 RX5 yX5_passOne wsX5_passOne) := goodIn_app (goodIn_of _ (by decide +kernel)) ggX5_pass_X5_passOne
theorem dX5_pass_0 : decode cX5_pass 0 = .ok (.aload_n 0, 1) := by decide +kernel
theorem dX5_pass_1 : decode cX5_pass 1 = .ok (.iload_n 1, 1) := by decide +kernel
theorem dX5_pass_2 : decode cX5_pass 2 = .ok (.iconst 1, 1) := by decide +kernel
theorem dX5_pass_3 : decode cX5_pass 3 = .ok (.bipush 100, 2) := by decide +kernel
theorem dX5_pass_5 : decode cX5_pass 5 = .ok (.invokestatic 72, 3) := by decide +kernel
theorem dX5_pass_8 : decode cX5_pass 8 = .ok (.ifCond .eq 7, 3) := by decide +kernel
theorem dX5_pass_11 : decode cX5_pass 11 = .ok (.iconst 0, 1) := by decide +kernel
theorem dX5_pass_12 : decode cX5_pass 12 = .ok (.goto 4, 3) := by decide +kernel
theorem dX5_pass_15 : decode cX5_pass 15 = .ok (.iconst 1, 1) := by decide +kernel
theorem dX5_pass_16 : decode cX5_pass 16 = .ok (.invokevirtual 86, 3) := by decide +kernel
theorem dX5_pass_19 : decode cX5_pass 19 = .ok (.ifCond .ne 5, 3) := by decide +kernel
theorem dX5_pass_22 : decode cX5_pass 22 = .ok (.iconst 0, 1) := by decide +kernel
theorem dX5_pass_23 : decode cX5_pass 23 = .ok (.ireturn, 1) := by decide +kernel
theorem dX5_pass_24 : decode cX5_pass 24 = .ok (.iconst 0, 1) := by decide +kernel
theorem dX5_pass_25 : decode cX5_pass 25 = .ok (.istore_n 2, 1) := by decide +kernel
theorem dX5_pass_26 : decode cX5_pass 26 = .ok (.iconst 0, 1) := by decide +kernel
theorem dX5_pass_27 : decode cX5_pass 27 = .ok (.istore_n 3, 1) := by decide +kernel
theorem dX5_pass_28 : decode cX5_pass 28 = .ok (.iload_n 3, 1) := by decide +kernel
theorem dX5_pass_29 : decode cX5_pass 29 = .ok (.iload_n 1, 1) := by decide +kernel
theorem dX5_pass_30 : decode cX5_pass 30 = .ok (.if_icmp .ge 16, 3) := by decide +kernel
theorem dX5_pass_33 : decode cX5_pass 33 = .ok (.iload_n 2, 1) := by decide +kernel
theorem dX5_pass_34 : decode cX5_pass 34 = .ok (.aload_n 0, 1) := by decide +kernel
theorem dX5_pass_35 : decode cX5_pass 35 = .ok (.invokevirtual 116, 3) := by decide +kernel
theorem dX5_pass_38 : decode cX5_pass 38 = .ok (.iadd, 1) := by decide +kernel
theorem dX5_pass_39 : decode cX5_pass 39 = .ok (.istore_n 2, 1) := by decide +kernel
theorem dX5_pass_40 : decode cX5_pass 40 = .ok (.iinc 3 1, 3) := by decide +kernel
theorem dX5_pass_43 : decode cX5_pass 43 = .ok (.goto (-15), 3) := by decide +kernel
theorem dX5_pass_46 : decode cX5_pass 46 = .ok (.iload_n 2, 1) := by decide +kernel
theorem dX5_pass_47 : decode cX5_pass 47 = .ok (.ireturn, 1) := by decide +kernel
theorem dX5_now_0 : decode cX5_now 0 = .ok (.aload_n 0, 1) := by decide +kernel
theorem dX5_now_1 : decode cX5_now 1 = .ok (.iconst 0, 1) := by decide +kernel
theorem dX5_now_2 : decode cX5_now 2 = .ok (.putfield 68, 3) := by decide +kernel
theorem dX5_now_5 : decode cX5_now 5 = .ok (.aload_n 0, 1) := by decide +kernel
theorem dX5_now_6 : decode cX5_now 6 = .ok (.getfield 104, 3) := by decide +kernel
theorem dX5_now_9 : decode cX5_now 9 = .ok (.ireturn, 1) := by decide +kernel
theorem dX5_calls_0 : decode cX5_calls 0 = .ok (.aload_n 0, 1) := by decide +kernel
theorem dX5_calls_1 : decode cX5_calls 1 = .ok (.iconst 0, 1) := by decide +kernel
theorem dX5_calls_2 : decode cX5_calls 2 = .ok (.putfield 68, 3) := by decide +kernel
theorem dX5_calls_5 : decode cX5_calls 5 = .ok (.aload_n 0, 1) := by decide +kernel
theorem dX5_calls_6 : decode cX5_calls 6 = .ok (.getfield 79, 3) := by decide +kernel
theorem dX5_calls_9 : decode cX5_calls 9 = .ok (.ireturn, 1) := by decide +kernel
set_option maxRecDepth 20000 in
theorem ggX5_credit_X5_isKey : GoodIn wsX5_credit wsX5_isKey := goodIn_r _ [6, 7, 8, 9, 5, 10, 16, 17, 18, 19, 20, 21, 22, 23, 24, 25, 26, 27, 28, 29, 30, 31, 32, 33, 34, 35, 36, 37, 38] (by decide +kernel) (by decide +kernel)
set_option maxRecDepth 20000 in
theorem gX5_credit_X5_isKey : GoodIn wsX5_credit (wsV RX5 92 RX5 yX5_isKey wsX5_isKey) := goodIn_app (goodIn_of _ (by decide +kernel)) ggX5_credit_X5_isKey
set_option maxRecDepth 20000 in
theorem ggX5_credit_X5_goesWell : GoodIn wsX5_credit wsX5_goesWell := goodIn_r _ [14, 15, 16, 17, 18, 19, 20, 21, 22, 23, 24, 25, 26, 27, 28, 29, 30, 31, 32, 33, 34, 35, 36, 37, 38] (by decide +kernel) (by decide +kernel)
set_option maxRecDepth 20000 in
theorem gX5_credit_X5_goesWell : GoodIn wsX5_credit (wsV RX5 86 RX5 yX5_goesWell wsX5_goesWell) := goodIn_app (goodIn_of _ (by decide +kernel)) ggX5_credit_X5_goesWell
theorem dX5_credit_0 : decode cX5_credit 0 = .ok (.aload_n 0, 1) := by decide +kernel
theorem dX5_credit_1 : decode cX5_credit 1 = .ok (.aload_n 0, 1) := by decide +kernel
theorem dX5_credit_2 : decode cX5_credit 2 = .ok (.iload_n 1, 1) := by decide +kernel
theorem dX5_credit_3 : decode cX5_credit 3 = .ok (.invokevirtual 92, 3) := by decide +kernel
theorem dX5_credit_6 : decode cX5_credit 6 = .ok (.ifCond .eq 7, 3) := by decide +kernel
theorem dX5_credit_9 : decode cX5_credit 9 = .ok (.iconst 0, 1) := by decide +kernel
theorem dX5_credit_10 : decode cX5_credit 10 = .ok (.goto 4, 3) := by decide +kernel
theorem dX5_credit_13 : decode cX5_credit 13 = .ok (.iconst 1, 1) := by decide +kernel
theorem dX5_credit_14 : decode cX5_credit 14 = .ok (.invokevirtual 86, 3) := by decide +kernel
theorem dX5_credit_17 : decode cX5_credit 17 = .ok (.ifCond .eq 12, 3) := by decide +kernel
theorem dX5_credit_20 : decode cX5_credit 20 = .ok (.aload_n 0, 1) := by decide +kernel
theorem dX5_credit_21 : decode cX5_credit 21 = .ok (.getfield 28, 3) := by decide +kernel
theorem dX5_credit_24 : decode cX5_credit 24 = .ok (.iload_n 1, 1) := by decide +kernel
theorem dX5_credit_25 : decode cX5_credit 25 = .ok (.iaload, 1) := by decide +kernel
theorem dX5_credit_26 : decode cX5_credit 26 = .ok (.goto 4, 3) := by decide +kernel
theorem dX5_credit_29 : decode cX5_credit 29 = .ok (.iconst 0, 1) := by decide +kernel
theorem dX5_credit_30 : decode cX5_credit 30 = .ok (.ireturn, 1) := by decide +kernel
set_option maxRecDepth 20000 in
theorem ggX5_debt_X5_isKey : GoodIn wsX5_debt wsX5_isKey := goodIn_r _ [6, 7, 8, 9, 5, 10, 16, 17, 18, 19, 20, 21, 22, 23, 24, 25, 26, 27, 28, 29, 30, 31, 32, 33, 34, 35, 36, 37, 38] (by decide +kernel) (by decide +kernel)
set_option maxRecDepth 20000 in
theorem gX5_debt_X5_isKey : GoodIn wsX5_debt (wsV RX5 92 RX5 yX5_isKey wsX5_isKey) := goodIn_app (goodIn_of _ (by decide +kernel)) ggX5_debt_X5_isKey
set_option maxRecDepth 20000 in
theorem ggX5_debt_X5_goesWell : GoodIn wsX5_debt wsX5_goesWell := goodIn_r _ [14, 15, 16, 17, 18, 19, 20, 21, 22, 23, 24, 25, 26, 27, 28, 29, 30, 31, 32, 33, 34, 35, 36, 37, 38] (by decide +kernel) (by decide +kernel)
set_option maxRecDepth 20000 in
theorem gX5_debt_X5_goesWell : GoodIn wsX5_debt (wsV RX5 86 RX5 yX5_goesWell wsX5_goesWell) := goodIn_app (goodIn_of _ (by decide +kernel)) ggX5_debt_X5_goesWell
theorem dX5_debt_0 : decode cX5_debt 0 = .ok (.aload_n 0, 1) := by decide +kernel
theorem dX5_debt_1 : decode cX5_debt 1 = .ok (.aload_n 0, 1) := by decide +kernel
theorem dX5_debt_2 : decode cX5_debt 2 = .ok (.iload_n 1, 1) := by decide +kernel
theorem dX5_debt_3 : decode cX5_debt 3 = .ok (.invokevirtual 92, 3) := by decide +kernel
theorem dX5_debt_6 : decode cX5_debt 6 = .ok (.ifCond .eq 7, 3) := by decide +kernel
theorem dX5_debt_9 : decode cX5_debt 9 = .ok (.iconst 0, 1) := by decide +kernel
theorem dX5_debt_10 : decode cX5_debt 10 = .ok (.goto 4, 3) := by decide +kernel
theorem dX5_debt_13 : decode cX5_debt 13 = .ok (.iconst 1, 1) := by decide +kernel
theorem dX5_debt_14 : decode cX5_debt 14 = .ok (.invokevirtual 86, 3) := by decide +kernel
theorem dX5_debt_17 : decode cX5_debt 17 = .ok (.ifCond .eq 12, 3) := by decide +kernel
theorem dX5_debt_20 : decode cX5_debt 20 = .ok (.aload_n 0, 1) := by decide +kernel
theorem dX5_debt_21 : decode cX5_debt 21 = .ok (.getfield 34, 3) := by decide +kernel
theorem dX5_debt_24 : decode cX5_debt 24 = .ok (.iload_n 1, 1) := by decide +kernel
theorem dX5_debt_25 : decode cX5_debt 25 = .ok (.iaload, 1) := by decide +kernel
theorem dX5_debt_26 : decode cX5_debt 26 = .ok (.goto 4, 3) := by decide +kernel
theorem dX5_debt_29 : decode cX5_debt 29 = .ok (.iconst 0, 1) := by decide +kernel
theorem dX5_debt_30 : decode cX5_debt 30 = .ok (.ireturn, 1) := by decide +kernel
set_option maxRecDepth 20000 in
theorem ggX5_held_X5_isKey : GoodIn wsX5_held wsX5_isKey := goodIn_r _ [9, 10, 11, 12, 8, 13, 19, 20, 21, 22, 23, 24, 25, 26, 27, 28, 29, 30, 31, 32, 33, 34, 35, 36, 37, 38, 39, 40, 41] (by decide +kernel) (by decide +kernel)
set_option maxRecDepth 20000 in
theorem gX5_held_X5_isKey : GoodIn wsX5_held (wsV RX5 92 RX5 yX5_isKey wsX5_isKey) := goodIn_app (goodIn_of _ (by decide +kernel)) ggX5_held_X5_isKey
set_option maxRecDepth 20000 in
theorem ggX5_held_X5_goesWell : GoodIn wsX5_held wsX5_goesWell := goodIn_r _ [17, 18, 19, 20, 21, 22, 23, 24, 25, 26, 27, 28, 29, 30, 31, 32, 33, 34, 35, 36, 37, 38, 39, 40, 41] (by decide +kernel) (by decide +kernel)
set_option maxRecDepth 20000 in
theorem gX5_held_X5_goesWell : GoodIn wsX5_held (wsV RX5 86 RX5 yX5_goesWell wsX5_goesWell) := goodIn_app (goodIn_of _ (by decide +kernel)) ggX5_held_X5_goesWell
theorem dX5_held_0 : decode cX5_held 0 = .ok (.aload_n 0, 1) := by decide +kernel
theorem dX5_held_1 : decode cX5_held 1 = .ok (.aload_n 0, 1) := by decide +kernel
theorem dX5_held_2 : decode cX5_held 2 = .ok (.iload_n 1, 1) := by decide +kernel
theorem dX5_held_3 : decode cX5_held 3 = .ok (.invokevirtual 92, 3) := by decide +kernel
theorem dX5_held_6 : decode cX5_held 6 = .ok (.ifCond .eq 7, 3) := by decide +kernel
theorem dX5_held_9 : decode cX5_held 9 = .ok (.iconst 0, 1) := by decide +kernel
theorem dX5_held_10 : decode cX5_held 10 = .ok (.goto 4, 3) := by decide +kernel
theorem dX5_held_13 : decode cX5_held 13 = .ok (.iconst 1, 1) := by decide +kernel
theorem dX5_held_14 : decode cX5_held 14 = .ok (.invokevirtual 86, 3) := by decide +kernel
theorem dX5_held_17 : decode cX5_held 17 = .ok (.ifCond .ne 5, 3) := by decide +kernel
theorem dX5_held_20 : decode cX5_held 20 = .ok (.iconst 0, 1) := by decide +kernel
theorem dX5_held_21 : decode cX5_held 21 = .ok (.ireturn, 1) := by decide +kernel
theorem dX5_held_22 : decode cX5_held 22 = .ok (.iconst 0, 1) := by decide +kernel
theorem dX5_held_23 : decode cX5_held 23 = .ok (.istore_n 2, 1) := by decide +kernel
theorem dX5_held_24 : decode cX5_held 24 = .ok (.iconst 0, 1) := by decide +kernel
theorem dX5_held_25 : decode cX5_held 25 = .ok (.istore_n 3, 1) := by decide +kernel
theorem dX5_held_26 : decode cX5_held 26 = .ok (.iload_n 3, 1) := by decide +kernel
theorem dX5_held_27 : decode cX5_held 27 = .ok (.aload_n 0, 1) := by decide +kernel
theorem dX5_held_28 : decode cX5_held 28 = .ok (.getfield 79, 3) := by decide +kernel
theorem dX5_held_31 : decode cX5_held 31 = .ok (.if_icmp .ge 41, 3) := by decide +kernel
theorem dX5_held_34 : decode cX5_held 34 = .ok (.iload_n 2, 1) := by decide +kernel
theorem dX5_held_35 : decode cX5_held 35 = .ok (.aload_n 0, 1) := by decide +kernel
theorem dX5_held_36 : decode cX5_held 36 = .ok (.getfield 43, 3) := by decide +kernel
theorem dX5_held_39 : decode cX5_held 39 = .ok (.iload_n 3, 1) := by decide +kernel
theorem dX5_held_40 : decode cX5_held 40 = .ok (.iaload, 1) := by decide +kernel
theorem dX5_held_41 : decode cX5_held 41 = .ok (.iload_n 1, 1) := by decide +kernel
theorem dX5_held_42 : decode cX5_held 42 = .ok (.if_icmp .ne 21, 3) := by decide +kernel
theorem dX5_held_45 : decode cX5_held 45 = .ok (.aload_n 0, 1) := by decide +kernel
theorem dX5_held_46 : decode cX5_held 46 = .ok (.getfield 61, 3) := by decide +kernel
theorem dX5_held_49 : decode cX5_held 49 = .ok (.iload_n 3, 1) := by decide +kernel
theorem dX5_held_50 : decode cX5_held 50 = .ok (.baload, 1) := by decide +kernel
theorem dX5_held_51 : decode cX5_held 51 = .ok (.ifCond .ne 12, 3) := by decide +kernel
theorem dX5_held_54 : decode cX5_held 54 = .ok (.aload_n 0, 1) := by decide +kernel
theorem dX5_held_55 : decode cX5_held 55 = .ok (.getfield 46, 3) := by decide +kernel
theorem dX5_held_58 : decode cX5_held 58 = .ok (.iload_n 3, 1) := by decide +kernel
theorem dX5_held_59 : decode cX5_held 59 = .ok (.iaload, 1) := by decide +kernel
theorem dX5_held_60 : decode cX5_held 60 = .ok (.goto 4, 3) := by decide +kernel
theorem dX5_held_63 : decode cX5_held 63 = .ok (.iconst 0, 1) := by decide +kernel
theorem dX5_held_64 : decode cX5_held 64 = .ok (.iadd, 1) := by decide +kernel
theorem dX5_held_65 : decode cX5_held 65 = .ok (.istore_n 2, 1) := by decide +kernel
theorem dX5_held_66 : decode cX5_held 66 = .ok (.iinc 3 1, 3) := by decide +kernel
theorem dX5_held_69 : decode cX5_held 69 = .ok (.goto (-43), 3) := by decide +kernel
theorem dX5_held_72 : decode cX5_held 72 = .ok (.iload_n 2, 1) := by decide +kernel
theorem dX5_held_73 : decode cX5_held 73 = .ok (.ireturn, 1) := by decide +kernel
set_option maxRecDepth 20000 in
theorem ggX5_tokens_X5_isKey : GoodIn wsX5_tokens wsX5_isKey := goodIn_r _ [6, 7, 8, 9, 5, 10, 16, 17, 18, 19, 20, 21, 22, 23, 24, 25, 26, 27, 28, 29, 30, 31, 32, 33, 34, 35, 36, 37, 38] (by decide +kernel) (by decide +kernel)
set_option maxRecDepth 20000 in
theorem gX5_tokens_X5_isKey : GoodIn wsX5_tokens (wsV RX5 92 RX5 yX5_isKey wsX5_isKey) := goodIn_app (goodIn_of _ (by decide +kernel)) ggX5_tokens_X5_isKey
set_option maxRecDepth 20000 in
theorem ggX5_tokens_X5_goesWell : GoodIn wsX5_tokens wsX5_goesWell := goodIn_r _ [14, 15, 16, 17, 18, 19, 20, 21, 22, 23, 24, 25, 26, 27, 28, 29, 30, 31, 32, 33, 34, 35, 36, 37, 38] (by decide +kernel) (by decide +kernel)
set_option maxRecDepth 20000 in
theorem gX5_tokens_X5_goesWell : GoodIn wsX5_tokens (wsV RX5 86 RX5 yX5_goesWell wsX5_goesWell) := goodIn_app (goodIn_of _ (by decide +kernel)) ggX5_tokens_X5_goesWell
theorem dX5_tokens_0 : decode cX5_tokens 0 = .ok (.aload_n 0, 1) := by decide +kernel
theorem dX5_tokens_1 : decode cX5_tokens 1 = .ok (.aload_n 0, 1) := by decide +kernel
theorem dX5_tokens_2 : decode cX5_tokens 2 = .ok (.iload_n 1, 1) := by decide +kernel
theorem dX5_tokens_3 : decode cX5_tokens 3 = .ok (.invokevirtual 92, 3) := by decide +kernel
theorem dX5_tokens_6 : decode cX5_tokens 6 = .ok (.ifCond .eq 7, 3) := by decide +kernel
theorem dX5_tokens_9 : decode cX5_tokens 9 = .ok (.iconst 0, 1) := by decide +kernel
theorem dX5_tokens_10 : decode cX5_tokens 10 = .ok (.goto 4, 3) := by decide +kernel
theorem dX5_tokens_13 : decode cX5_tokens 13 = .ok (.iconst 1, 1) := by decide +kernel
theorem dX5_tokens_14 : decode cX5_tokens 14 = .ok (.invokevirtual 86, 3) := by decide +kernel
theorem dX5_tokens_17 : decode cX5_tokens 17 = .ok (.ifCond .eq 12, 3) := by decide +kernel
theorem dX5_tokens_20 : decode cX5_tokens 20 = .ok (.aload_n 0, 1) := by decide +kernel
theorem dX5_tokens_21 : decode cX5_tokens 21 = .ok (.getfield 37, 3) := by decide +kernel
theorem dX5_tokens_24 : decode cX5_tokens 24 = .ok (.iload_n 1, 1) := by decide +kernel
theorem dX5_tokens_25 : decode cX5_tokens 25 = .ok (.iaload, 1) := by decide +kernel
theorem dX5_tokens_26 : decode cX5_tokens 26 = .ok (.goto 4, 3) := by decide +kernel
theorem dX5_tokens_29 : decode cX5_tokens 29 = .ok (.iconst 0, 1) := by decide +kernel
theorem dX5_tokens_30 : decode cX5_tokens 30 = .ok (.ireturn, 1) := by decide +kernel
set_option maxRecDepth 20000 in
theorem ggX5_isSlowed_X5_isKey : GoodIn wsX5_isSlowed wsX5_isKey := goodIn_r _ [5, 6, 7, 8, 4, 9, 23, 24, 25, 26, 27, 28, 29, 30, 31, 32, 33, 34, 35, 36, 37, 38, 39, 40, 41, 42, 43, 44, 45] (by decide +kernel) (by decide +kernel)
set_option maxRecDepth 20000 in
theorem gX5_isSlowed_X5_isKey : GoodIn wsX5_isSlowed (wsV RX5 92 RX5 yX5_isKey wsX5_isKey) := goodIn_app (goodIn_of _ (by decide +kernel)) ggX5_isSlowed_X5_isKey
set_option maxRecDepth 20000 in
theorem ggX5_isSlowed_X5_goesWell : GoodIn wsX5_isSlowed wsX5_goesWell := goodIn_r _ [13, 14, 23, 24, 25, 26, 27, 28, 29, 30, 31, 32, 33, 34, 35, 36, 37, 38, 39, 40, 41, 42, 43, 44, 45] (by decide +kernel) (by decide +kernel)
set_option maxRecDepth 20000 in
theorem gX5_isSlowed_X5_goesWell : GoodIn wsX5_isSlowed (wsV RX5 86 RX5 yX5_goesWell wsX5_goesWell) := goodIn_app (goodIn_of _ (by decide +kernel)) ggX5_isSlowed_X5_goesWell
set_option maxRecDepth 20000 in
theorem ggX5_isSlowed_X5_isSlow : GoodIn wsX5_isSlowed wsX5_isSlow := goodIn_r _ [18, 19, 20, 21, 22, 23, 24, 25, 26, 27, 28, 29, 30, 31, 32, 33, 34, 35, 36, 37, 38, 39, 40, 41, 42, 43, 44, 45] (by decide +kernel) (by decide +kernel)
set_option maxRecDepth 20000 in
theorem gX5_isSlowed_X5_isSlow : GoodIn wsX5_isSlowed (wsV RX5 113 RX5 yX5_isSlow wsX5_isSlow) := goodIn_app (goodIn_of _ (by decide +kernel)) ggX5_isSlowed_X5_isSlow
theorem dX5_isSlowed_0 : decode cX5_isSlowed 0 = .ok (.aload_n 0, 1) := by decide +kernel
theorem dX5_isSlowed_1 : decode cX5_isSlowed 1 = .ok (.aload_n 0, 1) := by decide +kernel
theorem dX5_isSlowed_2 : decode cX5_isSlowed 2 = .ok (.iload_n 1, 1) := by decide +kernel
theorem dX5_isSlowed_3 : decode cX5_isSlowed 3 = .ok (.invokevirtual 92, 3) := by decide +kernel
theorem dX5_isSlowed_6 : decode cX5_isSlowed 6 = .ok (.ifCond .eq 7, 3) := by decide +kernel
theorem dX5_isSlowed_9 : decode cX5_isSlowed 9 = .ok (.iconst 0, 1) := by decide +kernel
theorem dX5_isSlowed_10 : decode cX5_isSlowed 10 = .ok (.goto 4, 3) := by decide +kernel
theorem dX5_isSlowed_13 : decode cX5_isSlowed 13 = .ok (.iconst 1, 1) := by decide +kernel
theorem dX5_isSlowed_14 : decode cX5_isSlowed 14 = .ok (.invokevirtual 86, 3) := by decide +kernel
theorem dX5_isSlowed_17 : decode cX5_isSlowed 17 = .ok (.ifCond .eq 15, 3) := by decide +kernel
theorem dX5_isSlowed_20 : decode cX5_isSlowed 20 = .ok (.aload_n 0, 1) := by decide +kernel
theorem dX5_isSlowed_21 : decode cX5_isSlowed 21 = .ok (.iload_n 1, 1) := by decide +kernel
theorem dX5_isSlowed_22 : decode cX5_isSlowed 22 = .ok (.invokevirtual 113, 3) := by decide +kernel
theorem dX5_isSlowed_25 : decode cX5_isSlowed 25 = .ok (.ifCond .eq 7, 3) := by decide +kernel
theorem dX5_isSlowed_28 : decode cX5_isSlowed 28 = .ok (.iconst 1, 1) := by decide +kernel
theorem dX5_isSlowed_29 : decode cX5_isSlowed 29 = .ok (.goto 4, 3) := by decide +kernel
theorem dX5_isSlowed_32 : decode cX5_isSlowed 32 = .ok (.iconst 0, 1) := by decide +kernel
theorem dX5_isSlowed_33 : decode cX5_isSlowed 33 = .ok (.ireturn, 1) := by decide +kernel
set_option maxRecDepth 20000 in
theorem ggX5_cost_X5_isCall : GoodIn wsX5_cost wsX5_isCall := goodIn_r _ [7, 8, 9, 10, 6, 11, 17, 18, 19, 20, 21, 22, 23, 24, 25, 26, 27, 28, 29, 30, 31, 32, 33, 34, 35, 36, 37, 38, 39] (by decide +kernel) (by decide +kernel)
set_option maxRecDepth 20000 in
theorem gX5_cost_X5_isCall : GoodIn wsX5_cost (wsV RX5 107 RX5 yX5_isCall wsX5_isCall) := goodIn_app (goodIn_of _ (by decide +kernel)) ggX5_cost_X5_isCall
set_option maxRecDepth 20000 in
theorem ggX5_cost_X5_goesWell : GoodIn wsX5_cost wsX5_goesWell := goodIn_r _ [15, 16, 17, 18, 19, 20, 21, 22, 23, 24, 25, 26, 27, 28, 29, 30, 31, 32, 33, 34, 35, 36, 37, 38, 39] (by decide +kernel) (by decide +kernel)
set_option maxRecDepth 20000 in
theorem gX5_cost_X5_goesWell : GoodIn wsX5_cost (wsV RX5 86 RX5 yX5_goesWell wsX5_goesWell) := goodIn_app (goodIn_of _ (by decide +kernel)) ggX5_cost_X5_goesWell
theorem dX5_cost_0 : decode cX5_cost 0 = .ok (.aload_n 0, 1) := by decide +kernel
theorem dX5_cost_1 : decode cX5_cost 1 = .ok (.aload_n 0, 1) := by decide +kernel
theorem dX5_cost_2 : decode cX5_cost 2 = .ok (.iload_n 1, 1) := by decide +kernel
theorem dX5_cost_3 : decode cX5_cost 3 = .ok (.invokevirtual 107, 3) := by decide +kernel
theorem dX5_cost_6 : decode cX5_cost 6 = .ok (.ifCond .eq 7, 3) := by decide +kernel
theorem dX5_cost_9 : decode cX5_cost 9 = .ok (.iconst 0, 1) := by decide +kernel
theorem dX5_cost_10 : decode cX5_cost 10 = .ok (.goto 4, 3) := by decide +kernel
theorem dX5_cost_13 : decode cX5_cost 13 = .ok (.iconst 1, 1) := by decide +kernel
theorem dX5_cost_14 : decode cX5_cost 14 = .ok (.invokevirtual 86, 3) := by decide +kernel
theorem dX5_cost_17 : decode cX5_cost 17 = .ok (.ifCond .ne 5, 3) := by decide +kernel
theorem dX5_cost_20 : decode cX5_cost 20 = .ok (.iconst 0, 1) := by decide +kernel
theorem dX5_cost_21 : decode cX5_cost 21 = .ok (.ireturn, 1) := by decide +kernel
theorem dX5_cost_22 : decode cX5_cost 22 = .ok (.aload_n 0, 1) := by decide +kernel
theorem dX5_cost_23 : decode cX5_cost 23 = .ok (.getfield 61, 3) := by decide +kernel
theorem dX5_cost_26 : decode cX5_cost 26 = .ok (.iload_n 1, 1) := by decide +kernel
theorem dX5_cost_27 : decode cX5_cost 27 = .ok (.baload, 1) := by decide +kernel
theorem dX5_cost_28 : decode cX5_cost 28 = .ok (.ifCond .eq 12, 3) := by decide +kernel
theorem dX5_cost_31 : decode cX5_cost 31 = .ok (.aload_n 0, 1) := by decide +kernel
theorem dX5_cost_32 : decode cX5_cost 32 = .ok (.getfield 55, 3) := by decide +kernel
theorem dX5_cost_35 : decode cX5_cost 35 = .ok (.iload_n 1, 1) := by decide +kernel
theorem dX5_cost_36 : decode cX5_cost 36 = .ok (.iaload, 1) := by decide +kernel
theorem dX5_cost_37 : decode cX5_cost 37 = .ok (.goto 4, 3) := by decide +kernel
theorem dX5_cost_40 : decode cX5_cost 40 = .ok (.iconst (-1), 1) := by decide +kernel
theorem dX5_cost_41 : decode cX5_cost 41 = .ok (.ireturn, 1) := by decide +kernel
set_option maxRecDepth 20000 in
theorem ggX5_spent_X5_isKey : GoodIn wsX5_spent wsX5_isKey := goodIn_r _ [8, 9, 10, 11, 7, 12, 18, 19, 20, 21, 22, 23, 24, 25, 26, 27, 28, 29, 30, 31, 32, 33, 34, 35, 36, 37, 38, 39, 40] (by decide +kernel) (by decide +kernel)
set_option maxRecDepth 20000 in
theorem gX5_spent_X5_isKey : GoodIn wsX5_spent (wsV RX5 92 RX5 yX5_isKey wsX5_isKey) := goodIn_app (goodIn_of _ (by decide +kernel)) ggX5_spent_X5_isKey
set_option maxRecDepth 20000 in
theorem ggX5_spent_X5_goesWell : GoodIn wsX5_spent wsX5_goesWell := goodIn_r _ [16, 17, 18, 19, 20, 21, 22, 23, 24, 25, 26, 27, 28, 29, 30, 31, 32, 33, 34, 35, 36, 37, 38, 39, 40] (by decide +kernel) (by decide +kernel)
set_option maxRecDepth 20000 in
theorem gX5_spent_X5_goesWell : GoodIn wsX5_spent (wsV RX5 86 RX5 yX5_goesWell wsX5_goesWell) := goodIn_app (goodIn_of _ (by decide +kernel)) ggX5_spent_X5_goesWell
theorem dX5_spent_0 : decode cX5_spent 0 = .ok (.aload_n 0, 1) := by decide +kernel
theorem dX5_spent_1 : decode cX5_spent 1 = .ok (.aload_n 0, 1) := by decide +kernel
theorem dX5_spent_2 : decode cX5_spent 2 = .ok (.iload_n 1, 1) := by decide +kernel
theorem dX5_spent_3 : decode cX5_spent 3 = .ok (.invokevirtual 92, 3) := by decide +kernel
theorem dX5_spent_6 : decode cX5_spent 6 = .ok (.ifCond .eq 7, 3) := by decide +kernel
theorem dX5_spent_9 : decode cX5_spent 9 = .ok (.iconst 0, 1) := by decide +kernel
theorem dX5_spent_10 : decode cX5_spent 10 = .ok (.goto 4, 3) := by decide +kernel
theorem dX5_spent_13 : decode cX5_spent 13 = .ok (.iconst 1, 1) := by decide +kernel
theorem dX5_spent_14 : decode cX5_spent 14 = .ok (.invokevirtual 86, 3) := by decide +kernel
theorem dX5_spent_17 : decode cX5_spent 17 = .ok (.ifCond .ne 5, 3) := by decide +kernel
theorem dX5_spent_20 : decode cX5_spent 20 = .ok (.iconst 0, 1) := by decide +kernel
theorem dX5_spent_21 : decode cX5_spent 21 = .ok (.ireturn, 1) := by decide +kernel
theorem dX5_spent_22 : decode cX5_spent 22 = .ok (.iconst 0, 1) := by decide +kernel
theorem dX5_spent_23 : decode cX5_spent 23 = .ok (.istore_n 2, 1) := by decide +kernel
theorem dX5_spent_24 : decode cX5_spent 24 = .ok (.iconst 0, 1) := by decide +kernel
theorem dX5_spent_25 : decode cX5_spent 25 = .ok (.istore_n 3, 1) := by decide +kernel
theorem dX5_spent_26 : decode cX5_spent 26 = .ok (.iload_n 3, 1) := by decide +kernel
theorem dX5_spent_27 : decode cX5_spent 27 = .ok (.aload_n 0, 1) := by decide +kernel
theorem dX5_spent_28 : decode cX5_spent 28 = .ok (.getfield 79, 3) := by decide +kernel
theorem dX5_spent_31 : decode cX5_spent 31 = .ok (.if_icmp .ge 32, 3) := by decide +kernel
theorem dX5_spent_34 : decode cX5_spent 34 = .ok (.iload_n 2, 1) := by decide +kernel
theorem dX5_spent_35 : decode cX5_spent 35 = .ok (.aload_n 0, 1) := by decide +kernel
theorem dX5_spent_36 : decode cX5_spent 36 = .ok (.getfield 43, 3) := by decide +kernel
theorem dX5_spent_39 : decode cX5_spent 39 = .ok (.iload_n 3, 1) := by decide +kernel
theorem dX5_spent_40 : decode cX5_spent 40 = .ok (.iaload, 1) := by decide +kernel
theorem dX5_spent_41 : decode cX5_spent 41 = .ok (.iload_n 1, 1) := by decide +kernel
theorem dX5_spent_42 : decode cX5_spent 42 = .ok (.if_icmp .ne 12, 3) := by decide +kernel
theorem dX5_spent_45 : decode cX5_spent 45 = .ok (.aload_n 0, 1) := by decide +kernel
theorem dX5_spent_46 : decode cX5_spent 46 = .ok (.getfield 55, 3) := by decide +kernel
theorem dX5_spent_49 : decode cX5_spent 49 = .ok (.iload_n 3, 1) := by decide +kernel
theorem dX5_spent_50 : decode cX5_spent 50 = .ok (.iaload, 1) := by decide +kernel
theorem dX5_spent_51 : decode cX5_spent 51 = .ok (.goto 4, 3) := by decide +kernel
theorem dX5_spent_54 : decode cX5_spent 54 = .ok (.iconst 0, 1) := by decide +kernel
theorem dX5_spent_55 : decode cX5_spent 55 = .ok (.iadd, 1) := by decide +kernel
theorem dX5_spent_56 : decode cX5_spent 56 = .ok (.istore_n 2, 1) := by decide +kernel
theorem dX5_spent_57 : decode cX5_spent 57 = .ok (.iinc 3 1, 3) := by decide +kernel
theorem dX5_spent_60 : decode cX5_spent 60 = .ok (.goto (-34), 3) := by decide +kernel
theorem dX5_spent_63 : decode cX5_spent 63 = .ok (.iload_n 2, 1) := by decide +kernel
theorem dX5_spent_64 : decode cX5_spent 64 = .ok (.ireturn, 1) := by decide +kernel
set_option maxRecDepth 20000 in
theorem ggX5_paid_X5_isKey : GoodIn wsX5_paid wsX5_isKey := goodIn_r _ [6, 7, 8, 9, 5, 10, 16, 17, 18, 19, 20, 21, 22, 23, 24, 25, 26, 27, 28, 29, 30, 31, 32, 33, 34, 35, 36, 37, 38] (by decide +kernel) (by decide +kernel)
set_option maxRecDepth 20000 in
theorem gX5_paid_X5_isKey : GoodIn wsX5_paid (wsV RX5 92 RX5 yX5_isKey wsX5_isKey) := goodIn_app (goodIn_of _ (by decide +kernel)) ggX5_paid_X5_isKey
set_option maxRecDepth 20000 in
theorem ggX5_paid_X5_goesWell : GoodIn wsX5_paid wsX5_goesWell := goodIn_r _ [14, 15, 16, 17, 18, 19, 20, 21, 22, 23, 24, 25, 26, 27, 28, 29, 30, 31, 32, 33, 34, 35, 36, 37, 38] (by decide +kernel) (by decide +kernel)
set_option maxRecDepth 20000 in
theorem gX5_paid_X5_goesWell : GoodIn wsX5_paid (wsV RX5 86 RX5 yX5_goesWell wsX5_goesWell) := goodIn_app (goodIn_of _ (by decide +kernel)) ggX5_paid_X5_goesWell
theorem dX5_paid_0 : decode cX5_paid 0 = .ok (.aload_n 0, 1) := by decide +kernel
theorem dX5_paid_1 : decode cX5_paid 1 = .ok (.aload_n 0, 1) := by decide +kernel
theorem dX5_paid_2 : decode cX5_paid 2 = .ok (.iload_n 1, 1) := by decide +kernel
theorem dX5_paid_3 : decode cX5_paid 3 = .ok (.invokevirtual 92, 3) := by decide +kernel
theorem dX5_paid_6 : decode cX5_paid 6 = .ok (.ifCond .eq 7, 3) := by decide +kernel
theorem dX5_paid_9 : decode cX5_paid 9 = .ok (.iconst 0, 1) := by decide +kernel
theorem dX5_paid_10 : decode cX5_paid 10 = .ok (.goto 4, 3) := by decide +kernel
theorem dX5_paid_13 : decode cX5_paid 13 = .ok (.iconst 1, 1) := by decide +kernel
theorem dX5_paid_14 : decode cX5_paid 14 = .ok (.invokevirtual 86, 3) := by decide +kernel
theorem dX5_paid_17 : decode cX5_paid 17 = .ok (.ifCond .eq 12, 3) := by decide +kernel
theorem dX5_paid_20 : decode cX5_paid 20 = .ok (.aload_n 0, 1) := by decide +kernel
theorem dX5_paid_21 : decode cX5_paid 21 = .ok (.getfield 40, 3) := by decide +kernel
theorem dX5_paid_24 : decode cX5_paid 24 = .ok (.iload_n 1, 1) := by decide +kernel
theorem dX5_paid_25 : decode cX5_paid 25 = .ok (.iaload, 1) := by decide +kernel
theorem dX5_paid_26 : decode cX5_paid 26 = .ok (.goto 4, 3) := by decide +kernel
theorem dX5_paid_29 : decode cX5_paid 29 = .ok (.iconst 0, 1) := by decide +kernel
theorem dX5_paid_30 : decode cX5_paid 30 = .ok (.ireturn, 1) := by decide +kernel
theorem dJ9_max_7cf53_0 : decode cJ9_max_7cf53 0 = .ok (.iload_n 0, 1) := by decide +kernel
theorem dJ9_max_7cf53_1 : decode cJ9_max_7cf53 1 = .ok (.iload_n 1, 1) := by decide +kernel
theorem dJ9_max_7cf53_2 : decode cJ9_max_7cf53 2 = .ok (.if_icmp .lt 7, 3) := by decide +kernel
theorem dJ9_max_7cf53_5 : decode cJ9_max_7cf53 5 = .ok (.iload_n 0, 1) := by decide +kernel
theorem dJ9_max_7cf53_6 : decode cJ9_max_7cf53 6 = .ok (.goto 4, 3) := by decide +kernel
theorem dJ9_max_7cf53_9 : decode cJ9_max_7cf53 9 = .ok (.iload_n 1, 1) := by decide +kernel
theorem dJ9_max_7cf53_10 : decode cJ9_max_7cf53 10 = .ok (.ireturn, 1) := by decide +kernel
theorem dJ9_min_7cf53_0 : decode cJ9_min_7cf53 0 = .ok (.iload_n 0, 1) := by decide +kernel
theorem dJ9_min_7cf53_1 : decode cJ9_min_7cf53 1 = .ok (.iload_n 1, 1) := by decide +kernel
theorem dJ9_min_7cf53_2 : decode cJ9_min_7cf53 2 = .ok (.if_icmp .gt 7, 3) := by decide +kernel
theorem dJ9_min_7cf53_5 : decode cJ9_min_7cf53 5 = .ok (.iload_n 0, 1) := by decide +kernel
theorem dJ9_min_7cf53_6 : decode cJ9_min_7cf53 6 = .ok (.goto 4, 3) := by decide +kernel
theorem dJ9_min_7cf53_9 : decode cJ9_min_7cf53 9 = .ok (.iload_n 1, 1) := by decide +kernel
theorem dJ9_min_7cf53_10 : decode cJ9_min_7cf53 10 = .ok (.ireturn, 1) := by decide +kernel
theorem dJxa1e45_init_da8c8_0 : decode cJxa1e45_init_da8c8 0 = .ok (.aload_n 0, 1) := by decide +kernel
theorem dJxa1e45_init_da8c8_1 : decode cJxa1e45_init_da8c8 1 = .ok (.invokespecial 1, 3) := by decide +kernel
theorem dJxa1e45_init_da8c8_4 : decode cJxa1e45_init_da8c8 4 = .ok (.return_, 1) := by decide +kernel
set_option maxRecDepth 20000 in
theorem ggJxc12de_init_da8c8_Jxa1e45_init_da8c8 : GoodIn wsJxc12de_init_da8c8 wsJxa1e45_init_da8c8 := goodIn_r _ [5, 6, 7, 8] (by decide +kernel) (by decide +kernel)
set_option maxRecDepth 20000 in
theorem gJxc12de_init_da8c8_Jxa1e45_init_da8c8 : GoodIn wsJxc12de_init_da8c8 (wsJxa1e45_init_da8c8) := ggJxc12de_init_da8c8_Jxa1e45_init_da8c8
theorem dJxc12de_init_da8c8_0 : decode cJxc12de_init_da8c8 0 = .ok (.aload_n 0, 1) := by decide +kernel
theorem dJxc12de_init_da8c8_1 : decode cJxc12de_init_da8c8 1 = .ok (.invokespecial 1, 3) := by decide +kernel
theorem dJxc12de_init_da8c8_4 : decode cJxc12de_init_da8c8 4 = .ok (.aload_n 0, 1) := by decide +kernel
theorem dJxc12de_init_da8c8_5 : decode cJxc12de_init_da8c8 5 = .ok (.iconst 0, 1) := by decide +kernel
theorem dJxc12de_init_da8c8_6 : decode cJxc12de_init_da8c8 6 = .ok (.putfield 7, 3) := by decide +kernel
theorem dJxc12de_init_da8c8_9 : decode cJxc12de_init_da8c8 9 = .ok (.return_, 1) := by decide +kernel
set_option maxRecDepth 20000 in
theorem ggJx4a65c_init_da8c8_Jxc12de_init_da8c8 : GoodIn wsJx4a65c_init_da8c8 wsJxc12de_init_da8c8 := goodIn_r _ [6, 7, 8, 9, 10, 11, 12, 13, 14, 15, 16, 17] (by decide +kernel) (by decide +kernel)
set_option maxRecDepth 20000 in
theorem gJx4a65c_init_da8c8_Jxc12de_init_da8c8 : GoodIn wsJx4a65c_init_da8c8 (wsJxc12de_init_da8c8) := ggJx4a65c_init_da8c8_Jxc12de_init_da8c8
theorem dJx4a65c_init_da8c8_0 : decode cJx4a65c_init_da8c8 0 = .ok (.aload_n 0, 1) := by decide +kernel
theorem dJx4a65c_init_da8c8_1 : decode cJx4a65c_init_da8c8 1 = .ok (.invokespecial 1, 3) := by decide +kernel
theorem dJx4a65c_init_da8c8_4 : decode cJx4a65c_init_da8c8 4 = .ok (.aload_n 0, 1) := by decide +kernel
theorem dJx4a65c_init_da8c8_5 : decode cJx4a65c_init_da8c8 5 = .ok (.getstatic 39, 3) := by decide +kernel
theorem dJx4a65c_init_da8c8_8 : decode cJx4a65c_init_da8c8 8 = .ok (.putfield 9, 3) := by decide +kernel
theorem dJx4a65c_init_da8c8_11 : decode cJx4a65c_init_da8c8 11 = .ok (.return_, 1) := by decide +kernel
set_option maxRecDepth 20000 in
theorem ggJx4a65c_grow_92f84_J8_newLength_cabcc : GoodIn wsJx4a65c_grow_92f84 wsJ8_newLength_cabcc := goodIn_r _ [11, 12, 4, 5, 6, 13, 14, 15, 10, 16] (by decide +kernel) (by decide +kernel)
set_option maxRecDepth 20000 in
theorem gJx4a65c_grow_92f84_J8_newLength_cabcc : GoodIn wsJx4a65c_grow_92f84 (va_wsS RJx4a65c 73 yJ8_newLength_cabcc wsJ8_newLength_cabcc) := goodIn_app (goodIn_of _ (by decide +kernel)) ggJx4a65c_grow_92f84_J8_newLength_cabcc
set_option maxRecDepth 20000 in
theorem ggJx4a65c_grow_92f84_J7_copyOf_1904c : GoodIn wsJx4a65c_grow_92f84 wsJ7_copyOf_1904c := goodIn_r _ [20, 21, 22, 23, 24, 25, 26, 19, 27, 28, 29, 30, 31, 5, 32, 33, 34, 35, 36] (by decide +kernel) (by decide +kernel)
set_option maxRecDepth 20000 in
theorem gJx4a65c_grow_92f84_J7_copyOf_1904c : GoodIn wsJx4a65c_grow_92f84 (va_wsS RJx4a65c 66 yJ7_copyOf_1904c wsJ7_copyOf_1904c) := goodIn_app (goodIn_of _ (by decide +kernel)) ggJx4a65c_grow_92f84_J7_copyOf_1904c
