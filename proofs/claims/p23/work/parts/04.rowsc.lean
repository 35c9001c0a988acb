theorem dL_areKeysSo_82 : decode cL_areKeysSo 82 = .ok (.goto 4, 3) := by decide +kernel
theorem dL_areKeysSo_85 : decode cL_areKeysSo 85 = .ok (.iconst 0, 1) := by decide +kernel
theorem dL_areKeysSo_86 : decode cL_areKeysSo 86 = .ok (.istore_n 3, 1) := by decide +kernel
theorem dL_areKeysSo_87 : decode cL_areKeysSo 87 = .ok (.iload_n 3, 1) := by decide +kernel
theorem dL_areKeysSo_88 : decode cL_areKeysSo 88 = .ok (.ifCond .eq 27, 3) := by decide +kernel
theorem dL_areKeysSo_91 : decode cL_areKeysSo 91 = .ok (.aload_n 0, 1) := by decide +kernel
theorem dL_areKeysSo_92 : decode cL_areKeysSo 92 = .ok (.iload_n 2, 1) := by decide +kernel
theorem dL_areKeysSo_93 : decode cL_areKeysSo 93 = .ok (.invokevirtual 106, 3) := by decide +kernel
theorem dL_areKeysSo_96 : decode cL_areKeysSo 96 = .ok (.ifCond .eq 21, 3) := by decide +kernel
theorem dL_areKeysSo_99 : decode cL_areKeysSo 99 = .ok (.aload_n 0, 1) := by decide +kernel
theorem dL_areKeysSo_100 : decode cL_areKeysSo 100 = .ok (.iload_n 2, 1) := by decide +kernel
theorem dL_areKeysSo_101 : decode cL_areKeysSo 101 = .ok (.invokevirtual 52, 3) := by decide +kernel
theorem dL_areKeysSo_104 : decode cL_areKeysSo 104 = .ok (.ifCond .ne 11, 3) := by decide +kernel
theorem dL_areKeysSo_107 : decode cL_areKeysSo 107 = .ok (.aload_n 0, 1) := by decide +kernel
theorem dL_areKeysSo_108 : decode cL_areKeysSo 108 = .ok (.iload_n 2, 1) := by decide +kernel
theorem dL_areKeysSo_109 : decode cL_areKeysSo 109 = .ok (.invokevirtual 97, 3) := by decide +kernel
theorem dL_areKeysSo_112 : decode cL_areKeysSo 112 = .ok (.ifCond .eq 5, 3) := by decide +kernel
theorem dL_areKeysSo_115 : decode cL_areKeysSo 115 = .ok (.iconst 0, 1) := by decide +kernel
theorem dL_areKeysSo_116 : decode cL_areKeysSo 116 = .ok (.ireturn, 1) := by decide +kernel
theorem dL_areKeysSo_117 : decode cL_areKeysSo 117 = .ok (.iinc 1 1, 3) := by decide +kernel
theorem dL_areKeysSo_120 : decode cL_areKeysSo 120 = .ok (.iinc 2 1, 3) := by decide +kernel
theorem dL_areKeysSo_123 : decode cL_areKeysSo 123 = .ok (.goto (-119), 3) := by decide +kernel
theorem dL_areKeysSo_126 : decode cL_areKeysSo 126 = .ok (.iconst 0, 1) := by decide +kernel
theorem dL_areKeysSo_127 : decode cL_areKeysSo 127 = .ok (.istore_n 2, 1) := by decide +kernel
theorem dL_areKeysSo_128 : decode cL_areKeysSo 128 = .ok (.iconst 0, 1) := by decide +kernel
theorem dL_areKeysSo_129 : decode cL_areKeysSo 129 = .ok (.istore_n 3, 1) := by decide +kernel
theorem dL_areKeysSo_130 : decode cL_areKeysSo 130 = .ok (.iconst 0, 1) := by decide +kernel
theorem dL_areKeysSo_131 : decode cL_areKeysSo 131 = .ok (.istore 4, 2) := by decide +kernel
theorem dL_areKeysSo_133 : decode cL_areKeysSo 133 = .ok (.iload 4, 2) := by decide +kernel
theorem dL_areKeysSo_135 : decode cL_areKeysSo 135 = .ok (.aload_n 0, 1) := by decide +kernel
theorem dL_areKeysSo_136 : decode cL_areKeysSo 136 = .ok (.invokevirtual 60, 3) := by decide +kernel
theorem dL_areKeysSo_139 : decode cL_areKeysSo 139 = .ok (.if_icmp .ge 31, 3) := by decide +kernel
theorem dL_areKeysSo_142 : decode cL_areKeysSo 142 = .ok (.iload_n 2, 1) := by decide +kernel
theorem dL_areKeysSo_143 : decode cL_areKeysSo 143 = .ok (.aload_n 0, 1) := by decide +kernel
theorem dL_areKeysSo_144 : decode cL_areKeysSo 144 = .ok (.iload 4, 2) := by decide +kernel
theorem dL_areKeysSo_146 : decode cL_areKeysSo 146 = .ok (.invokevirtual 113, 3) := by decide +kernel
theorem dL_areKeysSo_149 : decode cL_areKeysSo 149 = .ok (.ifCond .le 12, 3) := by decide +kernel
theorem dL_areKeysSo_152 : decode cL_areKeysSo 152 = .ok (.aload_n 0, 1) := by decide +kernel
theorem dL_areKeysSo_153 : decode cL_areKeysSo 153 = .ok (.iload 4, 2) := by decide +kernel
theorem dL_areKeysSo_155 : decode cL_areKeysSo 155 = .ok (.invokevirtual 113, 3) := by decide +kernel
theorem dL_areKeysSo_158 : decode cL_areKeysSo 158 = .ok (.goto 4, 3) := by decide +kernel
theorem dL_areKeysSo_161 : decode cL_areKeysSo 161 = .ok (.iconst 0, 1) := by decide +kernel
theorem dL_areKeysSo_162 : decode cL_areKeysSo 162 = .ok (.iadd, 1) := by decide +kernel
theorem dL_areKeysSo_163 : decode cL_areKeysSo 163 = .ok (.istore_n 2, 1) := by decide +kernel
theorem dL_areKeysSo_164 : decode cL_areKeysSo 164 = .ok (.iinc 4 1, 3) := by decide +kernel
theorem dL_areKeysSo_167 : decode cL_areKeysSo 167 = .ok (.goto (-34), 3) := by decide +kernel
theorem dL_areKeysSo_170 : decode cL_areKeysSo 170 = .ok (.iconst 0, 1) := by decide +kernel
theorem dL_areKeysSo_171 : decode cL_areKeysSo 171 = .ok (.istore 4, 2) := by decide +kernel
theorem dL_areKeysSo_173 : decode cL_areKeysSo 173 = .ok (.iload 4, 2) := by decide +kernel
theorem dL_areKeysSo_175 : decode cL_areKeysSo 175 = .ok (.iload_n 1, 1) := by decide +kernel
theorem dL_areKeysSo_176 : decode cL_areKeysSo 176 = .ok (.if_icmp .ge 18, 3) := by decide +kernel
theorem dL_areKeysSo_179 : decode cL_areKeysSo 179 = .ok (.iload_n 3, 1) := by decide +kernel
theorem dL_areKeysSo_180 : decode cL_areKeysSo 180 = .ok (.aload_n 0, 1) := by decide +kernel
theorem dL_areKeysSo_181 : decode cL_areKeysSo 181 = .ok (.iload 4, 2) := by decide +kernel
theorem dL_areKeysSo_183 : decode cL_areKeysSo 183 = .ok (.invokevirtual 103, 3) := by decide +kernel
theorem dL_areKeysSo_186 : decode cL_areKeysSo 186 = .ok (.iadd, 1) := by decide +kernel
theorem dL_areKeysSo_187 : decode cL_areKeysSo 187 = .ok (.istore_n 3, 1) := by decide +kernel
theorem dL_areKeysSo_188 : decode cL_areKeysSo 188 = .ok (.iinc 4 1, 3) := by decide +kernel
theorem dL_areKeysSo_191 : decode cL_areKeysSo 191 = .ok (.goto (-18), 3) := by decide +kernel
theorem dL_areKeysSo_194 : decode cL_areKeysSo 194 = .ok (.iload_n 2, 1) := by decide +kernel
theorem dL_areKeysSo_195 : decode cL_areKeysSo 195 = .ok (.iload_n 3, 1) := by decide +kernel
theorem dL_areKeysSo_196 : decode cL_areKeysSo 196 = .ok (.if_icmp .ne 7, 3) := by decide +kernel
theorem dL_areKeysSo_199 : decode cL_areKeysSo 199 = .ok (.iconst 1, 1) := by decide +kernel
theorem dL_areKeysSo_200 : decode cL_areKeysSo 200 = .ok (.goto 4, 3) := by decide +kernel
theorem dL_areKeysSo_203 : decode cL_areKeysSo 203 = .ok (.iconst 0, 1) := by decide +kernel
theorem dL_areKeysSo_204 : decode cL_areKeysSo 204 = .ok (.ireturn, 1) := by decide +kernel
set_option maxRecDepth 20000 in
theorem ggL_law_X4_init : GoodIn wsL_law wsX4_init := goodIn_r _ [6, 7, 8, 9, 10, 11, 12, 13, 14, 15, 16, 17, 18, 19, 20, 21, 22, 23, 24, 25, 26, 27, 28, 29, 30, 31, 32, 33, 34, 35, 36, 37, 38, 39, 40, 41, 42, 43, 44, 45, 46, 47, 48, 49, 357, 358, 359, 360, 361, 362, 363, 364, 365, 366, 367, 368, 369, 370, 371] (by decide +kernel) (by decide +kernel)
set_option maxRecDepth 20000 in
theorem gL_law_X4_init : GoodIn wsL_law (wsX4_init) := ggL_law_X4_init
set_option maxRecDepth 20000 in
theorem ggL_law_L_cell : GoodIn wsL_law wsL_cell := goodIn_r _ [53] (by decide +kernel) (by decide +kernel)
set_option maxRecDepth 20000 in
theorem gL_law_L_cell : GoodIn wsL_law (va_wsS RL 117 yL_cell wsL_cell) := goodIn_app (goodIn_of _ (by decide +kernel)) ggL_law_L_cell

theorem ggL_law_L_act_h : GoodIn wsL_law [Cond.code yL_act cL_act 7 (some .int)] := goodIn_r _ [56] (by decide +kernel) (by decide +kernel)
set_option maxRecDepth 20000 in
theorem ggL_law_L_act_wsL_act_r1 : GoodIn wsL_law wsL_act_r1 := goodIn_r _ [57, 58, 59, 52, 60, 61, 62, 63, 64, 2, 65, 18, 66, 67, 68, 16, 69, 70, 71, 72, 73, 74, 3, 75] (by decide +kernel) (by decide +kernel)
set_option maxRecDepth 20000 in
theorem ggL_law_L_act_wsL_act_r2 : GoodIn wsL_law wsL_act_r2 := goodIn_r _ [76, 77, 78, 79, 80, 81, 82, 83, 84, 11, 85, 86, 87, 88, 89, 90, 91, 92, 93, 94, 95, 96, 97, 98] (by decide +kernel) (by decide +kernel)
set_option maxRecDepth 20000 in
theorem ggL_law_L_act_wsL_act_r3 : GoodIn wsL_law wsL_act_r3 := goodIn_r _ [13, 99, 100, 101, 102, 103, 104, 105, 106, 107, 108, 17, 109, 110, 111, 112, 113, 114, 8, 9, 115, 116, 117, 118] (by decide +kernel) (by decide +kernel)
set_option maxRecDepth 20000 in
theorem ggL_law_L_act_wsL_act_r4 : GoodIn wsL_law wsL_act_r4 := goodIn_r _ [119, 120, 121, 122, 27, 123, 124, 125, 126, 127, 128, 129, 130, 131, 132, 133, 134, 26, 135, 136, 137, 138, 139, 140] (by decide +kernel) (by decide +kernel)
set_option maxRecDepth 20000 in
theorem ggL_law_L_act_wsL_act_r5 : GoodIn wsL_law wsL_act_r5 := goodIn_r _ [141, 142, 143, 144, 145, 146, 147, 148, 149, 150, 151, 152, 153, 154, 155, 156, 157, 158, 159, 160, 161, 162, 163, 164] (by decide +kernel) (by decide +kernel)
set_option maxRecDepth 20000 in
theorem ggL_law_L_act_wsL_act_r6 : GoodIn wsL_law wsL_act_r6 := goodIn_r _ [165, 166, 167, 168, 169, 170, 171, 172, 173, 174, 175, 176, 177, 178, 179, 180, 181, 182, 183, 184, 185, 186, 187, 188] (by decide +kernel) (by decide +kernel)
set_option maxRecDepth 20000 in
theorem ggL_law_L_act_wsL_act_r7 : GoodIn wsL_law wsL_act_r7 := goodIn_r _ [189, 190, 191, 192, 193, 194, 195, 196, 197, 198, 199, 200, 201, 202, 203, 204, 205, 206, 207, 208, 209, 210, 211, 212] (by decide +kernel) (by decide +kernel)
set_option maxRecDepth 20000 in
theorem ggL_law_L_act_wsL_act_r8 : GoodIn wsL_law wsL_act_r8 := goodIn_r _ [213, 214, 215, 216, 217, 218, 219, 220, 221, 222, 223, 224, 225, 226, 227, 228, 229, 230, 231, 232, 233, 234, 235, 236] (by decide +kernel) (by decide +kernel)
set_option maxRecDepth 20000 in
theorem ggL_law_L_act_wsL_act_r9 : GoodIn wsL_law wsL_act_r9 := goodIn_r _ [237, 238, 239, 240, 241, 242, 243, 244, 245, 246, 247, 248, 249, 250, 251, 252, 253, 254, 255, 256, 257, 258, 259, 260] (by decide +kernel) (by decide +kernel)
set_option maxRecDepth 20000 in
theorem ggL_law_L_act_wsL_act_r10 : GoodIn wsL_law wsL_act_r10 := goodIn_r _ [261, 262, 263, 264, 265, 266, 267, 268, 269, 270, 271, 272, 273, 274, 275, 276, 277, 278, 279, 280, 281, 282, 283, 284] (by decide +kernel) (by decide +kernel)
set_option maxRecDepth 20000 in
theorem ggL_law_L_act_wsL_act_r11 : GoodIn wsL_law wsL_act_r11 := goodIn_r _ [285, 286, 287, 288, 289, 290, 291, 292, 293, 294, 295, 296, 297, 298, 299, 300, 301, 302, 303, 304, 305, 306, 307, 308] (by decide +kernel) (by decide +kernel)
set_option maxRecDepth 20000 in
theorem ggL_law_L_act_wsL_act_r12 : GoodIn wsL_law wsL_act_r12 := goodIn_r _ [309, 310, 311] (by decide +kernel) (by decide +kernel)
set_option maxRecDepth 20000 in
theorem ggL_law_L_act : GoodIn wsL_law wsL_act := goodIn_ca (goodIn_ca (goodIn_ca ((fun w h => (List.mem_cons.mp h).elim (fun e => ggL_law_L_act_h w (by rw [e]; exact List.mem_cons_self)) (fun h => (goodIn_app (goodIn_app (goodIn_app (goodIn_app (goodIn_app (goodIn_app (goodIn_app ggL_law_L_act_wsL_act_r1 (goodIn_app ggL_law_L_act_wsL_act_r2 (goodIn_app ggL_law_L_act_wsL_act_r3 (goodIn_app ggL_law_L_act_wsL_act_r4 (goodIn_app ggL_law_L_act_wsL_act_r5 (goodIn_app ggL_law_L_act_wsL_act_r6 (goodIn_app ggL_law_L_act_wsL_act_r7 (goodIn_app ggL_law_L_act_wsL_act_r8 (goodIn_app ggL_law_L_act_wsL_act_r9 (goodIn_app ggL_law_L_act_wsL_act_r10 (goodIn_app ggL_law_L_act_wsL_act_r11 ggL_law_L_act_wsL_act_r12))))))))))) (goodIn_sub inlX4 (by decide +kernel))) (goodIn_sub inlJx4a65c (by decide +kernel))) (goodIn_sub inlX2 (by decide +kernel))) (goodIn_sub inlX3 (by decide +kernel))) (goodIn_sub inlX1 (by decide +kernel))) (goodIn_sub inlX0 (by decide +kernel))) w h))) (goodIn_sub (fun _ h => List.mem_append_left _ (List.mem_append_left _ (List.mem_append_right _ h))) (by decide +kernel))) (goodIn_sub (fun _ h => List.mem_append_left _ (List.mem_append_right _ h)) (by decide +kernel))) (goodIn_sub (fun _ h => List.mem_append_right _ h) (by decide +kernel))
set_option maxRecDepth 20000 in
theorem gL_law_L_act : GoodIn wsL_law (va_wsS RL 121 yL_act wsL_act) := goodIn_app (goodIn_of _ (by decide +kernel)) ggL_law_L_act
set_option maxRecDepth 20000 in
theorem ggL_law_L_areAlike : GoodIn wsL_law wsL_areAlike := goodIn_ca (goodIn_r _ [314, 315, 316, 317, 2, 318, 228, 62, 63, 64, 65, 18, 66, 67, 68, 16, 69, 70, 319, 320, 52, 321, 172, 322, 323, 324, 325, 177, 178, 179, 180, 181, 182, 17, 183, 184, 185, 186, 187, 188, 189, 190, 191, 192, 193, 194, 195, 196, 197, 198, 199, 27, 326, 327, 328, 329, 330, 331, 332, 333, 334, 335, 336, 337, 338, 339, 340, 341, 342, 343, 344, 345, 288, 111, 289, 290, 220, 253, 357, 358, 359, 360, 361, 362, 363, 364, 365, 372, 373, 374, 375, 376, 377, 378, 379, 380] (by decide +kernel) (by decide +kernel)) (goodIn_sub (fun _ h => List.mem_append_right _ h) (by decide +kernel))
set_option maxRecDepth 20000 in
theorem gL_law_L_areAlike : GoodIn wsL_law (va_wsS RL 124 yL_areAlike wsL_areAlike) := goodIn_app (goodIn_of _ (by decide +kernel)) ggL_law_L_areAlike
set_option maxRecDepth 20000 in
theorem ggL_law_L_areKeysSo : GoodIn wsL_law wsL_areKeysSo := goodIn_ca (goodIn_r _ [348, 319, 320, 52, 321, 172, 322, 323, 324, 2, 325, 177, 178, 179, 180, 181, 182, 17, 183, 66, 67, 68, 16, 69, 70, 184, 185, 186, 187, 188, 189, 190, 191, 192, 193, 194, 195, 196, 197, 198, 199, 27, 326, 327, 328, 329, 330, 331, 332, 333, 338, 339, 340, 341, 349, 350, 351, 352, 334, 335, 336, 337, 342, 343, 344, 345, 288, 111, 289, 290, 220, 253, 62, 63, 64, 65, 18, 353, 354, 355, 356, 229, 230, 231, 232, 233, 372, 373, 374, 375, 376, 377, 378, 379, 380, 357, 358, 359, 360, 361, 362, 363, 364, 365, 381, 382, 383, 384, 385, 386, 387] (by decide +kernel) (by decide +kernel)) (goodIn_sub (fun _ h => List.mem_append_right _ h) (by decide +kernel))
set_option maxRecDepth 20000 in
theorem gL_law_L_areKeysSo : GoodIn wsL_law (va_wsS RL 128 yL_areKeysSo wsL_areKeysSo) := goodIn_app (goodIn_of _ (by decide +kernel)) ggL_law_L_areKeysSo
set_option maxRecDepth 20000 in
theorem ggL_law_X4_calls : GoodIn wsL_law wsX4_calls := goodIn_r _ [65, 18, 66, 67, 68, 16, 69, 70, 357, 358, 359, 360, 361, 362, 363, 364, 365] (by decide +kernel) (by decide +kernel)
set_option maxRecDepth 20000 in
theorem gL_law_X4_calls : GoodIn wsL_law (wsV RL 60 RX4 yX4_calls wsX4_calls) := goodIn_app (goodIn_of _ (by decide +kernel)) ggL_law_X4_calls
set_option maxRecDepth 20000 in
theorem ggL_law_X4_cost : GoodIn wsL_law wsX4_cost := goodIn_ca (goodIn_r _ [356, 229, 230, 231, 2, 232, 181, 182, 18, 233, 66, 67, 68, 16, 69, 70, 184, 185, 186, 187, 188, 189, 190, 191, 192, 193, 194, 195, 196, 197, 198, 199, 27, 381, 382, 383, 384, 385, 386, 387, 357, 358, 359, 360, 361, 362, 363, 364, 365] (by decide +kernel) (by decide +kernel)) (goodIn_sub (fun _ h => List.mem_append_right _ h) (by decide +kernel))
set_option maxRecDepth 20000 in
theorem gL_law_X4_cost : GoodIn wsL_law (wsV RL 113 RX4 yX4_cost wsX4_cost) := goodIn_app (goodIn_of _ (by decide +kernel)) ggL_law_X4_cost
set_option maxRecDepth 20000 in
theorem ggL_law_X4_pass : GoodIn wsL_law wsX4_pass := goodIn_ca (goodIn_r _ [274, 228, 85, 86, 2, 87, 83, 84, 275, 276, 277, 278, 279, 18, 233, 66, 67, 68, 16, 69, 70, 184, 185, 186, 187, 188, 189, 190, 191, 192, 193, 194, 195, 196, 197, 198, 199, 27, 234, 235, 236, 237, 238, 239, 240, 241, 242, 243, 244, 245, 246, 247, 248, 249, 111, 250, 251, 252, 253, 254, 255, 215, 216, 217, 218, 219, 163, 137, 164, 220, 280, 281, 282, 283, 17, 183, 284, 285, 286, 116, 115, 287, 288, 289, 290, 357, 358, 359, 360, 361, 362, 381, 382, 383, 384, 385, 386, 387, 363, 364, 365, 372, 373, 374, 375, 376, 377, 378, 379, 380, 366, 367, 368, 369] (by decide +kernel) (by decide +kernel)) (goodIn_sub (fun _ h => List.mem_append_left _ (List.mem_append_left _ (List.mem_append_right _ h))) (by decide +kernel))
set_option maxRecDepth 20000 in
theorem gL_law_X4_pass : GoodIn wsL_law (wsV RL 49 RX4 yX4_pass wsX4_pass) := goodIn_app (goodIn_of _ (by decide +kernel)) ggL_law_X4_pass
set_option maxRecDepth 20000 in
theorem ggL_law_L_credit : GoodIn wsL_law wsL_credit := goodIn_ca (goodIn_r _ [321, 172, 322, 323, 324, 2, 325, 177, 178, 179, 180, 181, 182, 17, 183, 66, 67, 68, 16, 69, 70, 184, 185, 186, 187, 188, 189, 190, 191, 192, 193, 194, 195, 196, 197, 198, 199, 27, 372, 373, 374, 375, 376, 377, 378, 379, 380, 357, 358, 359, 360, 361, 362, 363, 364, 365] (by decide +kernel) (by decide +kernel)) (goodIn_sub (fun _ h => List.mem_append_right _ h) (by decide +kernel))
set_option maxRecDepth 20000 in
theorem gL_law_L_credit : GoodIn wsL_law (va_wsS RL 92 yL_credit wsL_credit) := goodIn_app (goodIn_of _ (by decide +kernel)) ggL_law_L_credit
set_option maxRecDepth 20000 in
theorem ggL_law_X4_held : GoodIn wsL_law wsX4_held := goodIn_ca (goodIn_r _ [333, 177, 178, 179, 2, 180, 181, 182, 17, 183, 66, 67, 68, 16, 69, 70, 184, 185, 186, 187, 188, 189, 190, 191, 192, 193, 194, 195, 196, 197, 198, 199, 27, 372, 373, 374, 375, 376, 377, 378, 379, 380, 357, 358, 359, 360, 361, 362, 363, 364, 365] (by decide +kernel) (by decide +kernel)) (goodIn_sub (fun _ h => List.mem_append_right _ h) (by decide +kernel))
set_option maxRecDepth 20000 in
theorem gL_law_X4_held : GoodIn wsL_law (wsV RL 97 RX4 yX4_held wsX4_held) := goodIn_app (goodIn_of _ (by decide +kernel)) ggL_law_X4_held
