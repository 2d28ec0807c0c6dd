theorem dX1_nearestRoot_76 : decode cX1_nearestRoot 76 = .ok (.lload_n 1, 1) := by decide +kernel
theorem dX1_nearestRoot_77 : decode cX1_nearestRoot 77 = .ok (.lcmp, 1) := by decide +kernel
theorem dX1_nearestRoot_78 : decode cX1_nearestRoot 78 = .ok (.ifCond .le 7, 3) := by decide +kernel
theorem dX1_nearestRoot_81 : decode cX1_nearestRoot 81 = .ok (.lload_n 1, 1) := by decide +kernel
theorem dX1_nearestRoot_82 : decode cX1_nearestRoot 82 = .ok (.lconst 1, 1) := by decide +kernel
theorem dX1_nearestRoot_83 : decode cX1_nearestRoot 83 = .ok (.ladd, 1) := by decide +kernel
theorem dX1_nearestRoot_84 : decode cX1_nearestRoot 84 = .ok (.lstore_n 1, 1) := by decide +kernel
theorem dX1_nearestRoot_85 : decode cX1_nearestRoot 85 = .ok (.lload_n 1, 1) := by decide +kernel
theorem dX1_nearestRoot_86 : decode cX1_nearestRoot 86 = .ok (.iload 5, 2) := by decide +kernel
theorem dX1_nearestRoot_88 : decode cX1_nearestRoot 88 = .ok (.ineg, 1) := by decide +kernel
theorem dX1_nearestRoot_89 : decode cX1_nearestRoot 89 = .ok (.invokestatic 91, 3) := by decide +kernel
theorem dX1_nearestRoot_92 : decode cX1_nearestRoot 92 = .ok (.lreturn, 1) := by decide +kernel
set_option maxRecDepth 20000 in
theorem ggX1_nearestSquare_X1_lengthOf : GoodIn wsX1_nearestSquare wsX1_lengthOf := goodIn_r _ [9, 2] (by decide +kernel) (by decide +kernel)
set_option maxRecDepth 20000 in
theorem gX1_nearestSquare_X1_lengthOf : GoodIn wsX1_nearestSquare (va_wsS RX1 45 yX1_lengthOf wsX1_lengthOf) := goodIn_app (goodIn_of _ (by decide +kernel)) ggX1_nearestSquare_X1_lengthOf
set_option maxRecDepth 20000 in
theorem ggX1_nearestSquare_X1_bitsOf : GoodIn wsX1_nearestSquare wsX1_bitsOf := goodIn_r _ [12, 13, 6, 7, 8, 9, 2] (by decide +kernel) (by decide +kernel)
set_option maxRecDepth 20000 in
theorem gX1_nearestSquare_X1_bitsOf : GoodIn wsX1_nearestSquare (va_wsS RX1 91 yX1_bitsOf wsX1_bitsOf) := goodIn_app (goodIn_of _ (by decide +kernel)) ggX1_nearestSquare_X1_bitsOf
theorem dX1_nearestSquare_0 : decode cX1_nearestSquare 0 = .ok (.lload_n 0, 1) := by decide +kernel
theorem dX1_nearestSquare_1 : decode cX1_nearestSquare 1 = .ok (.lconst 0, 1) := by decide +kernel
theorem dX1_nearestSquare_2 : decode cX1_nearestSquare 2 = .ok (.lcmp, 1) := by decide +kernel
theorem dX1_nearestSquare_3 : decode cX1_nearestSquare 3 = .ok (.ifCond .ne 5, 3) := by decide +kernel
theorem dX1_nearestSquare_6 : decode cX1_nearestSquare 6 = .ok (.lconst 0, 1) := by decide +kernel
theorem dX1_nearestSquare_7 : decode cX1_nearestSquare 7 = .ok (.lreturn, 1) := by decide +kernel
theorem dX1_nearestSquare_8 : decode cX1_nearestSquare 8 = .ok (.bipush 53, 2) := by decide +kernel
theorem dX1_nearestSquare_10 : decode cX1_nearestSquare 10 = .ok (.lload_n 0, 1) := by decide +kernel
theorem dX1_nearestSquare_11 : decode cX1_nearestSquare 11 = .ok (.invokestatic 45, 3) := by decide +kernel
theorem dX1_nearestSquare_14 : decode cX1_nearestSquare 14 = .ok (.isub, 1) := by decide +kernel
theorem dX1_nearestSquare_15 : decode cX1_nearestSquare 15 = .ok (.istore_n 3, 1) := by decide +kernel
theorem dX1_nearestSquare_16 : decode cX1_nearestSquare 16 = .ok (.lload_n 0, 1) := by decide +kernel
theorem dX1_nearestSquare_17 : decode cX1_nearestSquare 17 = .ok (.iload_n 3, 1) := by decide +kernel
theorem dX1_nearestSquare_18 : decode cX1_nearestSquare 18 = .ok (.lshl, 1) := by decide +kernel
theorem dX1_nearestSquare_19 : decode cX1_nearestSquare 19 = .ok (.lstore 4, 2) := by decide +kernel
theorem dX1_nearestSquare_21 : decode cX1_nearestSquare 21 = .ok (.lload 4, 2) := by decide +kernel
theorem dX1_nearestSquare_23 : decode cX1_nearestSquare 23 = .ok (.bipush 27, 2) := by decide +kernel
theorem dX1_nearestSquare_25 : decode cX1_nearestSquare 25 = .ok (.lshr, 1) := by decide +kernel
theorem dX1_nearestSquare_26 : decode cX1_nearestSquare 26 = .ok (.lstore 6, 2) := by decide +kernel
theorem dX1_nearestSquare_28 : decode cX1_nearestSquare 28 = .ok (.lload 4, 2) := by decide +kernel
theorem dX1_nearestSquare_30 : decode cX1_nearestSquare 30 = .ok (.ldc2_w 131, 3) := by decide +kernel
theorem dX1_nearestSquare_33 : decode cX1_nearestSquare 33 = .ok (.lrem, 1) := by decide +kernel
theorem dX1_nearestSquare_34 : decode cX1_nearestSquare 34 = .ok (.lstore 8, 2) := by decide +kernel
theorem dX1_nearestSquare_36 : decode cX1_nearestSquare 36 = .ok (.ldc2_w 43, 3) := by decide +kernel
theorem dX1_nearestSquare_39 : decode cX1_nearestSquare 39 = .ok (.lload 6, 2) := by decide +kernel
theorem dX1_nearestSquare_41 : decode cX1_nearestSquare 41 = .ok (.lmul, 1) := by decide +kernel
theorem dX1_nearestSquare_42 : decode cX1_nearestSquare 42 = .ok (.lload 8, 2) := by decide +kernel
theorem dX1_nearestSquare_44 : decode cX1_nearestSquare 44 = .ok (.lmul, 1) := by decide +kernel
theorem dX1_nearestSquare_45 : decode cX1_nearestSquare 45 = .ok (.lstore 10, 2) := by decide +kernel
theorem dX1_nearestSquare_47 : decode cX1_nearestSquare 47 = .ok (.lload 8, 2) := by decide +kernel
theorem dX1_nearestSquare_49 : decode cX1_nearestSquare 49 = .ok (.lload 8, 2) := by decide +kernel
theorem dX1_nearestSquare_51 : decode cX1_nearestSquare 51 = .ok (.lmul, 1) := by decide +kernel
theorem dX1_nearestSquare_52 : decode cX1_nearestSquare 52 = .ok (.lload 10, 2) := by decide +kernel
theorem dX1_nearestSquare_54 : decode cX1_nearestSquare 54 = .ok (.ldc2_w 131, 3) := by decide +kernel
theorem dX1_nearestSquare_57 : decode cX1_nearestSquare 57 = .ok (.lrem, 1) := by decide +kernel
theorem dX1_nearestSquare_58 : decode cX1_nearestSquare 58 = .ok (.bipush 27, 2) := by decide +kernel
theorem dX1_nearestSquare_60 : decode cX1_nearestSquare 60 = .ok (.lshl, 1) := by decide +kernel
theorem dX1_nearestSquare_61 : decode cX1_nearestSquare 61 = .ok (.ladd, 1) := by decide +kernel
theorem dX1_nearestSquare_62 : decode cX1_nearestSquare 62 = .ok (.lstore 12, 2) := by decide +kernel
theorem dX1_nearestSquare_64 : decode cX1_nearestSquare 64 = .ok (.lload 6, 2) := by decide +kernel
theorem dX1_nearestSquare_66 : decode cX1_nearestSquare 66 = .ok (.lload 6, 2) := by decide +kernel
theorem dX1_nearestSquare_68 : decode cX1_nearestSquare 68 = .ok (.lmul, 1) := by decide +kernel
theorem dX1_nearestSquare_69 : decode cX1_nearestSquare 69 = .ok (.lload 10, 2) := by decide +kernel
theorem dX1_nearestSquare_71 : decode cX1_nearestSquare 71 = .ok (.bipush 27, 2) := by decide +kernel
theorem dX1_nearestSquare_73 : decode cX1_nearestSquare 73 = .ok (.lshr, 1) := by decide +kernel
theorem dX1_nearestSquare_74 : decode cX1_nearestSquare 74 = .ok (.ladd, 1) := by decide +kernel
theorem dX1_nearestSquare_75 : decode cX1_nearestSquare 75 = .ok (.lload 12, 2) := by decide +kernel
theorem dX1_nearestSquare_77 : decode cX1_nearestSquare 77 = .ok (.bipush 54, 2) := by decide +kernel
theorem dX1_nearestSquare_79 : decode cX1_nearestSquare 79 = .ok (.lshr, 1) := by decide +kernel
theorem dX1_nearestSquare_80 : decode cX1_nearestSquare 80 = .ok (.ladd, 1) := by decide +kernel
theorem dX1_nearestSquare_81 : decode cX1_nearestSquare 81 = .ok (.lstore 14, 2) := by decide +kernel
theorem dX1_nearestSquare_83 : decode cX1_nearestSquare 83 = .ok (.lload 12, 2) := by decide +kernel
theorem dX1_nearestSquare_85 : decode cX1_nearestSquare 85 = .ok (.ldc2_w 133, 3) := by decide +kernel
theorem dX1_nearestSquare_88 : decode cX1_nearestSquare 88 = .ok (.lrem, 1) := by decide +kernel
theorem dX1_nearestSquare_89 : decode cX1_nearestSquare 89 = .ok (.lstore 12, 2) := by decide +kernel
theorem dX1_nearestSquare_91 : decode cX1_nearestSquare 91 = .ok (.lload 14, 2) := by decide +kernel
theorem dX1_nearestSquare_93 : decode cX1_nearestSquare 93 = .ok (.ldc2_w 135, 3) := by decide +kernel
theorem dX1_nearestSquare_96 : decode cX1_nearestSquare 96 = .ok (.lcmp, 1) := by decide +kernel
theorem dX1_nearestSquare_97 : decode cX1_nearestSquare 97 = .ok (.ifCond .lt 8, 3) := by decide +kernel
theorem dX1_nearestSquare_100 : decode cX1_nearestSquare 100 = .ok (.bipush 53, 2) := by decide +kernel
theorem dX1_nearestSquare_102 : decode cX1_nearestSquare 102 = .ok (.goto 5, 3) := by decide +kernel
theorem dX1_nearestSquare_105 : decode cX1_nearestSquare 105 = .ok (.bipush 52, 2) := by decide +kernel
theorem dX1_nearestSquare_107 : decode cX1_nearestSquare 107 = .ok (.istore 16, 2) := by decide +kernel
theorem dX1_nearestSquare_109 : decode cX1_nearestSquare 109 = .ok (.lconst 1, 1) := by decide +kernel
theorem dX1_nearestSquare_110 : decode cX1_nearestSquare 110 = .ok (.iload 16, 2) := by decide +kernel
theorem dX1_nearestSquare_112 : decode cX1_nearestSquare 112 = .ok (.iconst 1, 1) := by decide +kernel
theorem dX1_nearestSquare_113 : decode cX1_nearestSquare 113 = .ok (.isub, 1) := by decide +kernel
theorem dX1_nearestSquare_114 : decode cX1_nearestSquare 114 = .ok (.lshl, 1) := by decide +kernel
theorem dX1_nearestSquare_115 : decode cX1_nearestSquare 115 = .ok (.lstore 17, 2) := by decide +kernel
theorem dX1_nearestSquare_117 : decode cX1_nearestSquare 117 = .ok (.lload 14, 2) := by decide +kernel
theorem dX1_nearestSquare_119 : decode cX1_nearestSquare 119 = .ok (.bipush 54, 2) := by decide +kernel
theorem dX1_nearestSquare_121 : decode cX1_nearestSquare 121 = .ok (.iload 16, 2) := by decide +kernel
theorem dX1_nearestSquare_123 : decode cX1_nearestSquare 123 = .ok (.isub, 1) := by decide +kernel
theorem dX1_nearestSquare_124 : decode cX1_nearestSquare 124 = .ok (.lshl, 1) := by decide +kernel
theorem dX1_nearestSquare_125 : decode cX1_nearestSquare 125 = .ok (.lload 12, 2) := by decide +kernel
theorem dX1_nearestSquare_127 : decode cX1_nearestSquare 127 = .ok (.iload 16, 2) := by decide +kernel
theorem dX1_nearestSquare_129 : decode cX1_nearestSquare 129 = .ok (.lshr, 1) := by decide +kernel
theorem dX1_nearestSquare_130 : decode cX1_nearestSquare 130 = .ok (.ladd, 1) := by decide +kernel
theorem dX1_nearestSquare_131 : decode cX1_nearestSquare 131 = .ok (.lstore 19, 2) := by decide +kernel
theorem dX1_nearestSquare_133 : decode cX1_nearestSquare 133 = .ok (.lload 12, 2) := by decide +kernel
theorem dX1_nearestSquare_135 : decode cX1_nearestSquare 135 = .ok (.lload 17, 2) := by decide +kernel
theorem dX1_nearestSquare_137 : decode cX1_nearestSquare 137 = .ok (.ldc2_w 43, 3) := by decide +kernel
theorem dX1_nearestSquare_140 : decode cX1_nearestSquare 140 = .ok (.lmul, 1) := by decide +kernel
theorem dX1_nearestSquare_141 : decode cX1_nearestSquare 141 = .ok (.lrem, 1) := by decide +kernel
theorem dX1_nearestSquare_142 : decode cX1_nearestSquare 142 = .ok (.lstore 21, 2) := by decide +kernel
theorem dX1_nearestSquare_144 : decode cX1_nearestSquare 144 = .ok (.lload 21, 2) := by decide +kernel
theorem dX1_nearestSquare_146 : decode cX1_nearestSquare 146 = .ok (.lload 17, 2) := by decide +kernel
theorem dX1_nearestSquare_148 : decode cX1_nearestSquare 148 = .ok (.lcmp, 1) := by decide +kernel
theorem dX1_nearestSquare_149 : decode cX1_nearestSquare 149 = .ok (.ifCond .gt 22, 3) := by decide +kernel
theorem dX1_nearestSquare_152 : decode cX1_nearestSquare 152 = .ok (.lload 21, 2) := by decide +kernel
theorem dX1_nearestSquare_154 : decode cX1_nearestSquare 154 = .ok (.lload 17, 2) := by decide +kernel
theorem dX1_nearestSquare_156 : decode cX1_nearestSquare 156 = .ok (.lcmp, 1) := by decide +kernel
theorem dX1_nearestSquare_157 : decode cX1_nearestSquare 157 = .ok (.ifCond .ne 20, 3) := by decide +kernel
theorem dX1_nearestSquare_160 : decode cX1_nearestSquare 160 = .ok (.lload 19, 2) := by decide +kernel
theorem dX1_nearestSquare_162 : decode cX1_nearestSquare 162 = .ok (.ldc2_w 43, 3) := by decide +kernel
theorem dX1_nearestSquare_165 : decode cX1_nearestSquare 165 = .ok (.lrem, 1) := by decide +kernel
theorem dX1_nearestSquare_166 : decode cX1_nearestSquare 166 = .ok (.lconst 1, 1) := by decide +kernel
theorem dX1_nearestSquare_167 : decode cX1_nearestSquare 167 = .ok (.lcmp, 1) := by decide +kernel
theorem dX1_nearestSquare_168 : decode cX1_nearestSquare 168 = .ok (.ifCond .ne 9, 3) := by decide +kernel
theorem dX1_nearestSquare_171 : decode cX1_nearestSquare 171 = .ok (.lload 19, 2) := by decide +kernel
theorem dX1_nearestSquare_173 : decode cX1_nearestSquare 173 = .ok (.lconst 1, 1) := by decide +kernel
theorem dX1_nearestSquare_174 : decode cX1_nearestSquare 174 = .ok (.ladd, 1) := by decide +kernel
theorem dX1_nearestSquare_175 : decode cX1_nearestSquare 175 = .ok (.lstore 19, 2) := by decide +kernel
theorem dX1_nearestSquare_177 : decode cX1_nearestSquare 177 = .ok (.iconst 2, 1) := by decide +kernel
theorem dX1_nearestSquare_178 : decode cX1_nearestSquare 178 = .ok (.iload_n 2, 1) := by decide +kernel
theorem dX1_nearestSquare_179 : decode cX1_nearestSquare 179 = .ok (.iload_n 3, 1) := by decide +kernel
theorem dX1_nearestSquare_180 : decode cX1_nearestSquare 180 = .ok (.isub, 1) := by decide +kernel
theorem dX1_nearestSquare_181 : decode cX1_nearestSquare 181 = .ok (.imul, 1) := by decide +kernel
theorem dX1_nearestSquare_182 : decode cX1_nearestSquare 182 = .ok (.iload 16, 2) := by decide +kernel
theorem dX1_nearestSquare_184 : decode cX1_nearestSquare 184 = .ok (.iadd, 1) := by decide +kernel
theorem dX1_nearestSquare_185 : decode cX1_nearestSquare 185 = .ok (.istore 23, 2) := by decide +kernel
theorem dX1_nearestSquare_187 : decode cX1_nearestSquare 187 = .ok (.lload 19, 2) := by decide +kernel
theorem dX1_nearestSquare_189 : decode cX1_nearestSquare 189 = .ok (.ldc2_w 137, 3) := by decide +kernel
theorem dX1_nearestSquare_192 : decode cX1_nearestSquare 192 = .ok (.lcmp, 1) := by decide +kernel
theorem dX1_nearestSquare_193 : decode cX1_nearestSquare 193 = .ok (.ifCond .ne 17, 3) := by decide +kernel
theorem dX1_nearestSquare_196 : decode cX1_nearestSquare 196 = .ok (.lload 19, 2) := by decide +kernel
theorem dX1_nearestSquare_198 : decode cX1_nearestSquare 198 = .ok (.ldc2_w 43, 3) := by decide +kernel
theorem dX1_nearestSquare_201 : decode cX1_nearestSquare 201 = .ok (.ldiv, 1) := by decide +kernel
theorem dX1_nearestSquare_202 : decode cX1_nearestSquare 202 = .ok (.lstore 19, 2) := by decide +kernel
theorem dX1_nearestSquare_204 : decode cX1_nearestSquare 204 = .ok (.iload 23, 2) := by decide +kernel
theorem dX1_nearestSquare_206 : decode cX1_nearestSquare 206 = .ok (.iconst 1, 1) := by decide +kernel
theorem dX1_nearestSquare_207 : decode cX1_nearestSquare 207 = .ok (.iadd, 1) := by decide +kernel
theorem dX1_nearestSquare_208 : decode cX1_nearestSquare 208 = .ok (.istore 23, 2) := by decide +kernel
theorem dX1_nearestSquare_210 : decode cX1_nearestSquare 210 = .ok (.lload 19, 2) := by decide +kernel
theorem dX1_nearestSquare_212 : decode cX1_nearestSquare 212 = .ok (.iload 23, 2) := by decide +kernel
theorem dX1_nearestSquare_214 : decode cX1_nearestSquare 214 = .ok (.invokestatic 91, 3) := by decide +kernel
theorem dX1_nearestSquare_217 : decode cX1_nearestSquare 217 = .ok (.lreturn, 1) := by decide +kernel
set_option maxRecDepth 20000 in
theorem ggX1_square_X1_nearestSquare : GoodIn wsX1_square wsX1_nearestSquare := goodIn_ca (goodIn_r _ [5, 6, 7, 8, 9, 10, 11, 12, 4, 13, 14, 15, 16, 1] (by decide +kernel) (by decide +kernel)) (goodIn_sub (fun _ h => List.mem_cons_of_mem _ (List.mem_append_right _ h)) (by decide +kernel))
set_option maxRecDepth 20000 in
theorem gX1_square_X1_nearestSquare : GoodIn wsX1_square (va_wsS RX1 139 yX1_nearestSquare wsX1_nearestSquare) := goodIn_app (goodIn_of _ (by decide +kernel)) ggX1_square_X1_nearestSquare
theorem dX1_square_0 : decode cX1_square 0 = .ok (.lload_n 0, 1) := by decide +kernel
theorem dX1_square_1 : decode cX1_square 1 = .ok (.lconst 0, 1) := by decide +kernel
theorem dX1_square_2 : decode cX1_square 2 = .ok (.lcmp, 1) := by decide +kernel
theorem dX1_square_3 : decode cX1_square 3 = .ok (.ifCond .ne 7, 3) := by decide +kernel
theorem dX1_square_6 : decode cX1_square 6 = .ok (.lconst 0, 1) := by decide +kernel
theorem dX1_square_7 : decode cX1_square 7 = .ok (.goto 25, 3) := by decide +kernel
theorem dX1_square_10 : decode cX1_square 10 = .ok (.lload_n 0, 1) := by decide +kernel
theorem dX1_square_11 : decode cX1_square 11 = .ok (.ldc2_w 49, 3) := by decide +kernel
theorem dX1_square_14 : decode cX1_square 14 = .ok (.lrem, 1) := by decide +kernel
theorem dX1_square_15 : decode cX1_square 15 = .ok (.ldc2_w 49, 3) := by decide +kernel
theorem dX1_square_18 : decode cX1_square 18 = .ok (.ladd, 1) := by decide +kernel
theorem dX1_square_19 : decode cX1_square 19 = .ok (.lload_n 0, 1) := by decide +kernel
theorem dX1_square_20 : decode cX1_square 20 = .ok (.ldc2_w 49, 3) := by decide +kernel
theorem dX1_square_23 : decode cX1_square 23 = .ok (.ldiv, 1) := by decide +kernel
theorem dX1_square_24 : decode cX1_square 24 = .ok (.l2i, 1) := by decide +kernel
theorem dX1_square_25 : decode cX1_square 25 = .ok (.sipush 1075, 3) := by decide +kernel
theorem dX1_square_28 : decode cX1_square 28 = .ok (.isub, 1) := by decide +kernel
theorem dX1_square_29 : decode cX1_square 29 = .ok (.invokestatic 139, 3) := by decide +kernel
theorem dX1_square_32 : decode cX1_square 32 = .ok (.lreturn, 1) := by decide +kernel
set_option maxRecDepth 20000 in
theorem ggX1_rootBits_X1_isFrom : GoodIn wsX1_rootBits wsX1_isFrom := goodIn_r _ [4] (by decide +kernel) (by decide +kernel)
set_option maxRecDepth 20000 in
theorem gX1_rootBits_X1_isFrom : GoodIn wsX1_rootBits (va_wsS RX1 39 yX1_isFrom wsX1_isFrom) := goodIn_app (goodIn_of _ (by decide +kernel)) ggX1_rootBits_X1_isFrom
set_option maxRecDepth 20000 in
theorem ggX1_rootBits_X1_no : GoodIn wsX1_rootBits wsX1_no := goodIn_r _ [8, 9, 25, 26, 27, 28, 29, 30, 31, 32, 33, 34, 35, 36] (by decide +kernel) (by decide +kernel)
set_option maxRecDepth 20000 in
theorem gX1_rootBits_X1_no : GoodIn wsX1_rootBits (wsV RX1 74 RX1 yX1_no wsX1_no) := goodIn_app (goodIn_of _ (by decide +kernel)) ggX1_rootBits_X1_no
set_option maxRecDepth 20000 in
theorem ggX1_rootBits_X1_nearestRoot : GoodIn wsX1_rootBits wsX1_nearestRoot := goodIn_r _ [12, 13, 14, 15, 16, 3, 17, 18, 19, 20, 21, 22, 23, 24] (by decide +kernel) (by decide +kernel)
set_option maxRecDepth 20000 in
theorem gX1_rootBits_X1_nearestRoot : GoodIn wsX1_rootBits (va_wsS RX1 142 yX1_nearestRoot wsX1_nearestRoot) := goodIn_app (goodIn_of _ (by decide +kernel)) ggX1_rootBits_X1_nearestRoot
theorem dX1_rootBits_0 : decode cX1_rootBits 0 = .ok (.aload_n 0, 1) := by decide +kernel
theorem dX1_rootBits_1 : decode cX1_rootBits 1 = .ok (.iload_n 1, 1) := by decide +kernel
theorem dX1_rootBits_2 : decode cX1_rootBits 2 = .ok (.iconst 0, 1) := by decide +kernel
theorem dX1_rootBits_3 : decode cX1_rootBits 3 = .ok (.sipush 4095, 3) := by decide +kernel
theorem dX1_rootBits_6 : decode cX1_rootBits 6 = .ok (.invokestatic 39, 3) := by decide +kernel
theorem dX1_rootBits_9 : decode cX1_rootBits 9 = .ok (.iconst 1, 1) := by decide +kernel
theorem dX1_rootBits_10 : decode cX1_rootBits 10 = .ok (.invokevirtual 74, 3) := by decide +kernel
theorem dX1_rootBits_13 : decode cX1_rootBits 13 = .ok (.ifCond .eq 7, 3) := by decide +kernel
theorem dX1_rootBits_16 : decode cX1_rootBits 16 = .ok (.lconst 0, 1) := by decide +kernel
theorem dX1_rootBits_17 : decode cX1_rootBits 17 = .ok (.goto 7, 3) := by decide +kernel
theorem dX1_rootBits_20 : decode cX1_rootBits 20 = .ok (.iload_n 1, 1) := by decide +kernel
theorem dX1_rootBits_21 : decode cX1_rootBits 21 = .ok (.invokestatic 142, 3) := by decide +kernel
theorem dX1_rootBits_24 : decode cX1_rootBits 24 = .ok (.lreturn, 1) := by decide +kernel
set_option maxRecDepth 20000 in
theorem ggX1_isRoot_X1_isFrom : GoodIn wsX1_isRoot wsX1_isFrom := goodIn_r _ [4] (by decide +kernel) (by decide +kernel)
set_option maxRecDepth 20000 in
theorem gX1_isRoot_X1_isFrom : GoodIn wsX1_isRoot (va_wsS RX1 39 yX1_isFrom wsX1_isFrom) := goodIn_app (goodIn_of _ (by decide +kernel)) ggX1_isRoot_X1_isFrom
set_option maxRecDepth 20000 in
theorem ggX1_isRoot_X1_no : GoodIn wsX1_isRoot wsX1_no := goodIn_r _ [8, 9, 10, 11, 12, 13, 14, 15, 16, 17, 18, 19, 20, 21] (by decide +kernel) (by decide +kernel)
set_option maxRecDepth 20000 in
theorem gX1_isRoot_X1_no : GoodIn wsX1_isRoot (wsV RX1 74 RX1 yX1_no wsX1_no) := goodIn_app (goodIn_of _ (by decide +kernel)) ggX1_isRoot_X1_no
theorem dX1_isRoot_0 : decode cX1_isRoot 0 = .ok (.aload_n 0, 1) := by decide +kernel
theorem dX1_isRoot_1 : decode cX1_isRoot 1 = .ok (.iload_n 1, 1) := by decide +kernel
theorem dX1_isRoot_2 : decode cX1_isRoot 2 = .ok (.iconst 0, 1) := by decide +kernel
theorem dX1_isRoot_3 : decode cX1_isRoot 3 = .ok (.sipush 4095, 3) := by decide +kernel
theorem dX1_isRoot_6 : decode cX1_isRoot 6 = .ok (.invokestatic 39, 3) := by decide +kernel
theorem dX1_isRoot_9 : decode cX1_isRoot 9 = .ok (.iconst 1, 1) := by decide +kernel
theorem dX1_isRoot_10 : decode cX1_isRoot 10 = .ok (.invokevirtual 74, 3) := by decide +kernel
theorem dX1_isRoot_13 : decode cX1_isRoot 13 = .ok (.ifCond .ne 7, 3) := by decide +kernel
theorem dX1_isRoot_16 : decode cX1_isRoot 16 = .ok (.iconst 1, 1) := by decide +kernel
theorem dX1_isRoot_17 : decode cX1_isRoot 17 = .ok (.goto 4, 3) := by decide +kernel
theorem dX1_isRoot_20 : decode cX1_isRoot 20 = .ok (.iconst 0, 1) := by decide +kernel
theorem dX1_isRoot_21 : decode cX1_isRoot 21 = .ok (.ireturn, 1) := by decide +kernel
set_option maxRecDepth 20000 in
theorem ggX1_rootAt_X1_isFrom : GoodIn wsX1_rootAt wsX1_isFrom := goodIn_r _ [4] (by decide +kernel) (by decide +kernel)
set_option maxRecDepth 20000 in
theorem gX1_rootAt_X1_isFrom : GoodIn wsX1_rootAt (va_wsS RX1 39 yX1_isFrom wsX1_isFrom) := goodIn_app (goodIn_of _ (by decide +kernel)) ggX1_rootAt_X1_isFrom
set_option maxRecDepth 20000 in
theorem ggX1_rootAt_X1_no : GoodIn wsX1_rootAt wsX1_no := goodIn_r _ [8, 9, 13, 14, 15, 16, 17, 18, 19, 20, 21, 22, 23, 24] (by decide +kernel) (by decide +kernel)
set_option maxRecDepth 20000 in
theorem gX1_rootAt_X1_no : GoodIn wsX1_rootAt (wsV RX1 74 RX1 yX1_no wsX1_no) := goodIn_app (goodIn_of _ (by decide +kernel)) ggX1_rootAt_X1_no
set_option maxRecDepth 20000 in
theorem ggX1_rootAt_X1_rootOf : GoodIn wsX1_rootAt wsX1_rootOf := goodIn_r _ [12] (by decide +kernel) (by decide +kernel)
set_option maxRecDepth 20000 in
theorem gX1_rootAt_X1_rootOf : GoodIn wsX1_rootAt (va_wsS RX1 125 yX1_rootOf wsX1_rootOf) := goodIn_app (goodIn_of _ (by decide +kernel)) ggX1_rootAt_X1_rootOf
theorem dX1_rootAt_0 : decode cX1_rootAt 0 = .ok (.aload_n 0, 1) := by decide +kernel
theorem dX1_rootAt_1 : decode cX1_rootAt 1 = .ok (.iload_n 1, 1) := by decide +kernel
theorem dX1_rootAt_2 : decode cX1_rootAt 2 = .ok (.iconst 0, 1) := by decide +kernel
theorem dX1_rootAt_3 : decode cX1_rootAt 3 = .ok (.sipush 4095, 3) := by decide +kernel
theorem dX1_rootAt_6 : decode cX1_rootAt 6 = .ok (.invokestatic 39, 3) := by decide +kernel
theorem dX1_rootAt_9 : decode cX1_rootAt 9 = .ok (.ifCond .eq 17, 3) := by decide +kernel
theorem dX1_rootAt_12 : decode cX1_rootAt 12 = .ok (.iload_n 2, 1) := by decide +kernel
theorem dX1_rootAt_13 : decode cX1_rootAt 13 = .ok (.iconst 0, 1) := by decide +kernel
theorem dX1_rootAt_14 : decode cX1_rootAt 14 = .ok (.bipush 16, 2) := by decide +kernel
theorem dX1_rootAt_16 : decode cX1_rootAt 16 = .ok (.invokestatic 39, 3) := by decide +kernel
theorem dX1_rootAt_19 : decode cX1_rootAt 19 = .ok (.ifCond .eq 7, 3) := by decide +kernel
theorem dX1_rootAt_22 : decode cX1_rootAt 22 = .ok (.iconst 1, 1) := by decide +kernel
theorem dX1_rootAt_23 : decode cX1_rootAt 23 = .ok (.goto 4, 3) := by decide +kernel
theorem dX1_rootAt_26 : decode cX1_rootAt 26 = .ok (.iconst 0, 1) := by decide +kernel
theorem dX1_rootAt_27 : decode cX1_rootAt 27 = .ok (.iconst 1, 1) := by decide +kernel
theorem dX1_rootAt_28 : decode cX1_rootAt 28 = .ok (.invokevirtual 74, 3) := by decide +kernel
theorem dX1_rootAt_31 : decode cX1_rootAt 31 = .ok (.ifCond .eq 7, 3) := by decide +kernel
theorem dX1_rootAt_34 : decode cX1_rootAt 34 = .ok (.lconst 0, 1) := by decide +kernel
theorem dX1_rootAt_35 : decode cX1_rootAt 35 = .ok (.goto 12, 3) := by decide +kernel
theorem dX1_rootAt_38 : decode cX1_rootAt 38 = .ok (.iload_n 1, 1) := by decide +kernel
theorem dX1_rootAt_39 : decode cX1_rootAt 39 = .ok (.i2l, 1) := by decide +kernel
theorem dX1_rootAt_40 : decode cX1_rootAt 40 = .ok (.iconst 2, 1) := by decide +kernel
theorem dX1_rootAt_41 : decode cX1_rootAt 41 = .ok (.iload_n 2, 1) := by decide +kernel
theorem dX1_rootAt_42 : decode cX1_rootAt 42 = .ok (.imul, 1) := by decide +kernel
theorem dX1_rootAt_43 : decode cX1_rootAt 43 = .ok (.lshl, 1) := by decide +kernel
theorem dX1_rootAt_44 : decode cX1_rootAt 44 = .ok (.invokestatic 125, 3) := by decide +kernel
theorem dX1_rootAt_47 : decode cX1_rootAt 47 = .ok (.lreturn, 1) := by decide +kernel
set_option maxRecDepth 20000 in
theorem ggX1_backBits_X1_isFrom : GoodIn wsX1_backBits wsX1_isFrom := goodIn_r _ [4] (by decide +kernel) (by decide +kernel)
set_option maxRecDepth 20000 in
theorem gX1_backBits_X1_isFrom : GoodIn wsX1_backBits (va_wsS RX1 39 yX1_isFrom wsX1_isFrom) := goodIn_app (goodIn_of _ (by decide +kernel)) ggX1_backBits_X1_isFrom
set_option maxRecDepth 20000 in
theorem ggX1_backBits_X1_no : GoodIn wsX1_backBits wsX1_no := goodIn_r _ [8, 9, 35, 36, 37, 38, 39, 40, 41, 42, 43, 44, 45, 46] (by decide +kernel) (by decide +kernel)
set_option maxRecDepth 20000 in
theorem gX1_backBits_X1_no : GoodIn wsX1_backBits (wsV RX1 74 RX1 yX1_no wsX1_no) := goodIn_app (goodIn_of _ (by decide +kernel)) ggX1_backBits_X1_no
set_option maxRecDepth 20000 in
theorem ggX1_backBits_X1_nearestRoot : GoodIn wsX1_backBits wsX1_nearestRoot := goodIn_r _ [12, 13, 14, 15, 16, 3, 17, 18, 19, 20, 21, 22, 23, 24] (by decide +kernel) (by decide +kernel)
set_option maxRecDepth 20000 in
theorem gX1_backBits_X1_nearestRoot : GoodIn wsX1_backBits (va_wsS RX1 142 yX1_nearestRoot wsX1_nearestRoot) := goodIn_app (goodIn_of _ (by decide +kernel)) ggX1_backBits_X1_nearestRoot
set_option maxRecDepth 20000 in
theorem ggX1_backBits_X1_square : GoodIn wsX1_backBits wsX1_square := goodIn_ca (goodIn_r _ [27, 24, 28, 29, 3, 30, 31, 14, 32, 33, 34, 18, 19, 20, 21, 22, 23] (by decide +kernel) (by decide +kernel)) (goodIn_sub (fun _ h => List.mem_cons_of_mem _ (List.mem_append_right _ h)) (by decide +kernel))
set_option maxRecDepth 20000 in
theorem gX1_backBits_X1_square : GoodIn wsX1_backBits (va_wsS RX1 145 yX1_square wsX1_square) := goodIn_app (goodIn_of _ (by decide +kernel)) ggX1_backBits_X1_square
theorem dX1_backBits_0 : decode cX1_backBits 0 = .ok (.aload_n 0, 1) := by decide +kernel
theorem dX1_backBits_1 : decode cX1_backBits 1 = .ok (.iload_n 1, 1) := by decide +kernel
theorem dX1_backBits_2 : decode cX1_backBits 2 = .ok (.iconst 0, 1) := by decide +kernel
theorem dX1_backBits_3 : decode cX1_backBits 3 = .ok (.sipush 4095, 3) := by decide +kernel
theorem dX1_backBits_6 : decode cX1_backBits 6 = .ok (.invokestatic 39, 3) := by decide +kernel
theorem dX1_backBits_9 : decode cX1_backBits 9 = .ok (.iconst 1, 1) := by decide +kernel
theorem dX1_backBits_10 : decode cX1_backBits 10 = .ok (.invokevirtual 74, 3) := by decide +kernel
theorem dX1_backBits_13 : decode cX1_backBits 13 = .ok (.ifCond .eq 7, 3) := by decide +kernel
theorem dX1_backBits_16 : decode cX1_backBits 16 = .ok (.lconst 0, 1) := by decide +kernel
theorem dX1_backBits_17 : decode cX1_backBits 17 = .ok (.goto 10, 3) := by decide +kernel
theorem dX1_backBits_20 : decode cX1_backBits 20 = .ok (.iload_n 1, 1) := by decide +kernel
theorem dX1_backBits_21 : decode cX1_backBits 21 = .ok (.invokestatic 142, 3) := by decide +kernel
theorem dX1_backBits_24 : decode cX1_backBits 24 = .ok (.invokestatic 145, 3) := by decide +kernel
theorem dX1_backBits_27 : decode cX1_backBits 27 = .ok (.lreturn, 1) := by decide +kernel
set_option maxRecDepth 20000 in
theorem ggX1_isBack_X1_isFrom : GoodIn wsX1_isBack wsX1_isFrom := goodIn_r _ [4] (by decide +kernel) (by decide +kernel)
set_option maxRecDepth 20000 in
theorem gX1_isBack_X1_isFrom : GoodIn wsX1_isBack (va_wsS RX1 39 yX1_isFrom wsX1_isFrom) := goodIn_app (goodIn_of _ (by decide +kernel)) ggX1_isBack_X1_isFrom
set_option maxRecDepth 20000 in
theorem ggX1_isBack_X1_no : GoodIn wsX1_isBack wsX1_no := goodIn_r _ [8, 9, 35, 36, 37, 38, 39, 40, 41, 42, 43, 44, 45, 46] (by decide +kernel) (by decide +kernel)
set_option maxRecDepth 20000 in
theorem gX1_isBack_X1_no : GoodIn wsX1_isBack (wsV RX1 74 RX1 yX1_no wsX1_no) := goodIn_app (goodIn_of _ (by decide +kernel)) ggX1_isBack_X1_no
set_option maxRecDepth 20000 in
theorem ggX1_isBack_X1_nearestRoot : GoodIn wsX1_isBack wsX1_nearestRoot := goodIn_r _ [12, 13, 14, 15, 16, 3, 17, 18, 19, 20, 21, 22, 23, 24] (by decide +kernel) (by decide +kernel)
set_option maxRecDepth 20000 in
theorem gX1_isBack_X1_nearestRoot : GoodIn wsX1_isBack (va_wsS RX1 142 yX1_nearestRoot wsX1_nearestRoot) := goodIn_app (goodIn_of _ (by decide +kernel)) ggX1_isBack_X1_nearestRoot
set_option maxRecDepth 20000 in
theorem ggX1_isBack_X1_square : GoodIn wsX1_isBack wsX1_square := goodIn_ca (goodIn_r _ [27, 24, 28, 29, 3, 30, 31, 14, 32, 33, 34, 18, 19, 20, 21, 22, 23] (by decide +kernel) (by decide +kernel)) (goodIn_sub (fun _ h => List.mem_cons_of_mem _ (List.mem_append_right _ h)) (by decide +kernel))
set_option maxRecDepth 20000 in
theorem gX1_isBack_X1_square : GoodIn wsX1_isBack (va_wsS RX1 145 yX1_square wsX1_square) := goodIn_app (goodIn_of _ (by decide +kernel)) ggX1_isBack_X1_square
set_option maxRecDepth 20000 in
theorem ggX1_isBack_X1_bitsOf : GoodIn wsX1_isBack wsX1_bitsOf := goodIn_r _ [23, 24, 18, 19, 3, 20, 14] (by decide +kernel) (by decide +kernel)
set_option maxRecDepth 20000 in
theorem gX1_isBack_X1_bitsOf : GoodIn wsX1_isBack (va_wsS RX1 91 yX1_bitsOf wsX1_bitsOf) := goodIn_app (goodIn_of _ (by decide +kernel)) ggX1_isBack_X1_bitsOf
theorem dX1_isBack_0 : decode cX1_isBack 0 = .ok (.aload_n 0, 1) := by decide +kernel
theorem dX1_isBack_1 : decode cX1_isBack 1 = .ok (.iload_n 1, 1) := by decide +kernel
theorem dX1_isBack_2 : decode cX1_isBack 2 = .ok (.iconst 0, 1) := by decide +kernel
theorem dX1_isBack_3 : decode cX1_isBack 3 = .ok (.sipush 4095, 3) := by decide +kernel
theorem dX1_isBack_6 : decode cX1_isBack 6 = .ok (.invokestatic 39, 3) := by decide +kernel
theorem dX1_isBack_9 : decode cX1_isBack 9 = .ok (.iconst 1, 1) := by decide +kernel
theorem dX1_isBack_10 : decode cX1_isBack 10 = .ok (.invokevirtual 74, 3) := by decide +kernel
theorem dX1_isBack_13 : decode cX1_isBack 13 = .ok (.ifCond .ne 24, 3) := by decide +kernel
theorem dX1_isBack_16 : decode cX1_isBack 16 = .ok (.iload_n 1, 1) := by decide +kernel
theorem dX1_isBack_17 : decode cX1_isBack 17 = .ok (.invokestatic 142, 3) := by decide +kernel
theorem dX1_isBack_20 : decode cX1_isBack 20 = .ok (.invokestatic 145, 3) := by decide +kernel
theorem dX1_isBack_23 : decode cX1_isBack 23 = .ok (.iload_n 1, 1) := by decide +kernel
theorem dX1_isBack_24 : decode cX1_isBack 24 = .ok (.i2l, 1) := by decide +kernel
theorem dX1_isBack_25 : decode cX1_isBack 25 = .ok (.iconst 0, 1) := by decide +kernel
theorem dX1_isBack_26 : decode cX1_isBack 26 = .ok (.invokestatic 91, 3) := by decide +kernel
theorem dX1_isBack_29 : decode cX1_isBack 29 = .ok (.lcmp, 1) := by decide +kernel
theorem dX1_isBack_30 : decode cX1_isBack 30 = .ok (.ifCond .ne 7, 3) := by decide +kernel
theorem dX1_isBack_33 : decode cX1_isBack 33 = .ok (.iconst 1, 1) := by decide +kernel
theorem dX1_isBack_34 : decode cX1_isBack 34 = .ok (.goto 4, 3) := by decide +kernel
theorem dX1_isBack_37 : decode cX1_isBack 37 = .ok (.iconst 0, 1) := by decide +kernel
theorem dX1_isBack_38 : decode cX1_isBack 38 = .ok (.ireturn, 1) := by decide +kernel
set_option maxRecDepth 20000 in
theorem ggX1_lacksSquare_X1_isSlot : GoodIn wsX1_lacksSquare wsX1_isSlot := goodIn_r _ [5] (by decide +kernel) (by decide +kernel)
set_option maxRecDepth 20000 in
theorem gX1_lacksSquare_X1_isSlot : GoodIn wsX1_lacksSquare (va_wsS RX1 70 yX1_isSlot wsX1_isSlot) := goodIn_app (goodIn_of _ (by decide +kernel)) ggX1_lacksSquare_X1_isSlot
set_option maxRecDepth 20000 in
theorem ggX1_lacksSquare_X1_no : GoodIn wsX1_lacksSquare wsX1_no := goodIn_r _ [9, 10, 11, 12, 13, 14, 15, 16, 17, 18, 19, 20, 21, 22] (by decide +kernel) (by decide +kernel)
set_option maxRecDepth 20000 in
theorem gX1_lacksSquare_X1_no : GoodIn wsX1_lacksSquare (wsV RX1 74 RX1 yX1_no wsX1_no) := goodIn_app (goodIn_of _ (by decide +kernel)) ggX1_lacksSquare_X1_no
theorem dX1_lacksSquare_0 : decode cX1_lacksSquare 0 = .ok (.aload_n 0, 1) := by decide +kernel
theorem dX1_lacksSquare_1 : decode cX1_lacksSquare 1 = .ok (.iload_n 1, 1) := by decide +kernel
theorem dX1_lacksSquare_2 : decode cX1_lacksSquare 2 = .ok (.invokestatic 70, 3) := by decide +kernel
theorem dX1_lacksSquare_5 : decode cX1_lacksSquare 5 = .ok (.iconst 1, 1) := by decide +kernel
theorem dX1_lacksSquare_6 : decode cX1_lacksSquare 6 = .ok (.invokevirtual 74, 3) := by decide +kernel
theorem dX1_lacksSquare_9 : decode cX1_lacksSquare 9 = .ok (.ifCond .ne 40, 3) := by decide +kernel
theorem dX1_lacksSquare_12 : decode cX1_lacksSquare 12 = .ok (.aload_n 0, 1) := by decide +kernel
theorem dX1_lacksSquare_13 : decode cX1_lacksSquare 13 = .ok (.aload_n 0, 1) := by decide +kernel
theorem dX1_lacksSquare_14 : decode cX1_lacksSquare 14 = .ok (.getfield 17, 3) := by decide +kernel
theorem dX1_lacksSquare_17 : decode cX1_lacksSquare 17 = .ok (.iload_n 1, 1) := by decide +kernel
theorem dX1_lacksSquare_18 : decode cX1_lacksSquare 18 = .ok (.iaload, 1) := by decide +kernel
theorem dX1_lacksSquare_19 : decode cX1_lacksSquare 19 = .ok (.sipush (-400), 3) := by decide +kernel
theorem dX1_lacksSquare_22 : decode cX1_lacksSquare 22 = .ok (.if_icmp .lt 19, 3) := by decide +kernel
theorem dX1_lacksSquare_25 : decode cX1_lacksSquare 25 = .ok (.aload_n 0, 1) := by decide +kernel
theorem dX1_lacksSquare_26 : decode cX1_lacksSquare 26 = .ok (.getfield 17, 3) := by decide +kernel
theorem dX1_lacksSquare_29 : decode cX1_lacksSquare 29 = .ok (.iload_n 1, 1) := by decide +kernel
theorem dX1_lacksSquare_30 : decode cX1_lacksSquare 30 = .ok (.iaload, 1) := by decide +kernel
theorem dX1_lacksSquare_31 : decode cX1_lacksSquare 31 = .ok (.sipush 400, 3) := by decide +kernel
theorem dX1_lacksSquare_34 : decode cX1_lacksSquare 34 = .ok (.if_icmp .gt 7, 3) := by decide +kernel
theorem dX1_lacksSquare_37 : decode cX1_lacksSquare 37 = .ok (.iconst 1, 1) := by decide +kernel
theorem dX1_lacksSquare_38 : decode cX1_lacksSquare 38 = .ok (.goto 4, 3) := by decide +kernel
theorem dX1_lacksSquare_41 : decode cX1_lacksSquare 41 = .ok (.iconst 0, 1) := by decide +kernel
theorem dX1_lacksSquare_42 : decode cX1_lacksSquare 42 = .ok (.iconst 2, 1) := by decide +kernel
theorem dX1_lacksSquare_43 : decode cX1_lacksSquare 43 = .ok (.invokevirtual 74, 3) := by decide +kernel
theorem dX1_lacksSquare_46 : decode cX1_lacksSquare 46 = .ok (.ifCond .eq 7, 3) := by decide +kernel
theorem dX1_lacksSquare_49 : decode cX1_lacksSquare 49 = .ok (.iconst 1, 1) := by decide +kernel
theorem dX1_lacksSquare_50 : decode cX1_lacksSquare 50 = .ok (.goto 4, 3) := by decide +kernel
theorem dX1_lacksSquare_53 : decode cX1_lacksSquare 53 = .ok (.iconst 0, 1) := by decide +kernel
theorem dX1_lacksSquare_54 : decode cX1_lacksSquare 54 = .ok (.ireturn, 1) := by decide +kernel
set_option maxRecDepth 20000 in
theorem ggX1_squareBits_X1_lacksSquare : GoodIn wsX1_squareBits wsX1_lacksSquare := goodIn_ca (goodIn_r _ [7, 2, 8, 9, 6, 10, 11, 12, 13, 14, 15, 31, 32, 33, 34, 35, 36, 37, 38, 39, 40, 41, 42] (by decide +kernel) (by decide +kernel)) (goodIn_sub (fun _ h => List.mem_cons_of_mem _ (List.mem_append_left _ (List.mem_append_right _ h))) (by decide +kernel))
set_option maxRecDepth 20000 in
theorem gX1_squareBits_X1_lacksSquare : GoodIn wsX1_squareBits (wsV RX1 148 RX1 yX1_lacksSquare wsX1_lacksSquare) := goodIn_app (goodIn_of _ (by decide +kernel)) ggX1_squareBits_X1_lacksSquare
set_option maxRecDepth 20000 in
theorem ggX1_squareBits_X1_nearestSquare : GoodIn wsX1_squareBits wsX1_nearestSquare := goodIn_ca (goodIn_r _ [18, 19, 20, 21, 22, 23, 24, 25, 6, 26, 27, 28, 29, 30] (by decide +kernel) (by decide +kernel)) (goodIn_sub (fun _ h => List.mem_cons_of_mem _ (List.mem_append_right _ h)) (by decide +kernel))
set_option maxRecDepth 20000 in
theorem gX1_squareBits_X1_nearestSquare : GoodIn wsX1_squareBits (va_wsS RX1 139 yX1_nearestSquare wsX1_nearestSquare) := goodIn_app (goodIn_of _ (by decide +kernel)) ggX1_squareBits_X1_nearestSquare
theorem dX1_squareBits_0 : decode cX1_squareBits 0 = .ok (.aload_n 0, 1) := by decide +kernel
theorem dX1_squareBits_1 : decode cX1_squareBits 1 = .ok (.iload_n 1, 1) := by decide +kernel
theorem dX1_squareBits_2 : decode cX1_squareBits 2 = .ok (.invokevirtual 148, 3) := by decide +kernel
theorem dX1_squareBits_5 : decode cX1_squareBits 5 = .ok (.ifCond .eq 7, 3) := by decide +kernel
theorem dX1_squareBits_8 : decode cX1_squareBits 8 = .ok (.lconst 0, 1) := by decide +kernel
theorem dX1_squareBits_9 : decode cX1_squareBits 9 = .ok (.goto 18, 3) := by decide +kernel
theorem dX1_squareBits_12 : decode cX1_squareBits 12 = .ok (.aload_n 0, 1) := by decide +kernel
theorem dX1_squareBits_13 : decode cX1_squareBits 13 = .ok (.getfield 13, 3) := by decide +kernel
theorem dX1_squareBits_16 : decode cX1_squareBits 16 = .ok (.iload_n 1, 1) := by decide +kernel
theorem dX1_squareBits_17 : decode cX1_squareBits 17 = .ok (.laload, 1) := by decide +kernel
theorem dX1_squareBits_18 : decode cX1_squareBits 18 = .ok (.aload_n 0, 1) := by decide +kernel
theorem dX1_squareBits_19 : decode cX1_squareBits 19 = .ok (.getfield 17, 3) := by decide +kernel
theorem dX1_squareBits_22 : decode cX1_squareBits 22 = .ok (.iload_n 1, 1) := by decide +kernel
theorem dX1_squareBits_23 : decode cX1_squareBits 23 = .ok (.iaload, 1) := by decide +kernel
theorem dX1_squareBits_24 : decode cX1_squareBits 24 = .ok (.invokestatic 139, 3) := by decide +kernel
theorem dX1_squareBits_27 : decode cX1_squareBits 27 = .ok (.lreturn, 1) := by decide +kernel
set_option maxRecDepth 20000 in
theorem ggX1_isTimes_X1_lacksSquare : GoodIn wsX1_isTimes wsX1_lacksSquare := goodIn_ca (goodIn_r _ [5, 6, 7, 8, 4, 9, 10, 11, 12, 13, 14, 15, 16, 17, 18, 19, 20, 21, 22, 23, 24, 25, 26] (by decide +kernel) (by decide +kernel)) (goodIn_sub (fun _ h => List.mem_cons_of_mem _ (List.mem_append_right _ h)) (by decide +kernel))
set_option maxRecDepth 20000 in
theorem gX1_isTimes_X1_lacksSquare : GoodIn wsX1_isTimes (wsV RX1 148 RX1 yX1_lacksSquare wsX1_lacksSquare) := goodIn_app (goodIn_of _ (by decide +kernel)) ggX1_isTimes_X1_lacksSquare
theorem dX1_isTimes_0 : decode cX1_isTimes 0 = .ok (.aload_n 0, 1) := by decide +kernel
theorem dX1_isTimes_1 : decode cX1_isTimes 1 = .ok (.iload_n 1, 1) := by decide +kernel
theorem dX1_isTimes_2 : decode cX1_isTimes 2 = .ok (.invokevirtual 148, 3) := by decide +kernel
theorem dX1_isTimes_5 : decode cX1_isTimes 5 = .ok (.ifCond .ne 7, 3) := by decide +kernel
theorem dX1_isTimes_8 : decode cX1_isTimes 8 = .ok (.iconst 1, 1) := by decide +kernel
theorem dX1_isTimes_9 : decode cX1_isTimes 9 = .ok (.goto 4, 3) := by decide +kernel
theorem dX1_isTimes_12 : decode cX1_isTimes 12 = .ok (.iconst 0, 1) := by decide +kernel
theorem dX1_isTimes_13 : decode cX1_isTimes 13 = .ok (.ireturn, 1) := by decide +kernel
theorem dX1_isSound_0 : decode cX1_isSound 0 = .ok (.aload_n 0, 1) := by decide +kernel
theorem dX1_isSound_1 : decode cX1_isSound 1 = .ok (.iconst 0, 1) := by decide +kernel
theorem dX1_isSound_2 : decode cX1_isSound 2 = .ok (.putfield 36, 3) := by decide +kernel
theorem dX1_isSound_5 : decode cX1_isSound 5 = .ok (.iconst 1, 1) := by decide +kernel
theorem dX1_isSound_6 : decode cX1_isSound 6 = .ok (.ireturn, 1) := by decide +kernel
theorem dJx00060_init_a7421_0 : decode cJx00060_init_a7421 0 = .ok (.aload_n 0, 1) := by decide +kernel
theorem dJx00060_init_a7421_1 : decode cJx00060_init_a7421 1 = .ok (.aload_n 1, 1) := by decide +kernel
theorem dJx00060_init_a7421_2 : decode cJx00060_init_a7421 2 = .ok (.invokespecial 7, 3) := by decide +kernel
theorem dJx00060_init_a7421_5 : decode cJx00060_init_a7421 5 = .ok (.return_, 1) := by decide +kernel
theorem dJ9_floorMod_f86c9_0 : decode cJ9_floorMod_f86c9 0 = .ok (.lload_n 0, 1) := by decide +kernel
theorem dJ9_floorMod_f86c9_1 : decode cJ9_floorMod_f86c9 1 = .ok (.lload_n 2, 1) := by decide +kernel
theorem dJ9_floorMod_f86c9_2 : decode cJ9_floorMod_f86c9 2 = .ok (.lrem, 1) := by decide +kernel
theorem dJ9_floorMod_f86c9_3 : decode cJ9_floorMod_f86c9 3 = .ok (.lstore 4, 2) := by decide +kernel
theorem dJ9_floorMod_f86c9_5 : decode cJ9_floorMod_f86c9 5 = .ok (.lload_n 0, 1) := by decide +kernel
theorem dJ9_floorMod_f86c9_6 : decode cJ9_floorMod_f86c9 6 = .ok (.lload_n 2, 1) := by decide +kernel
theorem dJ9_floorMod_f86c9_7 : decode cJ9_floorMod_f86c9 7 = .ok (.lxor, 1) := by decide +kernel
theorem dJ9_floorMod_f86c9_8 : decode cJ9_floorMod_f86c9 8 = .ok (.lconst 0, 1) := by decide +kernel
theorem dJ9_floorMod_f86c9_9 : decode cJ9_floorMod_f86c9 9 = .ok (.lcmp, 1) := by decide +kernel
theorem dJ9_floorMod_f86c9_10 : decode cJ9_floorMod_f86c9 10 = .ok (.ifCond .ge 15, 3) := by decide +kernel
theorem dJ9_floorMod_f86c9_13 : decode cJ9_floorMod_f86c9 13 = .ok (.lload 4, 2) := by decide +kernel
theorem dJ9_floorMod_f86c9_15 : decode cJ9_floorMod_f86c9 15 = .ok (.lconst 0, 1) := by decide +kernel
theorem dJ9_floorMod_f86c9_16 : decode cJ9_floorMod_f86c9 16 = .ok (.lcmp, 1) := by decide +kernel
theorem dJ9_floorMod_f86c9_17 : decode cJ9_floorMod_f86c9 17 = .ok (.ifCond .eq 8, 3) := by decide +kernel
theorem dJ9_floorMod_f86c9_20 : decode cJ9_floorMod_f86c9 20 = .ok (.lload 4, 2) := by decide +kernel
theorem dJ9_floorMod_f86c9_22 : decode cJ9_floorMod_f86c9 22 = .ok (.lload_n 2, 1) := by decide +kernel
theorem dJ9_floorMod_f86c9_23 : decode cJ9_floorMod_f86c9 23 = .ok (.ladd, 1) := by decide +kernel
theorem dJ9_floorMod_f86c9_24 : decode cJ9_floorMod_f86c9 24 = .ok (.lreturn, 1) := by decide +kernel
theorem dJ9_floorMod_f86c9_25 : decode cJ9_floorMod_f86c9 25 = .ok (.lload 4, 2) := by decide +kernel
theorem dJ9_floorMod_f86c9_27 : decode cJ9_floorMod_f86c9 27 = .ok (.lreturn, 1) := by decide +kernel
set_option maxRecDepth 20000 in
theorem ggL_put_X0_put : GoodIn wsL_put wsX0_put := goodIn_ca (goodIn_ca (goodIn_ca (goodIn_r _ [7, 8, 9, 6, 10, 11, 12, 13, 14, 15, 16, 17, 18, 19, 20, 21, 22, 23, 24, 25, 26, 27, 28, 29, 30, 31, 32, 33, 34, 35, 36, 37, 38, 39, 40, 41, 42, 43, 44, 45, 46, 47, 48, 49, 50, 51] (by decide +kernel) (by decide +kernel)) (goodIn_sub (fun _ h => List.mem_cons_of_mem _ (List.mem_append_left _ (List.mem_append_right _ h))) (by decide +kernel))) (goodIn_sub (fun _ h => List.mem_cons_of_mem _ (List.mem_append_right _ h)) (by decide +kernel))) (goodIn_sub (fun _ h => List.mem_cons_of_mem _ (List.mem_append_left _ (List.mem_append_left _ (List.mem_append_right _ h)))) (by decide +kernel))
set_option maxRecDepth 20000 in
theorem gL_put_X0_put : GoodIn wsL_put (wsV RL 7 RX0 yX0_put wsX0_put) := goodIn_app (goodIn_of _ (by decide +kernel)) ggL_put_X0_put
theorem dL_put_0 : decode cL_put 0 = .ok (.aload_n 3, 1) := by decide +kernel
theorem dL_put_1 : decode cL_put 1 = .ok (.iconst 0, 1) := by decide +kernel
theorem dL_put_2 : decode cL_put 2 = .ok (.aload_n 0, 1) := by decide +kernel
theorem dL_put_3 : decode cL_put 3 = .ok (.iload_n 1, 1) := by decide +kernel
theorem dL_put_4 : decode cL_put 4 = .ok (.iload_n 2, 1) := by decide +kernel
theorem dL_put_5 : decode cL_put 5 = .ok (.invokevirtual 7, 3) := by decide +kernel
theorem dL_put_8 : decode cL_put 8 = .ok (.i2l, 1) := by decide +kernel
theorem dL_put_9 : decode cL_put 9 = .ok (.lastore, 1) := by decide +kernel
theorem dL_put_10 : decode cL_put 10 = .ok (.goto 11, 3) := by decide +kernel
theorem dL_put_13 : decode cL_put 13 = .ok (.astore 4, 2) := by decide +kernel
theorem dL_put_15 : decode cL_put 15 = .ok (.iconst 1, 1) := by decide +kernel
theorem dL_put_16 : decode cL_put 16 = .ok (.ireturn, 1) := by decide +kernel
theorem dL_put_17 : decode cL_put 17 = .ok (.astore 4, 2) := by decide +kernel
theorem dL_put_19 : decode cL_put 19 = .ok (.iconst 2, 1) := by decide +kernel
theorem dL_put_20 : decode cL_put 20 = .ok (.ireturn, 1) := by decide +kernel
theorem dL_put_21 : decode cL_put 21 = .ok (.iconst 0, 1) := by decide +kernel
theorem dL_put_22 : decode cL_put 22 = .ok (.ireturn, 1) := by decide +kernel
set_option maxRecDepth 20000 in
theorem ggL_power_X0_power : GoodIn wsL_power wsX0_power := goodIn_ca (goodIn_ca (goodIn_ca (goodIn_ca (goodIn_ca (goodIn_r _ [8, 9, 10, 7, 11, 12, 13, 14, 15, 16, 17, 18, 19, 20, 21, 22, 23, 24, 25, 26, 27, 28, 29, 30, 31, 32, 33, 34, 35, 36, 37, 38, 39, 40, 41, 42, 43, 44, 45, 46, 47, 48, 49, 50, 51, 52, 53, 54, 55, 56, 57, 58, 59, 60, 61, 62, 63, 64, 65, 66, 67, 68, 69, 70, 71, 72, 73, 74] (by decide +kernel) (by decide +kernel)) (goodIn_sub (fun _ h => List.mem_cons_of_mem _ (List.mem_append_left _ (List.mem_append_left _ (List.mem_append_left _ (List.mem_append_right _ h))))) (by decide +kernel))) (goodIn_sub (fun _ h => List.mem_cons_of_mem _ (List.mem_append_left _ (List.mem_append_left _ (List.mem_append_right _ h)))) (by decide +kernel))) (goodIn_sub (fun _ h => List.mem_cons_of_mem _ (List.mem_append_left _ (List.mem_append_right _ h))) (by decide +kernel))) (goodIn_sub (fun _ h => List.mem_cons_of_mem _ (List.mem_append_right _ h)) (by decide +kernel))) (goodIn_sub (fun _ h => List.mem_cons_of_mem _ (List.mem_append_left _ (List.mem_append_left _ (List.mem_append_left _ (List.mem_append_left _ (List.mem_append_right _ h)))))) (by decide +kernel))
set_option maxRecDepth 20000 in
theorem gL_power_X0_power : GoodIn wsL_power (wsV RL 17 RX0 yX0_power wsX0_power) := goodIn_app (goodIn_of _ (by decide +kernel)) ggL_power_X0_power
theorem dL_power_0 : decode cL_power 0 = .ok (.aload 4, 2) := by decide +kernel
theorem dL_power_2 : decode cL_power 2 = .ok (.iconst 0, 1) := by decide +kernel
theorem dL_power_3 : decode cL_power 3 = .ok (.aload_n 0, 1) := by decide +kernel
theorem dL_power_4 : decode cL_power 4 = .ok (.iload_n 1, 1) := by decide +kernel
theorem dL_power_5 : decode cL_power 5 = .ok (.iload_n 2, 1) := by decide +kernel
theorem dL_power_6 : decode cL_power 6 = .ok (.iload_n 3, 1) := by decide +kernel
theorem dL_power_7 : decode cL_power 7 = .ok (.invokevirtual 17, 3) := by decide +kernel
theorem dL_power_10 : decode cL_power 10 = .ok (.i2l, 1) := by decide +kernel
theorem dL_power_11 : decode cL_power 11 = .ok (.lastore, 1) := by decide +kernel
theorem dL_power_12 : decode cL_power 12 = .ok (.goto 15, 3) := by decide +kernel
theorem dL_power_15 : decode cL_power 15 = .ok (.astore 5, 2) := by decide +kernel
theorem dL_power_17 : decode cL_power 17 = .ok (.iconst 1, 1) := by decide +kernel
theorem dL_power_18 : decode cL_power 18 = .ok (.ireturn, 1) := by decide +kernel
theorem dL_power_19 : decode cL_power 19 = .ok (.astore 5, 2) := by decide +kernel
theorem dL_power_21 : decode cL_power 21 = .ok (.iconst 2, 1) := by decide +kernel
theorem dL_power_22 : decode cL_power 22 = .ok (.ireturn, 1) := by decide +kernel
theorem dL_power_23 : decode cL_power 23 = .ok (.astore 5, 2) := by decide +kernel
theorem dL_power_25 : decode cL_power 25 = .ok (.iconst 3, 1) := by decide +kernel
theorem dL_power_26 : decode cL_power 26 = .ok (.ireturn, 1) := by decide +kernel
theorem dL_power_27 : decode cL_power 27 = .ok (.iconst 0, 1) := by decide +kernel
theorem dL_power_28 : decode cL_power 28 = .ok (.ireturn, 1) := by decide +kernel
set_option maxRecDepth 20000 in
theorem ggL_twoTo_X0_twoTo : GoodIn wsL_twoTo wsX0_twoTo := goodIn_ca (goodIn_ca (goodIn_ca (goodIn_r _ [7, 8, 9, 6, 10, 11, 12, 13, 14, 15, 16, 17, 18, 19, 20, 21, 22, 23, 24, 25, 26, 27, 28, 29, 30, 31, 32, 33, 34, 35, 36, 37, 38, 39] (by decide +kernel) (by decide +kernel)) (goodIn_sub (fun _ h => List.mem_cons_of_mem _ (List.mem_append_left _ (List.mem_append_right _ h))) (by decide +kernel))) (goodIn_sub (fun _ h => List.mem_cons_of_mem _ (List.mem_append_right _ h)) (by decide +kernel))) (goodIn_sub (fun _ h => List.mem_cons_of_mem _ (List.mem_append_left _ (List.mem_append_left _ (List.mem_append_right _ h)))) (by decide +kernel))
set_option maxRecDepth 20000 in
theorem gL_twoTo_X0_twoTo : GoodIn wsL_twoTo (wsV RL 23 RX0 yX0_twoTo wsX0_twoTo) := goodIn_app (goodIn_of _ (by decide +kernel)) ggL_twoTo_X0_twoTo
theorem dL_twoTo_0 : decode cL_twoTo 0 = .ok (.aload_n 3, 1) := by decide +kernel
theorem dL_twoTo_1 : decode cL_twoTo 1 = .ok (.iconst 0, 1) := by decide +kernel
theorem dL_twoTo_2 : decode cL_twoTo 2 = .ok (.aload_n 0, 1) := by decide +kernel
theorem dL_twoTo_3 : decode cL_twoTo 3 = .ok (.iload_n 1, 1) := by decide +kernel
theorem dL_twoTo_4 : decode cL_twoTo 4 = .ok (.iload_n 2, 1) := by decide +kernel
theorem dL_twoTo_5 : decode cL_twoTo 5 = .ok (.invokevirtual 23, 3) := by decide +kernel
theorem dL_twoTo_8 : decode cL_twoTo 8 = .ok (.i2l, 1) := by decide +kernel
theorem dL_twoTo_9 : decode cL_twoTo 9 = .ok (.lastore, 1) := by decide +kernel
theorem dL_twoTo_10 : decode cL_twoTo 10 = .ok (.goto 11, 3) := by decide +kernel
theorem dL_twoTo_13 : decode cL_twoTo 13 = .ok (.astore 4, 2) := by decide +kernel
theorem dL_twoTo_15 : decode cL_twoTo 15 = .ok (.iconst 1, 1) := by decide +kernel
theorem dL_twoTo_16 : decode cL_twoTo 16 = .ok (.ireturn, 1) := by decide +kernel
theorem dL_twoTo_17 : decode cL_twoTo 17 = .ok (.astore 4, 2) := by decide +kernel
theorem dL_twoTo_19 : decode cL_twoTo 19 = .ok (.iconst 2, 1) := by decide +kernel
theorem dL_twoTo_20 : decode cL_twoTo 20 = .ok (.ireturn, 1) := by decide +kernel
theorem dL_twoTo_21 : decode cL_twoTo 21 = .ok (.iconst 0, 1) := by decide +kernel
theorem dL_twoTo_22 : decode cL_twoTo 22 = .ok (.ireturn, 1) := by decide +kernel
set_option maxRecDepth 20000 in
theorem ggL_raise_X0_raise : GoodIn wsL_raise wsX0_raise := goodIn_ca (goodIn_ca (goodIn_ca (goodIn_ca (goodIn_ca (goodIn_ca (goodIn_ca (goodIn_r _ [10, 11, 12, 13, 14, 15, 16, 17, 18, 19, 20, 21, 9, 22, 23, 24, 25, 26, 27, 28, 29, 30, 31, 32, 33, 34, 35, 36, 37, 38, 39, 40, 41, 42, 43, 44, 45, 46, 47, 48, 49, 50, 51, 52, 53, 54, 55, 56, 57, 58, 59, 60, 61, 62] (by decide +kernel) (by decide +kernel)) (goodIn_sub (fun _ h => List.mem_cons_of_mem _ (List.mem_append_left _ (List.mem_append_left _ (List.mem_append_left _ (List.mem_append_left _ (List.mem_append_left _ (List.mem_append_left _ (List.mem_append_right _ h)))))))) (by decide +kernel))) (goodIn_sub (fun _ h => List.mem_cons_of_mem _ (List.mem_append_left _ (List.mem_append_left _ (List.mem_append_left _ (List.mem_append_left _ (List.mem_append_left _ (List.mem_append_right _ h))))))) (by decide +kernel))) (goodIn_sub (fun _ h => List.mem_cons_of_mem _ (List.mem_append_left _ (List.mem_append_left _ (List.mem_append_left _ (List.mem_append_left _ (List.mem_append_right _ h)))))) (by decide +kernel))) (goodIn_sub (fun _ h => List.mem_cons_of_mem _ (List.mem_append_left _ (List.mem_append_left _ (List.mem_append_left _ (List.mem_append_right _ h))))) (by decide +kernel))) (goodIn_sub (fun _ h => List.mem_cons_of_mem _ (List.mem_append_left _ (List.mem_append_left _ (List.mem_append_right _ h)))) (by decide +kernel))) (goodIn_sub (fun _ h => List.mem_cons_of_mem _ (List.mem_append_left _ (List.mem_append_right _ h))) (by decide +kernel))) (goodIn_sub (fun _ h => List.mem_cons_of_mem _ (List.mem_append_right _ h)) (by decide +kernel))
set_option maxRecDepth 20000 in
theorem gL_raise_X0_raise : GoodIn wsL_raise (wsV RL 26 RX0 yX0_raise wsX0_raise) := goodIn_app (goodIn_of _ (by decide +kernel)) ggL_raise_X0_raise
theorem dL_raise_0 : decode cL_raise 0 = .ok (.aload 4, 2) := by decide +kernel
theorem dL_raise_2 : decode cL_raise 2 = .ok (.iconst 0, 1) := by decide +kernel
theorem dL_raise_3 : decode cL_raise 3 = .ok (.aload_n 0, 1) := by decide +kernel
theorem dL_raise_4 : decode cL_raise 4 = .ok (.iload_n 1, 1) := by decide +kernel
theorem dL_raise_5 : decode cL_raise 5 = .ok (.iload_n 2, 1) := by decide +kernel
theorem dL_raise_6 : decode cL_raise 6 = .ok (.iload_n 3, 1) := by decide +kernel
theorem dL_raise_7 : decode cL_raise 7 = .ok (.invokevirtual 26, 3) := by decide +kernel
theorem dL_raise_10 : decode cL_raise 10 = .ok (.i2l, 1) := by decide +kernel
theorem dL_raise_11 : decode cL_raise 11 = .ok (.lastore, 1) := by decide +kernel
theorem dL_raise_12 : decode cL_raise 12 = .ok (.goto 23, 3) := by decide +kernel
theorem dL_raise_15 : decode cL_raise 15 = .ok (.astore 5, 2) := by decide +kernel
theorem dL_raise_17 : decode cL_raise 17 = .ok (.iconst 1, 1) := by decide +kernel
theorem dL_raise_18 : decode cL_raise 18 = .ok (.ireturn, 1) := by decide +kernel
theorem dL_raise_19 : decode cL_raise 19 = .ok (.astore 5, 2) := by decide +kernel
theorem dL_raise_21 : decode cL_raise 21 = .ok (.iconst 2, 1) := by decide +kernel
theorem dL_raise_22 : decode cL_raise 22 = .ok (.ireturn, 1) := by decide +kernel
theorem dL_raise_23 : decode cL_raise 23 = .ok (.astore 5, 2) := by decide +kernel
theorem dL_raise_25 : decode cL_raise 25 = .ok (.iconst 3, 1) := by decide +kernel
theorem dL_raise_26 : decode cL_raise 26 = .ok (.ireturn, 1) := by decide +kernel
theorem dL_raise_27 : decode cL_raise 27 = .ok (.astore 5, 2) := by decide +kernel
theorem dL_raise_29 : decode cL_raise 29 = .ok (.iconst 4, 1) := by decide +kernel
theorem dL_raise_30 : decode cL_raise 30 = .ok (.ireturn, 1) := by decide +kernel
theorem dL_raise_31 : decode cL_raise 31 = .ok (.astore 5, 2) := by decide +kernel
theorem dL_raise_33 : decode cL_raise 33 = .ok (.iconst 5, 1) := by decide +kernel
theorem dL_raise_34 : decode cL_raise 34 = .ok (.ireturn, 1) := by decide +kernel
theorem dL_raise_35 : decode cL_raise 35 = .ok (.iconst 0, 1) := by decide +kernel
theorem dL_raise_36 : decode cL_raise 36 = .ok (.ireturn, 1) := by decide +kernel
set_option maxRecDepth 20000 in
theorem ggL_copy_X0_copy : GoodIn wsL_copy wsX0_copy := goodIn_ca (goodIn_ca (goodIn_r _ [6, 7, 8, 9, 10, 11, 5, 12, 13, 14, 15, 16, 17, 18, 19, 20, 21, 22, 23, 24, 25, 26, 27, 28, 29, 30, 31, 32, 33] (by decide +kernel) (by decide +kernel)) (goodIn_sub (fun _ h => List.mem_cons_of_mem _ (List.mem_append_left _ (List.mem_append_right _ h))) (by decide +kernel))) (goodIn_sub (fun _ h => List.mem_cons_of_mem _ (List.mem_append_right _ h)) (by decide +kernel))
set_option maxRecDepth 20000 in
theorem gL_copy_X0_copy : GoodIn wsL_copy (wsV RL 33 RX0 yX0_copy wsX0_copy) := goodIn_app (goodIn_of _ (by decide +kernel)) ggL_copy_X0_copy
theorem dL_copy_0 : decode cL_copy 0 = .ok (.aload_n 3, 1) := by decide +kernel
theorem dL_copy_1 : decode cL_copy 1 = .ok (.iconst 0, 1) := by decide +kernel
theorem dL_copy_2 : decode cL_copy 2 = .ok (.aload_n 0, 1) := by decide +kernel
theorem dL_copy_3 : decode cL_copy 3 = .ok (.iload_n 1, 1) := by decide +kernel
theorem dL_copy_4 : decode cL_copy 4 = .ok (.iload_n 2, 1) := by decide +kernel
theorem dL_copy_5 : decode cL_copy 5 = .ok (.invokevirtual 33, 3) := by decide +kernel
theorem dL_copy_8 : decode cL_copy 8 = .ok (.i2l, 1) := by decide +kernel
theorem dL_copy_9 : decode cL_copy 9 = .ok (.lastore, 1) := by decide +kernel
theorem dL_copy_10 : decode cL_copy 10 = .ok (.goto 7, 3) := by decide +kernel
theorem dL_copy_13 : decode cL_copy 13 = .ok (.astore 4, 2) := by decide +kernel
theorem dL_copy_15 : decode cL_copy 15 = .ok (.iconst 1, 1) := by decide +kernel
theorem dL_copy_16 : decode cL_copy 16 = .ok (.ireturn, 1) := by decide +kernel
theorem dL_copy_17 : decode cL_copy 17 = .ok (.iconst 0, 1) := by decide +kernel
theorem dL_copy_18 : decode cL_copy 18 = .ok (.ireturn, 1) := by decide +kernel
set_option maxRecDepth 20000 in
theorem ggL_undo_X0_undo : GoodIn wsL_undo wsX0_undo := goodIn_ca (goodIn_ca (goodIn_r _ [6, 7, 8, 9, 10, 11, 12, 13, 14, 15, 16, 17, 18, 19, 20, 21, 22, 23, 24, 25, 26] (by decide +kernel) (by decide +kernel)) (goodIn_sub (fun _ h => List.mem_cons_of_mem _ (List.mem_append_right _ h)) (by decide +kernel))) (goodIn_sub (fun _ h => List.mem_cons_of_mem _ (List.mem_append_left _ (List.mem_append_right _ h))) (by decide +kernel))
set_option maxRecDepth 20000 in
theorem gL_undo_X0_undo : GoodIn wsL_undo (wsV RL 36 RX0 yX0_undo wsX0_undo) := goodIn_app (goodIn_of _ (by decide +kernel)) ggL_undo_X0_undo
theorem dL_undo_0 : decode cL_undo 0 = .ok (.aload_n 1, 1) := by decide +kernel
theorem dL_undo_1 : decode cL_undo 1 = .ok (.iconst 0, 1) := by decide +kernel
theorem dL_undo_2 : decode cL_undo 2 = .ok (.aload_n 0, 1) := by decide +kernel
theorem dL_undo_3 : decode cL_undo 3 = .ok (.invokevirtual 36, 3) := by decide +kernel
theorem dL_undo_6 : decode cL_undo 6 = .ok (.i2l, 1) := by decide +kernel
theorem dL_undo_7 : decode cL_undo 7 = .ok (.lastore, 1) := by decide +kernel
theorem dL_undo_8 : decode cL_undo 8 = .ok (.goto 6, 3) := by decide +kernel
theorem dL_undo_11 : decode cL_undo 11 = .ok (.astore_n 2, 1) := by decide +kernel
theorem dL_undo_12 : decode cL_undo 12 = .ok (.iconst 1, 1) := by decide +kernel
theorem dL_undo_13 : decode cL_undo 13 = .ok (.ireturn, 1) := by decide +kernel
theorem dL_undo_14 : decode cL_undo 14 = .ok (.iconst 0, 1) := by decide +kernel
theorem dL_undo_15 : decode cL_undo 15 = .ok (.ireturn, 1) := by decide +kernel
set_option maxRecDepth 20000 in
theorem ggL_sign_X0_sign : GoodIn wsL_sign wsX0_sign := goodIn_ca (goodIn_ca (goodIn_r _ [6, 7, 8, 9, 5, 10, 11, 12, 13, 14, 15, 16, 17, 18, 19, 20, 21] (by decide +kernel) (by decide +kernel)) (goodIn_sub (fun _ h => List.mem_cons_of_mem _ (List.mem_append_left _ (List.mem_append_right _ h))) (by decide +kernel))) (goodIn_sub (fun _ h => List.mem_cons_of_mem _ (List.mem_append_right _ h)) (by decide +kernel))
set_option maxRecDepth 20000 in
theorem gL_sign_X0_sign : GoodIn wsL_sign (wsV RL 42 RX0 yX0_sign wsX0_sign) := goodIn_app (goodIn_of _ (by decide +kernel)) ggL_sign_X0_sign
theorem dL_sign_0 : decode cL_sign 0 = .ok (.aload_n 2, 1) := by decide +kernel
theorem dL_sign_1 : decode cL_sign 1 = .ok (.iconst 0, 1) := by decide +kernel
theorem dL_sign_2 : decode cL_sign 2 = .ok (.aload_n 0, 1) := by decide +kernel
theorem dL_sign_3 : decode cL_sign 3 = .ok (.iload_n 1, 1) := by decide +kernel
theorem dL_sign_4 : decode cL_sign 4 = .ok (.invokevirtual 42, 3) := by decide +kernel
theorem dL_sign_7 : decode cL_sign 7 = .ok (.i2l, 1) := by decide +kernel
theorem dL_sign_8 : decode cL_sign 8 = .ok (.lastore, 1) := by decide +kernel
theorem dL_sign_9 : decode cL_sign 9 = .ok (.goto 6, 3) := by decide +kernel
theorem dL_sign_12 : decode cL_sign 12 = .ok (.astore_n 3, 1) := by decide +kernel
theorem dL_sign_13 : decode cL_sign 13 = .ok (.iconst 1, 1) := by decide +kernel
theorem dL_sign_14 : decode cL_sign 14 = .ok (.ireturn, 1) := by decide +kernel
theorem dL_sign_15 : decode cL_sign 15 = .ok (.iconst 0, 1) := by decide +kernel
theorem dL_sign_16 : decode cL_sign 16 = .ok (.ireturn, 1) := by decide +kernel
set_option maxRecDepth 20000 in
theorem ggL_odd_X0_odd : GoodIn wsL_odd wsX0_odd := goodIn_ca (goodIn_ca (goodIn_r _ [6, 7, 8, 9, 5, 10, 11, 12, 13, 14, 15, 16, 17, 18, 19, 20, 21] (by decide +kernel) (by decide +kernel)) (goodIn_sub (fun _ h => List.mem_cons_of_mem _ (List.mem_append_left _ (List.mem_append_right _ h))) (by decide +kernel))) (goodIn_sub (fun _ h => List.mem_cons_of_mem _ (List.mem_append_right _ h)) (by decide +kernel))
set_option maxRecDepth 20000 in
theorem gL_odd_X0_odd : GoodIn wsL_odd (wsV RL 46 RX0 yX0_odd wsX0_odd) := goodIn_app (goodIn_of _ (by decide +kernel)) ggL_odd_X0_odd
theorem dL_odd_0 : decode cL_odd 0 = .ok (.aload_n 2, 1) := by decide +kernel
theorem dL_odd_1 : decode cL_odd 1 = .ok (.iconst 0, 1) := by decide +kernel
theorem dL_odd_2 : decode cL_odd 2 = .ok (.aload_n 0, 1) := by decide +kernel
theorem dL_odd_3 : decode cL_odd 3 = .ok (.iload_n 1, 1) := by decide +kernel
theorem dL_odd_4 : decode cL_odd 4 = .ok (.invokevirtual 46, 3) := by decide +kernel
theorem dL_odd_7 : decode cL_odd 7 = .ok (.lastore, 1) := by decide +kernel
theorem dL_odd_8 : decode cL_odd 8 = .ok (.goto 6, 3) := by decide +kernel
theorem dL_odd_11 : decode cL_odd 11 = .ok (.astore_n 3, 1) := by decide +kernel
theorem dL_odd_12 : decode cL_odd 12 = .ok (.iconst 1, 1) := by decide +kernel
theorem dL_odd_13 : decode cL_odd 13 = .ok (.ireturn, 1) := by decide +kernel
theorem dL_odd_14 : decode cL_odd 14 = .ok (.iconst 0, 1) := by decide +kernel
theorem dL_odd_15 : decode cL_odd 15 = .ok (.ireturn, 1) := by decide +kernel
set_option maxRecDepth 20000 in
theorem ggL_shift_X0_shift : GoodIn wsL_shift wsX0_shift := goodIn_ca (goodIn_ca (goodIn_r _ [6, 7, 8, 9, 5, 10, 11, 12, 13, 14, 15, 16, 17, 18, 19, 20, 21] (by decide +kernel) (by decide +kernel)) (goodIn_sub (fun _ h => List.mem_cons_of_mem _ (List.mem_append_left _ (List.mem_append_right _ h))) (by decide +kernel))) (goodIn_sub (fun _ h => List.mem_cons_of_mem _ (List.mem_append_right _ h)) (by decide +kernel))
set_option maxRecDepth 20000 in
theorem gL_shift_X0_shift : GoodIn wsL_shift (wsV RL 50 RX0 yX0_shift wsX0_shift) := goodIn_app (goodIn_of _ (by decide +kernel)) ggL_shift_X0_shift
theorem dL_shift_0 : decode cL_shift 0 = .ok (.aload_n 2, 1) := by decide +kernel
theorem dL_shift_1 : decode cL_shift 1 = .ok (.iconst 0, 1) := by decide +kernel
theorem dL_shift_2 : decode cL_shift 2 = .ok (.aload_n 0, 1) := by decide +kernel
theorem dL_shift_3 : decode cL_shift 3 = .ok (.iload_n 1, 1) := by decide +kernel
theorem dL_shift_4 : decode cL_shift 4 = .ok (.invokevirtual 50, 3) := by decide +kernel
theorem dL_shift_7 : decode cL_shift 7 = .ok (.i2l, 1) := by decide +kernel
theorem dL_shift_8 : decode cL_shift 8 = .ok (.lastore, 1) := by decide +kernel
theorem dL_shift_9 : decode cL_shift 9 = .ok (.goto 6, 3) := by decide +kernel
theorem dL_shift_12 : decode cL_shift 12 = .ok (.astore_n 3, 1) := by decide +kernel
theorem dL_shift_13 : decode cL_shift 13 = .ok (.iconst 1, 1) := by decide +kernel
theorem dL_shift_14 : decode cL_shift 14 = .ok (.ireturn, 1) := by decide +kernel
theorem dL_shift_15 : decode cL_shift 15 = .ok (.iconst 0, 1) := by decide +kernel
theorem dL_shift_16 : decode cL_shift 16 = .ok (.ireturn, 1) := by decide +kernel
set_option maxRecDepth 20000 in
theorem ggL_bits_X0_bits : GoodIn wsL_bits wsX0_bits := goodIn_ca (goodIn_ca (goodIn_r _ [6, 7, 8, 5, 9, 10, 11, 12, 13, 14, 15, 16, 17, 18, 19, 20, 21, 22, 23, 24, 25, 26, 27, 28, 29, 30, 31, 32, 33, 34, 35, 36, 37, 38, 39] (by decide +kernel) (by decide +kernel)) (goodIn_sub (fun _ h => List.mem_cons_of_mem _ (List.mem_append_right _ h)) (by decide +kernel))) (goodIn_sub (fun _ h => List.mem_cons_of_mem _ (List.mem_append_left _ (List.mem_append_right _ h))) (by decide +kernel))
set_option maxRecDepth 20000 in
theorem gL_bits_X0_bits : GoodIn wsL_bits (wsV RL 53 RX0 yX0_bits wsX0_bits) := goodIn_app (goodIn_of _ (by decide +kernel)) ggL_bits_X0_bits
theorem dL_bits_0 : decode cL_bits 0 = .ok (.aload_n 2, 1) := by decide +kernel
theorem dL_bits_1 : decode cL_bits 1 = .ok (.iconst 0, 1) := by decide +kernel
theorem dL_bits_2 : decode cL_bits 2 = .ok (.aload_n 0, 1) := by decide +kernel
theorem dL_bits_3 : decode cL_bits 3 = .ok (.iload_n 1, 1) := by decide +kernel
theorem dL_bits_4 : decode cL_bits 4 = .ok (.invokevirtual 53, 3) := by decide +kernel
theorem dL_bits_7 : decode cL_bits 7 = .ok (.lastore, 1) := by decide +kernel
theorem dL_bits_8 : decode cL_bits 8 = .ok (.goto 6, 3) := by decide +kernel
theorem dL_bits_11 : decode cL_bits 11 = .ok (.astore_n 3, 1) := by decide +kernel
theorem dL_bits_12 : decode cL_bits 12 = .ok (.iconst 1, 1) := by decide +kernel
theorem dL_bits_13 : decode cL_bits 13 = .ok (.ireturn, 1) := by decide +kernel
theorem dL_bits_14 : decode cL_bits 14 = .ok (.iconst 0, 1) := by decide +kernel
theorem dL_bits_15 : decode cL_bits 15 = .ok (.ireturn, 1) := by decide +kernel
set_option maxRecDepth 20000 in
theorem ggL_isWhole_X0_isWhole : GoodIn wsL_isWhole wsX0_isWhole := goodIn_ca (goodIn_ca (goodIn_r _ [6, 7, 8, 9, 5, 10, 11, 12, 13, 14, 15, 16, 17, 18, 19, 20, 21] (by decide +kernel) (by decide +kernel)) (goodIn_sub (fun _ h => List.mem_cons_of_mem _ (List.mem_append_left _ (List.mem_append_right _ h))) (by decide +kernel))) (goodIn_sub (fun _ h => List.mem_cons_of_mem _ (List.mem_append_right _ h)) (by decide +kernel))
set_option maxRecDepth 20000 in
theorem gL_isWhole_X0_isWhole : GoodIn wsL_isWhole (wsV RL 56 RX0 yX0_isWhole wsX0_isWhole) := goodIn_app (goodIn_of _ (by decide +kernel)) ggL_isWhole_X0_isWhole
theorem dL_isWhole_0 : decode cL_isWhole 0 = .ok (.aload_n 2, 1) := by decide +kernel
theorem dL_isWhole_1 : decode cL_isWhole 1 = .ok (.iconst 0, 1) := by decide +kernel
theorem dL_isWhole_2 : decode cL_isWhole 2 = .ok (.aload_n 0, 1) := by decide +kernel
theorem dL_isWhole_3 : decode cL_isWhole 3 = .ok (.iload_n 1, 1) := by decide +kernel
theorem dL_isWhole_4 : decode cL_isWhole 4 = .ok (.invokevirtual 56, 3) := by decide +kernel
theorem dL_isWhole_7 : decode cL_isWhole 7 = .ok (.ifCond .eq 7, 3) := by decide +kernel
theorem dL_isWhole_10 : decode cL_isWhole 10 = .ok (.lconst 1, 1) := by decide +kernel
theorem dL_isWhole_11 : decode cL_isWhole 11 = .ok (.goto 4, 3) := by decide +kernel
theorem dL_isWhole_14 : decode cL_isWhole 14 = .ok (.lconst 0, 1) := by decide +kernel
theorem dL_isWhole_15 : decode cL_isWhole 15 = .ok (.lastore, 1) := by decide +kernel
theorem dL_isWhole_16 : decode cL_isWhole 16 = .ok (.goto 6, 3) := by decide +kernel
theorem dL_isWhole_19 : decode cL_isWhole 19 = .ok (.astore_n 3, 1) := by decide +kernel
theorem dL_isWhole_20 : decode cL_isWhole 20 = .ok (.iconst 1, 1) := by decide +kernel
theorem dL_isWhole_21 : decode cL_isWhole 21 = .ok (.ireturn, 1) := by decide +kernel
theorem dL_isWhole_22 : decode cL_isWhole 22 = .ok (.iconst 0, 1) := by decide +kernel
theorem dL_isWhole_23 : decode cL_isWhole 23 = .ok (.ireturn, 1) := by decide +kernel
set_option maxRecDepth 20000 in
theorem ggL_whole_X0_whole : GoodIn wsL_whole wsX0_whole := goodIn_ca (goodIn_ca (goodIn_ca (goodIn_r _ [7, 8, 9, 10, 6, 11, 12, 13, 14, 15, 16, 17, 18, 19, 20, 21, 22, 23, 24, 25, 26, 27, 28, 29, 30, 31, 32, 33, 34, 35, 36, 37, 38] (by decide +kernel) (by decide +kernel)) (goodIn_sub (fun _ h => List.mem_cons_of_mem _ (List.mem_append_left _ (List.mem_append_left _ (List.mem_append_right _ h)))) (by decide +kernel))) (goodIn_sub (fun _ h => List.mem_cons_of_mem _ (List.mem_append_left _ (List.mem_append_right _ h))) (by decide +kernel))) (goodIn_sub (fun _ h => List.mem_cons_of_mem _ (List.mem_append_right _ h)) (by decide +kernel))
set_option maxRecDepth 20000 in
theorem gL_whole_X0_whole : GoodIn wsL_whole (wsV RL 60 RX0 yX0_whole wsX0_whole) := goodIn_app (goodIn_of _ (by decide +kernel)) ggL_whole_X0_whole
theorem dL_whole_0 : decode cL_whole 0 = .ok (.aload_n 2, 1) := by decide +kernel
theorem dL_whole_1 : decode cL_whole 1 = .ok (.iconst 0, 1) := by decide +kernel
theorem dL_whole_2 : decode cL_whole 2 = .ok (.aload_n 0, 1) := by decide +kernel
theorem dL_whole_3 : decode cL_whole 3 = .ok (.iload_n 1, 1) := by decide +kernel
theorem dL_whole_4 : decode cL_whole 4 = .ok (.invokevirtual 60, 3) := by decide +kernel
theorem dL_whole_7 : decode cL_whole 7 = .ok (.lastore, 1) := by decide +kernel
theorem dL_whole_8 : decode cL_whole 8 = .ok (.goto 9, 3) := by decide +kernel
theorem dL_whole_11 : decode cL_whole 11 = .ok (.astore_n 3, 1) := by decide +kernel
theorem dL_whole_12 : decode cL_whole 12 = .ok (.iconst 1, 1) := by decide +kernel
theorem dL_whole_13 : decode cL_whole 13 = .ok (.ireturn, 1) := by decide +kernel
theorem dL_whole_14 : decode cL_whole 14 = .ok (.astore_n 3, 1) := by decide +kernel
theorem dL_whole_15 : decode cL_whole 15 = .ok (.iconst 2, 1) := by decide +kernel
theorem dL_whole_16 : decode cL_whole 16 = .ok (.ireturn, 1) := by decide +kernel
theorem dL_whole_17 : decode cL_whole 17 = .ok (.iconst 0, 1) := by decide +kernel
theorem dL_whole_18 : decode cL_whole 18 = .ok (.ireturn, 1) := by decide +kernel
set_option maxRecDepth 20000 in
theorem ggL_compare_X0_compare : GoodIn wsL_compare wsX0_compare := goodIn_ca (goodIn_ca (goodIn_r _ [6, 7, 8, 5, 9, 10, 11, 12, 13, 14, 15, 16, 17, 18, 19, 20, 21, 22, 23, 24, 25, 26, 27, 28, 29, 30, 31, 32, 33, 34, 35, 36, 37, 38, 39, 40, 41, 42, 43] (by decide +kernel) (by decide +kernel)) (goodIn_sub (fun _ h => List.mem_cons_of_mem _ (List.mem_append_right _ h)) (by decide +kernel))) (goodIn_sub (fun _ h => List.mem_cons_of_mem _ (List.mem_append_left _ (List.mem_append_right _ h))) (by decide +kernel))
set_option maxRecDepth 20000 in
theorem gL_compare_X0_compare : GoodIn wsL_compare (wsV RL 63 RX0 yX0_compare wsX0_compare) := goodIn_app (goodIn_of _ (by decide +kernel)) ggL_compare_X0_compare
theorem dL_compare_0 : decode cL_compare 0 = .ok (.aload_n 3, 1) := by decide +kernel
theorem dL_compare_1 : decode cL_compare 1 = .ok (.iconst 0, 1) := by decide +kernel
theorem dL_compare_2 : decode cL_compare 2 = .ok (.aload_n 0, 1) := by decide +kernel
theorem dL_compare_3 : decode cL_compare 3 = .ok (.iload_n 1, 1) := by decide +kernel
theorem dL_compare_4 : decode cL_compare 4 = .ok (.iload_n 2, 1) := by decide +kernel
theorem dL_compare_5 : decode cL_compare 5 = .ok (.invokevirtual 63, 3) := by decide +kernel
theorem dL_compare_8 : decode cL_compare 8 = .ok (.i2l, 1) := by decide +kernel
theorem dL_compare_9 : decode cL_compare 9 = .ok (.lastore, 1) := by decide +kernel
theorem dL_compare_10 : decode cL_compare 10 = .ok (.goto 7, 3) := by decide +kernel
theorem dL_compare_13 : decode cL_compare 13 = .ok (.astore 4, 2) := by decide +kernel
theorem dL_compare_15 : decode cL_compare 15 = .ok (.iconst 1, 1) := by decide +kernel
theorem dL_compare_16 : decode cL_compare 16 = .ok (.ireturn, 1) := by decide +kernel
theorem dL_compare_17 : decode cL_compare 17 = .ok (.iconst 0, 1) := by decide +kernel
theorem dL_compare_18 : decode cL_compare 18 = .ok (.ireturn, 1) := by decide +kernel
set_option maxRecDepth 20000 in
theorem ggL_rank_X0_rank : GoodIn wsL_rank wsX0_rank := goodIn_ca (goodIn_ca (goodIn_r _ [6, 7, 8, 5, 9, 10, 11, 12, 13, 14, 15, 16, 17, 18, 19, 20, 21, 22, 23, 24, 25, 26, 27, 28, 29, 30, 31, 32, 33, 34, 35, 36, 37, 38, 39, 40, 41, 42, 43] (by decide +kernel) (by decide +kernel)) (goodIn_sub (fun _ h => List.mem_cons_of_mem _ (List.mem_append_right _ h)) (by decide +kernel))) (goodIn_sub (fun _ h => List.mem_cons_of_mem _ (List.mem_append_left _ (List.mem_append_right _ h))) (by decide +kernel))
set_option maxRecDepth 20000 in
theorem gL_rank_X0_rank : GoodIn wsL_rank (wsV RL 66 RX0 yX0_rank wsX0_rank) := goodIn_app (goodIn_of _ (by decide +kernel)) ggL_rank_X0_rank
theorem dL_rank_0 : decode cL_rank 0 = .ok (.aload_n 2, 1) := by decide +kernel
theorem dL_rank_1 : decode cL_rank 1 = .ok (.iconst 0, 1) := by decide +kernel
theorem dL_rank_2 : decode cL_rank 2 = .ok (.aload_n 0, 1) := by decide +kernel
theorem dL_rank_3 : decode cL_rank 3 = .ok (.iload_n 1, 1) := by decide +kernel
theorem dL_rank_4 : decode cL_rank 4 = .ok (.invokevirtual 66, 3) := by decide +kernel
theorem dL_rank_7 : decode cL_rank 7 = .ok (.i2l, 1) := by decide +kernel
theorem dL_rank_8 : decode cL_rank 8 = .ok (.lastore, 1) := by decide +kernel
theorem dL_rank_9 : decode cL_rank 9 = .ok (.goto 6, 3) := by decide +kernel
theorem dL_rank_12 : decode cL_rank 12 = .ok (.astore_n 3, 1) := by decide +kernel
theorem dL_rank_13 : decode cL_rank 13 = .ok (.iconst 1, 1) := by decide +kernel
theorem dL_rank_14 : decode cL_rank 14 = .ok (.ireturn, 1) := by decide +kernel
theorem dL_rank_15 : decode cL_rank 15 = .ok (.iconst 0, 1) := by decide +kernel
theorem dL_rank_16 : decode cL_rank 16 = .ok (.ireturn, 1) := by decide +kernel
set_option maxRecDepth 20000 in
theorem ggL_at_X0_at : GoodIn wsL_at wsX0_at := goodIn_ca (goodIn_ca (goodIn_r _ [6, 7, 8, 5, 9, 10, 11, 12, 13, 14, 15, 16, 17, 18, 19, 20, 21, 22, 23, 24, 25, 26, 27, 28, 29, 30, 31, 32, 33, 34, 35, 36, 37, 38, 39, 40, 41, 42, 43, 44, 45, 46, 47] (by decide +kernel) (by decide +kernel)) (goodIn_sub (fun _ h => List.mem_cons_of_mem _ (List.mem_append_right _ h)) (by decide +kernel))) (goodIn_sub (fun _ h => List.mem_cons_of_mem _ (List.mem_append_left _ (List.mem_append_right _ h))) (by decide +kernel))
set_option maxRecDepth 20000 in
theorem gL_at_X0_at : GoodIn wsL_at (wsV RL 69 RX0 yX0_at wsX0_at) := goodIn_app (goodIn_of _ (by decide +kernel)) ggL_at_X0_at
theorem dL_at_0 : decode cL_at 0 = .ok (.aload_n 2, 1) := by decide +kernel
theorem dL_at_1 : decode cL_at 1 = .ok (.iconst 0, 1) := by decide +kernel
theorem dL_at_2 : decode cL_at 2 = .ok (.aload_n 0, 1) := by decide +kernel
theorem dL_at_3 : decode cL_at 3 = .ok (.iload_n 1, 1) := by decide +kernel
theorem dL_at_4 : decode cL_at 4 = .ok (.invokevirtual 69, 3) := by decide +kernel
theorem dL_at_7 : decode cL_at 7 = .ok (.i2l, 1) := by decide +kernel
theorem dL_at_8 : decode cL_at 8 = .ok (.lastore, 1) := by decide +kernel
theorem dL_at_9 : decode cL_at 9 = .ok (.goto 6, 3) := by decide +kernel
theorem dL_at_12 : decode cL_at 12 = .ok (.astore_n 3, 1) := by decide +kernel
theorem dL_at_13 : decode cL_at 13 = .ok (.iconst 1, 1) := by decide +kernel
theorem dL_at_14 : decode cL_at 14 = .ok (.ireturn, 1) := by decide +kernel
theorem dL_at_15 : decode cL_at 15 = .ok (.iconst 0, 1) := by decide +kernel
theorem dL_at_16 : decode cL_at 16 = .ok (.ireturn, 1) := by decide +kernel
set_option maxRecDepth 20000 in
theorem ggL_log_X0_log : GoodIn wsL_log wsX0_log := goodIn_ca (goodIn_ca (goodIn_ca (goodIn_ca (goodIn_ca (goodIn_ca (goodIn_r _ [9, 10, 11, 12, 13, 14, 8, 15, 16, 17, 18, 19, 20, 21, 22, 23, 24, 25, 26, 27, 28, 29, 30, 31, 32, 33, 34, 35, 36, 37, 38, 39, 40, 41, 42, 43, 44, 45, 46, 47, 48, 49, 50, 51, 52, 53] (by decide +kernel) (by decide +kernel)) (goodIn_sub (fun _ h => List.mem_cons_of_mem _ (List.mem_append_left _ (List.mem_append_left _ (List.mem_append_left _ (List.mem_append_left _ (List.mem_append_left _ (List.mem_append_right _ h))))))) (by decide +kernel))) (goodIn_sub (fun _ h => List.mem_cons_of_mem _ (List.mem_append_left _ (List.mem_append_left _ (List.mem_append_left _ (List.mem_append_left _ (List.mem_append_right _ h)))))) (by decide +kernel))) (goodIn_sub (fun _ h => List.mem_cons_of_mem _ (List.mem_append_left _ (List.mem_append_left _ (List.mem_append_left _ (List.mem_append_right _ h))))) (by decide +kernel))) (goodIn_sub (fun _ h => List.mem_cons_of_mem _ (List.mem_append_left _ (List.mem_append_left _ (List.mem_append_right _ h)))) (by decide +kernel))) (goodIn_sub (fun _ h => List.mem_cons_of_mem _ (List.mem_append_left _ (List.mem_append_right _ h))) (by decide +kernel))) (goodIn_sub (fun _ h => List.mem_cons_of_mem _ (List.mem_append_right _ h)) (by decide +kernel))
set_option maxRecDepth 20000 in
theorem gL_log_X0_log : GoodIn wsL_log (wsV RL 72 RX0 yX0_log wsX0_log) := goodIn_app (goodIn_of _ (by decide +kernel)) ggL_log_X0_log
theorem dL_log_0 : decode cL_log 0 = .ok (.aload_n 3, 1) := by decide +kernel
theorem dL_log_1 : decode cL_log 1 = .ok (.iconst 0, 1) := by decide +kernel
theorem dL_log_2 : decode cL_log 2 = .ok (.aload_n 0, 1) := by decide +kernel
theorem dL_log_3 : decode cL_log 3 = .ok (.iload_n 1, 1) := by decide +kernel
theorem dL_log_4 : decode cL_log 4 = .ok (.iload_n 2, 1) := by decide +kernel
theorem dL_log_5 : decode cL_log 5 = .ok (.invokevirtual 72, 3) := by decide +kernel
theorem dL_log_8 : decode cL_log 8 = .ok (.i2l, 1) := by decide +kernel
theorem dL_log_9 : decode cL_log 9 = .ok (.lastore, 1) := by decide +kernel
theorem dL_log_10 : decode cL_log 10 = .ok (.goto 19, 3) := by decide +kernel
theorem dL_log_13 : decode cL_log 13 = .ok (.astore 4, 2) := by decide +kernel
theorem dL_log_15 : decode cL_log 15 = .ok (.iconst 1, 1) := by decide +kernel
theorem dL_log_16 : decode cL_log 16 = .ok (.ireturn, 1) := by decide +kernel
theorem dL_log_17 : decode cL_log 17 = .ok (.astore 4, 2) := by decide +kernel
theorem dL_log_19 : decode cL_log 19 = .ok (.iconst 2, 1) := by decide +kernel
theorem dL_log_20 : decode cL_log 20 = .ok (.ireturn, 1) := by decide +kernel
theorem dL_log_21 : decode cL_log 21 = .ok (.astore 4, 2) := by decide +kernel
theorem dL_log_23 : decode cL_log 23 = .ok (.iconst 3, 1) := by decide +kernel
theorem dL_log_24 : decode cL_log 24 = .ok (.ireturn, 1) := by decide +kernel
theorem dL_log_25 : decode cL_log 25 = .ok (.astore 4, 2) := by decide +kernel
theorem dL_log_27 : decode cL_log 27 = .ok (.iconst 4, 1) := by decide +kernel
theorem dL_log_28 : decode cL_log 28 = .ok (.ireturn, 1) := by decide +kernel
theorem dL_log_29 : decode cL_log 29 = .ok (.iconst 0, 1) := by decide +kernel
theorem dL_log_30 : decode cL_log 30 = .ok (.ireturn, 1) := by decide +kernel
set_option maxRecDepth 20000 in
theorem ggL_digits_X0_digits : GoodIn wsL_digits wsX0_digits := goodIn_ca (goodIn_ca (goodIn_ca (goodIn_ca (goodIn_ca (goodIn_r _ [8, 9, 10, 7, 11, 12, 13, 14, 15, 16, 17, 18, 19, 20, 21, 22, 23, 24, 25, 26, 27, 28, 29, 30, 31, 32, 33, 34, 35, 36, 37, 38, 39, 40, 41, 42, 43, 44, 45, 46, 47, 48, 49] (by decide +kernel) (by decide +kernel)) (goodIn_sub (fun _ h => List.mem_cons_of_mem _ (List.mem_append_left _ (List.mem_append_left _ (List.mem_append_left _ (List.mem_append_right _ h))))) (by decide +kernel))) (goodIn_sub (fun _ h => List.mem_cons_of_mem _ (List.mem_append_left _ (List.mem_append_left _ (List.mem_append_right _ h)))) (by decide +kernel))) (goodIn_sub (fun _ h => List.mem_cons_of_mem _ (List.mem_append_left _ (List.mem_append_left _ (List.mem_append_left _ (List.mem_append_left _ (List.mem_append_right _ h)))))) (by decide +kernel))) (goodIn_sub (fun _ h => List.mem_cons_of_mem _ (List.mem_append_left _ (List.mem_append_right _ h))) (by decide +kernel))) (goodIn_sub (fun _ h => List.mem_cons_of_mem _ (List.mem_append_right _ h)) (by decide +kernel))
set_option maxRecDepth 20000 in
theorem gL_digits_X0_digits : GoodIn wsL_digits (wsV RL 75 RX0 yX0_digits wsX0_digits) := goodIn_app (goodIn_of _ (by decide +kernel)) ggL_digits_X0_digits
theorem dL_digits_0 : decode cL_digits 0 = .ok (.aload_n 3, 1) := by decide +kernel
theorem dL_digits_1 : decode cL_digits 1 = .ok (.iconst 0, 1) := by decide +kernel
theorem dL_digits_2 : decode cL_digits 2 = .ok (.aload_n 0, 1) := by decide +kernel
theorem dL_digits_3 : decode cL_digits 3 = .ok (.iload_n 1, 1) := by decide +kernel
theorem dL_digits_4 : decode cL_digits 4 = .ok (.iload_n 2, 1) := by decide +kernel
theorem dL_digits_5 : decode cL_digits 5 = .ok (.invokevirtual 75, 3) := by decide +kernel
theorem dL_digits_8 : decode cL_digits 8 = .ok (.i2l, 1) := by decide +kernel
theorem dL_digits_9 : decode cL_digits 9 = .ok (.lastore, 1) := by decide +kernel
theorem dL_digits_10 : decode cL_digits 10 = .ok (.goto 15, 3) := by decide +kernel
theorem dL_digits_13 : decode cL_digits 13 = .ok (.astore 4, 2) := by decide +kernel
theorem dL_digits_15 : decode cL_digits 15 = .ok (.iconst 1, 1) := by decide +kernel
theorem dL_digits_16 : decode cL_digits 16 = .ok (.ireturn, 1) := by decide +kernel
theorem dL_digits_17 : decode cL_digits 17 = .ok (.astore 4, 2) := by decide +kernel
theorem dL_digits_19 : decode cL_digits 19 = .ok (.iconst 2, 1) := by decide +kernel
theorem dL_digits_20 : decode cL_digits 20 = .ok (.ireturn, 1) := by decide +kernel
theorem dL_digits_21 : decode cL_digits 21 = .ok (.astore 4, 2) := by decide +kernel
theorem dL_digits_23 : decode cL_digits 23 = .ok (.iconst 3, 1) := by decide +kernel
theorem dL_digits_24 : decode cL_digits 24 = .ok (.ireturn, 1) := by decide +kernel
theorem dL_digits_25 : decode cL_digits 25 = .ok (.iconst 0, 1) := by decide +kernel
theorem dL_digits_26 : decode cL_digits 26 = .ok (.ireturn, 1) := by decide +kernel
set_option maxRecDepth 20000 in
theorem ggL_digit_X0_digit : GoodIn wsL_digit wsX0_digit := goodIn_ca (goodIn_ca (goodIn_ca (goodIn_ca (goodIn_ca (goodIn_r _ [8, 9, 10, 11, 12, 7, 13, 14, 15, 16, 17, 18, 19, 20, 21, 22, 23, 24, 25, 26, 27, 28, 29, 30, 31, 32, 33, 34, 35, 36, 37, 38, 39, 40, 41, 42, 43, 44, 45, 46] (by decide +kernel) (by decide +kernel)) (goodIn_sub (fun _ h => List.mem_cons_of_mem _ (List.mem_append_left _ (List.mem_append_left _ (List.mem_append_left _ (List.mem_append_right _ h))))) (by decide +kernel))) (goodIn_sub (fun _ h => List.mem_cons_of_mem _ (List.mem_append_left _ (List.mem_append_left _ (List.mem_append_right _ h)))) (by decide +kernel))) (goodIn_sub (fun _ h => List.mem_cons_of_mem _ (List.mem_append_left _ (List.mem_append_right _ h))) (by decide +kernel))) (goodIn_sub (fun _ h => List.mem_cons_of_mem _ (List.mem_append_left _ (List.mem_append_left _ (List.mem_append_left _ (List.mem_append_left _ (List.mem_append_right _ h)))))) (by decide +kernel))) (goodIn_sub (fun _ h => List.mem_cons_of_mem _ (List.mem_append_right _ h)) (by decide +kernel))
set_option maxRecDepth 20000 in
theorem gL_digit_X0_digit : GoodIn wsL_digit (wsV RL 78 RX0 yX0_digit wsX0_digit) := goodIn_app (goodIn_of _ (by decide +kernel)) ggL_digit_X0_digit
theorem dL_digit_0 : decode cL_digit 0 = .ok (.aload 4, 2) := by decide +kernel
theorem dL_digit_2 : decode cL_digit 2 = .ok (.iconst 0, 1) := by decide +kernel
theorem dL_digit_3 : decode cL_digit 3 = .ok (.aload_n 0, 1) := by decide +kernel
theorem dL_digit_4 : decode cL_digit 4 = .ok (.iload_n 1, 1) := by decide +kernel
theorem dL_digit_5 : decode cL_digit 5 = .ok (.iload_n 2, 1) := by decide +kernel
theorem dL_digit_6 : decode cL_digit 6 = .ok (.iload_n 3, 1) := by decide +kernel
theorem dL_digit_7 : decode cL_digit 7 = .ok (.invokevirtual 78, 3) := by decide +kernel
theorem dL_digit_10 : decode cL_digit 10 = .ok (.i2l, 1) := by decide +kernel
theorem dL_digit_11 : decode cL_digit 11 = .ok (.lastore, 1) := by decide +kernel
theorem dL_digit_12 : decode cL_digit 12 = .ok (.goto 15, 3) := by decide +kernel
theorem dL_digit_15 : decode cL_digit 15 = .ok (.astore 5, 2) := by decide +kernel
theorem dL_digit_17 : decode cL_digit 17 = .ok (.iconst 1, 1) := by decide +kernel
theorem dL_digit_18 : decode cL_digit 18 = .ok (.ireturn, 1) := by decide +kernel
theorem dL_digit_19 : decode cL_digit 19 = .ok (.astore 5, 2) := by decide +kernel
theorem dL_digit_21 : decode cL_digit 21 = .ok (.iconst 2, 1) := by decide +kernel
theorem dL_digit_22 : decode cL_digit 22 = .ok (.ireturn, 1) := by decide +kernel
theorem dL_digit_23 : decode cL_digit 23 = .ok (.astore 5, 2) := by decide +kernel
theorem dL_digit_25 : decode cL_digit 25 = .ok (.iconst 3, 1) := by decide +kernel
theorem dL_digit_26 : decode cL_digit 26 = .ok (.ireturn, 1) := by decide +kernel
theorem dL_digit_27 : decode cL_digit 27 = .ok (.iconst 0, 1) := by decide +kernel
theorem dL_digit_28 : decode cL_digit 28 = .ok (.ireturn, 1) := by decide +kernel
set_option maxRecDepth 20000 in
theorem ggL_root_X0_root : GoodIn wsL_root wsX0_root := goodIn_ca (goodIn_ca (goodIn_ca (goodIn_ca (goodIn_ca (goodIn_ca (goodIn_r _ [9, 10, 11, 12, 13, 14, 15, 8, 16, 17, 18, 19, 20, 21, 22, 23, 24, 25, 26, 27, 28, 29, 30, 31, 32, 33, 34, 35, 36, 37, 38, 39, 40, 41, 42, 43, 44, 45, 46, 47, 48, 49, 50, 51] (by decide +kernel) (by decide +kernel)) (goodIn_sub (fun _ h => List.mem_cons_of_mem _ (List.mem_append_left _ (List.mem_append_left _ (List.mem_append_left _ (List.mem_append_left _ (List.mem_append_left _ (List.mem_append_right _ h))))))) (by decide +kernel))) (goodIn_sub (fun _ h => List.mem_cons_of_mem _ (List.mem_append_left _ (List.mem_append_left _ (List.mem_append_left _ (List.mem_append_left _ (List.mem_append_right _ h)))))) (by decide +kernel))) (goodIn_sub (fun _ h => List.mem_cons_of_mem _ (List.mem_append_left _ (List.mem_append_left _ (List.mem_append_left _ (List.mem_append_right _ h))))) (by decide +kernel))) (goodIn_sub (fun _ h => List.mem_cons_of_mem _ (List.mem_append_left _ (List.mem_append_left _ (List.mem_append_right _ h)))) (by decide +kernel))) (goodIn_sub (fun _ h => List.mem_cons_of_mem _ (List.mem_append_left _ (List.mem_append_right _ h))) (by decide +kernel))) (goodIn_sub (fun _ h => List.mem_cons_of_mem _ (List.mem_append_right _ h)) (by decide +kernel))
set_option maxRecDepth 20000 in
theorem gL_root_X0_root : GoodIn wsL_root (wsV RL 81 RX0 yX0_root wsX0_root) := goodIn_app (goodIn_of _ (by decide +kernel)) ggL_root_X0_root
theorem dL_root_0 : decode cL_root 0 = .ok (.aload_n 3, 1) := by decide +kernel
theorem dL_root_1 : decode cL_root 1 = .ok (.iconst 0, 1) := by decide +kernel
theorem dL_root_2 : decode cL_root 2 = .ok (.aload_n 0, 1) := by decide +kernel
theorem dL_root_3 : decode cL_root 3 = .ok (.iload_n 1, 1) := by decide +kernel
theorem dL_root_4 : decode cL_root 4 = .ok (.iload_n 2, 1) := by decide +kernel
theorem dL_root_5 : decode cL_root 5 = .ok (.invokevirtual 81, 3) := by decide +kernel
theorem dL_root_8 : decode cL_root 8 = .ok (.i2l, 1) := by decide +kernel
theorem dL_root_9 : decode cL_root 9 = .ok (.lastore, 1) := by decide +kernel
theorem dL_root_10 : decode cL_root 10 = .ok (.goto 19, 3) := by decide +kernel
theorem dL_root_13 : decode cL_root 13 = .ok (.astore 4, 2) := by decide +kernel
theorem dL_root_15 : decode cL_root 15 = .ok (.iconst 1, 1) := by decide +kernel
theorem dL_root_16 : decode cL_root 16 = .ok (.ireturn, 1) := by decide +kernel
theorem dL_root_17 : decode cL_root 17 = .ok (.astore 4, 2) := by decide +kernel
theorem dL_root_19 : decode cL_root 19 = .ok (.iconst 2, 1) := by decide +kernel
theorem dL_root_20 : decode cL_root 20 = .ok (.ireturn, 1) := by decide +kernel
theorem dL_root_21 : decode cL_root 21 = .ok (.astore 4, 2) := by decide +kernel
theorem dL_root_23 : decode cL_root 23 = .ok (.iconst 3, 1) := by decide +kernel
theorem dL_root_24 : decode cL_root 24 = .ok (.ireturn, 1) := by decide +kernel
theorem dL_root_25 : decode cL_root 25 = .ok (.astore 4, 2) := by decide +kernel
theorem dL_root_27 : decode cL_root 27 = .ok (.iconst 4, 1) := by decide +kernel
theorem dL_root_28 : decode cL_root 28 = .ok (.ireturn, 1) := by decide +kernel
theorem dL_root_29 : decode cL_root 29 = .ok (.iconst 0, 1) := by decide +kernel
theorem dL_root_30 : decode cL_root 30 = .ok (.ireturn, 1) := by decide +kernel
set_option maxRecDepth 20000 in
theorem ggL_sum_X0_sum : GoodIn wsL_sum wsX0_sum := goodIn_ca (goodIn_ca (goodIn_ca (goodIn_r _ [7, 8, 9, 6, 10, 11, 12, 13, 14, 15, 16, 17, 18, 19, 20, 21, 22, 23, 24, 25, 26, 27, 28] (by decide +kernel) (by decide +kernel)) (goodIn_sub (fun _ h => List.mem_cons_of_mem _ (List.mem_append_left _ (List.mem_append_left _ (List.mem_append_right _ h)))) (by decide +kernel))) (goodIn_sub (fun _ h => List.mem_cons_of_mem _ (List.mem_append_left _ (List.mem_append_right _ h))) (by decide +kernel))) (goodIn_sub (fun _ h => List.mem_cons_of_mem _ (List.mem_append_right _ h)) (by decide +kernel))
set_option maxRecDepth 20000 in
theorem gL_sum_X0_sum : GoodIn wsL_sum (wsV RL 84 RX0 yX0_sum wsX0_sum) := goodIn_app (goodIn_of _ (by decide +kernel)) ggL_sum_X0_sum
theorem dL_sum_0 : decode cL_sum 0 = .ok (.aload_n 3, 1) := by decide +kernel
theorem dL_sum_1 : decode cL_sum 1 = .ok (.iconst 0, 1) := by decide +kernel
theorem dL_sum_2 : decode cL_sum 2 = .ok (.aload_n 0, 1) := by decide +kernel
theorem dL_sum_3 : decode cL_sum 3 = .ok (.iload_n 1, 1) := by decide +kernel
theorem dL_sum_4 : decode cL_sum 4 = .ok (.iload_n 2, 1) := by decide +kernel
theorem dL_sum_5 : decode cL_sum 5 = .ok (.invokevirtual 84, 3) := by decide +kernel
theorem dL_sum_8 : decode cL_sum 8 = .ok (.lastore, 1) := by decide +kernel
theorem dL_sum_9 : decode cL_sum 9 = .ok (.goto 11, 3) := by decide +kernel
theorem dL_sum_12 : decode cL_sum 12 = .ok (.astore 4, 2) := by decide +kernel
theorem dL_sum_14 : decode cL_sum 14 = .ok (.iconst 1, 1) := by decide +kernel
theorem dL_sum_15 : decode cL_sum 15 = .ok (.ireturn, 1) := by decide +kernel
theorem dL_sum_16 : decode cL_sum 16 = .ok (.astore 4, 2) := by decide +kernel
theorem dL_sum_18 : decode cL_sum 18 = .ok (.iconst 2, 1) := by decide +kernel
theorem dL_sum_19 : decode cL_sum 19 = .ok (.ireturn, 1) := by decide +kernel
theorem dL_sum_20 : decode cL_sum 20 = .ok (.iconst 0, 1) := by decide +kernel
theorem dL_sum_21 : decode cL_sum 21 = .ok (.ireturn, 1) := by decide +kernel
set_option maxRecDepth 20000 in
theorem ggL_rest_X0_rest : GoodIn wsL_rest wsX0_rest := goodIn_ca (goodIn_ca (goodIn_ca (goodIn_r _ [7, 8, 9, 6, 10, 11, 12, 13, 14, 15, 16, 17, 18, 19, 20, 21, 22, 23, 24, 25, 26, 27, 28, 29, 30, 31, 32, 33, 34, 35, 36, 37, 38, 39, 40, 41] (by decide +kernel) (by decide +kernel)) (goodIn_sub (fun _ h => List.mem_cons_of_mem _ (List.mem_append_left _ (List.mem_append_left _ (List.mem_append_right _ h)))) (by decide +kernel))) (goodIn_sub (fun _ h => List.mem_cons_of_mem _ (List.mem_append_left _ (List.mem_append_right _ h))) (by decide +kernel))) (goodIn_sub (fun _ h => List.mem_cons_of_mem _ (List.mem_append_right _ h)) (by decide +kernel))
set_option maxRecDepth 20000 in
theorem gL_rest_X0_rest : GoodIn wsL_rest (wsV RL 88 RX0 yX0_rest wsX0_rest) := goodIn_app (goodIn_of _ (by decide +kernel)) ggL_rest_X0_rest
theorem dL_rest_0 : decode cL_rest 0 = .ok (.aload 4, 2) := by decide +kernel
theorem dL_rest_2 : decode cL_rest 2 = .ok (.iconst 0, 1) := by decide +kernel
theorem dL_rest_3 : decode cL_rest 3 = .ok (.aload_n 0, 1) := by decide +kernel
theorem dL_rest_4 : decode cL_rest 4 = .ok (.iload_n 1, 1) := by decide +kernel
theorem dL_rest_5 : decode cL_rest 5 = .ok (.iload_n 2, 1) := by decide +kernel
theorem dL_rest_6 : decode cL_rest 6 = .ok (.iload_n 3, 1) := by decide +kernel
theorem dL_rest_7 : decode cL_rest 7 = .ok (.invokevirtual 88, 3) := by decide +kernel
theorem dL_rest_10 : decode cL_rest 10 = .ok (.i2l, 1) := by decide +kernel
theorem dL_rest_11 : decode cL_rest 11 = .ok (.lastore, 1) := by decide +kernel
theorem dL_rest_12 : decode cL_rest 12 = .ok (.goto 11, 3) := by decide +kernel
theorem dL_rest_15 : decode cL_rest 15 = .ok (.astore 5, 2) := by decide +kernel
theorem dL_rest_17 : decode cL_rest 17 = .ok (.iconst 1, 1) := by decide +kernel
theorem dL_rest_18 : decode cL_rest 18 = .ok (.ireturn, 1) := by decide +kernel
theorem dL_rest_19 : decode cL_rest 19 = .ok (.astore 5, 2) := by decide +kernel
theorem dL_rest_21 : decode cL_rest 21 = .ok (.iconst 2, 1) := by decide +kernel
theorem dL_rest_22 : decode cL_rest 22 = .ok (.ireturn, 1) := by decide +kernel
theorem dL_rest_23 : decode cL_rest 23 = .ok (.iconst 0, 1) := by decide +kernel
theorem dL_rest_24 : decode cL_rest 24 = .ok (.ireturn, 1) := by decide +kernel
set_option maxRecDepth 20000 in
theorem ggL_isFermat_X0_isFermat : GoodIn wsL_isFermat wsX0_isFermat := goodIn_ca (goodIn_ca (goodIn_ca (goodIn_r _ [7, 8, 9, 6, 10, 11, 12, 13, 14, 15, 16, 17, 18, 19, 20, 21, 22, 23, 24, 25, 26, 27, 28, 29, 30, 31, 32, 33, 34, 35, 36, 37] (by decide +kernel) (by decide +kernel)) (goodIn_sub (fun _ h => List.mem_cons_of_mem _ (List.mem_append_left _ (List.mem_append_left _ (List.mem_append_right _ h)))) (by decide +kernel))) (goodIn_sub (fun _ h => List.mem_cons_of_mem _ (List.mem_append_left _ (List.mem_append_right _ h))) (by decide +kernel))) (goodIn_sub (fun _ h => List.mem_cons_of_mem _ (List.mem_append_right _ h)) (by decide +kernel))
set_option maxRecDepth 20000 in
theorem gL_isFermat_X0_isFermat : GoodIn wsL_isFermat (wsV RL 91 RX0 yX0_isFermat wsX0_isFermat) := goodIn_app (goodIn_of _ (by decide +kernel)) ggL_isFermat_X0_isFermat
theorem dL_isFermat_0 : decode cL_isFermat 0 = .ok (.aload_n 3, 1) := by decide +kernel
theorem dL_isFermat_1 : decode cL_isFermat 1 = .ok (.iconst 0, 1) := by decide +kernel
theorem dL_isFermat_2 : decode cL_isFermat 2 = .ok (.aload_n 0, 1) := by decide +kernel
theorem dL_isFermat_3 : decode cL_isFermat 3 = .ok (.iload_n 1, 1) := by decide +kernel
theorem dL_isFermat_4 : decode cL_isFermat 4 = .ok (.iload_n 2, 1) := by decide +kernel
theorem dL_isFermat_5 : decode cL_isFermat 5 = .ok (.invokevirtual 91, 3) := by decide +kernel
theorem dL_isFermat_8 : decode cL_isFermat 8 = .ok (.ifCond .eq 7, 3) := by decide +kernel
theorem dL_isFermat_11 : decode cL_isFermat 11 = .ok (.lconst 1, 1) := by decide +kernel
theorem dL_isFermat_12 : decode cL_isFermat 12 = .ok (.goto 4, 3) := by decide +kernel
theorem dL_isFermat_15 : decode cL_isFermat 15 = .ok (.lconst 0, 1) := by decide +kernel
theorem dL_isFermat_16 : decode cL_isFermat 16 = .ok (.lastore, 1) := by decide +kernel
theorem dL_isFermat_17 : decode cL_isFermat 17 = .ok (.goto 11, 3) := by decide +kernel
theorem dL_isFermat_20 : decode cL_isFermat 20 = .ok (.astore 4, 2) := by decide +kernel
theorem dL_isFermat_22 : decode cL_isFermat 22 = .ok (.iconst 1, 1) := by decide +kernel
theorem dL_isFermat_23 : decode cL_isFermat 23 = .ok (.ireturn, 1) := by decide +kernel
theorem dL_isFermat_24 : decode cL_isFermat 24 = .ok (.astore 4, 2) := by decide +kernel
theorem dL_isFermat_26 : decode cL_isFermat 26 = .ok (.iconst 2, 1) := by decide +kernel
theorem dL_isFermat_27 : decode cL_isFermat 27 = .ok (.ireturn, 1) := by decide +kernel
theorem dL_isFermat_28 : decode cL_isFermat 28 = .ok (.iconst 0, 1) := by decide +kernel
theorem dL_isFermat_29 : decode cL_isFermat 29 = .ok (.ireturn, 1) := by decide +kernel
set_option maxRecDepth 20000 in
theorem ggL_isChain_X0_isChain : GoodIn wsL_isChain wsX0_isChain := goodIn_ca (goodIn_ca (goodIn_ca (goodIn_r _ [7, 8, 9, 6, 10, 11, 12, 13, 14, 15, 16, 17, 18, 19, 20, 21, 22, 23, 24, 25, 26, 27, 28, 29, 30, 31, 32, 33, 34, 35, 36, 37, 38, 39, 40, 41, 42, 43, 44, 45, 46, 47, 48, 49, 50, 51, 52, 53, 54, 55, 56, 57, 58, 59, 60, 61, 62, 63, 64, 65, 66, 67, 68, 69, 70, 71, 72, 73] (by decide +kernel) (by decide +kernel)) (goodIn_sub (fun _ h => List.mem_cons_of_mem _ (List.mem_append_left _ (List.mem_append_left _ (List.mem_append_right _ h)))) (by decide +kernel))) (goodIn_sub (fun _ h => List.mem_cons_of_mem _ (List.mem_append_left _ (List.mem_append_right _ h))) (by decide +kernel))) (goodIn_sub (fun _ h => List.mem_cons_of_mem _ (List.mem_append_right _ h)) (by decide +kernel))
set_option maxRecDepth 20000 in
theorem gL_isChain_X0_isChain : GoodIn wsL_isChain (wsV RL 95 RX0 yX0_isChain wsX0_isChain) := goodIn_app (goodIn_of _ (by decide +kernel)) ggL_isChain_X0_isChain
theorem dL_isChain_0 : decode cL_isChain 0 = .ok (.aload_n 3, 1) := by decide +kernel
theorem dL_isChain_1 : decode cL_isChain 1 = .ok (.iconst 0, 1) := by decide +kernel
theorem dL_isChain_2 : decode cL_isChain 2 = .ok (.aload_n 0, 1) := by decide +kernel
theorem dL_isChain_3 : decode cL_isChain 3 = .ok (.iload_n 1, 1) := by decide +kernel
theorem dL_isChain_4 : decode cL_isChain 4 = .ok (.iload_n 2, 1) := by decide +kernel
theorem dL_isChain_5 : decode cL_isChain 5 = .ok (.invokevirtual 95, 3) := by decide +kernel
theorem dL_isChain_8 : decode cL_isChain 8 = .ok (.ifCond .eq 7, 3) := by decide +kernel
theorem dL_isChain_11 : decode cL_isChain 11 = .ok (.lconst 1, 1) := by decide +kernel
theorem dL_isChain_12 : decode cL_isChain 12 = .ok (.goto 4, 3) := by decide +kernel
theorem dL_isChain_15 : decode cL_isChain 15 = .ok (.lconst 0, 1) := by decide +kernel
theorem dL_isChain_16 : decode cL_isChain 16 = .ok (.lastore, 1) := by decide +kernel
theorem dL_isChain_17 : decode cL_isChain 17 = .ok (.goto 11, 3) := by decide +kernel
theorem dL_isChain_20 : decode cL_isChain 20 = .ok (.astore 4, 2) := by decide +kernel
theorem dL_isChain_22 : decode cL_isChain 22 = .ok (.iconst 1, 1) := by decide +kernel
theorem dL_isChain_23 : decode cL_isChain 23 = .ok (.ireturn, 1) := by decide +kernel
theorem dL_isChain_24 : decode cL_isChain 24 = .ok (.astore 4, 2) := by decide +kernel
theorem dL_isChain_26 : decode cL_isChain 26 = .ok (.iconst 2, 1) := by decide +kernel
theorem dL_isChain_27 : decode cL_isChain 27 = .ok (.ireturn, 1) := by decide +kernel
theorem dL_isChain_28 : decode cL_isChain 28 = .ok (.iconst 0, 1) := by decide +kernel
theorem dL_isChain_29 : decode cL_isChain 29 = .ok (.ireturn, 1) := by decide +kernel
set_option maxRecDepth 20000 in
theorem ggL_addsUp_X0_addsUp : GoodIn wsL_addsUp wsX0_addsUp := goodIn_ca (goodIn_ca (goodIn_ca (goodIn_r _ [7, 8, 9, 6, 10, 11, 12, 13, 14, 15, 16, 17, 18, 19, 20, 21, 22, 23, 24, 25, 26, 27, 28, 29, 30, 31, 32, 33, 34, 35, 36, 37, 38, 39, 40, 41, 42, 43, 44, 45, 46, 47, 48, 49, 50, 51, 52, 53, 54, 55, 56, 57, 58, 59, 60, 61, 62, 63, 64, 65, 66, 67, 68, 69, 70, 71, 72, 73, 74, 75, 76, 77, 78, 79] (by decide +kernel) (by decide +kernel)) (goodIn_sub (fun _ h => List.mem_cons_of_mem _ (List.mem_append_left _ (List.mem_append_left _ (List.mem_append_right _ h)))) (by decide +kernel))) (goodIn_sub (fun _ h => List.mem_cons_of_mem _ (List.mem_append_left _ (List.mem_append_right _ h))) (by decide +kernel))) (goodIn_sub (fun _ h => List.mem_cons_of_mem _ (List.mem_append_right _ h)) (by decide +kernel))
set_option maxRecDepth 20000 in
theorem gL_addsUp_X0_addsUp : GoodIn wsL_addsUp (wsV RL 98 RX0 yX0_addsUp wsX0_addsUp) := goodIn_app (goodIn_of _ (by decide +kernel)) ggL_addsUp_X0_addsUp
theorem dL_addsUp_0 : decode cL_addsUp 0 = .ok (.aload 4, 2) := by decide +kernel
theorem dL_addsUp_2 : decode cL_addsUp 2 = .ok (.iconst 0, 1) := by decide +kernel
theorem dL_addsUp_3 : decode cL_addsUp 3 = .ok (.aload_n 0, 1) := by decide +kernel
theorem dL_addsUp_4 : decode cL_addsUp 4 = .ok (.iload_n 1, 1) := by decide +kernel
theorem dL_addsUp_5 : decode cL_addsUp 5 = .ok (.iload_n 2, 1) := by decide +kernel
theorem dL_addsUp_6 : decode cL_addsUp 6 = .ok (.iload_n 3, 1) := by decide +kernel
theorem dL_addsUp_7 : decode cL_addsUp 7 = .ok (.invokevirtual 98, 3) := by decide +kernel
theorem dL_addsUp_10 : decode cL_addsUp 10 = .ok (.ifCond .eq 7, 3) := by decide +kernel
theorem dL_addsUp_13 : decode cL_addsUp 13 = .ok (.lconst 1, 1) := by decide +kernel
theorem dL_addsUp_14 : decode cL_addsUp 14 = .ok (.goto 4, 3) := by decide +kernel
theorem dL_addsUp_17 : decode cL_addsUp 17 = .ok (.lconst 0, 1) := by decide +kernel
theorem dL_addsUp_18 : decode cL_addsUp 18 = .ok (.lastore, 1) := by decide +kernel
theorem dL_addsUp_19 : decode cL_addsUp 19 = .ok (.goto 11, 3) := by decide +kernel
theorem dL_addsUp_22 : decode cL_addsUp 22 = .ok (.astore 5, 2) := by decide +kernel
theorem dL_addsUp_24 : decode cL_addsUp 24 = .ok (.iconst 1, 1) := by decide +kernel
theorem dL_addsUp_25 : decode cL_addsUp 25 = .ok (.ireturn, 1) := by decide +kernel
theorem dL_addsUp_26 : decode cL_addsUp 26 = .ok (.astore 5, 2) := by decide +kernel
theorem dL_addsUp_28 : decode cL_addsUp 28 = .ok (.iconst 2, 1) := by decide +kernel
theorem dL_addsUp_29 : decode cL_addsUp 29 = .ok (.ireturn, 1) := by decide +kernel
theorem dL_addsUp_30 : decode cL_addsUp 30 = .ok (.iconst 0, 1) := by decide +kernel
theorem dL_addsUp_31 : decode cL_addsUp 31 = .ok (.ireturn, 1) := by decide +kernel
set_option maxRecDepth 20000 in
theorem ggL_isNested_X0_isNested : GoodIn wsL_isNested wsX0_isNested := goodIn_ca (goodIn_ca (goodIn_ca (goodIn_r _ [7, 8, 9, 6, 10, 11, 12, 13, 14, 15, 16, 17, 18, 19, 20, 21, 22, 23, 24, 25, 26, 27, 28, 29, 30, 31, 32, 33, 34, 35, 36, 37, 38, 39, 40, 41, 42, 43, 44, 45, 46, 47, 48, 49, 50, 51, 52, 53, 54, 55, 56, 57, 58, 59, 60, 61] (by decide +kernel) (by decide +kernel)) (goodIn_sub (fun _ h => List.mem_cons_of_mem _ (List.mem_append_left _ (List.mem_append_left _ (List.mem_append_right _ h)))) (by decide +kernel))) (goodIn_sub (fun _ h => List.mem_cons_of_mem _ (List.mem_append_left _ (List.mem_append_right _ h))) (by decide +kernel))) (goodIn_sub (fun _ h => List.mem_cons_of_mem _ (List.mem_append_right _ h)) (by decide +kernel))
set_option maxRecDepth 20000 in
theorem gL_isNested_X0_isNested : GoodIn wsL_isNested (wsV RL 102 RX0 yX0_isNested wsX0_isNested) := goodIn_app (goodIn_of _ (by decide +kernel)) ggL_isNested_X0_isNested
theorem dL_isNested_0 : decode cL_isNested 0 = .ok (.aload 4, 2) := by decide +kernel
theorem dL_isNested_2 : decode cL_isNested 2 = .ok (.iconst 0, 1) := by decide +kernel
theorem dL_isNested_3 : decode cL_isNested 3 = .ok (.aload_n 0, 1) := by decide +kernel
theorem dL_isNested_4 : decode cL_isNested 4 = .ok (.iload_n 1, 1) := by decide +kernel
theorem dL_isNested_5 : decode cL_isNested 5 = .ok (.iload_n 2, 1) := by decide +kernel
theorem dL_isNested_6 : decode cL_isNested 6 = .ok (.iload_n 3, 1) := by decide +kernel
theorem dL_isNested_7 : decode cL_isNested 7 = .ok (.invokevirtual 102, 3) := by decide +kernel
theorem dL_isNested_10 : decode cL_isNested 10 = .ok (.ifCond .eq 7, 3) := by decide +kernel
theorem dL_isNested_13 : decode cL_isNested 13 = .ok (.lconst 1, 1) := by decide +kernel
theorem dL_isNested_14 : decode cL_isNested 14 = .ok (.goto 4, 3) := by decide +kernel
theorem dL_isNested_17 : decode cL_isNested 17 = .ok (.lconst 0, 1) := by decide +kernel
theorem dL_isNested_18 : decode cL_isNested 18 = .ok (.lastore, 1) := by decide +kernel
theorem dL_isNested_19 : decode cL_isNested 19 = .ok (.goto 11, 3) := by decide +kernel
theorem dL_isNested_22 : decode cL_isNested 22 = .ok (.astore 5, 2) := by decide +kernel
theorem dL_isNested_24 : decode cL_isNested 24 = .ok (.iconst 1, 1) := by decide +kernel
theorem dL_isNested_25 : decode cL_isNested 25 = .ok (.ireturn, 1) := by decide +kernel
theorem dL_isNested_26 : decode cL_isNested 26 = .ok (.astore 5, 2) := by decide +kernel
theorem dL_isNested_28 : decode cL_isNested 28 = .ok (.iconst 2, 1) := by decide +kernel
theorem dL_isNested_29 : decode cL_isNested 29 = .ok (.ireturn, 1) := by decide +kernel
theorem dL_isNested_30 : decode cL_isNested 30 = .ok (.iconst 0, 1) := by decide +kernel
theorem dL_isNested_31 : decode cL_isNested 31 = .ok (.ireturn, 1) := by decide +kernel
set_option maxRecDepth 20000 in
theorem ggL_rootBits_X0_rootBits : GoodIn wsL_rootBits wsX0_rootBits := goodIn_ca (goodIn_r _ [6, 7, 8, 5, 9, 10, 11, 12, 13, 14, 15, 16, 17, 18, 19, 20, 21, 22, 23, 24, 25, 26, 27, 28, 29, 30, 31, 32, 33, 34] (by decide +kernel) (by decide +kernel)) (goodIn_sub (fun _ h => List.mem_cons_of_mem _ (List.mem_append_right _ h)) (by decide +kernel))
set_option maxRecDepth 20000 in
theorem gL_rootBits_X0_rootBits : GoodIn wsL_rootBits (wsV RL 105 RX0 yX0_rootBits wsX0_rootBits) := goodIn_app (goodIn_of _ (by decide +kernel)) ggL_rootBits_X0_rootBits
theorem dL_rootBits_0 : decode cL_rootBits 0 = .ok (.aload_n 2, 1) := by decide +kernel
theorem dL_rootBits_1 : decode cL_rootBits 1 = .ok (.iconst 0, 1) := by decide +kernel
theorem dL_rootBits_2 : decode cL_rootBits 2 = .ok (.aload_n 0, 1) := by decide +kernel
theorem dL_rootBits_3 : decode cL_rootBits 3 = .ok (.iload_n 1, 1) := by decide +kernel
theorem dL_rootBits_4 : decode cL_rootBits 4 = .ok (.invokevirtual 105, 3) := by decide +kernel
theorem dL_rootBits_7 : decode cL_rootBits 7 = .ok (.lastore, 1) := by decide +kernel
theorem dL_rootBits_8 : decode cL_rootBits 8 = .ok (.goto 6, 3) := by decide +kernel
theorem dL_rootBits_11 : decode cL_rootBits 11 = .ok (.astore_n 3, 1) := by decide +kernel
theorem dL_rootBits_12 : decode cL_rootBits 12 = .ok (.iconst 1, 1) := by decide +kernel
theorem dL_rootBits_13 : decode cL_rootBits 13 = .ok (.ireturn, 1) := by decide +kernel
theorem dL_rootBits_14 : decode cL_rootBits 14 = .ok (.iconst 0, 1) := by decide +kernel
theorem dL_rootBits_15 : decode cL_rootBits 15 = .ok (.ireturn, 1) := by decide +kernel
set_option maxRecDepth 20000 in
theorem ggL_isRoot_X0_isRoot : GoodIn wsL_isRoot wsX0_isRoot := goodIn_ca (goodIn_r _ [6, 7, 8, 5, 9, 10, 11, 12, 13, 14, 15, 16, 17, 18, 19, 20, 21, 22, 23, 24, 25, 26, 27, 28, 29, 30, 31, 32, 33, 34] (by decide +kernel) (by decide +kernel)) (goodIn_sub (fun _ h => List.mem_cons_of_mem _ (List.mem_append_right _ h)) (by decide +kernel))
set_option maxRecDepth 20000 in
theorem gL_isRoot_X0_isRoot : GoodIn wsL_isRoot (wsV RL 108 RX0 yX0_isRoot wsX0_isRoot) := goodIn_app (goodIn_of _ (by decide +kernel)) ggL_isRoot_X0_isRoot
theorem dL_isRoot_0 : decode cL_isRoot 0 = .ok (.aload_n 2, 1) := by decide +kernel
theorem dL_isRoot_1 : decode cL_isRoot 1 = .ok (.iconst 0, 1) := by decide +kernel
theorem dL_isRoot_2 : decode cL_isRoot 2 = .ok (.aload_n 0, 1) := by decide +kernel
theorem dL_isRoot_3 : decode cL_isRoot 3 = .ok (.iload_n 1, 1) := by decide +kernel
theorem dL_isRoot_4 : decode cL_isRoot 4 = .ok (.invokevirtual 108, 3) := by decide +kernel
theorem dL_isRoot_7 : decode cL_isRoot 7 = .ok (.ifCond .eq 7, 3) := by decide +kernel
theorem dL_isRoot_10 : decode cL_isRoot 10 = .ok (.lconst 1, 1) := by decide +kernel
theorem dL_isRoot_11 : decode cL_isRoot 11 = .ok (.goto 4, 3) := by decide +kernel
theorem dL_isRoot_14 : decode cL_isRoot 14 = .ok (.lconst 0, 1) := by decide +kernel
theorem dL_isRoot_15 : decode cL_isRoot 15 = .ok (.lastore, 1) := by decide +kernel
theorem dL_isRoot_16 : decode cL_isRoot 16 = .ok (.goto 6, 3) := by decide +kernel
theorem dL_isRoot_19 : decode cL_isRoot 19 = .ok (.astore_n 3, 1) := by decide +kernel
theorem dL_isRoot_20 : decode cL_isRoot 20 = .ok (.iconst 1, 1) := by decide +kernel
theorem dL_isRoot_21 : decode cL_isRoot 21 = .ok (.ireturn, 1) := by decide +kernel
theorem dL_isRoot_22 : decode cL_isRoot 22 = .ok (.iconst 0, 1) := by decide +kernel
theorem dL_isRoot_23 : decode cL_isRoot 23 = .ok (.ireturn, 1) := by decide +kernel
set_option maxRecDepth 20000 in
theorem ggL_rootAt_X0_rootAt : GoodIn wsL_rootAt wsX0_rootAt := goodIn_ca (goodIn_r _ [6, 7, 8, 5, 9, 10, 11, 12, 13, 14, 15, 16] (by decide +kernel) (by decide +kernel)) (goodIn_sub (fun _ h => List.mem_cons_of_mem _ (List.mem_append_right _ h)) (by decide +kernel))
set_option maxRecDepth 20000 in
theorem gL_rootAt_X0_rootAt : GoodIn wsL_rootAt (wsV RL 111 RX0 yX0_rootAt wsX0_rootAt) := goodIn_app (goodIn_of _ (by decide +kernel)) ggL_rootAt_X0_rootAt
theorem dL_rootAt_0 : decode cL_rootAt 0 = .ok (.aload_n 3, 1) := by decide +kernel
theorem dL_rootAt_1 : decode cL_rootAt 1 = .ok (.iconst 0, 1) := by decide +kernel
theorem dL_rootAt_2 : decode cL_rootAt 2 = .ok (.aload_n 0, 1) := by decide +kernel
theorem dL_rootAt_3 : decode cL_rootAt 3 = .ok (.iload_n 1, 1) := by decide +kernel
theorem dL_rootAt_4 : decode cL_rootAt 4 = .ok (.iload_n 2, 1) := by decide +kernel
theorem dL_rootAt_5 : decode cL_rootAt 5 = .ok (.invokevirtual 111, 3) := by decide +kernel
theorem dL_rootAt_8 : decode cL_rootAt 8 = .ok (.lastore, 1) := by decide +kernel
theorem dL_rootAt_9 : decode cL_rootAt 9 = .ok (.goto 7, 3) := by decide +kernel
theorem dL_rootAt_12 : decode cL_rootAt 12 = .ok (.astore 4, 2) := by decide +kernel
theorem dL_rootAt_14 : decode cL_rootAt 14 = .ok (.iconst 1, 1) := by decide +kernel
theorem dL_rootAt_15 : decode cL_rootAt 15 = .ok (.ireturn, 1) := by decide +kernel
theorem dL_rootAt_16 : decode cL_rootAt 16 = .ok (.iconst 0, 1) := by decide +kernel
theorem dL_rootAt_17 : decode cL_rootAt 17 = .ok (.ireturn, 1) := by decide +kernel
set_option maxRecDepth 20000 in
theorem ggL_backBits_X0_backBits : GoodIn wsL_backBits wsX0_backBits := goodIn_ca (goodIn_r _ [6, 7, 8, 5, 9, 10, 11, 12, 13, 14, 15, 16, 17, 18, 19, 20, 21, 22, 23, 24, 25, 26, 27, 28, 29, 30, 31, 32, 33, 34, 35, 36, 37, 38, 39, 40, 41, 42, 43, 44, 45, 46, 47, 48, 49, 50] (by decide +kernel) (by decide +kernel)) (goodIn_sub (fun _ h => List.mem_cons_of_mem _ (List.mem_append_right _ h)) (by decide +kernel))
set_option maxRecDepth 20000 in
theorem gL_backBits_X0_backBits : GoodIn wsL_backBits (wsV RL 114 RX0 yX0_backBits wsX0_backBits) := goodIn_app (goodIn_of _ (by decide +kernel)) ggL_backBits_X0_backBits
theorem dL_backBits_0 : decode cL_backBits 0 = .ok (.aload_n 2, 1) := by decide +kernel
theorem dL_backBits_1 : decode cL_backBits 1 = .ok (.iconst 0, 1) := by decide +kernel
theorem dL_backBits_2 : decode cL_backBits 2 = .ok (.aload_n 0, 1) := by decide +kernel
theorem dL_backBits_3 : decode cL_backBits 3 = .ok (.iload_n 1, 1) := by decide +kernel
theorem dL_backBits_4 : decode cL_backBits 4 = .ok (.invokevirtual 114, 3) := by decide +kernel
theorem dL_backBits_7 : decode cL_backBits 7 = .ok (.lastore, 1) := by decide +kernel
theorem dL_backBits_8 : decode cL_backBits 8 = .ok (.goto 6, 3) := by decide +kernel
theorem dL_backBits_11 : decode cL_backBits 11 = .ok (.astore_n 3, 1) := by decide +kernel
theorem dL_backBits_12 : decode cL_backBits 12 = .ok (.iconst 1, 1) := by decide +kernel
theorem dL_backBits_13 : decode cL_backBits 13 = .ok (.ireturn, 1) := by decide +kernel
theorem dL_backBits_14 : decode cL_backBits 14 = .ok (.iconst 0, 1) := by decide +kernel
theorem dL_backBits_15 : decode cL_backBits 15 = .ok (.ireturn, 1) := by decide +kernel
set_option maxRecDepth 20000 in
theorem ggL_isBack_X0_isBack : GoodIn wsL_isBack wsX0_isBack := goodIn_ca (goodIn_r _ [6, 7, 8, 5, 9, 10, 11, 12, 13, 14, 15, 16, 17, 18, 19, 20, 21, 22, 23, 24, 25, 26, 27, 28, 29, 30, 31, 32, 33, 34, 35, 36, 37, 38, 39, 40, 41, 42, 43, 44, 45, 46, 47, 48, 49, 50, 51, 52, 53, 54, 55, 56, 57, 58, 59, 60, 61, 62, 63, 64, 65] (by decide +kernel) (by decide +kernel)) (goodIn_sub (fun _ h => List.mem_cons_of_mem _ (List.mem_append_right _ h)) (by decide +kernel))
set_option maxRecDepth 20000 in
theorem gL_isBack_X0_isBack : GoodIn wsL_isBack (wsV RL 117 RX0 yX0_isBack wsX0_isBack) := goodIn_app (goodIn_of _ (by decide +kernel)) ggL_isBack_X0_isBack
theorem dL_isBack_0 : decode cL_isBack 0 = .ok (.aload_n 2, 1) := by decide +kernel
theorem dL_isBack_1 : decode cL_isBack 1 = .ok (.iconst 0, 1) := by decide +kernel
theorem dL_isBack_2 : decode cL_isBack 2 = .ok (.aload_n 0, 1) := by decide +kernel
theorem dL_isBack_3 : decode cL_isBack 3 = .ok (.iload_n 1, 1) := by decide +kernel
theorem dL_isBack_4 : decode cL_isBack 4 = .ok (.invokevirtual 117, 3) := by decide +kernel
theorem dL_isBack_7 : decode cL_isBack 7 = .ok (.ifCond .eq 7, 3) := by decide +kernel
theorem dL_isBack_10 : decode cL_isBack 10 = .ok (.lconst 1, 1) := by decide +kernel
theorem dL_isBack_11 : decode cL_isBack 11 = .ok (.goto 4, 3) := by decide +kernel
theorem dL_isBack_14 : decode cL_isBack 14 = .ok (.lconst 0, 1) := by decide +kernel
theorem dL_isBack_15 : decode cL_isBack 15 = .ok (.lastore, 1) := by decide +kernel
theorem dL_isBack_16 : decode cL_isBack 16 = .ok (.goto 6, 3) := by decide +kernel
theorem dL_isBack_19 : decode cL_isBack 19 = .ok (.astore_n 3, 1) := by decide +kernel
theorem dL_isBack_20 : decode cL_isBack 20 = .ok (.iconst 1, 1) := by decide +kernel
theorem dL_isBack_21 : decode cL_isBack 21 = .ok (.ireturn, 1) := by decide +kernel
theorem dL_isBack_22 : decode cL_isBack 22 = .ok (.iconst 0, 1) := by decide +kernel
theorem dL_isBack_23 : decode cL_isBack 23 = .ok (.ireturn, 1) := by decide +kernel
set_option maxRecDepth 20000 in
theorem ggL_squareBits_X0_squareBits : GoodIn wsL_squareBits wsX0_squareBits := goodIn_ca (goodIn_ca (goodIn_ca (goodIn_r _ [7, 8, 9, 10, 11, 6, 12, 13, 14, 15, 16, 17, 18, 19, 20, 21, 22, 23, 24, 25, 26, 27, 28, 29, 30, 31, 32, 33, 34, 35, 36, 37, 38, 39, 40, 41, 42, 43, 44, 45, 46, 47, 48, 49, 50, 51] (by decide +kernel) (by decide +kernel)) (goodIn_sub (fun _ h => List.mem_cons_of_mem _ (List.mem_append_left _ (List.mem_append_left _ (List.mem_append_right _ h)))) (by decide +kernel))) (goodIn_sub (fun _ h => List.mem_cons_of_mem _ (List.mem_append_left _ (List.mem_append_right _ h))) (by decide +kernel))) (goodIn_sub (fun _ h => List.mem_cons_of_mem _ (List.mem_append_right _ h)) (by decide +kernel))
set_option maxRecDepth 20000 in
theorem gL_squareBits_X0_squareBits : GoodIn wsL_squareBits (wsV RL 120 RX0 yX0_squareBits wsX0_squareBits) := goodIn_app (goodIn_of _ (by decide +kernel)) ggL_squareBits_X0_squareBits
theorem dL_squareBits_0 : decode cL_squareBits 0 = .ok (.aload_n 2, 1) := by decide +kernel
theorem dL_squareBits_1 : decode cL_squareBits 1 = .ok (.iconst 0, 1) := by decide +kernel
theorem dL_squareBits_2 : decode cL_squareBits 2 = .ok (.aload_n 0, 1) := by decide +kernel
theorem dL_squareBits_3 : decode cL_squareBits 3 = .ok (.iload_n 1, 1) := by decide +kernel
theorem dL_squareBits_4 : decode cL_squareBits 4 = .ok (.invokevirtual 120, 3) := by decide +kernel
theorem dL_squareBits_7 : decode cL_squareBits 7 = .ok (.lastore, 1) := by decide +kernel
theorem dL_squareBits_8 : decode cL_squareBits 8 = .ok (.goto 9, 3) := by decide +kernel
theorem dL_squareBits_11 : decode cL_squareBits 11 = .ok (.astore_n 3, 1) := by decide +kernel
theorem dL_squareBits_12 : decode cL_squareBits 12 = .ok (.iconst 1, 1) := by decide +kernel
theorem dL_squareBits_13 : decode cL_squareBits 13 = .ok (.ireturn, 1) := by decide +kernel
theorem dL_squareBits_14 : decode cL_squareBits 14 = .ok (.astore_n 3, 1) := by decide +kernel
theorem dL_squareBits_15 : decode cL_squareBits 15 = .ok (.iconst 2, 1) := by decide +kernel
theorem dL_squareBits_16 : decode cL_squareBits 16 = .ok (.ireturn, 1) := by decide +kernel
theorem dL_squareBits_17 : decode cL_squareBits 17 = .ok (.iconst 0, 1) := by decide +kernel
theorem dL_squareBits_18 : decode cL_squareBits 18 = .ok (.ireturn, 1) := by decide +kernel
set_option maxRecDepth 20000 in
theorem ggL_isTimes_X0_isTimes : GoodIn wsL_isTimes wsX0_isTimes := goodIn_ca (goodIn_ca (goodIn_ca (goodIn_r _ [7, 8, 9, 10, 11, 12, 6, 13, 14, 15, 16, 17, 18, 19, 20, 21, 22, 23, 24, 25, 26, 27, 28, 29, 30, 31, 32, 33, 34, 35, 36, 37, 38, 39, 40, 41, 42, 43, 44, 45, 46, 47, 48, 49, 50, 51, 52, 53, 54, 55, 56, 57, 58, 59, 60, 61, 62, 63, 64, 65, 66, 67] (by decide +kernel) (by decide +kernel)) (goodIn_sub (fun _ h => List.mem_cons_of_mem _ (List.mem_append_left _ (List.mem_append_left _ (List.mem_append_right _ h)))) (by decide +kernel))) (goodIn_sub (fun _ h => List.mem_cons_of_mem _ (List.mem_append_left _ (List.mem_append_right _ h))) (by decide +kernel))) (goodIn_sub (fun _ h => List.mem_cons_of_mem _ (List.mem_append_right _ h)) (by decide +kernel))
set_option maxRecDepth 20000 in
theorem gL_isTimes_X0_isTimes : GoodIn wsL_isTimes (wsV RL 123 RX0 yX0_isTimes wsX0_isTimes) := goodIn_app (goodIn_of _ (by decide +kernel)) ggL_isTimes_X0_isTimes
theorem dL_isTimes_0 : decode cL_isTimes 0 = .ok (.aload_n 2, 1) := by decide +kernel
theorem dL_isTimes_1 : decode cL_isTimes 1 = .ok (.iconst 0, 1) := by decide +kernel
theorem dL_isTimes_2 : decode cL_isTimes 2 = .ok (.aload_n 0, 1) := by decide +kernel
theorem dL_isTimes_3 : decode cL_isTimes 3 = .ok (.iload_n 1, 1) := by decide +kernel
theorem dL_isTimes_4 : decode cL_isTimes 4 = .ok (.invokevirtual 123, 3) := by decide +kernel
theorem dL_isTimes_7 : decode cL_isTimes 7 = .ok (.ifCond .eq 7, 3) := by decide +kernel
theorem dL_isTimes_10 : decode cL_isTimes 10 = .ok (.lconst 1, 1) := by decide +kernel
theorem dL_isTimes_11 : decode cL_isTimes 11 = .ok (.goto 4, 3) := by decide +kernel
theorem dL_isTimes_14 : decode cL_isTimes 14 = .ok (.lconst 0, 1) := by decide +kernel
theorem dL_isTimes_15 : decode cL_isTimes 15 = .ok (.lastore, 1) := by decide +kernel
theorem dL_isTimes_16 : decode cL_isTimes 16 = .ok (.goto 9, 3) := by decide +kernel
theorem dL_isTimes_19 : decode cL_isTimes 19 = .ok (.astore_n 3, 1) := by decide +kernel
theorem dL_isTimes_20 : decode cL_isTimes 20 = .ok (.iconst 1, 1) := by decide +kernel
theorem dL_isTimes_21 : decode cL_isTimes 21 = .ok (.ireturn, 1) := by decide +kernel
theorem dL_isTimes_22 : decode cL_isTimes 22 = .ok (.astore_n 3, 1) := by decide +kernel
theorem dL_isTimes_23 : decode cL_isTimes 23 = .ok (.iconst 2, 1) := by decide +kernel
theorem dL_isTimes_24 : decode cL_isTimes 24 = .ok (.ireturn, 1) := by decide +kernel
theorem dL_isTimes_25 : decode cL_isTimes 25 = .ok (.iconst 0, 1) := by decide +kernel
theorem dL_isTimes_26 : decode cL_isTimes 26 = .ok (.ireturn, 1) := by decide +kernel
set_option maxRecDepth 20000 in
theorem ggL_law_X0_init : GoodIn wsL_law wsX0_init := goodIn_r _ [9, 10, 11, 12, 13, 14, 6, 15, 16, 17, 18, 19, 20, 21, 22, 678, 679, 680, 681, 682, 683, 684, 685, 686] (by decide +kernel) (by decide +kernel)
set_option maxRecDepth 20000 in
theorem gL_law_X0_init : GoodIn wsL_law (wsX0_init) := ggL_law_X0_init
set_option maxRecDepth 20000 in
theorem ggL_law_X1_init : GoodIn wsL_law wsX1_init := goodIn_r _ [25, 26, 11, 12, 13, 27, 6, 28, 29, 30, 31, 32, 33, 34, 687, 688, 689, 690, 691, 692, 693, 694, 695, 696, 697, 698] (by decide +kernel) (by decide +kernel)
set_option maxRecDepth 20000 in
theorem gL_law_X1_init : GoodIn wsL_law (wsX1_init) := ggL_law_X1_init
set_option maxRecDepth 20000 in
theorem ggL_law_L_put : GoodIn wsL_law wsL_put := goodIn_ca (goodIn_ca (goodIn_ca (goodIn_r _ [38, 39, 40, 41, 42, 43, 2, 44, 45, 46, 47, 48, 49, 50, 51, 52, 53, 54, 55, 56, 57, 58, 59, 60, 61, 62, 63, 64, 65, 66, 67, 68, 69, 70, 17, 21, 18, 14, 19, 15, 20, 16, 22, 678, 679, 680, 681, 682, 683, 684, 685, 686] (by decide +kernel) (by decide +kernel)) (goodIn_sub (fun _ h => List.mem_append_left _ (List.mem_append_left _ (List.mem_append_left _ (List.mem_append_left _ (List.mem_append_left _ (List.mem_append_left _ (List.mem_append_left _ (List.mem_append_right _ h)))))))) (by decide +kernel))) (goodIn_sub (fun _ h => List.mem_append_left _ (List.mem_append_left _ (List.mem_append_left _ (List.mem_append_left _ (List.mem_append_left _ (List.mem_append_left _ (List.mem_append_right _ h))))))) (by decide +kernel))) (goodIn_sub (fun _ h => List.mem_append_left _ (List.mem_append_left _ (List.mem_append_left _ (List.mem_append_left _ (List.mem_append_left _ (List.mem_append_right _ h)))))) (by decide +kernel))
set_option maxRecDepth 20000 in
theorem gL_law_L_put : GoodIn wsL_law (va_wsS RL 130 yL_put wsL_put) := goodIn_app (goodIn_of _ (by decide +kernel)) ggL_law_L_put
set_option maxRecDepth 20000 in
theorem ggL_law_X1_put : GoodIn wsL_law wsX1_put := goodIn_ca (goodIn_ca (goodIn_r _ [74, 75, 76, 77, 78, 79, 5, 80, 81, 82, 83, 84, 85, 86, 87, 88, 89, 90, 91, 92, 93, 94, 95, 96, 97, 98, 99, 100, 101, 102, 103, 104, 105, 106, 107, 108, 34, 30, 31, 32, 33, 27, 28, 29, 687, 688, 689, 690, 691, 692, 693, 694, 695, 696, 697, 698] (by decide +kernel) (by decide +kernel)) (goodIn_sub (fun _ h => List.mem_append_left _ (List.mem_append_left _ (List.mem_append_left _ (List.mem_append_left _ (List.mem_append_right _ h))))) (by decide +kernel))) (goodIn_sub (fun _ h => List.mem_append_left _ (List.mem_append_left _ (List.mem_append_left _ (List.mem_append_left _ (List.mem_append_left _ (List.mem_append_left _ (List.mem_append_left _ (List.mem_append_right _ h)))))))) (by decide +kernel))
set_option maxRecDepth 20000 in
theorem gL_law_X1_put : GoodIn wsL_law (wsV RL 135 RX1 yX1_put wsX1_put) := goodIn_app (goodIn_of _ (by decide +kernel)) ggL_law_X1_put
set_option maxRecDepth 20000 in
theorem ggL_law_X1_thrown : GoodIn wsL_law wsX1_thrown := goodIn_r _ [112, 85, 687, 688, 689, 690, 691, 692, 693, 694, 695, 696, 697, 698] (by decide +kernel) (by decide +kernel)
set_option maxRecDepth 20000 in
theorem gL_law_X1_thrown : GoodIn wsL_law (wsV RL 136 RX1 yX1_thrown wsX1_thrown) := goodIn_app (goodIn_of _ (by decide +kernel)) ggL_law_X1_thrown
set_option maxRecDepth 20000 in
theorem ggL_law_L_power : GoodIn wsL_law wsL_power := goodIn_ca (goodIn_ca (goodIn_ca (goodIn_ca (goodIn_ca (goodIn_r _ [115, 39, 40, 116, 117, 118, 119, 2, 120, 45, 46, 47, 48, 49, 121, 122, 123, 50, 51, 52, 53, 54, 124, 125, 126, 127, 128, 58, 59, 60, 61, 62, 63, 64, 65, 66, 129, 130, 131, 132, 133, 134, 135, 136, 137, 138, 139, 55, 56, 57, 140, 141, 142, 67, 68, 69, 70, 17, 21, 18, 14, 19, 15, 20, 16, 22, 678, 679, 680, 681, 682, 683, 684, 685, 686] (by decide +kernel) (by decide +kernel)) (goodIn_sub (fun _ h => List.mem_append_left _ (List.mem_append_left _ (List.mem_append_left _ (List.mem_append_left _ (List.mem_append_left _ (List.mem_append_left _ (List.mem_append_left _ (List.mem_append_right _ h)))))))) (by decide +kernel))) (goodIn_sub (fun _ h => List.mem_append_left _ (List.mem_append_left _ (List.mem_append_left _ (List.mem_append_left _ (List.mem_append_left _ (List.mem_append_left _ (List.mem_append_right _ h))))))) (by decide +kernel))) (goodIn_sub (fun _ h => List.mem_append_left _ (List.mem_append_left _ (List.mem_append_left _ (List.mem_append_left _ (List.mem_append_left _ (List.mem_append_right _ h)))))) (by decide +kernel))) (goodIn_sub (fun _ h => List.mem_append_left _ (List.mem_append_left _ (List.mem_append_left _ (List.mem_append_right _ h)))) (by decide +kernel))) (goodIn_sub (fun _ h => List.mem_append_left _ (List.mem_append_left _ (List.mem_append_left _ (List.mem_append_left _ (List.mem_append_right _ h))))) (by decide +kernel))
set_option maxRecDepth 20000 in
theorem gL_law_L_power : GoodIn wsL_law (va_wsS RL 139 yL_power wsL_power) := goodIn_app (goodIn_of _ (by decide +kernel)) ggL_law_L_power
set_option maxRecDepth 20000 in
theorem ggL_law_X1_power : GoodIn wsL_law wsX1_power := goodIn_ca (goodIn_ca (goodIn_r _ [146, 75, 76, 77, 78, 79, 5, 80, 81, 82, 83, 84, 85, 86, 87, 88, 89, 90, 91, 147, 148, 149, 92, 93, 94, 95, 96, 97, 98, 99, 100, 101, 102, 103, 104, 105, 106, 107, 108, 34, 30, 31, 32, 33, 27, 28, 29, 687, 688, 689, 690, 691, 692, 693, 694, 695, 696, 697, 698] (by decide +kernel) (by decide +kernel)) (goodIn_sub (fun _ h => List.mem_append_left _ (List.mem_append_left _ (List.mem_append_left _ (List.mem_append_left _ (List.mem_append_right _ h))))) (by decide +kernel))) (goodIn_sub (fun _ h => List.mem_append_left _ (List.mem_append_left _ (List.mem_append_left _ (List.mem_append_left _ (List.mem_append_left _ (List.mem_append_left _ (List.mem_append_left _ (List.mem_append_right _ h)))))))) (by decide +kernel))
set_option maxRecDepth 20000 in
theorem gL_law_X1_power : GoodIn wsL_law (wsV RL 142 RX1 yX1_power wsX1_power) := goodIn_app (goodIn_of _ (by decide +kernel)) ggL_law_X1_power
set_option maxRecDepth 20000 in
theorem ggL_law_L_twoTo : GoodIn wsL_law wsL_twoTo := goodIn_ca (goodIn_ca (goodIn_ca (goodIn_r _ [152, 39, 40, 153, 154, 155, 2, 156, 45, 46, 47, 48, 49, 50, 51, 52, 53, 54, 67, 68, 69, 70, 17, 21, 18, 14, 19, 15, 20, 16, 22, 678, 679, 680, 681, 682, 683, 684, 685, 686] (by decide +kernel) (by decide +kernel)) (goodIn_sub (fun _ h => List.mem_append_left _ (List.mem_append_left _ (List.mem_append_left _ (List.mem_append_left _ (List.mem_append_left _ (List.mem_append_left _ (List.mem_append_left _ (List.mem_append_right _ h)))))))) (by decide +kernel))) (goodIn_sub (fun _ h => List.mem_append_left _ (List.mem_append_left _ (List.mem_append_left _ (List.mem_append_left _ (List.mem_append_left _ (List.mem_append_left _ (List.mem_append_right _ h))))))) (by decide +kernel))) (goodIn_sub (fun _ h => List.mem_append_left _ (List.mem_append_left _ (List.mem_append_left _ (List.mem_append_left _ (List.mem_append_left _ (List.mem_append_right _ h)))))) (by decide +kernel))
set_option maxRecDepth 20000 in
theorem gL_law_L_twoTo : GoodIn wsL_law (va_wsS RL 143 yL_twoTo wsL_twoTo) := goodIn_app (goodIn_of _ (by decide +kernel)) ggL_law_L_twoTo
set_option maxRecDepth 20000 in
theorem ggL_law_X1_twoTo : GoodIn wsL_law wsX1_twoTo := goodIn_ca (goodIn_r _ [160, 78, 79, 5, 80, 81, 82, 83, 84, 85, 89, 90, 91, 105, 106, 107, 108, 34, 30, 31, 32, 33, 27, 28, 29, 687, 688, 689, 690, 691, 692, 693, 694, 695, 696, 697, 698] (by decide +kernel) (by decide +kernel)) (goodIn_sub (fun _ h => List.mem_append_left _ (List.mem_append_left _ (List.mem_append_left _ (List.mem_append_left _ (List.mem_append_left _ (List.mem_append_left _ (List.mem_append_left _ (List.mem_append_right _ h)))))))) (by decide +kernel))
set_option maxRecDepth 20000 in
theorem gL_law_X1_twoTo : GoodIn wsL_law (wsV RL 145 RX1 yX1_twoTo wsX1_twoTo) := goodIn_app (goodIn_of _ (by decide +kernel)) ggL_law_X1_twoTo
set_option maxRecDepth 20000 in
theorem ggL_law_L_raise : GoodIn wsL_law wsL_raise := goodIn_ca (goodIn_ca (goodIn_ca (goodIn_ca (goodIn_ca (goodIn_ca (goodIn_ca (goodIn_r _ [163, 39, 40, 164, 165, 116, 166, 167, 168, 2, 169, 170, 171, 172, 173, 127, 128, 16, 14, 15, 45, 46, 47, 48, 49, 50, 51, 52, 53, 54, 129, 130, 131, 132, 133, 134, 135, 136, 137, 138, 139, 140, 141, 142, 67, 68, 69, 70, 17, 21, 18, 19, 20, 22, 678, 679, 680, 681, 682, 683, 684, 685, 686] (by decide +kernel) (by decide +kernel)) (goodIn_sub (fun _ h => List.mem_append_left _ (List.mem_append_left _ (List.mem_append_left _ (List.mem_append_left _ (List.mem_append_left _ (List.mem_append_left _ (List.mem_append_left _ (List.mem_append_right _ h)))))))) (by decide +kernel))) (goodIn_sub (fun _ h => List.mem_append_left _ (List.mem_append_left _ (List.mem_append_right _ h))) (by decide +kernel))) (goodIn_sub (fun _ h => List.mem_append_left _ (List.mem_append_right _ h)) (by decide +kernel))) (goodIn_sub (fun _ h => List.mem_append_left _ (List.mem_append_left _ (List.mem_append_left _ (List.mem_append_right _ h)))) (by decide +kernel))) (goodIn_sub (fun _ h => List.mem_append_left _ (List.mem_append_left _ (List.mem_append_left _ (List.mem_append_left _ (List.mem_append_left _ (List.mem_append_left _ (List.mem_append_right _ h))))))) (by decide +kernel))) (goodIn_sub (fun _ h => List.mem_append_left _ (List.mem_append_left _ (List.mem_append_left _ (List.mem_append_left _ (List.mem_append_left _ (List.mem_append_right _ h)))))) (by decide +kernel))) (goodIn_sub (fun _ h => List.mem_append_left _ (List.mem_append_left _ (List.mem_append_left _ (List.mem_append_left _ (List.mem_append_right _ h))))) (by decide +kernel))
set_option maxRecDepth 20000 in
theorem gL_law_L_raise : GoodIn wsL_law (va_wsS RL 146 yL_raise wsL_raise) := goodIn_app (goodIn_of _ (by decide +kernel)) ggL_law_L_raise
set_option maxRecDepth 20000 in
theorem ggL_law_X1_raise : GoodIn wsL_law wsX1_raise := goodIn_ca (goodIn_ca (goodIn_r _ [177, 29, 27, 28, 75, 76, 77, 78, 79, 5, 80, 81, 82, 83, 84, 85, 89, 90, 91, 100, 101, 102, 103, 104, 105, 106, 107, 108, 34, 30, 31, 32, 33, 687, 688, 689, 690, 691, 692, 693, 694, 695, 696, 697, 698] (by decide +kernel) (by decide +kernel)) (goodIn_sub (fun _ h => List.mem_append_left _ (List.mem_append_left _ (List.mem_append_left _ (List.mem_append_left _ (List.mem_append_left _ (List.mem_append_left _ (List.mem_append_left _ (List.mem_append_right _ h)))))))) (by decide +kernel))) (goodIn_sub (fun _ h => List.mem_append_left _ (List.mem_append_left _ (List.mem_append_left _ (List.mem_append_left _ (List.mem_append_right _ h))))) (by decide +kernel))
set_option maxRecDepth 20000 in
theorem gL_law_X1_raise : GoodIn wsL_law (wsV RL 148 RX1 yX1_raise wsX1_raise) := goodIn_app (goodIn_of _ (by decide +kernel)) ggL_law_X1_raise
set_option maxRecDepth 20000 in
theorem ggL_law_L_copy : GoodIn wsL_law wsL_copy := goodIn_ca (goodIn_ca (goodIn_r _ [180, 39, 181, 182, 183, 2, 184, 14, 15, 16, 45, 46, 47, 48, 49, 67, 68, 69, 70, 17, 21, 18, 19, 20, 22, 678, 679, 680, 681, 682, 683, 684, 685, 686] (by decide +kernel) (by decide +kernel)) (goodIn_sub (fun _ h => List.mem_append_left _ (List.mem_append_left _ (List.mem_append_left _ (List.mem_append_left _ (List.mem_append_left _ (List.mem_append_left _ (List.mem_append_left _ (List.mem_append_right _ h)))))))) (by decide +kernel))) (goodIn_sub (fun _ h => List.mem_append_left _ (List.mem_append_left _ (List.mem_append_left _ (List.mem_append_left _ (List.mem_append_left _ (List.mem_append_left _ (List.mem_append_right _ h))))))) (by decide +kernel))
set_option maxRecDepth 20000 in
theorem gL_law_L_copy : GoodIn wsL_law (va_wsS RL 149 yL_copy wsL_copy) := goodIn_app (goodIn_of _ (by decide +kernel)) ggL_law_L_copy
set_option maxRecDepth 20000 in
theorem ggL_law_X1_copy : GoodIn wsL_law wsX1_copy := goodIn_ca (goodIn_r _ [188, 27, 28, 29, 78, 79, 5, 80, 81, 82, 83, 84, 85, 105, 106, 107, 108, 34, 30, 31, 32, 33, 687, 688, 689, 690, 691, 692, 693, 694, 695, 696, 697, 698] (by decide +kernel) (by decide +kernel)) (goodIn_sub (fun _ h => List.mem_append_left _ (List.mem_append_left _ (List.mem_append_left _ (List.mem_append_left _ (List.mem_append_left _ (List.mem_append_left _ (List.mem_append_left _ (List.mem_append_right _ h)))))))) (by decide +kernel))
set_option maxRecDepth 20000 in
theorem gL_law_X1_copy : GoodIn wsL_law (wsV RL 151 RX1 yX1_copy wsX1_copy) := goodIn_app (goodIn_of _ (by decide +kernel)) ggL_law_X1_copy
set_option maxRecDepth 20000 in
theorem ggL_law_L_undo : GoodIn wsL_law wsL_undo := goodIn_ca (goodIn_ca (goodIn_r _ [191, 192, 193, 194, 195, 2, 196, 197, 198, 22, 21, 17, 14, 18, 15, 19, 16, 20, 678, 679, 680, 681, 682, 683, 684, 685, 686] (by decide +kernel) (by decide +kernel)) (goodIn_sub (fun _ h => List.mem_append_left _ (List.mem_append_left _ (List.mem_append_left _ (List.mem_append_left _ (List.mem_append_left _ (List.mem_append_left _ (List.mem_append_left _ (List.mem_append_right _ h)))))))) (by decide +kernel))) (goodIn_sub (fun _ h => List.mem_append_right _ h) (by decide +kernel))
set_option maxRecDepth 20000 in
theorem gL_law_L_undo : GoodIn wsL_law (va_wsS RL 152 yL_undo wsL_undo) := goodIn_app (goodIn_of _ (by decide +kernel)) ggL_law_L_undo
set_option maxRecDepth 20000 in
theorem ggL_law_X1_undo : GoodIn wsL_law wsX1_undo := goodIn_ca (goodIn_r _ [202, 34, 30, 27, 31, 28, 32, 29, 33, 81, 82, 83, 5, 84, 85, 687, 688, 689, 690, 691, 692, 693, 694, 695, 696, 697, 698] (by decide +kernel) (by decide +kernel)) (goodIn_sub (fun _ h => List.mem_append_left _ (List.mem_append_left _ (List.mem_append_left _ (List.mem_append_left _ (List.mem_append_left _ (List.mem_append_left _ (List.mem_append_left _ (List.mem_append_right _ h)))))))) (by decide +kernel))
set_option maxRecDepth 20000 in
theorem gL_law_X1_undo : GoodIn wsL_law (wsV RL 155 RX1 yX1_undo wsX1_undo) := goodIn_app (goodIn_of _ (by decide +kernel)) ggL_law_X1_undo
set_option maxRecDepth 20000 in
theorem ggL_law_X0_kept : GoodIn wsL_law wsX0_kept := goodIn_r _ [206, 22, 678, 679, 680, 681, 682, 683, 684, 685, 686] (by decide +kernel) (by decide +kernel)
set_option maxRecDepth 20000 in
theorem gL_law_X0_kept : GoodIn wsL_law (wsV RL 156 RX0 yX0_kept wsX0_kept) := goodIn_app (goodIn_of _ (by decide +kernel)) ggL_law_X0_kept
set_option maxRecDepth 20000 in
theorem ggL_law_X1_kept : GoodIn wsL_law wsX1_kept := goodIn_r _ [210, 85, 34, 687, 688, 689, 690, 691, 692, 693, 694, 695, 696, 697, 698] (by decide +kernel) (by decide +kernel)
set_option maxRecDepth 20000 in
theorem gL_law_X1_kept : GoodIn wsL_law (wsV RL 159 RX1 yX1_kept wsX1_kept) := goodIn_app (goodIn_of _ (by decide +kernel)) ggL_law_X1_kept
set_option maxRecDepth 20000 in
theorem ggL_law_L_sign : GoodIn wsL_law wsL_sign := goodIn_ca (goodIn_ca (goodIn_r _ [213, 39, 214, 215, 216, 2, 217, 14, 45, 46, 47, 48, 49, 678, 679, 680, 681, 682, 683, 684, 685, 686] (by decide +kernel) (by decide +kernel)) (goodIn_sub (fun _ h => List.mem_append_left _ (List.mem_append_left _ (List.mem_append_left _ (List.mem_append_left _ (List.mem_append_left _ (List.mem_append_left _ (List.mem_append_left _ (List.mem_append_right _ h)))))))) (by decide +kernel))) (goodIn_sub (fun _ h => List.mem_append_left _ (List.mem_append_left _ (List.mem_append_left _ (List.mem_append_left _ (List.mem_append_left _ (List.mem_append_left _ (List.mem_append_right _ h))))))) (by decide +kernel))
set_option maxRecDepth 20000 in
theorem gL_law_L_sign : GoodIn wsL_law (va_wsS RL 160 yL_sign wsL_sign) := goodIn_app (goodIn_of _ (by decide +kernel)) ggL_law_L_sign
set_option maxRecDepth 20000 in
theorem ggL_law_X1_sign : GoodIn wsL_law wsX1_sign := goodIn_ca (goodIn_r _ [221, 27, 78, 79, 5, 80, 81, 82, 83, 84, 85, 687, 688, 689, 690, 691, 692, 693, 694, 695, 696, 697, 698] (by decide +kernel) (by decide +kernel)) (goodIn_sub (fun _ h => List.mem_append_left _ (List.mem_append_left _ (List.mem_append_left _ (List.mem_append_left _ (List.mem_append_left _ (List.mem_append_left _ (List.mem_append_left _ (List.mem_append_right _ h)))))))) (by decide +kernel))
set_option maxRecDepth 20000 in
theorem gL_law_X1_sign : GoodIn wsL_law (wsV RL 163 RX1 yX1_sign wsX1_sign) := goodIn_app (goodIn_of _ (by decide +kernel)) ggL_law_X1_sign
set_option maxRecDepth 20000 in
theorem ggL_law_L_odd : GoodIn wsL_law wsL_odd := goodIn_ca (goodIn_ca (goodIn_r _ [224, 39, 225, 226, 227, 2, 228, 15, 45, 46, 47, 48, 49, 678, 679, 680, 681, 682, 683, 684, 685, 686] (by decide +kernel) (by decide +kernel)) (goodIn_sub (fun _ h => List.mem_append_left _ (List.mem_append_left _ (List.mem_append_left _ (List.mem_append_left _ (List.mem_append_left _ (List.mem_append_left _ (List.mem_append_left _ (List.mem_append_right _ h)))))))) (by decide +kernel))) (goodIn_sub (fun _ h => List.mem_append_left _ (List.mem_append_left _ (List.mem_append_left _ (List.mem_append_left _ (List.mem_append_left _ (List.mem_append_left _ (List.mem_append_right _ h))))))) (by decide +kernel))
set_option maxRecDepth 20000 in
theorem gL_law_L_odd : GoodIn wsL_law (va_wsS RL 164 yL_odd wsL_odd) := goodIn_app (goodIn_of _ (by decide +kernel)) ggL_law_L_odd
set_option maxRecDepth 20000 in
theorem ggL_law_X1_odd : GoodIn wsL_law wsX1_odd := goodIn_ca (goodIn_r _ [232, 28, 78, 79, 5, 80, 81, 82, 83, 84, 85, 687, 688, 689, 690, 691, 692, 693, 694, 695, 696, 697, 698] (by decide +kernel) (by decide +kernel)) (goodIn_sub (fun _ h => List.mem_append_left _ (List.mem_append_left _ (List.mem_append_left _ (List.mem_append_left _ (List.mem_append_left _ (List.mem_append_left _ (List.mem_append_left _ (List.mem_append_right _ h)))))))) (by decide +kernel))
set_option maxRecDepth 20000 in
theorem gL_law_X1_odd : GoodIn wsL_law (wsV RL 166 RX1 yX1_odd wsX1_odd) := goodIn_app (goodIn_of _ (by decide +kernel)) ggL_law_X1_odd
set_option maxRecDepth 20000 in
theorem ggL_law_L_shift : GoodIn wsL_law wsL_shift := goodIn_ca (goodIn_ca (goodIn_r _ [235, 39, 236, 237, 238, 2, 239, 16, 45, 46, 47, 48, 49, 678, 679, 680, 681, 682, 683, 684, 685, 686] (by decide +kernel) (by decide +kernel)) (goodIn_sub (fun _ h => List.mem_append_left _ (List.mem_append_left _ (List.mem_append_left _ (List.mem_append_left _ (List.mem_append_left _ (List.mem_append_left _ (List.mem_append_left _ (List.mem_append_right _ h)))))))) (by decide +kernel))) (goodIn_sub (fun _ h => List.mem_append_left _ (List.mem_append_left _ (List.mem_append_left _ (List.mem_append_left _ (List.mem_append_left _ (List.mem_append_left _ (List.mem_append_right _ h))))))) (by decide +kernel))
set_option maxRecDepth 20000 in
theorem gL_law_L_shift : GoodIn wsL_law (va_wsS RL 167 yL_shift wsL_shift) := goodIn_app (goodIn_of _ (by decide +kernel)) ggL_law_L_shift
set_option maxRecDepth 20000 in
theorem ggL_law_X1_shift : GoodIn wsL_law wsX1_shift := goodIn_ca (goodIn_r _ [243, 29, 78, 79, 5, 80, 81, 82, 83, 84, 85, 687, 688, 689, 690, 691, 692, 693, 694, 695, 696, 697, 698] (by decide +kernel) (by decide +kernel)) (goodIn_sub (fun _ h => List.mem_append_left _ (List.mem_append_left _ (List.mem_append_left _ (List.mem_append_left _ (List.mem_append_left _ (List.mem_append_left _ (List.mem_append_left _ (List.mem_append_right _ h)))))))) (by decide +kernel))
set_option maxRecDepth 20000 in
theorem gL_law_X1_shift : GoodIn wsL_law (wsV RL 169 RX1 yX1_shift wsX1_shift) := goodIn_app (goodIn_of _ (by decide +kernel)) ggL_law_X1_shift
set_option maxRecDepth 20000 in
theorem ggL_law_L_bits : GoodIn wsL_law wsL_bits := goodIn_ca (goodIn_ca (goodIn_r _ [246, 39, 247, 248, 249, 2, 250, 45, 46, 47, 48, 49, 251, 252, 253, 254, 14, 15, 16, 255, 256, 257, 258, 259, 260, 261, 262, 263, 264, 265, 266, 678, 679, 680, 681, 682, 683, 684, 685, 686] (by decide +kernel) (by decide +kernel)) (goodIn_sub (fun _ h => List.mem_append_left _ (List.mem_append_left _ (List.mem_append_left _ (List.mem_append_left _ (List.mem_append_left _ (List.mem_append_left _ (List.mem_append_left _ (List.mem_append_right _ h)))))))) (by decide +kernel))) (goodIn_sub (fun _ h => List.mem_append_left _ (List.mem_append_left _ (List.mem_append_left _ (List.mem_append_left _ (List.mem_append_left _ (List.mem_append_left _ (List.mem_append_right _ h))))))) (by decide +kernel))
set_option maxRecDepth 20000 in
theorem gL_law_L_bits : GoodIn wsL_law (va_wsS RL 170 yL_bits wsL_bits) := goodIn_app (goodIn_of _ (by decide +kernel)) ggL_law_L_bits
set_option maxRecDepth 20000 in
theorem ggL_law_X1_bits : GoodIn wsL_law wsX1_bits := goodIn_ca (goodIn_r _ [270, 28, 29, 27, 271, 78, 79, 5, 80, 81, 82, 83, 84, 85, 272, 273, 274, 275, 276, 277, 278, 99, 687, 688, 689, 690, 691, 692, 693, 694, 695, 696, 697, 698] (by decide +kernel) (by decide +kernel)) (goodIn_sub (fun _ h => List.mem_append_left _ (List.mem_append_left _ (List.mem_append_left _ (List.mem_append_left _ (List.mem_append_left _ (List.mem_append_left _ (List.mem_append_left _ (List.mem_append_right _ h)))))))) (by decide +kernel))
set_option maxRecDepth 20000 in
theorem gL_law_X1_bits : GoodIn wsL_law (wsV RL 172 RX1 yX1_bits wsX1_bits) := goodIn_app (goodIn_of _ (by decide +kernel)) ggL_law_X1_bits
set_option maxRecDepth 20000 in
theorem ggL_law_L_isWhole : GoodIn wsL_law wsL_isWhole := goodIn_ca (goodIn_ca (goodIn_r _ [281, 39, 282, 283, 284, 2, 285, 16, 45, 46, 47, 48, 49, 678, 679, 680, 681, 682, 683, 684, 685, 686] (by decide +kernel) (by decide +kernel)) (goodIn_sub (fun _ h => List.mem_append_left _ (List.mem_append_left _ (List.mem_append_left _ (List.mem_append_left _ (List.mem_append_left _ (List.mem_append_left _ (List.mem_append_left _ (List.mem_append_right _ h)))))))) (by decide +kernel))) (goodIn_sub (fun _ h => List.mem_append_left _ (List.mem_append_left _ (List.mem_append_left _ (List.mem_append_left _ (List.mem_append_left _ (List.mem_append_left _ (List.mem_append_right _ h))))))) (by decide +kernel))
set_option maxRecDepth 20000 in
theorem gL_law_L_isWhole : GoodIn wsL_law (va_wsS RL 173 yL_isWhole wsL_isWhole) := goodIn_app (goodIn_of _ (by decide +kernel)) ggL_law_L_isWhole
set_option maxRecDepth 20000 in
theorem ggL_law_X1_isWhole : GoodIn wsL_law wsX1_isWhole := goodIn_ca (goodIn_r _ [289, 29, 78, 79, 5, 80, 81, 82, 83, 84, 85, 687, 688, 689, 690, 691, 692, 693, 694, 695, 696, 697, 698] (by decide +kernel) (by decide +kernel)) (goodIn_sub (fun _ h => List.mem_append_left _ (List.mem_append_left _ (List.mem_append_left _ (List.mem_append_left _ (List.mem_append_left _ (List.mem_append_left _ (List.mem_append_left _ (List.mem_append_right _ h)))))))) (by decide +kernel))
set_option maxRecDepth 20000 in
theorem gL_law_X1_isWhole : GoodIn wsL_law (wsV RL 175 RX1 yX1_isWhole wsX1_isWhole) := goodIn_app (goodIn_of _ (by decide +kernel)) ggL_law_X1_isWhole
set_option maxRecDepth 20000 in
theorem ggL_law_L_whole : GoodIn wsL_law wsL_whole := goodIn_ca (goodIn_ca (goodIn_ca (goodIn_r _ [292, 39, 164, 293, 294, 295, 2, 296, 14, 45, 46, 47, 48, 49, 297, 298, 299, 300, 170, 171, 15, 16, 301, 302, 303, 136, 304, 305, 306, 307, 678, 679, 680, 681, 682, 683, 684, 685, 686] (by decide +kernel) (by decide +kernel)) (goodIn_sub (fun _ h => List.mem_append_left _ (List.mem_append_left _ (List.mem_append_left _ (List.mem_append_left _ (List.mem_append_left _ (List.mem_append_left _ (List.mem_append_left _ (List.mem_append_right _ h)))))))) (by decide +kernel))) (goodIn_sub (fun _ h => List.mem_append_left _ (List.mem_append_left _ (List.mem_append_left _ (List.mem_append_left _ (List.mem_append_left _ (List.mem_append_left _ (List.mem_append_right _ h))))))) (by decide +kernel))) (goodIn_sub (fun _ h => List.mem_append_left _ (List.mem_append_left _ (List.mem_append_right _ h))) (by decide +kernel))
set_option maxRecDepth 20000 in
theorem gL_law_L_whole : GoodIn wsL_law (va_wsS RL 176 yL_whole wsL_whole) := goodIn_app (goodIn_of _ (by decide +kernel)) ggL_law_L_whole
set_option maxRecDepth 20000 in
theorem ggL_law_X1_whole : GoodIn wsL_law wsX1_whole := goodIn_ca (goodIn_r _ [311, 27, 78, 79, 5, 80, 81, 82, 83, 84, 85, 312, 313, 314, 315, 29, 28, 276, 277, 278, 99, 316, 317, 318, 319, 687, 688, 689, 690, 691, 692, 693, 694, 695, 696, 697, 698] (by decide +kernel) (by decide +kernel)) (goodIn_sub (fun _ h => List.mem_append_left _ (List.mem_append_left _ (List.mem_append_left _ (List.mem_append_left _ (List.mem_append_left _ (List.mem_append_left _ (List.mem_append_left _ (List.mem_append_right _ h)))))))) (by decide +kernel))
set_option maxRecDepth 20000 in
theorem gL_law_X1_whole : GoodIn wsL_law (wsV RL 178 RX1 yX1_whole wsX1_whole) := goodIn_app (goodIn_of _ (by decide +kernel)) ggL_law_X1_whole
set_option maxRecDepth 20000 in
theorem ggL_law_L_compare : GoodIn wsL_law wsL_compare := goodIn_ca (goodIn_ca (goodIn_r _ [322, 39, 323, 324, 325, 2, 326, 45, 46, 47, 48, 49, 327, 328, 329, 330, 266, 251, 252, 253, 254, 14, 15, 16, 255, 256, 257, 258, 259, 260, 261, 262, 263, 264, 265, 678, 679, 680, 681, 682, 683, 684, 685, 686] (by decide +kernel) (by decide +kernel)) (goodIn_sub (fun _ h => List.mem_append_left _ (List.mem_append_left _ (List.mem_append_left _ (List.mem_append_left _ (List.mem_append_left _ (List.mem_append_left _ (List.mem_append_left _ (List.mem_append_right _ h)))))))) (by decide +kernel))) (goodIn_sub (fun _ h => List.mem_append_left _ (List.mem_append_left _ (List.mem_append_left _ (List.mem_append_left _ (List.mem_append_left _ (List.mem_append_left _ (List.mem_append_right _ h))))))) (by decide +kernel))
set_option maxRecDepth 20000 in
theorem gL_law_L_compare : GoodIn wsL_law (va_wsS RL 179 yL_compare wsL_compare) := goodIn_app (goodIn_of _ (by decide +kernel)) ggL_law_L_compare
set_option maxRecDepth 20000 in
theorem ggL_law_X1_compare : GoodIn wsL_law wsX1_compare := goodIn_ca (goodIn_r _ [334, 78, 79, 5, 80, 81, 82, 83, 84, 85, 335, 336, 337, 338, 27, 339, 340, 341, 342, 28, 29, 276, 277, 278, 99, 687, 688, 689, 690, 691, 692, 693, 694, 695, 696, 697, 698] (by decide +kernel) (by decide +kernel)) (goodIn_sub (fun _ h => List.mem_append_left _ (List.mem_append_left _ (List.mem_append_left _ (List.mem_append_left _ (List.mem_append_left _ (List.mem_append_left _ (List.mem_append_left _ (List.mem_append_right _ h)))))))) (by decide +kernel))
set_option maxRecDepth 20000 in
theorem gL_law_X1_compare : GoodIn wsL_law (wsV RL 181 RX1 yX1_compare wsX1_compare) := goodIn_app (goodIn_of _ (by decide +kernel)) ggL_law_X1_compare
set_option maxRecDepth 20000 in
theorem ggL_law_L_rank : GoodIn wsL_law wsL_rank := goodIn_ca (goodIn_ca (goodIn_r _ [345, 39, 346, 347, 348, 2, 349, 45, 46, 47, 48, 49, 327, 328, 329, 330, 266, 251, 252, 253, 254, 14, 15, 16, 255, 256, 257, 258, 259, 260, 261, 262, 263, 264, 265, 678, 679, 680, 681, 682, 683, 684, 685, 686] (by decide +kernel) (by decide +kernel)) (goodIn_sub (fun _ h => List.mem_append_left _ (List.mem_append_left _ (List.mem_append_left _ (List.mem_append_left _ (List.mem_append_left _ (List.mem_append_left _ (List.mem_append_left _ (List.mem_append_right _ h)))))))) (by decide +kernel))) (goodIn_sub (fun _ h => List.mem_append_left _ (List.mem_append_left _ (List.mem_append_left _ (List.mem_append_left _ (List.mem_append_left _ (List.mem_append_left _ (List.mem_append_right _ h))))))) (by decide +kernel))
set_option maxRecDepth 20000 in
theorem gL_law_L_rank : GoodIn wsL_law (va_wsS RL 182 yL_rank wsL_rank) := goodIn_app (goodIn_of _ (by decide +kernel)) ggL_law_L_rank
set_option maxRecDepth 20000 in
theorem ggL_law_X1_rank : GoodIn wsL_law wsX1_rank := goodIn_ca (goodIn_r _ [353, 78, 79, 5, 80, 81, 82, 83, 84, 85, 335, 336, 337, 338, 27, 339, 340, 341, 342, 28, 29, 276, 277, 278, 99, 687, 688, 689, 690, 691, 692, 693, 694, 695, 696, 697, 698] (by decide +kernel) (by decide +kernel)) (goodIn_sub (fun _ h => List.mem_append_left _ (List.mem_append_left _ (List.mem_append_left _ (List.mem_append_left _ (List.mem_append_left _ (List.mem_append_left _ (List.mem_append_left _ (List.mem_append_right _ h)))))))) (by decide +kernel))
set_option maxRecDepth 20000 in
theorem gL_law_X1_rank : GoodIn wsL_law (wsV RL 184 RX1 yX1_rank wsX1_rank) := goodIn_app (goodIn_of _ (by decide +kernel)) ggL_law_X1_rank
set_option maxRecDepth 20000 in
theorem ggL_law_L_at : GoodIn wsL_law wsL_at := goodIn_ca (goodIn_ca (goodIn_r _ [356, 39, 357, 358, 359, 2, 360, 45, 46, 47, 48, 49, 361, 362, 363, 364, 327, 328, 329, 330, 266, 251, 252, 253, 254, 14, 15, 16, 255, 256, 257, 258, 259, 260, 261, 262, 263, 264, 265, 678, 679, 680, 681, 682, 683, 684, 685, 686] (by decide +kernel) (by decide +kernel)) (goodIn_sub (fun _ h => List.mem_append_left _ (List.mem_append_left _ (List.mem_append_left _ (List.mem_append_left _ (List.mem_append_left _ (List.mem_append_left _ (List.mem_append_left _ (List.mem_append_right _ h)))))))) (by decide +kernel))) (goodIn_sub (fun _ h => List.mem_append_left _ (List.mem_append_left _ (List.mem_append_left _ (List.mem_append_left _ (List.mem_append_left _ (List.mem_append_left _ (List.mem_append_right _ h))))))) (by decide +kernel))
set_option maxRecDepth 20000 in
theorem gL_law_L_at : GoodIn wsL_law (va_wsS RL 185 yL_at wsL_at) := goodIn_app (goodIn_of _ (by decide +kernel)) ggL_law_L_at
set_option maxRecDepth 20000 in
theorem ggL_law_X1_at : GoodIn wsL_law wsX1_at := goodIn_ca (goodIn_r _ [368, 78, 79, 5, 80, 81, 82, 83, 84, 85, 335, 336, 337, 338, 27, 339, 340, 341, 342, 28, 29, 276, 277, 278, 99, 687, 688, 689, 690, 691, 692, 693, 694, 695, 696, 697, 698] (by decide +kernel) (by decide +kernel)) (goodIn_sub (fun _ h => List.mem_append_left _ (List.mem_append_left _ (List.mem_append_left _ (List.mem_append_left _ (List.mem_append_left _ (List.mem_append_left _ (List.mem_append_left _ (List.mem_append_right _ h)))))))) (by decide +kernel))
set_option maxRecDepth 20000 in
theorem gL_law_X1_at : GoodIn wsL_law (wsV RL 187 RX1 yX1_at wsX1_at) := goodIn_app (goodIn_of _ (by decide +kernel)) ggL_law_X1_at
set_option maxRecDepth 20000 in
theorem ggL_law_L_log : GoodIn wsL_law wsL_log := goodIn_ca (goodIn_ca (goodIn_ca (goodIn_ca (goodIn_ca (goodIn_ca (goodIn_r _ [371, 39, 40, 164, 165, 372, 373, 374, 2, 375, 172, 173, 14, 45, 46, 47, 48, 49, 376, 377, 378, 50, 51, 52, 53, 54, 297, 298, 299, 300, 170, 171, 15, 16, 301, 302, 303, 136, 304, 305, 306, 307, 379, 380, 381, 678, 679, 680, 681, 682, 683, 684, 685, 686] (by decide +kernel) (by decide +kernel)) (goodIn_sub (fun _ h => List.mem_append_left _ (List.mem_append_left _ (List.mem_append_left _ (List.mem_append_left _ (List.mem_append_left _ (List.mem_append_left _ (List.mem_append_left _ (List.mem_append_right _ h)))))))) (by decide +kernel))) (goodIn_sub (fun _ h => List.mem_append_left _ (List.mem_append_right _ h)) (by decide +kernel))) (goodIn_sub (fun _ h => List.mem_append_left _ (List.mem_append_left _ (List.mem_append_left _ (List.mem_append_left _ (List.mem_append_left _ (List.mem_append_left _ (List.mem_append_right _ h))))))) (by decide +kernel))) (goodIn_sub (fun _ h => List.mem_append_left _ (List.mem_append_left _ (List.mem_append_left _ (List.mem_append_left _ (List.mem_append_left _ (List.mem_append_right _ h)))))) (by decide +kernel))) (goodIn_sub (fun _ h => List.mem_append_left _ (List.mem_append_left _ (List.mem_append_right _ h))) (by decide +kernel))) (goodIn_sub (fun _ h => List.mem_append_left _ (List.mem_append_left _ (List.mem_append_left _ (List.mem_append_left _ (List.mem_append_right _ h))))) (by decide +kernel))
set_option maxRecDepth 20000 in
theorem gL_law_L_log : GoodIn wsL_law (va_wsS RL 188 yL_log wsL_log) := goodIn_app (goodIn_of _ (by decide +kernel)) ggL_law_L_log
set_option maxRecDepth 20000 in
theorem ggL_law_X1_log : GoodIn wsL_law wsX1_log := goodIn_ca (goodIn_ca (goodIn_r _ [385, 27, 386, 387, 388, 5, 389, 78, 79, 80, 81, 82, 83, 84, 85, 89, 90, 91, 312, 313, 314, 315, 29, 28, 276, 277, 278, 99, 316, 317, 318, 319, 687, 688, 689, 690, 691, 692, 693, 694, 695, 696, 697, 698] (by decide +kernel) (by decide +kernel)) (goodIn_sub (fun _ h => List.mem_append_left _ (List.mem_append_left _ (List.mem_append_left _ (List.mem_append_left _ (List.mem_append_left _ (List.mem_append_left _ (List.mem_append_left _ (List.mem_append_right _ h)))))))) (by decide +kernel))) (goodIn_sub (fun _ h => List.mem_append_left _ (List.mem_append_left _ (List.mem_append_left _ (List.mem_append_left _ (List.mem_append_right _ h))))) (by decide +kernel))
set_option maxRecDepth 20000 in
theorem gL_law_X1_log : GoodIn wsL_law (wsV RL 190 RX1 yX1_log wsX1_log) := goodIn_app (goodIn_of _ (by decide +kernel)) ggL_law_X1_log
set_option maxRecDepth 20000 in
theorem ggL_law_L_digits : GoodIn wsL_law wsL_digits := goodIn_ca (goodIn_ca (goodIn_ca (goodIn_ca (goodIn_ca (goodIn_r _ [392, 39, 40, 164, 393, 394, 395, 2, 396, 45, 46, 47, 48, 49, 376, 377, 378, 50, 51, 52, 53, 54, 297, 298, 299, 300, 170, 171, 15, 16, 301, 302, 303, 136, 304, 305, 306, 307, 379, 380, 381, 678, 679, 680, 681, 682, 683, 684, 685, 686] (by decide +kernel) (by decide +kernel)) (goodIn_sub (fun _ h => List.mem_append_left _ (List.mem_append_left _ (List.mem_append_left _ (List.mem_append_left _ (List.mem_append_left _ (List.mem_append_left _ (List.mem_append_left _ (List.mem_append_right _ h)))))))) (by decide +kernel))) (goodIn_sub (fun _ h => List.mem_append_left _ (List.mem_append_left _ (List.mem_append_left _ (List.mem_append_left _ (List.mem_append_left _ (List.mem_append_left _ (List.mem_append_right _ h))))))) (by decide +kernel))) (goodIn_sub (fun _ h => List.mem_append_left _ (List.mem_append_left _ (List.mem_append_left _ (List.mem_append_left _ (List.mem_append_left _ (List.mem_append_right _ h)))))) (by decide +kernel))) (goodIn_sub (fun _ h => List.mem_append_left _ (List.mem_append_left _ (List.mem_append_right _ h))) (by decide +kernel))) (goodIn_sub (fun _ h => List.mem_append_left _ (List.mem_append_left _ (List.mem_append_left _ (List.mem_append_left _ (List.mem_append_right _ h))))) (by decide +kernel))
set_option maxRecDepth 20000 in
theorem gL_law_L_digits : GoodIn wsL_law (va_wsS RL 191 yL_digits wsL_digits) := goodIn_app (goodIn_of _ (by decide +kernel)) ggL_law_L_digits
set_option maxRecDepth 20000 in
theorem ggL_law_X1_digits : GoodIn wsL_law wsX1_digits := goodIn_ca (goodIn_ca (goodIn_r _ [400, 386, 387, 388, 5, 389, 78, 79, 80, 81, 82, 83, 84, 85, 89, 90, 91, 312, 313, 314, 315, 29, 28, 276, 277, 278, 99, 316, 317, 318, 319, 687, 688, 689, 690, 691, 692, 693, 694, 695, 696, 697, 698] (by decide +kernel) (by decide +kernel)) (goodIn_sub (fun _ h => List.mem_append_left _ (List.mem_append_left _ (List.mem_append_left _ (List.mem_append_left _ (List.mem_append_right _ h))))) (by decide +kernel))) (goodIn_sub (fun _ h => List.mem_append_left _ (List.mem_append_left _ (List.mem_append_left _ (List.mem_append_left _ (List.mem_append_left _ (List.mem_append_left _ (List.mem_append_left _ (List.mem_append_right _ h)))))))) (by decide +kernel))
set_option maxRecDepth 20000 in
theorem gL_law_X1_digits : GoodIn wsL_law (wsV RL 193 RX1 yX1_digits wsX1_digits) := goodIn_app (goodIn_of _ (by decide +kernel)) ggL_law_X1_digits
set_option maxRecDepth 20000 in
theorem ggL_law_L_digit : GoodIn wsL_law wsL_digit := goodIn_ca (goodIn_ca (goodIn_ca (goodIn_ca (goodIn_ca (goodIn_r _ [403, 39, 40, 164, 404, 405, 406, 2, 407, 53, 54, 45, 46, 47, 48, 49, 376, 377, 378, 50, 51, 52, 297, 298, 299, 300, 170, 171, 15, 16, 301, 302, 303, 136, 304, 305, 306, 307, 678, 679, 680, 681, 682, 683, 684, 685, 686] (by decide +kernel) (by decide +kernel)) (goodIn_sub (fun _ h => List.mem_append_left _ (List.mem_append_left _ (List.mem_append_left _ (List.mem_append_left _ (List.mem_append_left _ (List.mem_append_left _ (List.mem_append_left _ (List.mem_append_right _ h)))))))) (by decide +kernel))) (goodIn_sub (fun _ h => List.mem_append_left _ (List.mem_append_left _ (List.mem_append_left _ (List.mem_append_left _ (List.mem_append_left _ (List.mem_append_right _ h)))))) (by decide +kernel))) (goodIn_sub (fun _ h => List.mem_append_left _ (List.mem_append_left _ (List.mem_append_left _ (List.mem_append_left _ (List.mem_append_right _ h))))) (by decide +kernel))) (goodIn_sub (fun _ h => List.mem_append_left _ (List.mem_append_left _ (List.mem_append_left _ (List.mem_append_left _ (List.mem_append_left _ (List.mem_append_left _ (List.mem_append_right _ h))))))) (by decide +kernel))) (goodIn_sub (fun _ h => List.mem_append_left _ (List.mem_append_left _ (List.mem_append_right _ h))) (by decide +kernel))
set_option maxRecDepth 20000 in
theorem gL_law_L_digit : GoodIn wsL_law (va_wsS RL 194 yL_digit wsL_digit) := goodIn_app (goodIn_of _ (by decide +kernel)) ggL_law_L_digit
set_option maxRecDepth 20000 in
theorem ggL_law_X1_digit : GoodIn wsL_law wsX1_digit := goodIn_ca (goodIn_ca (goodIn_r _ [411, 386, 387, 388, 5, 389, 78, 79, 80, 81, 82, 83, 84, 85, 89, 90, 91, 312, 313, 314, 315, 29, 28, 276, 277, 278, 99, 316, 317, 318, 319, 687, 688, 689, 690, 691, 692, 693, 694, 695, 696, 697, 698] (by decide +kernel) (by decide +kernel)) (goodIn_sub (fun _ h => List.mem_append_left _ (List.mem_append_left _ (List.mem_append_left _ (List.mem_append_left _ (List.mem_append_right _ h))))) (by decide +kernel))) (goodIn_sub (fun _ h => List.mem_append_left _ (List.mem_append_left _ (List.mem_append_left _ (List.mem_append_left _ (List.mem_append_left _ (List.mem_append_left _ (List.mem_append_left _ (List.mem_append_right _ h)))))))) (by decide +kernel))
set_option maxRecDepth 20000 in
theorem gL_law_X1_digit : GoodIn wsL_law (wsV RL 196 RX1 yX1_digit wsX1_digit) := goodIn_app (goodIn_of _ (by decide +kernel)) ggL_law_X1_digit
set_option maxRecDepth 20000 in
theorem ggL_law_L_root : GoodIn wsL_law wsL_root := goodIn_ca (goodIn_ca (goodIn_ca (goodIn_ca (goodIn_ca (goodIn_ca (goodIn_r _ [414, 39, 40, 164, 165, 415, 416, 417, 2, 418, 172, 173, 14, 132, 45, 46, 47, 48, 49, 50, 51, 52, 53, 54, 297, 298, 299, 300, 170, 171, 15, 16, 301, 302, 303, 136, 304, 305, 306, 307, 137, 138, 139, 678, 679, 680, 681, 682, 683, 684, 685, 686] (by decide +kernel) (by decide +kernel)) (goodIn_sub (fun _ h => List.mem_append_left _ (List.mem_append_left _ (List.mem_append_left _ (List.mem_append_left _ (List.mem_append_left _ (List.mem_append_left _ (List.mem_append_left _ (List.mem_append_right _ h)))))))) (by decide +kernel))) (goodIn_sub (fun _ h => List.mem_append_left _ (List.mem_append_right _ h)) (by decide +kernel))) (goodIn_sub (fun _ h => List.mem_append_left _ (List.mem_append_left _ (List.mem_append_left _ (List.mem_append_left _ (List.mem_append_left _ (List.mem_append_left _ (List.mem_append_right _ h))))))) (by decide +kernel))) (goodIn_sub (fun _ h => List.mem_append_left _ (List.mem_append_left _ (List.mem_append_left _ (List.mem_append_left _ (List.mem_append_left _ (List.mem_append_right _ h)))))) (by decide +kernel))) (goodIn_sub (fun _ h => List.mem_append_left _ (List.mem_append_left _ (List.mem_append_right _ h))) (by decide +kernel))) (goodIn_sub (fun _ h => List.mem_append_left _ (List.mem_append_left _ (List.mem_append_left _ (List.mem_append_left _ (List.mem_append_right _ h))))) (by decide +kernel))
set_option maxRecDepth 20000 in
theorem gL_law_L_root : GoodIn wsL_law (va_wsS RL 197 yL_root wsL_root) := goodIn_app (goodIn_of _ (by decide +kernel)) ggL_law_L_root
set_option maxRecDepth 20000 in
theorem ggL_law_X1_root : GoodIn wsL_law wsX1_root := goodIn_ca (goodIn_r _ [422, 27, 78, 79, 5, 80, 81, 82, 83, 84, 85, 89, 90, 91, 312, 313, 314, 315, 29, 28, 276, 277, 278, 99, 316, 317, 318, 319, 687, 688, 689, 690, 691, 692, 693, 694, 695, 696, 697, 698] (by decide +kernel) (by decide +kernel)) (goodIn_sub (fun _ h => List.mem_append_left _ (List.mem_append_left _ (List.mem_append_left _ (List.mem_append_left _ (List.mem_append_left _ (List.mem_append_left _ (List.mem_append_left _ (List.mem_append_right _ h)))))))) (by decide +kernel))
set_option maxRecDepth 20000 in
theorem gL_law_X1_root : GoodIn wsL_law (wsV RL 199 RX1 yX1_root wsX1_root) := goodIn_app (goodIn_of _ (by decide +kernel)) ggL_law_X1_root
set_option maxRecDepth 20000 in
theorem ggL_law_L_sum : GoodIn wsL_law wsL_sum := goodIn_ca (goodIn_ca (goodIn_ca (goodIn_ca (goodIn_r _ [425, 40, 116, 426, 427, 428, 2, 429, 121, 122, 123, 50, 51, 52, 53, 54, 430, 431, 432, 127, 128, 136, 132, 61, 62, 63, 137, 138, 139] (by decide +kernel) (by decide +kernel)) (goodIn_sub (fun _ h => List.mem_append_left _ (List.mem_append_left _ (List.mem_append_left _ (List.mem_append_left _ (List.mem_append_left _ (List.mem_append_left _ (List.mem_append_left _ (List.mem_append_right _ h)))))))) (by decide +kernel))) (goodIn_sub (fun _ h => List.mem_append_left _ (List.mem_append_left _ (List.mem_append_left _ (List.mem_append_left _ (List.mem_append_left _ (List.mem_append_right _ h)))))) (by decide +kernel))) (goodIn_sub (fun _ h => List.mem_append_left _ (List.mem_append_left _ (List.mem_append_left _ (List.mem_append_right _ h)))) (by decide +kernel))) (goodIn_sub (fun _ h => List.mem_append_left _ (List.mem_append_left _ (List.mem_append_left _ (List.mem_append_left _ (List.mem_append_right _ h))))) (by decide +kernel))
set_option maxRecDepth 20000 in
theorem gL_law_L_sum : GoodIn wsL_law (va_wsS RL 200 yL_sum wsL_sum) := goodIn_app (goodIn_of _ (by decide +kernel)) ggL_law_L_sum
set_option maxRecDepth 20000 in
theorem ggL_law_X1_sum : GoodIn wsL_law wsX1_sum := goodIn_ca (goodIn_r _ [436, 86, 87, 5, 88, 89, 90, 91, 147, 148, 149, 81, 82, 83, 84, 85, 437, 438, 439, 440, 92, 93, 94, 95, 96, 97, 98, 99, 100, 101, 102, 103, 75, 76, 77, 104, 441, 442, 443, 444, 276, 277, 278, 687, 688, 689, 690, 691, 692, 693, 694, 695, 696, 697, 698] (by decide +kernel) (by decide +kernel)) (goodIn_sub (fun _ h => List.mem_append_left _ (List.mem_append_left _ (List.mem_append_left _ (List.mem_append_left _ (List.mem_append_right _ h))))) (by decide +kernel))
set_option maxRecDepth 20000 in
theorem gL_law_X1_sum : GoodIn wsL_law (wsV RL 202 RX1 yX1_sum wsX1_sum) := goodIn_app (goodIn_of _ (by decide +kernel)) ggL_law_X1_sum
set_option maxRecDepth 20000 in
theorem ggL_law_L_rest : GoodIn wsL_law wsL_rest := goodIn_ca (goodIn_ca (goodIn_ca (goodIn_ca (goodIn_r _ [447, 40, 116, 448, 449, 450, 2, 451, 121, 122, 123, 50, 51, 52, 53, 54, 430, 431, 432, 127, 128, 136, 132, 61, 62, 63, 137, 138, 139, 452, 453, 454, 55, 56, 57, 140, 141, 142, 455, 456, 457, 458] (by decide +kernel) (by decide +kernel)) (goodIn_sub (fun _ h => List.mem_append_left _ (List.mem_append_left _ (List.mem_append_left _ (List.mem_append_left _ (List.mem_append_left _ (List.mem_append_left _ (List.mem_append_left _ (List.mem_append_right _ h)))))))) (by decide +kernel))) (goodIn_sub (fun _ h => List.mem_append_left _ (List.mem_append_left _ (List.mem_append_left _ (List.mem_append_left _ (List.mem_append_left _ (List.mem_append_right _ h)))))) (by decide +kernel))) (goodIn_sub (fun _ h => List.mem_append_left _ (List.mem_append_left _ (List.mem_append_left _ (List.mem_append_right _ h)))) (by decide +kernel))) (goodIn_sub (fun _ h => List.mem_append_left _ (List.mem_append_left _ (List.mem_append_left _ (List.mem_append_left _ (List.mem_append_right _ h))))) (by decide +kernel))
set_option maxRecDepth 20000 in
theorem gL_law_L_rest : GoodIn wsL_law (va_wsS RL 203 yL_rest wsL_rest) := goodIn_app (goodIn_of _ (by decide +kernel)) ggL_law_L_rest
set_option maxRecDepth 20000 in
theorem ggL_law_X1_rest : GoodIn wsL_law wsX1_rest := goodIn_ca (goodIn_r _ [462, 86, 87, 5, 88, 89, 90, 91, 147, 148, 149, 81, 82, 83, 84, 85, 437, 438, 439, 440, 92, 93, 94, 95, 96, 97, 98, 99, 100, 101, 102, 103, 75, 76, 77, 104, 441, 442, 443, 444, 276, 277, 278, 463, 464, 465, 466, 687, 688, 689, 690, 691, 692, 693, 694, 695, 696, 697, 698] (by decide +kernel) (by decide +kernel)) (goodIn_sub (fun _ h => List.mem_append_left _ (List.mem_append_left _ (List.mem_append_left _ (List.mem_append_left _ (List.mem_append_right _ h))))) (by decide +kernel))
set_option maxRecDepth 20000 in
theorem gL_law_X1_rest : GoodIn wsL_law (wsV RL 205 RX1 yX1_rest wsX1_rest) := goodIn_app (goodIn_of _ (by decide +kernel)) ggL_law_X1_rest
set_option maxRecDepth 20000 in
theorem ggL_law_L_isFermat : GoodIn wsL_law wsL_isFermat := goodIn_ca (goodIn_ca (goodIn_ca (goodIn_ca (goodIn_r _ [469, 40, 116, 470, 471, 472, 2, 473, 121, 122, 123, 50, 51, 52, 53, 54, 430, 431, 432, 127, 128, 136, 132, 61, 62, 63, 137, 138, 139, 452, 453, 454, 55, 56, 57, 140, 141, 142] (by decide +kernel) (by decide +kernel)) (goodIn_sub (fun _ h => List.mem_append_left _ (List.mem_append_left _ (List.mem_append_left _ (List.mem_append_left _ (List.mem_append_left _ (List.mem_append_left _ (List.mem_append_left _ (List.mem_append_right _ h)))))))) (by decide +kernel))) (goodIn_sub (fun _ h => List.mem_append_left _ (List.mem_append_left _ (List.mem_append_left _ (List.mem_append_left _ (List.mem_append_right _ h))))) (by decide +kernel))) (goodIn_sub (fun _ h => List.mem_append_left _ (List.mem_append_left _ (List.mem_append_left _ (List.mem_append_left _ (List.mem_append_left _ (List.mem_append_right _ h)))))) (by decide +kernel))) (goodIn_sub (fun _ h => List.mem_append_left _ (List.mem_append_left _ (List.mem_append_left _ (List.mem_append_right _ h)))) (by decide +kernel))
set_option maxRecDepth 20000 in
theorem gL_law_L_isFermat : GoodIn wsL_law (va_wsS RL 206 yL_isFermat wsL_isFermat) := goodIn_app (goodIn_of _ (by decide +kernel)) ggL_law_L_isFermat
set_option maxRecDepth 20000 in
theorem ggL_law_X1_isFermat : GoodIn wsL_law wsX1_isFermat := goodIn_ca (goodIn_r _ [477, 86, 87, 5, 88, 89, 90, 91, 81, 82, 83, 84, 85, 437, 438, 439, 440, 92, 93, 94, 95, 96, 97, 98, 99, 100, 101, 102, 103, 75, 76, 77, 104, 441, 442, 443, 444, 276, 277, 278, 463, 464, 465, 466, 687, 688, 689, 690, 691, 692, 693, 694, 695, 696, 697, 698] (by decide +kernel) (by decide +kernel)) (goodIn_sub (fun _ h => List.mem_append_left _ (List.mem_append_left _ (List.mem_append_left _ (List.mem_append_left _ (List.mem_append_right _ h))))) (by decide +kernel))
set_option maxRecDepth 20000 in
theorem gL_law_X1_isFermat : GoodIn wsL_law (wsV RL 208 RX1 yX1_isFermat wsX1_isFermat) := goodIn_app (goodIn_of _ (by decide +kernel)) ggL_law_X1_isFermat
set_option maxRecDepth 20000 in
theorem ggL_law_L_isChain : GoodIn wsL_law wsL_isChain := goodIn_ca (goodIn_ca (goodIn_ca (goodIn_ca (goodIn_r _ [480, 40, 116, 481, 482, 483, 2, 484, 121, 122, 123, 50, 51, 52, 53, 54, 124, 125, 126, 127, 128, 58, 59, 60, 61, 62, 63, 64, 65, 66, 129, 130, 131, 132, 133, 134, 135, 136, 137, 138, 139, 485, 486, 487, 488, 489, 490, 491, 492, 493, 494, 495, 496, 261, 262, 263, 264, 265, 266, 497, 498, 499, 55, 56, 57, 140, 141, 142, 255, 256, 257, 258, 259, 260] (by decide +kernel) (by decide +kernel)) (goodIn_sub (fun _ h => List.mem_append_left _ (List.mem_append_left _ (List.mem_append_left _ (List.mem_append_left _ (List.mem_append_left _ (List.mem_append_left _ (List.mem_append_left _ (List.mem_append_right _ h)))))))) (by decide +kernel))) (goodIn_sub (fun _ h => List.mem_append_left _ (List.mem_append_left _ (List.mem_append_left _ (List.mem_append_left _ (List.mem_append_left _ (List.mem_append_right _ h)))))) (by decide +kernel))) (goodIn_sub (fun _ h => List.mem_append_left _ (List.mem_append_left _ (List.mem_append_left _ (List.mem_append_right _ h)))) (by decide +kernel))) (goodIn_sub (fun _ h => List.mem_append_left _ (List.mem_append_left _ (List.mem_append_left _ (List.mem_append_left _ (List.mem_append_right _ h))))) (by decide +kernel))
set_option maxRecDepth 20000 in
theorem gL_law_L_isChain : GoodIn wsL_law (va_wsS RL 209 yL_isChain wsL_isChain) := goodIn_app (goodIn_of _ (by decide +kernel)) ggL_law_L_isChain
set_option maxRecDepth 20000 in
theorem ggL_law_X1_isChain : GoodIn wsL_law wsX1_isChain := goodIn_ca (goodIn_r _ [503, 86, 87, 5, 88, 89, 90, 91, 147, 148, 149, 81, 82, 83, 84, 85, 92, 93, 94, 95, 96, 97, 98, 99, 100, 101, 102, 103, 75, 76, 77, 104, 687, 688, 689, 690, 691, 692, 693, 694, 695, 696, 697, 698] (by decide +kernel) (by decide +kernel)) (goodIn_sub (fun _ h => List.mem_append_left _ (List.mem_append_left _ (List.mem_append_left _ (List.mem_append_left _ (List.mem_append_right _ h))))) (by decide +kernel))
set_option maxRecDepth 20000 in
theorem gL_law_X1_isChain : GoodIn wsL_law (wsV RL 211 RX1 yX1_isChain wsX1_isChain) := goodIn_app (goodIn_of _ (by decide +kernel)) ggL_law_X1_isChain
set_option maxRecDepth 20000 in
theorem ggL_law_L_addsUp : GoodIn wsL_law wsL_addsUp := goodIn_ca (goodIn_ca (goodIn_ca (goodIn_ca (goodIn_r _ [506, 40, 116, 507, 508, 509, 2, 510, 121, 122, 123, 50, 51, 52, 53, 54, 124, 125, 126, 127, 128, 58, 59, 60, 61, 62, 63, 64, 65, 66, 129, 130, 131, 132, 133, 134, 135, 136, 137, 138, 139, 511, 512, 513, 55, 56, 57, 140, 141, 142, 514, 515, 516, 492, 493, 494, 495, 496, 485, 486, 487, 488, 489, 490, 491, 261, 262, 263, 264, 265, 266, 497, 498, 499, 255, 256, 257, 258, 259, 260] (by decide +kernel) (by decide +kernel)) (goodIn_sub (fun _ h => List.mem_append_left _ (List.mem_append_left _ (List.mem_append_left _ (List.mem_append_left _ (List.mem_append_left _ (List.mem_append_left _ (List.mem_append_left _ (List.mem_append_right _ h)))))))) (by decide +kernel))) (goodIn_sub (fun _ h => List.mem_append_left _ (List.mem_append_left _ (List.mem_append_left _ (List.mem_append_left _ (List.mem_append_left _ (List.mem_append_right _ h)))))) (by decide +kernel))) (goodIn_sub (fun _ h => List.mem_append_left _ (List.mem_append_left _ (List.mem_append_left _ (List.mem_append_right _ h)))) (by decide +kernel))) (goodIn_sub (fun _ h => List.mem_append_left _ (List.mem_append_left _ (List.mem_append_left _ (List.mem_append_left _ (List.mem_append_right _ h))))) (by decide +kernel))
set_option maxRecDepth 20000 in
theorem gL_law_L_addsUp : GoodIn wsL_law (va_wsS RL 212 yL_addsUp wsL_addsUp) := goodIn_app (goodIn_of _ (by decide +kernel)) ggL_law_L_addsUp
set_option maxRecDepth 20000 in
theorem ggL_law_X1_addsUp : GoodIn wsL_law wsX1_addsUp := goodIn_ca (goodIn_r _ [520, 86, 87, 5, 88, 89, 90, 91, 147, 148, 149, 81, 82, 83, 84, 85, 92, 93, 94, 95, 96, 97, 98, 99, 100, 101, 102, 103, 75, 76, 77, 104, 687, 688, 689, 690, 691, 692, 693, 694, 695, 696, 697, 698] (by decide +kernel) (by decide +kernel)) (goodIn_sub (fun _ h => List.mem_append_left _ (List.mem_append_left _ (List.mem_append_left _ (List.mem_append_left _ (List.mem_append_right _ h))))) (by decide +kernel))
set_option maxRecDepth 20000 in
theorem gL_law_X1_addsUp : GoodIn wsL_law (wsV RL 214 RX1 yX1_addsUp wsX1_addsUp) := goodIn_app (goodIn_of _ (by decide +kernel)) ggL_law_X1_addsUp
set_option maxRecDepth 20000 in
theorem ggL_law_L_isNested : GoodIn wsL_law wsL_isNested := goodIn_ca (goodIn_ca (goodIn_ca (goodIn_ca (goodIn_r _ [523, 40, 116, 524, 525, 526, 2, 527, 121, 122, 123, 50, 51, 52, 53, 54, 124, 125, 126, 127, 128, 58, 59, 60, 61, 62, 63, 64, 65, 66, 129, 130, 131, 132, 133, 134, 135, 136, 137, 138, 139, 55, 56, 57, 140, 141, 142, 255, 256, 257, 258, 259, 260, 261, 262, 263, 264, 265, 266, 497, 498, 499] (by decide +kernel) (by decide +kernel)) (goodIn_sub (fun _ h => List.mem_append_left _ (List.mem_append_left _ (List.mem_append_left _ (List.mem_append_left _ (List.mem_append_left _ (List.mem_append_left _ (List.mem_append_left _ (List.mem_append_right _ h)))))))) (by decide +kernel))) (goodIn_sub (fun _ h => List.mem_append_left _ (List.mem_append_left _ (List.mem_append_left _ (List.mem_append_left _ (List.mem_append_left _ (List.mem_append_right _ h)))))) (by decide +kernel))) (goodIn_sub (fun _ h => List.mem_append_left _ (List.mem_append_left _ (List.mem_append_left _ (List.mem_append_right _ h)))) (by decide +kernel))) (goodIn_sub (fun _ h => List.mem_append_left _ (List.mem_append_left _ (List.mem_append_left _ (List.mem_append_left _ (List.mem_append_right _ h))))) (by decide +kernel))
set_option maxRecDepth 20000 in
theorem gL_law_L_isNested : GoodIn wsL_law (va_wsS RL 215 yL_isNested wsL_isNested) := goodIn_app (goodIn_of _ (by decide +kernel)) ggL_law_L_isNested
set_option maxRecDepth 20000 in
theorem ggL_law_X1_isNested : GoodIn wsL_law wsX1_isNested := goodIn_ca (goodIn_r _ [531, 86, 87, 5, 88, 89, 90, 91, 147, 148, 149, 81, 82, 83, 84, 85, 92, 93, 94, 95, 96, 97, 98, 99, 100, 101, 102, 103, 75, 76, 77, 104, 687, 688, 689, 690, 691, 692, 693, 694, 695, 696, 697, 698] (by decide +kernel) (by decide +kernel)) (goodIn_sub (fun _ h => List.mem_append_left _ (List.mem_append_left _ (List.mem_append_left _ (List.mem_append_left _ (List.mem_append_right _ h))))) (by decide +kernel))
set_option maxRecDepth 20000 in
theorem gL_law_X1_isNested : GoodIn wsL_law (wsV RL 217 RX1 yX1_isNested wsX1_isNested) := goodIn_app (goodIn_of _ (by decide +kernel)) ggL_law_X1_isNested
set_option maxRecDepth 20000 in
theorem ggL_law_L_rootBits : GoodIn wsL_law wsL_rootBits := goodIn_ca (goodIn_ca (goodIn_r _ [534, 40, 535, 536, 537, 2, 538, 50, 51, 52, 53, 54, 539, 540, 541, 542, 543, 544, 545, 546, 547, 548, 549, 550, 551, 552, 553, 554, 555, 261, 262, 263, 264, 265, 266] (by decide +kernel) (by decide +kernel)) (goodIn_sub (fun _ h => List.mem_append_left _ (List.mem_append_left _ (List.mem_append_left _ (List.mem_append_left _ (List.mem_append_left _ (List.mem_append_left _ (List.mem_append_left _ (List.mem_append_right _ h)))))))) (by decide +kernel))) (goodIn_sub (fun _ h => List.mem_append_left _ (List.mem_append_left _ (List.mem_append_left _ (List.mem_append_left _ (List.mem_append_left _ (List.mem_append_right _ h)))))) (by decide +kernel))
set_option maxRecDepth 20000 in
theorem gL_law_L_rootBits : GoodIn wsL_law (va_wsS RL 218 yL_rootBits wsL_rootBits) := goodIn_app (goodIn_of _ (by decide +kernel)) ggL_law_L_rootBits
set_option maxRecDepth 20000 in
theorem ggL_law_X1_rootBits : GoodIn wsL_law wsX1_rootBits := goodIn_r _ [559, 89, 90, 5, 91, 81, 82, 83, 84, 85, 560, 561, 562, 563, 99, 564, 565, 566, 276, 277, 278, 272, 273, 274, 275, 687, 688, 689, 690, 691, 692, 693, 694, 695, 696, 697, 698] (by decide +kernel) (by decide +kernel)
set_option maxRecDepth 20000 in
theorem gL_law_X1_rootBits : GoodIn wsL_law (wsV RL 220 RX1 yX1_rootBits wsX1_rootBits) := goodIn_app (goodIn_of _ (by decide +kernel)) ggL_law_X1_rootBits
set_option maxRecDepth 20000 in
theorem ggL_law_L_isRoot : GoodIn wsL_law wsL_isRoot := goodIn_ca (goodIn_ca (goodIn_r _ [569, 40, 570, 571, 572, 2, 573, 50, 51, 52, 53, 54, 542, 543, 544, 545, 546, 547, 548, 549, 550, 551, 552, 574, 575, 576, 577, 578, 579, 580, 581, 582, 583, 584, 585] (by decide +kernel) (by decide +kernel)) (goodIn_sub (fun _ h => List.mem_append_left _ (List.mem_append_left _ (List.mem_append_left _ (List.mem_append_left _ (List.mem_append_left _ (List.mem_append_left _ (List.mem_append_left _ (List.mem_append_right _ h)))))))) (by decide +kernel))) (goodIn_sub (fun _ h => List.mem_append_left _ (List.mem_append_left _ (List.mem_append_left _ (List.mem_append_left _ (List.mem_append_left _ (List.mem_append_right _ h)))))) (by decide +kernel))
set_option maxRecDepth 20000 in
theorem gL_law_L_isRoot : GoodIn wsL_law (va_wsS RL 221 yL_isRoot wsL_isRoot) := goodIn_app (goodIn_of _ (by decide +kernel)) ggL_law_L_isRoot
set_option maxRecDepth 20000 in
theorem ggL_law_X1_isRoot : GoodIn wsL_law wsX1_isRoot := goodIn_r _ [589, 89, 90, 5, 91, 81, 82, 83, 84, 85, 687, 688, 689, 690, 691, 692, 693, 694, 695, 696, 697, 698] (by decide +kernel) (by decide +kernel)
set_option maxRecDepth 20000 in
theorem gL_law_X1_isRoot : GoodIn wsL_law (wsV RL 223 RX1 yX1_isRoot wsX1_isRoot) := goodIn_app (goodIn_of _ (by decide +kernel)) ggL_law_X1_isRoot
set_option maxRecDepth 20000 in
theorem ggL_law_L_rootAt : GoodIn wsL_law wsL_rootAt := goodIn_ca (goodIn_ca (goodIn_r _ [592, 40, 593, 594, 595, 2, 596, 50, 51, 52, 53, 54, 548, 549, 550, 551, 552] (by decide +kernel) (by decide +kernel)) (goodIn_sub (fun _ h => List.mem_append_left _ (List.mem_append_left _ (List.mem_append_left _ (List.mem_append_left _ (List.mem_append_left _ (List.mem_append_left _ (List.mem_append_left _ (List.mem_append_right _ h)))))))) (by decide +kernel))) (goodIn_sub (fun _ h => List.mem_append_left _ (List.mem_append_left _ (List.mem_append_left _ (List.mem_append_left _ (List.mem_append_left _ (List.mem_append_right _ h)))))) (by decide +kernel))
set_option maxRecDepth 20000 in
theorem gL_law_L_rootAt : GoodIn wsL_law (va_wsS RL 224 yL_rootAt wsL_rootAt) := goodIn_app (goodIn_of _ (by decide +kernel)) ggL_law_L_rootAt
set_option maxRecDepth 20000 in
theorem ggL_law_X1_rootAt : GoodIn wsL_law wsX1_rootAt := goodIn_r _ [600, 89, 90, 5, 91, 81, 82, 83, 84, 85, 564, 565, 566, 687, 688, 689, 690, 691, 692, 693, 694, 695, 696, 697, 698] (by decide +kernel) (by decide +kernel)
set_option maxRecDepth 20000 in
theorem gL_law_X1_rootAt : GoodIn wsL_law (wsV RL 226 RX1 yX1_rootAt wsX1_rootAt) := goodIn_app (goodIn_of _ (by decide +kernel)) ggL_law_X1_rootAt
set_option maxRecDepth 20000 in
theorem ggL_law_L_backBits : GoodIn wsL_law wsL_backBits := goodIn_ca (goodIn_ca (goodIn_r _ [603, 40, 604, 605, 606, 2, 607, 50, 51, 52, 53, 54, 608, 609, 610, 542, 543, 544, 545, 546, 547, 548, 549, 550, 551, 552, 553, 554, 555, 611, 612, 613, 614, 258, 259, 260, 577, 578, 579, 580, 581, 582, 583, 584, 585, 261, 262, 263, 264, 265, 266] (by decide +kernel) (by decide +kernel)) (goodIn_sub (fun _ h => List.mem_append_left _ (List.mem_append_left _ (List.mem_append_left _ (List.mem_append_left _ (List.mem_append_left _ (List.mem_append_left _ (List.mem_append_left _ (List.mem_append_right _ h)))))))) (by decide +kernel))) (goodIn_sub (fun _ h => List.mem_append_left _ (List.mem_append_left _ (List.mem_append_left _ (List.mem_append_left _ (List.mem_append_left _ (List.mem_append_right _ h)))))) (by decide +kernel))
set_option maxRecDepth 20000 in
theorem gL_law_L_backBits : GoodIn wsL_law (va_wsS RL 227 yL_backBits wsL_backBits) := goodIn_app (goodIn_of _ (by decide +kernel)) ggL_law_L_backBits
set_option maxRecDepth 20000 in
theorem ggL_law_X1_backBits : GoodIn wsL_law wsX1_backBits := goodIn_ca (goodIn_r _ [618, 89, 90, 5, 91, 81, 82, 83, 84, 85, 560, 561, 562, 563, 99, 564, 565, 566, 276, 277, 278, 272, 273, 274, 275, 619, 620, 621, 622, 623, 624, 625, 626, 627, 628, 687, 688, 689, 690, 691, 692, 693, 694, 695, 696, 697, 698] (by decide +kernel) (by decide +kernel)) (goodIn_sub (fun _ h => List.mem_append_left _ (List.mem_append_left _ (List.mem_append_left _ (List.mem_append_left _ (List.mem_append_right _ h))))) (by decide +kernel))
set_option maxRecDepth 20000 in
theorem gL_law_X1_backBits : GoodIn wsL_law (wsV RL 229 RX1 yX1_backBits wsX1_backBits) := goodIn_app (goodIn_of _ (by decide +kernel)) ggL_law_X1_backBits
set_option maxRecDepth 20000 in
theorem ggL_law_L_isBack : GoodIn wsL_law wsL_isBack := goodIn_ca (goodIn_ca (goodIn_r _ [631, 40, 632, 633, 634, 2, 635, 50, 51, 52, 53, 54, 608, 609, 610, 542, 543, 544, 545, 546, 547, 548, 549, 550, 551, 552, 553, 554, 555, 611, 612, 613, 614, 258, 259, 260, 577, 578, 579, 580, 581, 582, 583, 584, 585, 261, 262, 263, 264, 265, 266, 55, 56, 57, 58, 59, 60, 61, 62, 63, 64, 65, 66, 255, 256, 257] (by decide +kernel) (by decide +kernel)) (goodIn_sub (fun _ h => List.mem_append_left _ (List.mem_append_left _ (List.mem_append_left _ (List.mem_append_left _ (List.mem_append_left _ (List.mem_append_left _ (List.mem_append_left _ (List.mem_append_right _ h)))))))) (by decide +kernel))) (goodIn_sub (fun _ h => List.mem_append_left _ (List.mem_append_left _ (List.mem_append_left _ (List.mem_append_left _ (List.mem_append_left _ (List.mem_append_right _ h)))))) (by decide +kernel))
set_option maxRecDepth 20000 in
theorem gL_law_L_isBack : GoodIn wsL_law (va_wsS RL 230 yL_isBack wsL_isBack) := goodIn_app (goodIn_of _ (by decide +kernel)) ggL_law_L_isBack
set_option maxRecDepth 20000 in
theorem ggL_law_X1_isBack : GoodIn wsL_law wsX1_isBack := goodIn_ca (goodIn_r _ [639, 89, 90, 5, 91, 81, 82, 83, 84, 85, 560, 561, 562, 563, 99, 564, 565, 566, 276, 277, 278, 272, 273, 274, 275, 619, 620, 621, 622, 623, 624, 625, 626, 627, 628, 687, 688, 689, 690, 691, 692, 693, 694, 695, 696, 697, 698] (by decide +kernel) (by decide +kernel)) (goodIn_sub (fun _ h => List.mem_append_left _ (List.mem_append_left _ (List.mem_append_left _ (List.mem_append_left _ (List.mem_append_right _ h))))) (by decide +kernel))
set_option maxRecDepth 20000 in
theorem gL_law_X1_isBack : GoodIn wsL_law (wsV RL 232 RX1 yX1_isBack wsX1_isBack) := goodIn_app (goodIn_of _ (by decide +kernel)) ggL_law_X1_isBack
set_option maxRecDepth 20000 in
theorem ggL_law_L_squareBits : GoodIn wsL_law wsL_squareBits := goodIn_ca (goodIn_ca (goodIn_ca (goodIn_r _ [642, 39, 116, 643, 644, 645, 2, 646, 15, 16, 45, 46, 47, 48, 49, 647, 648, 649, 650, 127, 128, 611, 612, 613, 614, 258, 259, 260, 577, 578, 579, 580, 581, 582, 583, 584, 585, 261, 262, 263, 264, 265, 266, 678, 679, 680, 681, 682, 683, 684, 685, 686] (by decide +kernel) (by decide +kernel)) (goodIn_sub (fun _ h => List.mem_append_left _ (List.mem_append_left _ (List.mem_append_left _ (List.mem_append_left _ (List.mem_append_left _ (List.mem_append_left _ (List.mem_append_left _ (List.mem_append_right _ h)))))))) (by decide +kernel))) (goodIn_sub (fun _ h => List.mem_append_left _ (List.mem_append_left _ (List.mem_append_left _ (List.mem_append_left _ (List.mem_append_left _ (List.mem_append_left _ (List.mem_append_right _ h))))))) (by decide +kernel))) (goodIn_sub (fun _ h => List.mem_append_left _ (List.mem_append_left _ (List.mem_append_left _ (List.mem_append_right _ h)))) (by decide +kernel))
set_option maxRecDepth 20000 in
theorem gL_law_L_squareBits : GoodIn wsL_law (va_wsS RL 233 yL_squareBits wsL_squareBits) := goodIn_app (goodIn_of _ (by decide +kernel)) ggL_law_L_squareBits
set_option maxRecDepth 20000 in
theorem ggL_law_X1_squareBits : GoodIn wsL_law wsX1_squareBits := goodIn_ca (goodIn_ca (goodIn_r _ [654, 28, 29, 655, 656, 657, 5, 658, 78, 79, 80, 81, 82, 83, 84, 85, 622, 623, 624, 625, 99, 626, 627, 628, 276, 277, 278, 272, 273, 274, 275, 687, 688, 689, 690, 691, 692, 693, 694, 695, 696, 697, 698] (by decide +kernel) (by decide +kernel)) (goodIn_sub (fun _ h => List.mem_append_left _ (List.mem_append_left _ (List.mem_append_left _ (List.mem_append_left _ (List.mem_append_left _ (List.mem_append_left _ (List.mem_append_left _ (List.mem_append_right _ h)))))))) (by decide +kernel))) (goodIn_sub (fun _ h => List.mem_append_left _ (List.mem_append_left _ (List.mem_append_left _ (List.mem_append_left _ (List.mem_append_right _ h))))) (by decide +kernel))
set_option maxRecDepth 20000 in
theorem gL_law_X1_squareBits : GoodIn wsL_law (wsV RL 235 RX1 yX1_squareBits wsX1_squareBits) := goodIn_app (goodIn_of _ (by decide +kernel)) ggL_law_X1_squareBits
set_option maxRecDepth 20000 in
theorem ggL_law_L_isTimes : GoodIn wsL_law wsL_isTimes := goodIn_ca (goodIn_ca (goodIn_ca (goodIn_r _ [661, 39, 116, 662, 663, 664, 2, 665, 14, 15, 16, 45, 46, 47, 48, 49, 647, 648, 649, 650, 127, 128, 514, 515, 516, 492, 493, 494, 495, 496, 485, 486, 487, 488, 489, 490, 491, 261, 262, 263, 264, 265, 266, 611, 612, 613, 614, 258, 259, 260, 577, 578, 579, 580, 581, 582, 583, 584, 585, 678, 679, 680, 681, 682, 683, 684, 685, 686] (by decide +kernel) (by decide +kernel)) (goodIn_sub (fun _ h => List.mem_append_left _ (List.mem_append_left _ (List.mem_append_left _ (List.mem_append_left _ (List.mem_append_left _ (List.mem_append_left _ (List.mem_append_left _ (List.mem_append_right _ h)))))))) (by decide +kernel))) (goodIn_sub (fun _ h => List.mem_append_left _ (List.mem_append_left _ (List.mem_append_left _ (List.mem_append_left _ (List.mem_append_left _ (List.mem_append_left _ (List.mem_append_right _ h))))))) (by decide +kernel))) (goodIn_sub (fun _ h => List.mem_append_left _ (List.mem_append_left _ (List.mem_append_left _ (List.mem_append_right _ h)))) (by decide +kernel))
set_option maxRecDepth 20000 in
theorem gL_law_L_isTimes : GoodIn wsL_law (va_wsS RL 236 yL_isTimes wsL_isTimes) := goodIn_app (goodIn_of _ (by decide +kernel)) ggL_law_L_isTimes
set_option maxRecDepth 20000 in
theorem ggL_law_X1_isTimes : GoodIn wsL_law wsX1_isTimes := goodIn_ca (goodIn_r _ [669, 655, 656, 657, 5, 658, 29, 78, 79, 80, 81, 82, 83, 84, 85, 687, 688, 689, 690, 691, 692, 693, 694, 695, 696, 697, 698] (by decide +kernel) (by decide +kernel)) (goodIn_sub (fun _ h => List.mem_append_left _ (List.mem_append_left _ (List.mem_append_left _ (List.mem_append_left _ (List.mem_append_left _ (List.mem_append_left _ (List.mem_append_left _ (List.mem_append_right _ h)))))))) (by decide +kernel))
set_option maxRecDepth 20000 in
theorem gL_law_X1_isTimes : GoodIn wsL_law (wsV RL 238 RX1 yX1_isTimes wsX1_isTimes) := goodIn_app (goodIn_of _ (by decide +kernel)) ggL_law_X1_isTimes
set_option maxRecDepth 20000 in
theorem ggL_law_X0_isSound : GoodIn wsL_law wsX0_isSound := goodIn_ca (goodIn_r _ [673, 14, 15, 16, 514, 515, 2, 516, 492, 493, 494, 495, 496, 485, 486, 487, 488, 489, 490, 491, 261, 262, 263, 264, 265, 266, 251, 252, 253, 254, 255, 256, 257, 258, 259, 260, 678, 679, 680, 681, 682, 683, 684, 685, 686] (by decide +kernel) (by decide +kernel)) (goodIn_sub (fun _ h => List.mem_append_left _ (List.mem_append_left _ (List.mem_append_left _ (List.mem_append_left _ (List.mem_append_left _ (List.mem_append_left _ (List.mem_append_left _ (List.mem_append_right _ h)))))))) (by decide +kernel))
set_option maxRecDepth 20000 in
theorem gL_law_X0_isSound : GoodIn wsL_law (wsV RL 239 RX0 yX0_isSound wsX0_isSound) := goodIn_app (goodIn_of _ (by decide +kernel)) ggL_law_X0_isSound
set_option maxRecDepth 20000 in
theorem ggL_law_X1_isSound : GoodIn wsL_law wsX1_isSound := goodIn_r _ [677, 85, 687, 688, 689, 690, 691, 692, 693, 694, 695, 696, 697, 698] (by decide +kernel) (by decide +kernel)
set_option maxRecDepth 20000 in
theorem gL_law_X1_isSound : GoodIn wsL_law (wsV RL 243 RX1 yX1_isSound wsX1_isSound) := goodIn_app (goodIn_of _ (by decide +kernel)) ggL_law_X1_isSound
