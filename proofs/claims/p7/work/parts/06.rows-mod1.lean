theorem dX4_fraction_51 : decode cX4_fraction 51 = .ok (.lcmp, 1) := bdX4_fraction_44.2.2.2.2.1
theorem dX4_fraction_52 : decode cX4_fraction 52 = .ok (.ifCond .eq 11, 3) := bdX4_fraction_44.2.2.2.2.2.1
theorem dX4_fraction_55 : decode cX4_fraction 55 = .ok (.lload 5, 2) := bdX4_fraction_44.2.2.2.2.2.2.1
theorem dX4_fraction_57 : decode cX4_fraction 57 = .ok (.lload 7, 2) := bdX4_fraction_44.2.2.2.2.2.2.2.1
theorem dX4_fraction_59 : decode cX4_fraction 59 = .ok (.lcmp, 1) := bdX4_fraction_44.2.2.2.2.2.2.2.2.1
theorem dX4_fraction_60 : decode cX4_fraction 60 = .ok (.ifCond .ne 16, 3) := bdX4_fraction_44.2.2.2.2.2.2.2.2.2.1
theorem dX4_fraction_63 : decode cX4_fraction 63 = .ok (.lload 5, 2) := bdX4_fraction_44.2.2.2.2.2.2.2.2.2.2.1
theorem dX4_fraction_65 : decode cX4_fraction 65 = .ok (.lconst 0, 1) := bdX4_fraction_44.2.2.2.2.2.2.2.2.2.2.2
set_option maxRecDepth 20000 in
theorem bdX4_fraction_66 : (decode cX4_fraction 66 = .ok (.lcmp, 1)) ∧ (decode cX4_fraction 67 = .ok (.ifCond .ne 7, 3)) ∧ (decode cX4_fraction 70 = .ok (.iconst 0, 1)) ∧ (decode cX4_fraction 71 = .ok (.goto 4, 3)) ∧ (decode cX4_fraction 74 = .ok (.iconst 1, 1)) ∧ (decode cX4_fraction 75 = .ok (.ireturn, 1)) ∧ (decode cX4_fraction 76 = .ok (.lload 5, 2)) ∧ (decode cX4_fraction 78 = .ok (.lstore 9, 2)) ∧ (decode cX4_fraction 80 = .ok (.lconst 0, 1)) ∧ (decode cX4_fraction 81 = .ok (.lstore 11, 2)) ∧ (decode cX4_fraction 83 = .ok (.aload_n 0, 1)) ∧ (decode cX4_fraction 84 = .ok (.getfield 113, 3)) := by decide +kernel
theorem dX4_fraction_66 : decode cX4_fraction 66 = .ok (.lcmp, 1) := bdX4_fraction_66.1
theorem dX4_fraction_67 : decode cX4_fraction 67 = .ok (.ifCond .ne 7, 3) := bdX4_fraction_66.2.1
theorem dX4_fraction_70 : decode cX4_fraction 70 = .ok (.iconst 0, 1) := bdX4_fraction_66.2.2.1
theorem dX4_fraction_71 : decode cX4_fraction 71 = .ok (.goto 4, 3) := bdX4_fraction_66.2.2.2.1
theorem dX4_fraction_74 : decode cX4_fraction 74 = .ok (.iconst 1, 1) := bdX4_fraction_66.2.2.2.2.1
theorem dX4_fraction_75 : decode cX4_fraction 75 = .ok (.ireturn, 1) := bdX4_fraction_66.2.2.2.2.2.1
theorem dX4_fraction_76 : decode cX4_fraction 76 = .ok (.lload 5, 2) := bdX4_fraction_66.2.2.2.2.2.2.1
theorem dX4_fraction_78 : decode cX4_fraction 78 = .ok (.lstore 9, 2) := bdX4_fraction_66.2.2.2.2.2.2.2.1
theorem dX4_fraction_80 : decode cX4_fraction 80 = .ok (.lconst 0, 1) := bdX4_fraction_66.2.2.2.2.2.2.2.2.1
theorem dX4_fraction_81 : decode cX4_fraction 81 = .ok (.lstore 11, 2) := bdX4_fraction_66.2.2.2.2.2.2.2.2.2.1
theorem dX4_fraction_83 : decode cX4_fraction 83 = .ok (.aload_n 0, 1) := bdX4_fraction_66.2.2.2.2.2.2.2.2.2.2.1
theorem dX4_fraction_84 : decode cX4_fraction 84 = .ok (.getfield 113, 3) := bdX4_fraction_66.2.2.2.2.2.2.2.2.2.2.2
set_option maxRecDepth 20000 in
theorem bdX4_fraction_87 : (decode cX4_fraction 87 = .ok (.sipush 2048, 3)) ∧ (decode cX4_fraction 90 = .ok (.if_icmp .ge 139, 3)) ∧ (decode cX4_fraction 93 = .ok (.aload_n 0, 1)) ∧ (decode cX4_fraction 94 = .ok (.getfield 113, 3)) ∧ (decode cX4_fraction 97 = .ok (.bipush 64, 2)) ∧ (decode cX4_fraction 99 = .ok (.irem, 1)) ∧ (decode cX4_fraction 100 = .ok (.ifCond .ne 27, 3)) ∧ (decode cX4_fraction 103 = .ok (.aload_n 0, 1)) ∧ (decode cX4_fraction 104 = .ok (.lload_n 1, 1)) ∧ (decode cX4_fraction 105 = .ok (.iload_n 3, 1)) ∧ (decode cX4_fraction 106 = .ok (.ldc2_w 111, 3)) ∧ (decode cX4_fraction 109 = .ok (.iload 4, 2)) := by decide +kernel
theorem dX4_fraction_87 : decode cX4_fraction 87 = .ok (.sipush 2048, 3) := bdX4_fraction_87.1
theorem dX4_fraction_90 : decode cX4_fraction 90 = .ok (.if_icmp .ge 139, 3) := bdX4_fraction_87.2.1
theorem dX4_fraction_93 : decode cX4_fraction 93 = .ok (.aload_n 0, 1) := bdX4_fraction_87.2.2.1
theorem dX4_fraction_94 : decode cX4_fraction 94 = .ok (.getfield 113, 3) := bdX4_fraction_87.2.2.2.1
theorem dX4_fraction_97 : decode cX4_fraction 97 = .ok (.bipush 64, 2) := bdX4_fraction_87.2.2.2.2.1
theorem dX4_fraction_99 : decode cX4_fraction 99 = .ok (.irem, 1) := bdX4_fraction_87.2.2.2.2.2.1
theorem dX4_fraction_100 : decode cX4_fraction 100 = .ok (.ifCond .ne 27, 3) := bdX4_fraction_87.2.2.2.2.2.2.1
theorem dX4_fraction_103 : decode cX4_fraction 103 = .ok (.aload_n 0, 1) := bdX4_fraction_87.2.2.2.2.2.2.2.1
theorem dX4_fraction_104 : decode cX4_fraction 104 = .ok (.lload_n 1, 1) := bdX4_fraction_87.2.2.2.2.2.2.2.2.1
theorem dX4_fraction_105 : decode cX4_fraction 105 = .ok (.iload_n 3, 1) := bdX4_fraction_87.2.2.2.2.2.2.2.2.2.1
theorem dX4_fraction_106 : decode cX4_fraction 106 = .ok (.ldc2_w 111, 3) := bdX4_fraction_87.2.2.2.2.2.2.2.2.2.2.1
theorem dX4_fraction_109 : decode cX4_fraction 109 = .ok (.iload 4, 2) := bdX4_fraction_87.2.2.2.2.2.2.2.2.2.2.2
set_option maxRecDepth 20000 in
theorem bdX4_fraction_111 : (decode cX4_fraction 111 = .ok (.i2l, 1)) ∧ (decode cX4_fraction 112 = .ok (.lmul, 1)) ∧ (decode cX4_fraction 113 = .ok (.aload_n 0, 1)) ∧ (decode cX4_fraction 114 = .ok (.getfield 113, 3)) ∧ (decode cX4_fraction 117 = .ok (.bipush 64, 2)) ∧ (decode cX4_fraction 119 = .ok (.idiv, 1)) ∧ (decode cX4_fraction 120 = .ok (.i2l, 1)) ∧ (decode cX4_fraction 121 = .ok (.ladd, 1)) ∧ (decode cX4_fraction 122 = .ok (.invokevirtual 103, 3)) ∧ (decode cX4_fraction 125 = .ok (.lstore 11, 2)) ∧ (decode cX4_fraction 127 = .ok (.lload 11, 2)) ∧ (decode cX4_fraction 129 = .ok (.lconst 0, 1)) := by decide +kernel
theorem dX4_fraction_111 : decode cX4_fraction 111 = .ok (.i2l, 1) := bdX4_fraction_111.1
theorem dX4_fraction_112 : decode cX4_fraction 112 = .ok (.lmul, 1) := bdX4_fraction_111.2.1
theorem dX4_fraction_113 : decode cX4_fraction 113 = .ok (.aload_n 0, 1) := bdX4_fraction_111.2.2.1
theorem dX4_fraction_114 : decode cX4_fraction 114 = .ok (.getfield 113, 3) := bdX4_fraction_111.2.2.2.1
theorem dX4_fraction_117 : decode cX4_fraction 117 = .ok (.bipush 64, 2) := bdX4_fraction_111.2.2.2.2.1
theorem dX4_fraction_119 : decode cX4_fraction 119 = .ok (.idiv, 1) := bdX4_fraction_111.2.2.2.2.2.1
theorem dX4_fraction_120 : decode cX4_fraction 120 = .ok (.i2l, 1) := bdX4_fraction_111.2.2.2.2.2.2.1
theorem dX4_fraction_121 : decode cX4_fraction 121 = .ok (.ladd, 1) := bdX4_fraction_111.2.2.2.2.2.2.2.1
theorem dX4_fraction_122 : decode cX4_fraction 122 = .ok (.invokevirtual 103, 3) := bdX4_fraction_111.2.2.2.2.2.2.2.2.1
theorem dX4_fraction_125 : decode cX4_fraction 125 = .ok (.lstore 11, 2) := bdX4_fraction_111.2.2.2.2.2.2.2.2.2.1
theorem dX4_fraction_127 : decode cX4_fraction 127 = .ok (.lload 11, 2) := bdX4_fraction_111.2.2.2.2.2.2.2.2.2.2.1
theorem dX4_fraction_129 : decode cX4_fraction 129 = .ok (.lconst 0, 1) := bdX4_fraction_111.2.2.2.2.2.2.2.2.2.2.2
set_option maxRecDepth 20000 in
theorem bdX4_fraction_130 : (decode cX4_fraction 130 = .ok (.lcmp, 1)) ∧ (decode cX4_fraction 131 = .ok (.ifCond .ge 7, 3)) ∧ (decode cX4_fraction 134 = .ok (.iconst 1, 1)) ∧ (decode cX4_fraction 135 = .ok (.goto 4, 3)) ∧ (decode cX4_fraction 138 = .ok (.iconst 0, 1)) ∧ (decode cX4_fraction 139 = .ok (.istore 13, 2)) ∧ (decode cX4_fraction 141 = .ok (.lload 11, 2)) ∧ (decode cX4_fraction 143 = .ok (.iconst 1, 1)) ∧ (decode cX4_fraction 144 = .ok (.lshl, 1)) ∧ (decode cX4_fraction 145 = .ok (.lstore 11, 2)) ∧ (decode cX4_fraction 147 = .ok (.aload_n 0, 1)) ∧ (decode cX4_fraction 148 = .ok (.dup, 1)) := by decide +kernel
theorem dX4_fraction_130 : decode cX4_fraction 130 = .ok (.lcmp, 1) := bdX4_fraction_130.1
theorem dX4_fraction_131 : decode cX4_fraction 131 = .ok (.ifCond .ge 7, 3) := bdX4_fraction_130.2.1
theorem dX4_fraction_134 : decode cX4_fraction 134 = .ok (.iconst 1, 1) := bdX4_fraction_130.2.2.1
theorem dX4_fraction_135 : decode cX4_fraction 135 = .ok (.goto 4, 3) := bdX4_fraction_130.2.2.2.1
theorem dX4_fraction_138 : decode cX4_fraction 138 = .ok (.iconst 0, 1) := bdX4_fraction_130.2.2.2.2.1
theorem dX4_fraction_139 : decode cX4_fraction 139 = .ok (.istore 13, 2) := bdX4_fraction_130.2.2.2.2.2.1
theorem dX4_fraction_141 : decode cX4_fraction 141 = .ok (.lload 11, 2) := bdX4_fraction_130.2.2.2.2.2.2.1
theorem dX4_fraction_143 : decode cX4_fraction 143 = .ok (.iconst 1, 1) := bdX4_fraction_130.2.2.2.2.2.2.2.1
theorem dX4_fraction_144 : decode cX4_fraction 144 = .ok (.lshl, 1) := bdX4_fraction_130.2.2.2.2.2.2.2.2.1
theorem dX4_fraction_145 : decode cX4_fraction 145 = .ok (.lstore 11, 2) := bdX4_fraction_130.2.2.2.2.2.2.2.2.2.1
theorem dX4_fraction_147 : decode cX4_fraction 147 = .ok (.aload_n 0, 1) := bdX4_fraction_130.2.2.2.2.2.2.2.2.2.2.1
theorem dX4_fraction_148 : decode cX4_fraction 148 = .ok (.dup, 1) := bdX4_fraction_130.2.2.2.2.2.2.2.2.2.2.2
set_option maxRecDepth 20000 in
theorem bdX4_fraction_149 : (decode cX4_fraction 149 = .ok (.getfield 113, 3)) ∧ (decode cX4_fraction 152 = .ok (.iconst 1, 1)) ∧ (decode cX4_fraction 153 = .ok (.iadd, 1)) ∧ (decode cX4_fraction 154 = .ok (.putfield 113, 3)) ∧ (decode cX4_fraction 157 = .ok (.lload 9, 2)) ∧ (decode cX4_fraction 159 = .ok (.lload 7, 2)) ∧ (decode cX4_fraction 161 = .ok (.lload 9, 2)) ∧ (decode cX4_fraction 163 = .ok (.lsub, 1)) ∧ (decode cX4_fraction 164 = .ok (.lcmp, 1)) ∧ (decode cX4_fraction 165 = .ok (.ifCond .lt 7, 3)) ∧ (decode cX4_fraction 168 = .ok (.iconst 1, 1)) ∧ (decode cX4_fraction 169 = .ok (.goto 4, 3)) := by decide +kernel
theorem dX4_fraction_149 : decode cX4_fraction 149 = .ok (.getfield 113, 3) := bdX4_fraction_149.1
theorem dX4_fraction_152 : decode cX4_fraction 152 = .ok (.iconst 1, 1) := bdX4_fraction_149.2.1
theorem dX4_fraction_153 : decode cX4_fraction 153 = .ok (.iadd, 1) := bdX4_fraction_149.2.2.1
theorem dX4_fraction_154 : decode cX4_fraction 154 = .ok (.putfield 113, 3) := bdX4_fraction_149.2.2.2.1
theorem dX4_fraction_157 : decode cX4_fraction 157 = .ok (.lload 9, 2) := bdX4_fraction_149.2.2.2.2.1
theorem dX4_fraction_159 : decode cX4_fraction 159 = .ok (.lload 7, 2) := bdX4_fraction_149.2.2.2.2.2.1
theorem dX4_fraction_161 : decode cX4_fraction 161 = .ok (.lload 9, 2) := bdX4_fraction_149.2.2.2.2.2.2.1
theorem dX4_fraction_163 : decode cX4_fraction 163 = .ok (.lsub, 1) := bdX4_fraction_149.2.2.2.2.2.2.2.1
theorem dX4_fraction_164 : decode cX4_fraction 164 = .ok (.lcmp, 1) := bdX4_fraction_149.2.2.2.2.2.2.2.2.1
theorem dX4_fraction_165 : decode cX4_fraction 165 = .ok (.ifCond .lt 7, 3) := bdX4_fraction_149.2.2.2.2.2.2.2.2.2.1
theorem dX4_fraction_168 : decode cX4_fraction 168 = .ok (.iconst 1, 1) := bdX4_fraction_149.2.2.2.2.2.2.2.2.2.2.1
theorem dX4_fraction_169 : decode cX4_fraction 169 = .ok (.goto 4, 3) := bdX4_fraction_149.2.2.2.2.2.2.2.2.2.2.2
set_option maxRecDepth 20000 in
theorem bdX4_fraction_172 : (decode cX4_fraction 172 = .ok (.iconst 0, 1)) ∧ (decode cX4_fraction 173 = .ok (.istore 14, 2)) ∧ (decode cX4_fraction 175 = .ok (.iload 14, 2)) ∧ (decode cX4_fraction 177 = .ok (.ifCond .eq 14, 3)) ∧ (decode cX4_fraction 180 = .ok (.lload 9, 2)) ∧ (decode cX4_fraction 182 = .ok (.lload 7, 2)) ∧ (decode cX4_fraction 184 = .ok (.lload 9, 2)) ∧ (decode cX4_fraction 186 = .ok (.lsub, 1)) ∧ (decode cX4_fraction 187 = .ok (.lsub, 1)) ∧ (decode cX4_fraction 188 = .ok (.goto 9, 3)) ∧ (decode cX4_fraction 191 = .ok (.ldc2_w 126, 3)) ∧ (decode cX4_fraction 194 = .ok (.lload 9, 2)) := by decide +kernel
theorem dX4_fraction_172 : decode cX4_fraction 172 = .ok (.iconst 0, 1) := bdX4_fraction_172.1
theorem dX4_fraction_173 : decode cX4_fraction 173 = .ok (.istore 14, 2) := bdX4_fraction_172.2.1
theorem dX4_fraction_175 : decode cX4_fraction 175 = .ok (.iload 14, 2) := bdX4_fraction_172.2.2.1
theorem dX4_fraction_177 : decode cX4_fraction 177 = .ok (.ifCond .eq 14, 3) := bdX4_fraction_172.2.2.2.1
theorem dX4_fraction_180 : decode cX4_fraction 180 = .ok (.lload 9, 2) := bdX4_fraction_172.2.2.2.2.1
theorem dX4_fraction_182 : decode cX4_fraction 182 = .ok (.lload 7, 2) := bdX4_fraction_172.2.2.2.2.2.1
theorem dX4_fraction_184 : decode cX4_fraction 184 = .ok (.lload 9, 2) := bdX4_fraction_172.2.2.2.2.2.2.1
theorem dX4_fraction_186 : decode cX4_fraction 186 = .ok (.lsub, 1) := bdX4_fraction_172.2.2.2.2.2.2.2.1
theorem dX4_fraction_187 : decode cX4_fraction 187 = .ok (.lsub, 1) := bdX4_fraction_172.2.2.2.2.2.2.2.2.1
theorem dX4_fraction_188 : decode cX4_fraction 188 = .ok (.goto 9, 3) := bdX4_fraction_172.2.2.2.2.2.2.2.2.2.1
theorem dX4_fraction_191 : decode cX4_fraction 191 = .ok (.ldc2_w 126, 3) := bdX4_fraction_172.2.2.2.2.2.2.2.2.2.2.1
theorem dX4_fraction_194 : decode cX4_fraction 194 = .ok (.lload 9, 2) := bdX4_fraction_172.2.2.2.2.2.2.2.2.2.2.2
set_option maxRecDepth 20000 in
theorem bdX4_fraction_196 : (decode cX4_fraction 196 = .ok (.lmul, 1)) ∧ (decode cX4_fraction 197 = .ok (.lstore 9, 2)) ∧ (decode cX4_fraction 199 = .ok (.iload 13, 2)) ∧ (decode cX4_fraction 201 = .ok (.iload 14, 2)) ∧ (decode cX4_fraction 203 = .ok (.if_icmp .eq 14, 3)) ∧ (decode cX4_fraction 206 = .ok (.iload 14, 2)) ∧ (decode cX4_fraction 208 = .ok (.ifCond .eq 7, 3)) ∧ (decode cX4_fraction 211 = .ok (.iconst 1, 1)) ∧ (decode cX4_fraction 212 = .ok (.goto 4, 3)) ∧ (decode cX4_fraction 215 = .ok (.iconst 0, 1)) ∧ (decode cX4_fraction 216 = .ok (.ireturn, 1)) ∧ (decode cX4_fraction 217 = .ok (.lload 9, 2)) := by decide +kernel
theorem dX4_fraction_196 : decode cX4_fraction 196 = .ok (.lmul, 1) := bdX4_fraction_196.1
theorem dX4_fraction_197 : decode cX4_fraction 197 = .ok (.lstore 9, 2) := bdX4_fraction_196.2.1
theorem dX4_fraction_199 : decode cX4_fraction 199 = .ok (.iload 13, 2) := bdX4_fraction_196.2.2.1
theorem dX4_fraction_201 : decode cX4_fraction 201 = .ok (.iload 14, 2) := bdX4_fraction_196.2.2.2.1
theorem dX4_fraction_203 : decode cX4_fraction 203 = .ok (.if_icmp .eq 14, 3) := bdX4_fraction_196.2.2.2.2.1
theorem dX4_fraction_206 : decode cX4_fraction 206 = .ok (.iload 14, 2) := bdX4_fraction_196.2.2.2.2.2.1
theorem dX4_fraction_208 : decode cX4_fraction 208 = .ok (.ifCond .eq 7, 3) := bdX4_fraction_196.2.2.2.2.2.2.1
theorem dX4_fraction_211 : decode cX4_fraction 211 = .ok (.iconst 1, 1) := bdX4_fraction_196.2.2.2.2.2.2.2.1
theorem dX4_fraction_212 : decode cX4_fraction 212 = .ok (.goto 4, 3) := bdX4_fraction_196.2.2.2.2.2.2.2.2.1
theorem dX4_fraction_215 : decode cX4_fraction 215 = .ok (.iconst 0, 1) := bdX4_fraction_196.2.2.2.2.2.2.2.2.2.1
theorem dX4_fraction_216 : decode cX4_fraction 216 = .ok (.ireturn, 1) := bdX4_fraction_196.2.2.2.2.2.2.2.2.2.2.1
theorem dX4_fraction_217 : decode cX4_fraction 217 = .ok (.lload 9, 2) := bdX4_fraction_196.2.2.2.2.2.2.2.2.2.2.2
set_option maxRecDepth 20000 in
theorem bdX4_fraction_219 : (decode cX4_fraction 219 = .ok (.lconst 0, 1)) ∧ (decode cX4_fraction 220 = .ok (.lcmp, 1)) ∧ (decode cX4_fraction 221 = .ok (.ifCond .ne 5, 3)) ∧ (decode cX4_fraction 224 = .ok (.iconst 0, 1)) ∧ (decode cX4_fraction 225 = .ok (.ireturn, 1)) ∧ (decode cX4_fraction 226 = .ok (.goto (-143), 3)) ∧ (decode cX4_fraction 229 = .ok (.bipush (-3), 2)) ∧ (decode cX4_fraction 231 = .ok (.ireturn, 1)) := by decide +kernel
theorem dX4_fraction_219 : decode cX4_fraction 219 = .ok (.lconst 0, 1) := bdX4_fraction_219.1
theorem dX4_fraction_220 : decode cX4_fraction 220 = .ok (.lcmp, 1) := bdX4_fraction_219.2.1
theorem dX4_fraction_221 : decode cX4_fraction 221 = .ok (.ifCond .ne 5, 3) := bdX4_fraction_219.2.2.1
theorem dX4_fraction_224 : decode cX4_fraction 224 = .ok (.iconst 0, 1) := bdX4_fraction_219.2.2.2.1
theorem dX4_fraction_225 : decode cX4_fraction 225 = .ok (.ireturn, 1) := bdX4_fraction_219.2.2.2.2.1
theorem dX4_fraction_226 : decode cX4_fraction 226 = .ok (.goto (-143), 3) := bdX4_fraction_219.2.2.2.2.2.1
theorem dX4_fraction_229 : decode cX4_fraction 229 = .ok (.bipush (-3), 2) := bdX4_fraction_219.2.2.2.2.2.2.1
theorem dX4_fraction_231 : decode cX4_fraction 231 = .ok (.ireturn, 1) := bdX4_fraction_219.2.2.2.2.2.2.2
set_option maxRecDepth 20000 in
theorem ggX4_weight_X4_in : GoodIn wsX4_weight wsX4_in := goodIn_r _ [6] (by decide +kernel) (by decide +kernel)
set_option maxRecDepth 20000 in
theorem gX4_weight_X4_in : GoodIn wsX4_weight (va_wsS RX4 82 yX4_in wsX4_in) := goodIn_app (goodIn_of _ (by decide +kernel)) ggX4_weight_X4_in
set_option maxRecDepth 20000 in
theorem bdX4_weight_0 : (decode cX4_weight 0 = .ok (.iload_n 1, 1)) ∧ (decode cX4_weight 1 = .ok (.i2l, 1)) ∧ (decode cX4_weight 2 = .ok (.lconst 0, 1)) ∧ (decode cX4_weight 3 = .ok (.ldc2_w 128, 3)) ∧ (decode cX4_weight 6 = .ok (.invokestatic 82, 3)) ∧ (decode cX4_weight 9 = .ok (.ifCond .eq 9, 3)) ∧ (decode cX4_weight 12 = .ok (.lload_n 2, 1)) ∧ (decode cX4_weight 13 = .ok (.lconst 0, 1)) ∧ (decode cX4_weight 14 = .ok (.lcmp, 1)) ∧ (decode cX4_weight 15 = .ok (.ifCond .ge 5, 3)) ∧ (decode cX4_weight 18 = .ok (.iconst (-1), 1)) ∧ (decode cX4_weight 19 = .ok (.ireturn, 1)) := by decide +kernel
theorem dX4_weight_0 : decode cX4_weight 0 = .ok (.iload_n 1, 1) := bdX4_weight_0.1
theorem dX4_weight_1 : decode cX4_weight 1 = .ok (.i2l, 1) := bdX4_weight_0.2.1
theorem dX4_weight_2 : decode cX4_weight 2 = .ok (.lconst 0, 1) := bdX4_weight_0.2.2.1
theorem dX4_weight_3 : decode cX4_weight 3 = .ok (.ldc2_w 128, 3) := bdX4_weight_0.2.2.2.1
theorem dX4_weight_6 : decode cX4_weight 6 = .ok (.invokestatic 82, 3) := bdX4_weight_0.2.2.2.2.1
theorem dX4_weight_9 : decode cX4_weight 9 = .ok (.ifCond .eq 9, 3) := bdX4_weight_0.2.2.2.2.2.1
theorem dX4_weight_12 : decode cX4_weight 12 = .ok (.lload_n 2, 1) := bdX4_weight_0.2.2.2.2.2.2.1
theorem dX4_weight_13 : decode cX4_weight 13 = .ok (.lconst 0, 1) := bdX4_weight_0.2.2.2.2.2.2.2.1
theorem dX4_weight_14 : decode cX4_weight 14 = .ok (.lcmp, 1) := bdX4_weight_0.2.2.2.2.2.2.2.2.1
theorem dX4_weight_15 : decode cX4_weight 15 = .ok (.ifCond .ge 5, 3) := bdX4_weight_0.2.2.2.2.2.2.2.2.2.1
theorem dX4_weight_18 : decode cX4_weight 18 = .ok (.iconst (-1), 1) := bdX4_weight_0.2.2.2.2.2.2.2.2.2.2.1
theorem dX4_weight_19 : decode cX4_weight 19 = .ok (.ireturn, 1) := bdX4_weight_0.2.2.2.2.2.2.2.2.2.2.2
set_option maxRecDepth 20000 in
theorem bdX4_weight_20 : (decode cX4_weight 20 = .ok (.aload_n 0, 1)) ∧ (decode cX4_weight 21 = .ok (.getfield 20, 3)) ∧ (decode cX4_weight 24 = .ok (.iload_n 1, 1)) ∧ (decode cX4_weight 25 = .ok (.lload_n 2, 1)) ∧ (decode cX4_weight 26 = .ok (.lastore, 1)) ∧ (decode cX4_weight 27 = .ok (.iconst 1, 1)) ∧ (decode cX4_weight 28 = .ok (.ireturn, 1)) := by decide +kernel
theorem dX4_weight_20 : decode cX4_weight 20 = .ok (.aload_n 0, 1) := bdX4_weight_20.1
theorem dX4_weight_21 : decode cX4_weight 21 = .ok (.getfield 20, 3) := bdX4_weight_20.2.1
theorem dX4_weight_24 : decode cX4_weight 24 = .ok (.iload_n 1, 1) := bdX4_weight_20.2.2.1
theorem dX4_weight_25 : decode cX4_weight 25 = .ok (.lload_n 2, 1) := bdX4_weight_20.2.2.2.1
theorem dX4_weight_26 : decode cX4_weight 26 = .ok (.lastore, 1) := bdX4_weight_20.2.2.2.2.1
theorem dX4_weight_27 : decode cX4_weight 27 = .ok (.iconst 1, 1) := bdX4_weight_20.2.2.2.2.2.1
theorem dX4_weight_28 : decode cX4_weight 28 = .ok (.ireturn, 1) := bdX4_weight_20.2.2.2.2.2.2
set_option maxRecDepth 20000 in
theorem bdX4_sum_0 : (decode cX4_sum 0 = .ok (.lconst 0, 1)) ∧ (decode cX4_sum 1 = .ok (.lstore_n 1, 1)) ∧ (decode cX4_sum 2 = .ok (.aload_n 0, 1)) ∧ (decode cX4_sum 3 = .ok (.iconst 0, 1)) ∧ (decode cX4_sum 4 = .ok (.putfield 130, 3)) ∧ (decode cX4_sum 7 = .ok (.iconst 0, 1)) ∧ (decode cX4_sum 8 = .ok (.istore_n 3, 1)) ∧ (decode cX4_sum 9 = .ok (.iload_n 3, 1)) ∧ (decode cX4_sum 10 = .ok (.bipush 10, 2)) ∧ (decode cX4_sum 12 = .ok (.if_icmp .ge 58, 3)) ∧ (decode cX4_sum 15 = .ok (.aload_n 0, 1)) ∧ (decode cX4_sum 16 = .ok (.aload_n 0, 1)) := by decide +kernel
theorem dX4_sum_0 : decode cX4_sum 0 = .ok (.lconst 0, 1) := bdX4_sum_0.1
theorem dX4_sum_1 : decode cX4_sum 1 = .ok (.lstore_n 1, 1) := bdX4_sum_0.2.1
theorem dX4_sum_2 : decode cX4_sum 2 = .ok (.aload_n 0, 1) := bdX4_sum_0.2.2.1
theorem dX4_sum_3 : decode cX4_sum 3 = .ok (.iconst 0, 1) := bdX4_sum_0.2.2.2.1
theorem dX4_sum_4 : decode cX4_sum 4 = .ok (.putfield 130, 3) := bdX4_sum_0.2.2.2.2.1
theorem dX4_sum_7 : decode cX4_sum 7 = .ok (.iconst 0, 1) := bdX4_sum_0.2.2.2.2.2.1
theorem dX4_sum_8 : decode cX4_sum 8 = .ok (.istore_n 3, 1) := bdX4_sum_0.2.2.2.2.2.2.1
theorem dX4_sum_9 : decode cX4_sum 9 = .ok (.iload_n 3, 1) := bdX4_sum_0.2.2.2.2.2.2.2.1
theorem dX4_sum_10 : decode cX4_sum 10 = .ok (.bipush 10, 2) := bdX4_sum_0.2.2.2.2.2.2.2.2.1
theorem dX4_sum_12 : decode cX4_sum 12 = .ok (.if_icmp .ge 58, 3) := bdX4_sum_0.2.2.2.2.2.2.2.2.2.1
theorem dX4_sum_15 : decode cX4_sum 15 = .ok (.aload_n 0, 1) := bdX4_sum_0.2.2.2.2.2.2.2.2.2.2.1
theorem dX4_sum_16 : decode cX4_sum 16 = .ok (.aload_n 0, 1) := bdX4_sum_0.2.2.2.2.2.2.2.2.2.2.2
set_option maxRecDepth 20000 in
theorem bdX4_sum_17 : (decode cX4_sum 17 = .ok (.getfield 130, 3)) ∧ (decode cX4_sum 20 = .ok (.ifCond .ne 16, 3)) ∧ (decode cX4_sum 23 = .ok (.lload_n 1, 1)) ∧ (decode cX4_sum 24 = .ok (.aload_n 0, 1)) ∧ (decode cX4_sum 25 = .ok (.getfield 20, 3)) ∧ (decode cX4_sum 28 = .ok (.iload_n 3, 1)) ∧ (decode cX4_sum 29 = .ok (.laload, 1)) ∧ (decode cX4_sum 30 = .ok (.ladd, 1)) ∧ (decode cX4_sum 31 = .ok (.lconst 0, 1)) ∧ (decode cX4_sum 32 = .ok (.lcmp, 1)) ∧ (decode cX4_sum 33 = .ok (.ifCond .ge 7, 3)) ∧ (decode cX4_sum 36 = .ok (.iconst 1, 1)) := by decide +kernel
theorem dX4_sum_17 : decode cX4_sum 17 = .ok (.getfield 130, 3) := bdX4_sum_17.1
theorem dX4_sum_20 : decode cX4_sum 20 = .ok (.ifCond .ne 16, 3) := bdX4_sum_17.2.1
theorem dX4_sum_23 : decode cX4_sum 23 = .ok (.lload_n 1, 1) := bdX4_sum_17.2.2.1
theorem dX4_sum_24 : decode cX4_sum 24 = .ok (.aload_n 0, 1) := bdX4_sum_17.2.2.2.1
theorem dX4_sum_25 : decode cX4_sum 25 = .ok (.getfield 20, 3) := bdX4_sum_17.2.2.2.2.1
theorem dX4_sum_28 : decode cX4_sum 28 = .ok (.iload_n 3, 1) := bdX4_sum_17.2.2.2.2.2.1
theorem dX4_sum_29 : decode cX4_sum 29 = .ok (.laload, 1) := bdX4_sum_17.2.2.2.2.2.2.1
theorem dX4_sum_30 : decode cX4_sum 30 = .ok (.ladd, 1) := bdX4_sum_17.2.2.2.2.2.2.2.1
theorem dX4_sum_31 : decode cX4_sum 31 = .ok (.lconst 0, 1) := bdX4_sum_17.2.2.2.2.2.2.2.2.1
theorem dX4_sum_32 : decode cX4_sum 32 = .ok (.lcmp, 1) := bdX4_sum_17.2.2.2.2.2.2.2.2.2.1
theorem dX4_sum_33 : decode cX4_sum 33 = .ok (.ifCond .ge 7, 3) := bdX4_sum_17.2.2.2.2.2.2.2.2.2.2.1
theorem dX4_sum_36 : decode cX4_sum 36 = .ok (.iconst 1, 1) := bdX4_sum_17.2.2.2.2.2.2.2.2.2.2.2
set_option maxRecDepth 20000 in
theorem bdX4_sum_37 : (decode cX4_sum 37 = .ok (.goto 4, 3)) ∧ (decode cX4_sum 40 = .ok (.iconst 0, 1)) ∧ (decode cX4_sum 41 = .ok (.putfield 130, 3)) ∧ (decode cX4_sum 44 = .ok (.aload_n 0, 1)) ∧ (decode cX4_sum 45 = .ok (.getfield 130, 3)) ∧ (decode cX4_sum 48 = .ok (.ifCond .eq 7, 3)) ∧ (decode cX4_sum 51 = .ok (.lconst 0, 1)) ∧ (decode cX4_sum 52 = .ok (.goto 11, 3)) ∧ (decode cX4_sum 55 = .ok (.lload_n 1, 1)) ∧ (decode cX4_sum 56 = .ok (.aload_n 0, 1)) ∧ (decode cX4_sum 57 = .ok (.getfield 20, 3)) ∧ (decode cX4_sum 60 = .ok (.iload_n 3, 1)) := by decide +kernel
theorem dX4_sum_37 : decode cX4_sum 37 = .ok (.goto 4, 3) := bdX4_sum_37.1
theorem dX4_sum_40 : decode cX4_sum 40 = .ok (.iconst 0, 1) := bdX4_sum_37.2.1
theorem dX4_sum_41 : decode cX4_sum 41 = .ok (.putfield 130, 3) := bdX4_sum_37.2.2.1
theorem dX4_sum_44 : decode cX4_sum 44 = .ok (.aload_n 0, 1) := bdX4_sum_37.2.2.2.1
theorem dX4_sum_45 : decode cX4_sum 45 = .ok (.getfield 130, 3) := bdX4_sum_37.2.2.2.2.1
theorem dX4_sum_48 : decode cX4_sum 48 = .ok (.ifCond .eq 7, 3) := bdX4_sum_37.2.2.2.2.2.1
theorem dX4_sum_51 : decode cX4_sum 51 = .ok (.lconst 0, 1) := bdX4_sum_37.2.2.2.2.2.2.1
theorem dX4_sum_52 : decode cX4_sum 52 = .ok (.goto 11, 3) := bdX4_sum_37.2.2.2.2.2.2.2.1
theorem dX4_sum_55 : decode cX4_sum 55 = .ok (.lload_n 1, 1) := bdX4_sum_37.2.2.2.2.2.2.2.2.1
theorem dX4_sum_56 : decode cX4_sum 56 = .ok (.aload_n 0, 1) := bdX4_sum_37.2.2.2.2.2.2.2.2.2.1
theorem dX4_sum_57 : decode cX4_sum 57 = .ok (.getfield 20, 3) := bdX4_sum_37.2.2.2.2.2.2.2.2.2.2.1
theorem dX4_sum_60 : decode cX4_sum 60 = .ok (.iload_n 3, 1) := bdX4_sum_37.2.2.2.2.2.2.2.2.2.2.2
set_option maxRecDepth 20000 in
theorem bdX4_sum_61 : (decode cX4_sum 61 = .ok (.laload, 1)) ∧ (decode cX4_sum 62 = .ok (.ladd, 1)) ∧ (decode cX4_sum 63 = .ok (.lstore_n 1, 1)) ∧ (decode cX4_sum 64 = .ok (.iinc 3 1, 3)) ∧ (decode cX4_sum 67 = .ok (.goto (-58), 3)) ∧ (decode cX4_sum 70 = .ok (.lload_n 1, 1)) ∧ (decode cX4_sum 71 = .ok (.lreturn, 1)) := by decide +kernel
theorem dX4_sum_61 : decode cX4_sum 61 = .ok (.laload, 1) := bdX4_sum_61.1
theorem dX4_sum_62 : decode cX4_sum 62 = .ok (.ladd, 1) := bdX4_sum_61.2.1
theorem dX4_sum_63 : decode cX4_sum 63 = .ok (.lstore_n 1, 1) := bdX4_sum_61.2.2.1
theorem dX4_sum_64 : decode cX4_sum 64 = .ok (.iinc 3 1, 3) := bdX4_sum_61.2.2.2.1
theorem dX4_sum_67 : decode cX4_sum 67 = .ok (.goto (-58), 3) := bdX4_sum_61.2.2.2.2.1
theorem dX4_sum_70 : decode cX4_sum 70 = .ok (.lload_n 1, 1) := bdX4_sum_61.2.2.2.2.2.1
theorem dX4_sum_71 : decode cX4_sum 71 = .ok (.lreturn, 1) := bdX4_sum_61.2.2.2.2.2.2
set_option maxRecDepth 20000 in
theorem ggX4_picked_X4_draw : GoodIn wsX4_picked wsX4_draw := goodIn_r _ [6, 7, 8, 9, 10, 11, 5, 12, 13, 14, 15, 16, 17, 18, 19, 20, 21, 22, 23, 24, 25, 26, 27, 28, 29, 30, 31, 32, 33, 34, 35, 36, 37, 38, 39, 40, 41, 42, 43, 44, 45, 46, 47, 48, 49, 50, 51, 52, 53, 54] (by decide +kernel) (by decide +kernel)
set_option maxRecDepth 20000 in
theorem gX4_picked_X4_draw : GoodIn wsX4_picked (wsV RX4 122 RX4 yX4_draw wsX4_draw) := goodIn_app (goodIn_of _ (by decide +kernel)) ggX4_picked_X4_draw
set_option maxRecDepth 20000 in
theorem bdX4_picked_0 : (decode cX4_picked 0 = .ok (.aload_n 0, 1)) ∧ (decode cX4_picked 1 = .ok (.lload_n 1, 1)) ∧ (decode cX4_picked 2 = .ok (.iload_n 3, 1)) ∧ (decode cX4_picked 3 = .ok (.iload 4, 2)) ∧ (decode cX4_picked 5 = .ok (.lload 5, 2)) ∧ (decode cX4_picked 7 = .ok (.invokevirtual 122, 3)) ∧ (decode cX4_picked 10 = .ok (.lstore 7, 2)) ∧ (decode cX4_picked 12 = .ok (.lload 7, 2)) ∧ (decode cX4_picked 14 = .ok (.lconst 0, 1)) ∧ (decode cX4_picked 15 = .ok (.lcmp, 1)) ∧ (decode cX4_picked 16 = .ok (.ifCond .ge 6, 3)) ∧ (decode cX4_picked 19 = .ok (.bipush (-3), 2)) := by decide +kernel
theorem dX4_picked_0 : decode cX4_picked 0 = .ok (.aload_n 0, 1) := bdX4_picked_0.1
theorem dX4_picked_1 : decode cX4_picked 1 = .ok (.lload_n 1, 1) := bdX4_picked_0.2.1
theorem dX4_picked_2 : decode cX4_picked 2 = .ok (.iload_n 3, 1) := bdX4_picked_0.2.2.1
theorem dX4_picked_3 : decode cX4_picked 3 = .ok (.iload 4, 2) := bdX4_picked_0.2.2.2.1
theorem dX4_picked_5 : decode cX4_picked 5 = .ok (.lload 5, 2) := bdX4_picked_0.2.2.2.2.1
theorem dX4_picked_7 : decode cX4_picked 7 = .ok (.invokevirtual 122, 3) := bdX4_picked_0.2.2.2.2.2.1
theorem dX4_picked_10 : decode cX4_picked 10 = .ok (.lstore 7, 2) := bdX4_picked_0.2.2.2.2.2.2.1
theorem dX4_picked_12 : decode cX4_picked 12 = .ok (.lload 7, 2) := bdX4_picked_0.2.2.2.2.2.2.2.1
theorem dX4_picked_14 : decode cX4_picked 14 = .ok (.lconst 0, 1) := bdX4_picked_0.2.2.2.2.2.2.2.2.1
theorem dX4_picked_15 : decode cX4_picked 15 = .ok (.lcmp, 1) := bdX4_picked_0.2.2.2.2.2.2.2.2.2.1
theorem dX4_picked_16 : decode cX4_picked 16 = .ok (.ifCond .ge 6, 3) := bdX4_picked_0.2.2.2.2.2.2.2.2.2.2.1
theorem dX4_picked_19 : decode cX4_picked 19 = .ok (.bipush (-3), 2) := bdX4_picked_0.2.2.2.2.2.2.2.2.2.2.2
set_option maxRecDepth 20000 in
theorem bdX4_picked_21 : (decode cX4_picked 21 = .ok (.ireturn, 1)) ∧ (decode cX4_picked 22 = .ok (.iconst 0, 1)) ∧ (decode cX4_picked 23 = .ok (.istore 9, 2)) ∧ (decode cX4_picked 25 = .ok (.aload_n 0, 1)) ∧ (decode cX4_picked 26 = .ok (.getfield 20, 3)) ∧ (decode cX4_picked 29 = .ok (.iconst 0, 1)) ∧ (decode cX4_picked 30 = .ok (.laload, 1)) ∧ (decode cX4_picked 31 = .ok (.lstore 10, 2)) ∧ (decode cX4_picked 33 = .ok (.lload 10, 2)) ∧ (decode cX4_picked 35 = .ok (.lload 7, 2)) ∧ (decode cX4_picked 37 = .ok (.lcmp, 1)) ∧ (decode cX4_picked 38 = .ok (.ifCond .gt 21, 3)) := by decide +kernel
theorem dX4_picked_21 : decode cX4_picked 21 = .ok (.ireturn, 1) := bdX4_picked_21.1
theorem dX4_picked_22 : decode cX4_picked 22 = .ok (.iconst 0, 1) := bdX4_picked_21.2.1
theorem dX4_picked_23 : decode cX4_picked 23 = .ok (.istore 9, 2) := bdX4_picked_21.2.2.1
theorem dX4_picked_25 : decode cX4_picked 25 = .ok (.aload_n 0, 1) := bdX4_picked_21.2.2.2.1
theorem dX4_picked_26 : decode cX4_picked 26 = .ok (.getfield 20, 3) := bdX4_picked_21.2.2.2.2.1
theorem dX4_picked_29 : decode cX4_picked 29 = .ok (.iconst 0, 1) := bdX4_picked_21.2.2.2.2.2.1
theorem dX4_picked_30 : decode cX4_picked 30 = .ok (.laload, 1) := bdX4_picked_21.2.2.2.2.2.2.1
theorem dX4_picked_31 : decode cX4_picked 31 = .ok (.lstore 10, 2) := bdX4_picked_21.2.2.2.2.2.2.2.1
theorem dX4_picked_33 : decode cX4_picked 33 = .ok (.lload 10, 2) := bdX4_picked_21.2.2.2.2.2.2.2.2.1
theorem dX4_picked_35 : decode cX4_picked 35 = .ok (.lload 7, 2) := bdX4_picked_21.2.2.2.2.2.2.2.2.2.1
theorem dX4_picked_37 : decode cX4_picked 37 = .ok (.lcmp, 1) := bdX4_picked_21.2.2.2.2.2.2.2.2.2.2.1
theorem dX4_picked_38 : decode cX4_picked 38 = .ok (.ifCond .gt 21, 3) := bdX4_picked_21.2.2.2.2.2.2.2.2.2.2.2
set_option maxRecDepth 20000 in
theorem bdX4_picked_41 : (decode cX4_picked 41 = .ok (.iinc 9 1, 3)) ∧ (decode cX4_picked 44 = .ok (.lload 10, 2)) ∧ (decode cX4_picked 46 = .ok (.aload_n 0, 1)) ∧ (decode cX4_picked 47 = .ok (.getfield 20, 3)) ∧ (decode cX4_picked 50 = .ok (.iload 9, 2)) ∧ (decode cX4_picked 52 = .ok (.laload, 1)) ∧ (decode cX4_picked 53 = .ok (.ladd, 1)) ∧ (decode cX4_picked 54 = .ok (.lstore 10, 2)) ∧ (decode cX4_picked 56 = .ok (.goto (-23), 3)) ∧ (decode cX4_picked 59 = .ok (.iload 9, 2)) ∧ (decode cX4_picked 61 = .ok (.ireturn, 1)) := by decide +kernel
theorem dX4_picked_41 : decode cX4_picked 41 = .ok (.iinc 9 1, 3) := bdX4_picked_41.1
theorem dX4_picked_44 : decode cX4_picked 44 = .ok (.lload 10, 2) := bdX4_picked_41.2.1
theorem dX4_picked_46 : decode cX4_picked 46 = .ok (.aload_n 0, 1) := bdX4_picked_41.2.2.1
theorem dX4_picked_47 : decode cX4_picked 47 = .ok (.getfield 20, 3) := bdX4_picked_41.2.2.2.1
theorem dX4_picked_50 : decode cX4_picked 50 = .ok (.iload 9, 2) := bdX4_picked_41.2.2.2.2.1
theorem dX4_picked_52 : decode cX4_picked 52 = .ok (.laload, 1) := bdX4_picked_41.2.2.2.2.2.1
theorem dX4_picked_53 : decode cX4_picked 53 = .ok (.ladd, 1) := bdX4_picked_41.2.2.2.2.2.2.1
theorem dX4_picked_54 : decode cX4_picked 54 = .ok (.lstore 10, 2) := bdX4_picked_41.2.2.2.2.2.2.2.1
theorem dX4_picked_56 : decode cX4_picked 56 = .ok (.goto (-23), 3) := bdX4_picked_41.2.2.2.2.2.2.2.2.1
theorem dX4_picked_59 : decode cX4_picked 59 = .ok (.iload 9, 2) := bdX4_picked_41.2.2.2.2.2.2.2.2.2.1
theorem dX4_picked_61 : decode cX4_picked 61 = .ok (.ireturn, 1) := bdX4_picked_41.2.2.2.2.2.2.2.2.2.2
set_option maxRecDepth 20000 in
theorem ggX4_pick_X4_isPath : GoodIn wsX4_pick wsX4_isPath := goodIn_r _ [6, 7, 8, 9, 5, 10, 51, 52, 53, 54, 55, 56, 57, 58, 59, 60, 61, 62, 63, 64, 65, 66, 67, 68, 69, 70, 71] (by decide +kernel) (by decide +kernel)
set_option maxRecDepth 20000 in
theorem gX4_pick_X4_isPath : GoodIn wsX4_pick (wsV RX4 92 RX4 yX4_isPath wsX4_isPath) := goodIn_app (goodIn_of _ (by decide +kernel)) ggX4_pick_X4_isPath
set_option maxRecDepth 20000 in
theorem ggX4_pick_X4_sum : GoodIn wsX4_pick wsX4_sum := goodIn_r _ [14, 1, 15, 51, 52, 53, 54, 55, 56, 57, 58, 59, 60, 61, 62, 63, 64, 65, 66, 67, 68, 69, 70, 71] (by decide +kernel) (by decide +kernel)
set_option maxRecDepth 20000 in
theorem gX4_pick_X4_sum : GoodIn wsX4_pick (wsV RX4 134 RX4 yX4_sum wsX4_sum) := goodIn_app (goodIn_of _ (by decide +kernel)) ggX4_pick_X4_sum
set_option maxRecDepth 20000 in
theorem ggX4_pick_X4_picked : GoodIn wsX4_pick wsX4_picked := goodIn_r _ [19, 15, 20, 21, 22, 5, 23, 24, 25, 26, 27, 28, 29, 30, 31, 32, 33, 34, 35, 36, 37, 38, 39, 40, 41, 42, 43, 44, 45, 46, 47, 48, 49, 50, 51, 52, 53, 54, 55, 56, 57, 58, 59, 60, 61, 62, 63, 64, 65, 66, 67, 68, 69, 70, 71] (by decide +kernel) (by decide +kernel)
set_option maxRecDepth 20000 in
theorem gX4_pick_X4_picked : GoodIn wsX4_pick (wsV RX4 138 RX4 yX4_picked wsX4_picked) := goodIn_app (goodIn_of _ (by decide +kernel)) ggX4_pick_X4_picked
set_option maxRecDepth 20000 in
theorem bdX4_pick_0 : (decode cX4_pick 0 = .ok (.aload_n 0, 1)) ∧ (decode cX4_pick 1 = .ok (.iload_n 3, 1)) ∧ (decode cX4_pick 2 = .ok (.invokevirtual 92, 3)) ∧ (decode cX4_pick 5 = .ok (.ifCond .eq 8, 3)) ∧ (decode cX4_pick 8 = .ok (.iload 4, 2)) ∧ (decode cX4_pick 10 = .ok (.ifCond .ge 5, 3)) ∧ (decode cX4_pick 13 = .ok (.iconst (-1), 1)) ∧ (decode cX4_pick 14 = .ok (.ireturn, 1)) ∧ (decode cX4_pick 15 = .ok (.aload_n 0, 1)) ∧ (decode cX4_pick 16 = .ok (.invokevirtual 134, 3)) ∧ (decode cX4_pick 19 = .ok (.lstore 5, 2)) ∧ (decode cX4_pick 21 = .ok (.aload_n 0, 1)) := by decide +kernel
theorem dX4_pick_0 : decode cX4_pick 0 = .ok (.aload_n 0, 1) := bdX4_pick_0.1
theorem dX4_pick_1 : decode cX4_pick 1 = .ok (.iload_n 3, 1) := bdX4_pick_0.2.1
theorem dX4_pick_2 : decode cX4_pick 2 = .ok (.invokevirtual 92, 3) := bdX4_pick_0.2.2.1
theorem dX4_pick_5 : decode cX4_pick 5 = .ok (.ifCond .eq 8, 3) := bdX4_pick_0.2.2.2.1
theorem dX4_pick_8 : decode cX4_pick 8 = .ok (.iload 4, 2) := bdX4_pick_0.2.2.2.2.1
theorem dX4_pick_10 : decode cX4_pick 10 = .ok (.ifCond .ge 5, 3) := bdX4_pick_0.2.2.2.2.2.1
theorem dX4_pick_13 : decode cX4_pick 13 = .ok (.iconst (-1), 1) := bdX4_pick_0.2.2.2.2.2.2.1
theorem dX4_pick_14 : decode cX4_pick 14 = .ok (.ireturn, 1) := bdX4_pick_0.2.2.2.2.2.2.2.1
theorem dX4_pick_15 : decode cX4_pick 15 = .ok (.aload_n 0, 1) := bdX4_pick_0.2.2.2.2.2.2.2.2.1
theorem dX4_pick_16 : decode cX4_pick 16 = .ok (.invokevirtual 134, 3) := bdX4_pick_0.2.2.2.2.2.2.2.2.2.1
theorem dX4_pick_19 : decode cX4_pick 19 = .ok (.lstore 5, 2) := bdX4_pick_0.2.2.2.2.2.2.2.2.2.2.1
theorem dX4_pick_21 : decode cX4_pick 21 = .ok (.aload_n 0, 1) := bdX4_pick_0.2.2.2.2.2.2.2.2.2.2.2
set_option maxRecDepth 20000 in
theorem bdX4_pick_22 : (decode cX4_pick 22 = .ok (.getfield 130, 3)) ∧ (decode cX4_pick 25 = .ok (.ifCond .eq 8, 3)) ∧ (decode cX4_pick 28 = .ok (.bipush (-5), 2)) ∧ (decode cX4_pick 30 = .ok (.goto 25, 3)) ∧ (decode cX4_pick 33 = .ok (.lload 5, 2)) ∧ (decode cX4_pick 35 = .ok (.lconst 0, 1)) ∧ (decode cX4_pick 36 = .ok (.lcmp, 1)) ∧ (decode cX4_pick 37 = .ok (.ifCond .ne 8, 3)) ∧ (decode cX4_pick 40 = .ok (.bipush (-4), 2)) ∧ (decode cX4_pick 42 = .ok (.goto 13, 3)) ∧ (decode cX4_pick 45 = .ok (.aload_n 0, 1)) ∧ (decode cX4_pick 46 = .ok (.lload_n 1, 1)) := by decide +kernel
theorem dX4_pick_22 : decode cX4_pick 22 = .ok (.getfield 130, 3) := bdX4_pick_22.1
theorem dX4_pick_25 : decode cX4_pick 25 = .ok (.ifCond .eq 8, 3) := bdX4_pick_22.2.1
theorem dX4_pick_28 : decode cX4_pick 28 = .ok (.bipush (-5), 2) := bdX4_pick_22.2.2.1
theorem dX4_pick_30 : decode cX4_pick 30 = .ok (.goto 25, 3) := bdX4_pick_22.2.2.2.1
theorem dX4_pick_33 : decode cX4_pick 33 = .ok (.lload 5, 2) := bdX4_pick_22.2.2.2.2.1
theorem dX4_pick_35 : decode cX4_pick 35 = .ok (.lconst 0, 1) := bdX4_pick_22.2.2.2.2.2.1
theorem dX4_pick_36 : decode cX4_pick 36 = .ok (.lcmp, 1) := bdX4_pick_22.2.2.2.2.2.2.1
theorem dX4_pick_37 : decode cX4_pick 37 = .ok (.ifCond .ne 8, 3) := bdX4_pick_22.2.2.2.2.2.2.2.1
theorem dX4_pick_40 : decode cX4_pick 40 = .ok (.bipush (-4), 2) := bdX4_pick_22.2.2.2.2.2.2.2.2.1
theorem dX4_pick_42 : decode cX4_pick 42 = .ok (.goto 13, 3) := bdX4_pick_22.2.2.2.2.2.2.2.2.2.1
theorem dX4_pick_45 : decode cX4_pick 45 = .ok (.aload_n 0, 1) := bdX4_pick_22.2.2.2.2.2.2.2.2.2.2.1
theorem dX4_pick_46 : decode cX4_pick 46 = .ok (.lload_n 1, 1) := bdX4_pick_22.2.2.2.2.2.2.2.2.2.2.2
set_option maxRecDepth 20000 in
theorem bdX4_pick_47 : (decode cX4_pick 47 = .ok (.iload_n 3, 1)) ∧ (decode cX4_pick 48 = .ok (.iload 4, 2)) ∧ (decode cX4_pick 50 = .ok (.lload 5, 2)) ∧ (decode cX4_pick 52 = .ok (.invokevirtual 138, 3)) ∧ (decode cX4_pick 55 = .ok (.ireturn, 1)) := by decide +kernel
theorem dX4_pick_47 : decode cX4_pick 47 = .ok (.iload_n 3, 1) := bdX4_pick_47.1
theorem dX4_pick_48 : decode cX4_pick 48 = .ok (.iload 4, 2) := bdX4_pick_47.2.1
theorem dX4_pick_50 : decode cX4_pick 50 = .ok (.lload 5, 2) := bdX4_pick_47.2.2.1
theorem dX4_pick_52 : decode cX4_pick 52 = .ok (.invokevirtual 138, 3) := bdX4_pick_47.2.2.2.1
theorem dX4_pick_55 : decode cX4_pick 55 = .ok (.ireturn, 1) := bdX4_pick_47.2.2.2.2
set_option maxRecDepth 20000 in
theorem ggX4_permuted_X4_isPath : GoodIn wsX4_permuted wsX4_isPath := goodIn_r _ [8, 9, 10, 11, 7, 12, 44, 45, 46, 47, 48, 49, 50, 51, 52, 53, 54, 55, 56, 57, 58, 59, 60, 61, 62, 63, 64] (by decide +kernel) (by decide +kernel)
set_option maxRecDepth 20000 in
theorem gX4_permuted_X4_isPath : GoodIn wsX4_permuted (wsV RX4 92 RX4 yX4_isPath wsX4_isPath) := goodIn_app (goodIn_of _ (by decide +kernel)) ggX4_permuted_X4_isPath
set_option maxRecDepth 20000 in
theorem ggX4_permuted_X4_in : GoodIn wsX4_permuted wsX4_in := goodIn_r _ [12] (by decide +kernel) (by decide +kernel)
set_option maxRecDepth 20000 in
theorem gX4_permuted_X4_in : GoodIn wsX4_permuted (va_wsS RX4 82 yX4_in wsX4_in) := goodIn_app (goodIn_of _ (by decide +kernel)) ggX4_permuted_X4_in
set_option maxRecDepth 20000 in
theorem ggX4_permuted_X4_draw : GoodIn wsX4_permuted wsX4_draw := goodIn_r _ [16, 17, 18, 19, 20, 21, 7, 22, 23, 24, 25, 26, 27, 28, 29, 30, 31, 32, 33, 34, 35, 36, 37, 38, 39, 40, 41, 42, 43, 44, 45, 46, 47, 48, 49, 50, 51, 52, 53, 54, 55, 56, 57, 58, 59, 60, 61, 62, 63, 64] (by decide +kernel) (by decide +kernel)
set_option maxRecDepth 20000 in
theorem gX4_permuted_X4_draw : GoodIn wsX4_permuted (wsV RX4 122 RX4 yX4_draw wsX4_draw) := goodIn_app (goodIn_of _ (by decide +kernel)) ggX4_permuted_X4_draw
set_option maxRecDepth 20000 in
theorem bdX4_permuted_0 : (decode cX4_permuted 0 = .ok (.aload_n 0, 1)) ∧ (decode cX4_permuted 1 = .ok (.iload_n 3, 1)) ∧ (decode cX4_permuted 2 = .ok (.invokevirtual 92, 3)) ∧ (decode cX4_permuted 5 = .ok (.ifCond .eq 50, 3)) ∧ (decode cX4_permuted 8 = .ok (.iload 4, 2)) ∧ (decode cX4_permuted 10 = .ok (.ifCond .lt 45, 3)) ∧ (decode cX4_permuted 13 = .ok (.iload 5, 2)) ∧ (decode cX4_permuted 15 = .ok (.i2l, 1)) ∧ (decode cX4_permuted 16 = .ok (.lconst 0, 1)) ∧ (decode cX4_permuted 17 = .ok (.ldc2_w 142, 3)) ∧ (decode cX4_permuted 20 = .ok (.invokestatic 82, 3)) ∧ (decode cX4_permuted 23 = .ok (.ifCond .eq 32, 3)) := by decide +kernel
theorem dX4_permuted_0 : decode cX4_permuted 0 = .ok (.aload_n 0, 1) := bdX4_permuted_0.1
theorem dX4_permuted_1 : decode cX4_permuted 1 = .ok (.iload_n 3, 1) := bdX4_permuted_0.2.1
theorem dX4_permuted_2 : decode cX4_permuted 2 = .ok (.invokevirtual 92, 3) := bdX4_permuted_0.2.2.1
theorem dX4_permuted_5 : decode cX4_permuted 5 = .ok (.ifCond .eq 50, 3) := bdX4_permuted_0.2.2.2.1
theorem dX4_permuted_8 : decode cX4_permuted 8 = .ok (.iload 4, 2) := bdX4_permuted_0.2.2.2.2.1
theorem dX4_permuted_10 : decode cX4_permuted 10 = .ok (.ifCond .lt 45, 3) := bdX4_permuted_0.2.2.2.2.2.1
theorem dX4_permuted_13 : decode cX4_permuted 13 = .ok (.iload 5, 2) := bdX4_permuted_0.2.2.2.2.2.2.1
theorem dX4_permuted_15 : decode cX4_permuted 15 = .ok (.i2l, 1) := bdX4_permuted_0.2.2.2.2.2.2.2.1
theorem dX4_permuted_16 : decode cX4_permuted 16 = .ok (.lconst 0, 1) := bdX4_permuted_0.2.2.2.2.2.2.2.2.1
theorem dX4_permuted_17 : decode cX4_permuted 17 = .ok (.ldc2_w 142, 3) := bdX4_permuted_0.2.2.2.2.2.2.2.2.2.1
theorem dX4_permuted_20 : decode cX4_permuted 20 = .ok (.invokestatic 82, 3) := bdX4_permuted_0.2.2.2.2.2.2.2.2.2.2.1
theorem dX4_permuted_23 : decode cX4_permuted 23 = .ok (.ifCond .eq 32, 3) := bdX4_permuted_0.2.2.2.2.2.2.2.2.2.2.2
set_option maxRecDepth 20000 in
theorem bdX4_permuted_26 : (decode cX4_permuted 26 = .ok (.iload 4, 2)) ∧ (decode cX4_permuted 28 = .ok (.i2l, 1)) ∧ (decode cX4_permuted 29 = .ok (.iload 5, 2)) ∧ (decode cX4_permuted 31 = .ok (.i2l, 1)) ∧ (decode cX4_permuted 32 = .ok (.ladd, 1)) ∧ (decode cX4_permuted 33 = .ok (.ldc2_w 144, 3)) ∧ (decode cX4_permuted 36 = .ok (.lcmp, 1)) ∧ (decode cX4_permuted 37 = .ok (.ifCond .gt 18, 3)) ∧ (decode cX4_permuted 40 = .ok (.iload 6, 2)) ∧ (decode cX4_permuted 42 = .ok (.i2l, 1)) ∧ (decode cX4_permuted 43 = .ok (.lconst 0, 1)) ∧ (decode cX4_permuted 44 = .ok (.iload 5, 2)) := by decide +kernel
theorem dX4_permuted_26 : decode cX4_permuted 26 = .ok (.iload 4, 2) := bdX4_permuted_26.1
theorem dX4_permuted_28 : decode cX4_permuted 28 = .ok (.i2l, 1) := bdX4_permuted_26.2.1
theorem dX4_permuted_29 : decode cX4_permuted 29 = .ok (.iload 5, 2) := bdX4_permuted_26.2.2.1
theorem dX4_permuted_31 : decode cX4_permuted 31 = .ok (.i2l, 1) := bdX4_permuted_26.2.2.2.1
theorem dX4_permuted_32 : decode cX4_permuted 32 = .ok (.ladd, 1) := bdX4_permuted_26.2.2.2.2.1
theorem dX4_permuted_33 : decode cX4_permuted 33 = .ok (.ldc2_w 144, 3) := bdX4_permuted_26.2.2.2.2.2.1
theorem dX4_permuted_36 : decode cX4_permuted 36 = .ok (.lcmp, 1) := bdX4_permuted_26.2.2.2.2.2.2.1
theorem dX4_permuted_37 : decode cX4_permuted 37 = .ok (.ifCond .gt 18, 3) := bdX4_permuted_26.2.2.2.2.2.2.2.1
theorem dX4_permuted_40 : decode cX4_permuted 40 = .ok (.iload 6, 2) := bdX4_permuted_26.2.2.2.2.2.2.2.2.1
theorem dX4_permuted_42 : decode cX4_permuted 42 = .ok (.i2l, 1) := bdX4_permuted_26.2.2.2.2.2.2.2.2.2.1
theorem dX4_permuted_43 : decode cX4_permuted 43 = .ok (.lconst 0, 1) := bdX4_permuted_26.2.2.2.2.2.2.2.2.2.2.1
theorem dX4_permuted_44 : decode cX4_permuted 44 = .ok (.iload 5, 2) := bdX4_permuted_26.2.2.2.2.2.2.2.2.2.2.2
set_option maxRecDepth 20000 in
theorem bdX4_permuted_46 : (decode cX4_permuted 46 = .ok (.iconst 1, 1)) ∧ (decode cX4_permuted 47 = .ok (.isub, 1)) ∧ (decode cX4_permuted 48 = .ok (.i2l, 1)) ∧ (decode cX4_permuted 49 = .ok (.invokestatic 82, 3)) ∧ (decode cX4_permuted 52 = .ok (.ifCond .ne 5, 3)) ∧ (decode cX4_permuted 55 = .ok (.iconst (-1), 1)) ∧ (decode cX4_permuted 56 = .ok (.ireturn, 1)) ∧ (decode cX4_permuted 57 = .ok (.iconst 0, 1)) ∧ (decode cX4_permuted 58 = .ok (.istore 7, 2)) ∧ (decode cX4_permuted 60 = .ok (.iload 7, 2)) ∧ (decode cX4_permuted 62 = .ok (.iload 5, 2)) ∧ (decode cX4_permuted 64 = .ok (.if_icmp .ge 18, 3)) := by decide +kernel
theorem dX4_permuted_46 : decode cX4_permuted 46 = .ok (.iconst 1, 1) := bdX4_permuted_46.1
theorem dX4_permuted_47 : decode cX4_permuted 47 = .ok (.isub, 1) := bdX4_permuted_46.2.1
theorem dX4_permuted_48 : decode cX4_permuted 48 = .ok (.i2l, 1) := bdX4_permuted_46.2.2.1
theorem dX4_permuted_49 : decode cX4_permuted 49 = .ok (.invokestatic 82, 3) := bdX4_permuted_46.2.2.2.1
theorem dX4_permuted_52 : decode cX4_permuted 52 = .ok (.ifCond .ne 5, 3) := bdX4_permuted_46.2.2.2.2.1
theorem dX4_permuted_55 : decode cX4_permuted 55 = .ok (.iconst (-1), 1) := bdX4_permuted_46.2.2.2.2.2.1
theorem dX4_permuted_56 : decode cX4_permuted 56 = .ok (.ireturn, 1) := bdX4_permuted_46.2.2.2.2.2.2.1
theorem dX4_permuted_57 : decode cX4_permuted 57 = .ok (.iconst 0, 1) := bdX4_permuted_46.2.2.2.2.2.2.2.1
theorem dX4_permuted_58 : decode cX4_permuted 58 = .ok (.istore 7, 2) := bdX4_permuted_46.2.2.2.2.2.2.2.2.1
theorem dX4_permuted_60 : decode cX4_permuted 60 = .ok (.iload 7, 2) := bdX4_permuted_46.2.2.2.2.2.2.2.2.2.1
theorem dX4_permuted_62 : decode cX4_permuted 62 = .ok (.iload 5, 2) := bdX4_permuted_46.2.2.2.2.2.2.2.2.2.2.1
theorem dX4_permuted_64 : decode cX4_permuted 64 = .ok (.if_icmp .ge 18, 3) := bdX4_permuted_46.2.2.2.2.2.2.2.2.2.2.2
set_option maxRecDepth 20000 in
theorem bdX4_permuted_67 : (decode cX4_permuted 67 = .ok (.aload_n 0, 1)) ∧ (decode cX4_permuted 68 = .ok (.getfield 48, 3)) ∧ (decode cX4_permuted 71 = .ok (.iload 7, 2)) ∧ (decode cX4_permuted 73 = .ok (.iload 7, 2)) ∧ (decode cX4_permuted 75 = .ok (.iastore, 1)) ∧ (decode cX4_permuted 76 = .ok (.iinc 7 1, 3)) ∧ (decode cX4_permuted 79 = .ok (.goto (-19), 3)) ∧ (decode cX4_permuted 82 = .ok (.iload 5, 2)) ∧ (decode cX4_permuted 84 = .ok (.iconst 1, 1)) ∧ (decode cX4_permuted 85 = .ok (.isub, 1)) ∧ (decode cX4_permuted 86 = .ok (.istore 7, 2)) ∧ (decode cX4_permuted 88 = .ok (.iload 7, 2)) := by decide +kernel
theorem dX4_permuted_67 : decode cX4_permuted 67 = .ok (.aload_n 0, 1) := bdX4_permuted_67.1
theorem dX4_permuted_68 : decode cX4_permuted 68 = .ok (.getfield 48, 3) := bdX4_permuted_67.2.1
theorem dX4_permuted_71 : decode cX4_permuted 71 = .ok (.iload 7, 2) := bdX4_permuted_67.2.2.1
theorem dX4_permuted_73 : decode cX4_permuted 73 = .ok (.iload 7, 2) := bdX4_permuted_67.2.2.2.1
theorem dX4_permuted_75 : decode cX4_permuted 75 = .ok (.iastore, 1) := bdX4_permuted_67.2.2.2.2.1
theorem dX4_permuted_76 : decode cX4_permuted 76 = .ok (.iinc 7 1, 3) := bdX4_permuted_67.2.2.2.2.2.1
theorem dX4_permuted_79 : decode cX4_permuted 79 = .ok (.goto (-19), 3) := bdX4_permuted_67.2.2.2.2.2.2.1
theorem dX4_permuted_82 : decode cX4_permuted 82 = .ok (.iload 5, 2) := bdX4_permuted_67.2.2.2.2.2.2.2.1
theorem dX4_permuted_84 : decode cX4_permuted 84 = .ok (.iconst 1, 1) := bdX4_permuted_67.2.2.2.2.2.2.2.2.1
theorem dX4_permuted_85 : decode cX4_permuted 85 = .ok (.isub, 1) := bdX4_permuted_67.2.2.2.2.2.2.2.2.2.1
theorem dX4_permuted_86 : decode cX4_permuted 86 = .ok (.istore 7, 2) := bdX4_permuted_67.2.2.2.2.2.2.2.2.2.2.1
theorem dX4_permuted_88 : decode cX4_permuted 88 = .ok (.iload 7, 2) := bdX4_permuted_67.2.2.2.2.2.2.2.2.2.2.2
set_option maxRecDepth 20000 in
theorem bdX4_permuted_90 : (decode cX4_permuted 90 = .ok (.ifCond .le 71, 3)) ∧ (decode cX4_permuted 93 = .ok (.aload_n 0, 1)) ∧ (decode cX4_permuted 94 = .ok (.lload_n 1, 1)) ∧ (decode cX4_permuted 95 = .ok (.iload_n 3, 1)) ∧ (decode cX4_permuted 96 = .ok (.iload 4, 2)) ∧ (decode cX4_permuted 98 = .ok (.iload 7, 2)) ∧ (decode cX4_permuted 100 = .ok (.iadd, 1)) ∧ (decode cX4_permuted 101 = .ok (.iload 7, 2)) ∧ (decode cX4_permuted 103 = .ok (.i2l, 1)) ∧ (decode cX4_permuted 104 = .ok (.lconst 1, 1)) ∧ (decode cX4_permuted 105 = .ok (.ladd, 1)) ∧ (decode cX4_permuted 106 = .ok (.invokevirtual 122, 3)) := by decide +kernel
theorem dX4_permuted_90 : decode cX4_permuted 90 = .ok (.ifCond .le 71, 3) := bdX4_permuted_90.1
theorem dX4_permuted_93 : decode cX4_permuted 93 = .ok (.aload_n 0, 1) := bdX4_permuted_90.2.1
theorem dX4_permuted_94 : decode cX4_permuted 94 = .ok (.lload_n 1, 1) := bdX4_permuted_90.2.2.1
theorem dX4_permuted_95 : decode cX4_permuted 95 = .ok (.iload_n 3, 1) := bdX4_permuted_90.2.2.2.1
theorem dX4_permuted_96 : decode cX4_permuted 96 = .ok (.iload 4, 2) := bdX4_permuted_90.2.2.2.2.1
theorem dX4_permuted_98 : decode cX4_permuted 98 = .ok (.iload 7, 2) := bdX4_permuted_90.2.2.2.2.2.1
theorem dX4_permuted_100 : decode cX4_permuted 100 = .ok (.iadd, 1) := bdX4_permuted_90.2.2.2.2.2.2.1
theorem dX4_permuted_101 : decode cX4_permuted 101 = .ok (.iload 7, 2) := bdX4_permuted_90.2.2.2.2.2.2.2.1
theorem dX4_permuted_103 : decode cX4_permuted 103 = .ok (.i2l, 1) := bdX4_permuted_90.2.2.2.2.2.2.2.2.1
theorem dX4_permuted_104 : decode cX4_permuted 104 = .ok (.lconst 1, 1) := bdX4_permuted_90.2.2.2.2.2.2.2.2.2.1
theorem dX4_permuted_105 : decode cX4_permuted 105 = .ok (.ladd, 1) := bdX4_permuted_90.2.2.2.2.2.2.2.2.2.2.1
theorem dX4_permuted_106 : decode cX4_permuted 106 = .ok (.invokevirtual 122, 3) := bdX4_permuted_90.2.2.2.2.2.2.2.2.2.2.2
set_option maxRecDepth 20000 in
theorem bdX4_permuted_109 : (decode cX4_permuted 109 = .ok (.lstore 8, 2)) ∧ (decode cX4_permuted 111 = .ok (.lload 8, 2)) ∧ (decode cX4_permuted 113 = .ok (.lconst 0, 1)) ∧ (decode cX4_permuted 114 = .ok (.lcmp, 1)) ∧ (decode cX4_permuted 115 = .ok (.ifCond .ge 6, 3)) ∧ (decode cX4_permuted 118 = .ok (.bipush (-3), 2)) ∧ (decode cX4_permuted 120 = .ok (.ireturn, 1)) ∧ (decode cX4_permuted 121 = .ok (.aload_n 0, 1)) ∧ (decode cX4_permuted 122 = .ok (.getfield 48, 3)) ∧ (decode cX4_permuted 125 = .ok (.iload 7, 2)) ∧ (decode cX4_permuted 127 = .ok (.iaload, 1)) ∧ (decode cX4_permuted 128 = .ok (.istore 10, 2)) := by decide +kernel
theorem dX4_permuted_109 : decode cX4_permuted 109 = .ok (.lstore 8, 2) := bdX4_permuted_109.1
theorem dX4_permuted_111 : decode cX4_permuted 111 = .ok (.lload 8, 2) := bdX4_permuted_109.2.1
theorem dX4_permuted_113 : decode cX4_permuted 113 = .ok (.lconst 0, 1) := bdX4_permuted_109.2.2.1
theorem dX4_permuted_114 : decode cX4_permuted 114 = .ok (.lcmp, 1) := bdX4_permuted_109.2.2.2.1
theorem dX4_permuted_115 : decode cX4_permuted 115 = .ok (.ifCond .ge 6, 3) := bdX4_permuted_109.2.2.2.2.1
theorem dX4_permuted_118 : decode cX4_permuted 118 = .ok (.bipush (-3), 2) := bdX4_permuted_109.2.2.2.2.2.1
theorem dX4_permuted_120 : decode cX4_permuted 120 = .ok (.ireturn, 1) := bdX4_permuted_109.2.2.2.2.2.2.1
theorem dX4_permuted_121 : decode cX4_permuted 121 = .ok (.aload_n 0, 1) := bdX4_permuted_109.2.2.2.2.2.2.2.1
theorem dX4_permuted_122 : decode cX4_permuted 122 = .ok (.getfield 48, 3) := bdX4_permuted_109.2.2.2.2.2.2.2.2.1
theorem dX4_permuted_125 : decode cX4_permuted 125 = .ok (.iload 7, 2) := bdX4_permuted_109.2.2.2.2.2.2.2.2.2.1
theorem dX4_permuted_127 : decode cX4_permuted 127 = .ok (.iaload, 1) := bdX4_permuted_109.2.2.2.2.2.2.2.2.2.2.1
theorem dX4_permuted_128 : decode cX4_permuted 128 = .ok (.istore 10, 2) := bdX4_permuted_109.2.2.2.2.2.2.2.2.2.2.2
set_option maxRecDepth 20000 in
theorem bdX4_permuted_130 : (decode cX4_permuted 130 = .ok (.aload_n 0, 1)) ∧ (decode cX4_permuted 131 = .ok (.getfield 48, 3)) ∧ (decode cX4_permuted 134 = .ok (.iload 7, 2)) ∧ (decode cX4_permuted 136 = .ok (.aload_n 0, 1)) ∧ (decode cX4_permuted 137 = .ok (.getfield 48, 3)) ∧ (decode cX4_permuted 140 = .ok (.lload 8, 2)) ∧ (decode cX4_permuted 142 = .ok (.l2i, 1)) ∧ (decode cX4_permuted 143 = .ok (.iaload, 1)) ∧ (decode cX4_permuted 144 = .ok (.iastore, 1)) ∧ (decode cX4_permuted 145 = .ok (.aload_n 0, 1)) ∧ (decode cX4_permuted 146 = .ok (.getfield 48, 3)) ∧ (decode cX4_permuted 149 = .ok (.lload 8, 2)) := by decide +kernel
theorem dX4_permuted_130 : decode cX4_permuted 130 = .ok (.aload_n 0, 1) := bdX4_permuted_130.1
theorem dX4_permuted_131 : decode cX4_permuted 131 = .ok (.getfield 48, 3) := bdX4_permuted_130.2.1
theorem dX4_permuted_134 : decode cX4_permuted 134 = .ok (.iload 7, 2) := bdX4_permuted_130.2.2.1
theorem dX4_permuted_136 : decode cX4_permuted 136 = .ok (.aload_n 0, 1) := bdX4_permuted_130.2.2.2.1
theorem dX4_permuted_137 : decode cX4_permuted 137 = .ok (.getfield 48, 3) := bdX4_permuted_130.2.2.2.2.1
theorem dX4_permuted_140 : decode cX4_permuted 140 = .ok (.lload 8, 2) := bdX4_permuted_130.2.2.2.2.2.1
theorem dX4_permuted_142 : decode cX4_permuted 142 = .ok (.l2i, 1) := bdX4_permuted_130.2.2.2.2.2.2.1
theorem dX4_permuted_143 : decode cX4_permuted 143 = .ok (.iaload, 1) := bdX4_permuted_130.2.2.2.2.2.2.2.1
theorem dX4_permuted_144 : decode cX4_permuted 144 = .ok (.iastore, 1) := bdX4_permuted_130.2.2.2.2.2.2.2.2.1
theorem dX4_permuted_145 : decode cX4_permuted 145 = .ok (.aload_n 0, 1) := bdX4_permuted_130.2.2.2.2.2.2.2.2.2.1
theorem dX4_permuted_146 : decode cX4_permuted 146 = .ok (.getfield 48, 3) := bdX4_permuted_130.2.2.2.2.2.2.2.2.2.2.1
theorem dX4_permuted_149 : decode cX4_permuted 149 = .ok (.lload 8, 2) := bdX4_permuted_130.2.2.2.2.2.2.2.2.2.2.2
set_option maxRecDepth 20000 in
theorem bdX4_permuted_151 : (decode cX4_permuted 151 = .ok (.l2i, 1)) ∧ (decode cX4_permuted 152 = .ok (.iload 10, 2)) ∧ (decode cX4_permuted 154 = .ok (.iastore, 1)) ∧ (decode cX4_permuted 155 = .ok (.iinc 7 (-1), 3)) ∧ (decode cX4_permuted 158 = .ok (.goto (-70), 3)) ∧ (decode cX4_permuted 161 = .ok (.aload_n 0, 1)) ∧ (decode cX4_permuted 162 = .ok (.getfield 48, 3)) ∧ (decode cX4_permuted 165 = .ok (.iload 6, 2)) ∧ (decode cX4_permuted 167 = .ok (.iaload, 1)) ∧ (decode cX4_permuted 168 = .ok (.ireturn, 1)) := by decide +kernel
theorem dX4_permuted_151 : decode cX4_permuted 151 = .ok (.l2i, 1) := bdX4_permuted_151.1
theorem dX4_permuted_152 : decode cX4_permuted 152 = .ok (.iload 10, 2) := bdX4_permuted_151.2.1
theorem dX4_permuted_154 : decode cX4_permuted 154 = .ok (.iastore, 1) := bdX4_permuted_151.2.2.1
theorem dX4_permuted_155 : decode cX4_permuted 155 = .ok (.iinc 7 (-1), 3) := bdX4_permuted_151.2.2.2.1
theorem dX4_permuted_158 : decode cX4_permuted 158 = .ok (.goto (-70), 3) := bdX4_permuted_151.2.2.2.2.1
theorem dX4_permuted_161 : decode cX4_permuted 161 = .ok (.aload_n 0, 1) := bdX4_permuted_151.2.2.2.2.2.1
theorem dX4_permuted_162 : decode cX4_permuted 162 = .ok (.getfield 48, 3) := bdX4_permuted_151.2.2.2.2.2.2.1
theorem dX4_permuted_165 : decode cX4_permuted 165 = .ok (.iload 6, 2) := bdX4_permuted_151.2.2.2.2.2.2.2.1
theorem dX4_permuted_167 : decode cX4_permuted 167 = .ok (.iaload, 1) := bdX4_permuted_151.2.2.2.2.2.2.2.2.1
theorem dX4_permuted_168 : decode cX4_permuted 168 = .ok (.ireturn, 1) := bdX4_permuted_151.2.2.2.2.2.2.2.2.2
set_option maxRecDepth 20000 in
theorem bdX4_tries_0 : (decode cX4_tries 0 = .ok (.aload_n 0, 1)) ∧ (decode cX4_tries 1 = .ok (.getfield 113, 3)) ∧ (decode cX4_tries 4 = .ok (.ireturn, 1)) := by decide +kernel
theorem dX4_tries_0 : decode cX4_tries 0 = .ok (.aload_n 0, 1) := bdX4_tries_0.1
theorem dX4_tries_1 : decode cX4_tries 1 = .ok (.getfield 113, 3) := bdX4_tries_0.2.1
theorem dX4_tries_4 : decode cX4_tries 4 = .ok (.ireturn, 1) := bdX4_tries_0.2.2
set_option maxRecDepth 20000 in
theorem bdX4_status_0 : (decode cX4_status 0 = .ok (.aload_n 0, 1)) ∧ (decode cX4_status 1 = .ok (.getfield 96, 3)) ∧ (decode cX4_status 4 = .ok (.ireturn, 1)) := by decide +kernel
theorem dX4_status_0 : decode cX4_status 0 = .ok (.aload_n 0, 1) := bdX4_status_0.1
theorem dX4_status_1 : decode cX4_status 1 = .ok (.getfield 96, 3) := bdX4_status_0.2.1
theorem dX4_status_4 : decode cX4_status 4 = .ok (.ireturn, 1) := bdX4_status_0.2.2
set_option maxRecDepth 20000 in
theorem ggX4_isStream_X4_in : GoodIn wsX4_isStream wsX4_in := goodIn_r _ [5] (by decide +kernel) (by decide +kernel)
set_option maxRecDepth 20000 in
theorem gX4_isStream_X4_in : GoodIn wsX4_isStream (va_wsS RX4 82 yX4_in wsX4_in) := goodIn_app (goodIn_of _ (by decide +kernel)) ggX4_isStream_X4_in
set_option maxRecDepth 20000 in
theorem bdX4_isStream_0 : (decode cX4_isStream 0 = .ok (.iload_n 1, 1)) ∧ (decode cX4_isStream 1 = .ok (.i2l, 1)) ∧ (decode cX4_isStream 2 = .ok (.lconst 0, 1)) ∧ (decode cX4_isStream 3 = .ok (.aload_n 0, 1)) ∧ (decode cX4_isStream 4 = .ok (.getfield 146, 3)) ∧ (decode cX4_isStream 7 = .ok (.iconst 1, 1)) ∧ (decode cX4_isStream 8 = .ok (.isub, 1)) ∧ (decode cX4_isStream 9 = .ok (.i2l, 1)) ∧ (decode cX4_isStream 10 = .ok (.invokestatic 82, 3)) ∧ (decode cX4_isStream 13 = .ok (.ireturn, 1)) := by decide +kernel
theorem dX4_isStream_0 : decode cX4_isStream 0 = .ok (.iload_n 1, 1) := bdX4_isStream_0.1
theorem dX4_isStream_1 : decode cX4_isStream 1 = .ok (.i2l, 1) := bdX4_isStream_0.2.1
theorem dX4_isStream_2 : decode cX4_isStream 2 = .ok (.lconst 0, 1) := bdX4_isStream_0.2.2.1
theorem dX4_isStream_3 : decode cX4_isStream 3 = .ok (.aload_n 0, 1) := bdX4_isStream_0.2.2.2.1
theorem dX4_isStream_4 : decode cX4_isStream 4 = .ok (.getfield 146, 3) := bdX4_isStream_0.2.2.2.2.1
theorem dX4_isStream_7 : decode cX4_isStream 7 = .ok (.iconst 1, 1) := bdX4_isStream_0.2.2.2.2.2.1
theorem dX4_isStream_8 : decode cX4_isStream 8 = .ok (.isub, 1) := bdX4_isStream_0.2.2.2.2.2.2.1
theorem dX4_isStream_9 : decode cX4_isStream 9 = .ok (.i2l, 1) := bdX4_isStream_0.2.2.2.2.2.2.2.1
theorem dX4_isStream_10 : decode cX4_isStream 10 = .ok (.invokestatic 82, 3) := bdX4_isStream_0.2.2.2.2.2.2.2.2.1
theorem dX4_isStream_13 : decode cX4_isStream 13 = .ok (.ireturn, 1) := bdX4_isStream_0.2.2.2.2.2.2.2.2.2
set_option maxRecDepth 20000 in
theorem bdX4_begin_0 : (decode cX4_begin 0 = .ok (.aload_n 0, 1)) ∧ (decode cX4_begin 1 = .ok (.getfield 23, 3)) ∧ (decode cX4_begin 4 = .ok (.aload_n 0, 1)) ∧ (decode cX4_begin 5 = .ok (.getfield 146, 3)) ∧ (decode cX4_begin 8 = .ok (.lload_n 1, 1)) ∧ (decode cX4_begin 9 = .ok (.lastore, 1)) ∧ (decode cX4_begin 10 = .ok (.aload_n 0, 1)) ∧ (decode cX4_begin 11 = .ok (.getfield 26, 3)) ∧ (decode cX4_begin 14 = .ok (.aload_n 0, 1)) ∧ (decode cX4_begin 15 = .ok (.getfield 146, 3)) ∧ (decode cX4_begin 18 = .ok (.iload_n 3, 1)) ∧ (decode cX4_begin 19 = .ok (.iastore, 1)) := by decide +kernel
theorem dX4_begin_0 : decode cX4_begin 0 = .ok (.aload_n 0, 1) := bdX4_begin_0.1
theorem dX4_begin_1 : decode cX4_begin 1 = .ok (.getfield 23, 3) := bdX4_begin_0.2.1
theorem dX4_begin_4 : decode cX4_begin 4 = .ok (.aload_n 0, 1) := bdX4_begin_0.2.2.1
theorem dX4_begin_5 : decode cX4_begin 5 = .ok (.getfield 146, 3) := bdX4_begin_0.2.2.2.1
theorem dX4_begin_8 : decode cX4_begin 8 = .ok (.lload_n 1, 1) := bdX4_begin_0.2.2.2.2.1
theorem dX4_begin_9 : decode cX4_begin 9 = .ok (.lastore, 1) := bdX4_begin_0.2.2.2.2.2.1
theorem dX4_begin_10 : decode cX4_begin 10 = .ok (.aload_n 0, 1) := bdX4_begin_0.2.2.2.2.2.2.1
theorem dX4_begin_11 : decode cX4_begin 11 = .ok (.getfield 26, 3) := bdX4_begin_0.2.2.2.2.2.2.2.1
theorem dX4_begin_14 : decode cX4_begin 14 = .ok (.aload_n 0, 1) := bdX4_begin_0.2.2.2.2.2.2.2.2.1
theorem dX4_begin_15 : decode cX4_begin 15 = .ok (.getfield 146, 3) := bdX4_begin_0.2.2.2.2.2.2.2.2.2.1
theorem dX4_begin_18 : decode cX4_begin 18 = .ok (.iload_n 3, 1) := bdX4_begin_0.2.2.2.2.2.2.2.2.2.2.1
theorem dX4_begin_19 : decode cX4_begin 19 = .ok (.iastore, 1) := bdX4_begin_0.2.2.2.2.2.2.2.2.2.2.2
set_option maxRecDepth 20000 in
theorem bdX4_begin_20 : (decode cX4_begin 20 = .ok (.aload_n 0, 1)) ∧ (decode cX4_begin 21 = .ok (.getfield 29, 3)) ∧ (decode cX4_begin 24 = .ok (.aload_n 0, 1)) ∧ (decode cX4_begin 25 = .ok (.getfield 146, 3)) ∧ (decode cX4_begin 28 = .ok (.iconst 0, 1)) ∧ (decode cX4_begin 29 = .ok (.iastore, 1)) ∧ (decode cX4_begin 30 = .ok (.aload_n 0, 1)) ∧ (decode cX4_begin 31 = .ok (.getfield 32, 3)) ∧ (decode cX4_begin 34 = .ok (.aload_n 0, 1)) ∧ (decode cX4_begin 35 = .ok (.getfield 146, 3)) ∧ (decode cX4_begin 38 = .ok (.iconst 0, 1)) ∧ (decode cX4_begin 39 = .ok (.iastore, 1)) := by decide +kernel
theorem dX4_begin_20 : decode cX4_begin 20 = .ok (.aload_n 0, 1) := bdX4_begin_20.1
theorem dX4_begin_21 : decode cX4_begin 21 = .ok (.getfield 29, 3) := bdX4_begin_20.2.1
theorem dX4_begin_24 : decode cX4_begin 24 = .ok (.aload_n 0, 1) := bdX4_begin_20.2.2.1
theorem dX4_begin_25 : decode cX4_begin 25 = .ok (.getfield 146, 3) := bdX4_begin_20.2.2.2.1
theorem dX4_begin_28 : decode cX4_begin 28 = .ok (.iconst 0, 1) := bdX4_begin_20.2.2.2.2.1
theorem dX4_begin_29 : decode cX4_begin 29 = .ok (.iastore, 1) := bdX4_begin_20.2.2.2.2.2.1
theorem dX4_begin_30 : decode cX4_begin 30 = .ok (.aload_n 0, 1) := bdX4_begin_20.2.2.2.2.2.2.1
theorem dX4_begin_31 : decode cX4_begin 31 = .ok (.getfield 32, 3) := bdX4_begin_20.2.2.2.2.2.2.2.1
theorem dX4_begin_34 : decode cX4_begin 34 = .ok (.aload_n 0, 1) := bdX4_begin_20.2.2.2.2.2.2.2.2.1
theorem dX4_begin_35 : decode cX4_begin 35 = .ok (.getfield 146, 3) := bdX4_begin_20.2.2.2.2.2.2.2.2.2.1
theorem dX4_begin_38 : decode cX4_begin 38 = .ok (.iconst 0, 1) := bdX4_begin_20.2.2.2.2.2.2.2.2.2.2.1
theorem dX4_begin_39 : decode cX4_begin 39 = .ok (.iastore, 1) := bdX4_begin_20.2.2.2.2.2.2.2.2.2.2.2
set_option maxRecDepth 20000 in
theorem bdX4_begin_40 : (decode cX4_begin 40 = .ok (.aload_n 0, 1)) ∧ (decode cX4_begin 41 = .ok (.dup, 1)) ∧ (decode cX4_begin 42 = .ok (.getfield 146, 3)) ∧ (decode cX4_begin 45 = .ok (.iconst 1, 1)) ∧ (decode cX4_begin 46 = .ok (.iadd, 1)) ∧ (decode cX4_begin 47 = .ok (.putfield 146, 3)) ∧ (decode cX4_begin 50 = .ok (.aload_n 0, 1)) ∧ (decode cX4_begin 51 = .ok (.getfield 146, 3)) ∧ (decode cX4_begin 54 = .ok (.iconst 1, 1)) ∧ (decode cX4_begin 55 = .ok (.isub, 1)) ∧ (decode cX4_begin 56 = .ok (.ireturn, 1)) := by decide +kernel
theorem dX4_begin_40 : decode cX4_begin 40 = .ok (.aload_n 0, 1) := bdX4_begin_40.1
theorem dX4_begin_41 : decode cX4_begin 41 = .ok (.dup, 1) := bdX4_begin_40.2.1
theorem dX4_begin_42 : decode cX4_begin 42 = .ok (.getfield 146, 3) := bdX4_begin_40.2.2.1
theorem dX4_begin_45 : decode cX4_begin 45 = .ok (.iconst 1, 1) := bdX4_begin_40.2.2.2.1
theorem dX4_begin_46 : decode cX4_begin 46 = .ok (.iadd, 1) := bdX4_begin_40.2.2.2.2.1
theorem dX4_begin_47 : decode cX4_begin 47 = .ok (.putfield 146, 3) := bdX4_begin_40.2.2.2.2.2.1
theorem dX4_begin_50 : decode cX4_begin 50 = .ok (.aload_n 0, 1) := bdX4_begin_40.2.2.2.2.2.2.1
theorem dX4_begin_51 : decode cX4_begin 51 = .ok (.getfield 146, 3) := bdX4_begin_40.2.2.2.2.2.2.2.1
theorem dX4_begin_54 : decode cX4_begin 54 = .ok (.iconst 1, 1) := bdX4_begin_40.2.2.2.2.2.2.2.2.1
theorem dX4_begin_55 : decode cX4_begin 55 = .ok (.isub, 1) := bdX4_begin_40.2.2.2.2.2.2.2.2.2.1
theorem dX4_begin_56 : decode cX4_begin 56 = .ok (.ireturn, 1) := bdX4_begin_40.2.2.2.2.2.2.2.2.2.2
set_option maxRecDepth 20000 in
theorem ggX4_open_X4_isPath : GoodIn wsX4_open wsX4_isPath := goodIn_r _ [6, 7, 8, 9, 5, 10, 19, 20, 21, 22, 23, 24, 25, 26, 27, 28, 29, 30, 31, 32, 33, 34, 35, 36, 37, 38, 39] (by decide +kernel) (by decide +kernel)
set_option maxRecDepth 20000 in
theorem gX4_open_X4_isPath : GoodIn wsX4_open (wsV RX4 92 RX4 yX4_isPath wsX4_isPath) := goodIn_app (goodIn_of _ (by decide +kernel)) ggX4_open_X4_isPath
set_option maxRecDepth 20000 in
theorem ggX4_open_X4_begin : GoodIn wsX4_open wsX4_begin := goodIn_r _ [14, 15, 1, 16, 17, 18, 19, 20, 21, 22, 23, 24, 25, 26, 27, 28, 29, 30, 31, 32, 33, 34, 35, 36, 37, 38, 39] (by decide +kernel) (by decide +kernel)
set_option maxRecDepth 20000 in
theorem gX4_open_X4_begin : GoodIn wsX4_open (wsV RX4 149 RX4 yX4_begin wsX4_begin) := goodIn_app (goodIn_of _ (by decide +kernel)) ggX4_open_X4_begin
set_option maxRecDepth 20000 in
theorem bdX4_open_0 : (decode cX4_open 0 = .ok (.aload_n 0, 1)) ∧ (decode cX4_open 1 = .ok (.iload_n 3, 1)) ∧ (decode cX4_open 2 = .ok (.invokevirtual 92, 3)) ∧ (decode cX4_open 5 = .ok (.ifCond .ne 5, 3)) ∧ (decode cX4_open 8 = .ok (.iconst (-1), 1)) ∧ (decode cX4_open 9 = .ok (.ireturn, 1)) ∧ (decode cX4_open 10 = .ok (.aload_n 0, 1)) ∧ (decode cX4_open 11 = .ok (.getfield 146, 3)) ∧ (decode cX4_open 14 = .ok (.bipush 8, 2)) ∧ (decode cX4_open 16 = .ok (.if_icmp .ne 8, 3)) ∧ (decode cX4_open 19 = .ok (.bipush (-2), 2)) ∧ (decode cX4_open 21 = .ok (.goto 9, 3)) := by decide +kernel
theorem dX4_open_0 : decode cX4_open 0 = .ok (.aload_n 0, 1) := bdX4_open_0.1
theorem dX4_open_1 : decode cX4_open 1 = .ok (.iload_n 3, 1) := bdX4_open_0.2.1
theorem dX4_open_2 : decode cX4_open 2 = .ok (.invokevirtual 92, 3) := bdX4_open_0.2.2.1
theorem dX4_open_5 : decode cX4_open 5 = .ok (.ifCond .ne 5, 3) := bdX4_open_0.2.2.2.1
theorem dX4_open_8 : decode cX4_open 8 = .ok (.iconst (-1), 1) := bdX4_open_0.2.2.2.2.1
theorem dX4_open_9 : decode cX4_open 9 = .ok (.ireturn, 1) := bdX4_open_0.2.2.2.2.2.1
theorem dX4_open_10 : decode cX4_open 10 = .ok (.aload_n 0, 1) := bdX4_open_0.2.2.2.2.2.2.1
theorem dX4_open_11 : decode cX4_open 11 = .ok (.getfield 146, 3) := bdX4_open_0.2.2.2.2.2.2.2.1
theorem dX4_open_14 : decode cX4_open 14 = .ok (.bipush 8, 2) := bdX4_open_0.2.2.2.2.2.2.2.2.1
theorem dX4_open_16 : decode cX4_open 16 = .ok (.if_icmp .ne 8, 3) := bdX4_open_0.2.2.2.2.2.2.2.2.2.1
theorem dX4_open_19 : decode cX4_open 19 = .ok (.bipush (-2), 2) := bdX4_open_0.2.2.2.2.2.2.2.2.2.2.1
theorem dX4_open_21 : decode cX4_open 21 = .ok (.goto 9, 3) := bdX4_open_0.2.2.2.2.2.2.2.2.2.2.2
set_option maxRecDepth 20000 in
theorem bdX4_open_24 : (decode cX4_open 24 = .ok (.aload_n 0, 1)) ∧ (decode cX4_open 25 = .ok (.lload_n 1, 1)) ∧ (decode cX4_open 26 = .ok (.iload_n 3, 1)) ∧ (decode cX4_open 27 = .ok (.invokevirtual 149, 3)) ∧ (decode cX4_open 30 = .ok (.ireturn, 1)) := by decide +kernel
theorem dX4_open_24 : decode cX4_open 24 = .ok (.aload_n 0, 1) := bdX4_open_24.1
theorem dX4_open_25 : decode cX4_open 25 = .ok (.lload_n 1, 1) := bdX4_open_24.2.1
theorem dX4_open_26 : decode cX4_open 26 = .ok (.iload_n 3, 1) := bdX4_open_24.2.2.1
theorem dX4_open_27 : decode cX4_open 27 = .ok (.invokevirtual 149, 3) := bdX4_open_24.2.2.2.1
theorem dX4_open_30 : decode cX4_open 30 = .ok (.ireturn, 1) := bdX4_open_24.2.2.2.2
set_option maxRecDepth 20000 in
theorem ggX4_next_X4_isStream : GoodIn wsX4_next wsX4_isStream := goodIn_r _ [11, 12, 13, 14, 10, 15, 47, 48, 49, 50, 51, 52, 53, 54, 55, 56, 57, 58, 59, 60, 61, 62, 63, 64, 65, 66, 67] (by decide +kernel) (by decide +kernel)
set_option maxRecDepth 20000 in
theorem gX4_next_X4_isStream : GoodIn wsX4_next (wsV RX4 153 RX4 yX4_isStream wsX4_isStream) := goodIn_app (goodIn_of _ (by decide +kernel)) ggX4_next_X4_isStream
set_option maxRecDepth 20000 in
theorem ggX4_next_X4_draw : GoodIn wsX4_next wsX4_draw := goodIn_r _ [19, 20, 21, 22, 23, 24, 10, 25, 26, 27, 28, 29, 30, 31, 32, 33, 34, 35, 36, 37, 38, 39, 40, 41, 42, 43, 44, 45, 46, 47, 48, 49, 50, 51, 52, 53, 54, 55, 56, 57, 58, 59, 60, 61, 62, 63, 64, 65, 66, 67] (by decide +kernel) (by decide +kernel)
set_option maxRecDepth 20000 in
theorem gX4_next_X4_draw : GoodIn wsX4_next (wsV RX4 122 RX4 yX4_draw wsX4_draw) := goodIn_app (goodIn_of _ (by decide +kernel)) ggX4_next_X4_draw
set_option maxRecDepth 20000 in
theorem bdX4_next_0 : (decode cX4_next 0 = .ok (.lload_n 2, 1)) ∧ (decode cX4_next 1 = .ok (.lconst 0, 1)) ∧ (decode cX4_next 2 = .ok (.lcmp, 1)) ∧ (decode cX4_next 3 = .ok (.ifCond .lt 22, 3)) ∧ (decode cX4_next 6 = .ok (.aload_n 0, 1)) ∧ (decode cX4_next 7 = .ok (.iload_n 1, 1)) ∧ (decode cX4_next 8 = .ok (.invokevirtual 153, 3)) ∧ (decode cX4_next 11 = .ok (.ifCond .eq 14, 3)) ∧ (decode cX4_next 14 = .ok (.aload_n 0, 1)) ∧ (decode cX4_next 15 = .ok (.getfield 29, 3)) ∧ (decode cX4_next 18 = .ok (.iload_n 1, 1)) ∧ (decode cX4_next 19 = .ok (.iaload, 1)) := by decide +kernel
theorem dX4_next_0 : decode cX4_next 0 = .ok (.lload_n 2, 1) := bdX4_next_0.1
theorem dX4_next_1 : decode cX4_next 1 = .ok (.lconst 0, 1) := bdX4_next_0.2.1
theorem dX4_next_2 : decode cX4_next 2 = .ok (.lcmp, 1) := bdX4_next_0.2.2.1
theorem dX4_next_3 : decode cX4_next 3 = .ok (.ifCond .lt 22, 3) := bdX4_next_0.2.2.2.1
theorem dX4_next_6 : decode cX4_next 6 = .ok (.aload_n 0, 1) := bdX4_next_0.2.2.2.2.1
theorem dX4_next_7 : decode cX4_next 7 = .ok (.iload_n 1, 1) := bdX4_next_0.2.2.2.2.2.1
theorem dX4_next_8 : decode cX4_next 8 = .ok (.invokevirtual 153, 3) := bdX4_next_0.2.2.2.2.2.2.1
theorem dX4_next_11 : decode cX4_next 11 = .ok (.ifCond .eq 14, 3) := bdX4_next_0.2.2.2.2.2.2.2.1
theorem dX4_next_14 : decode cX4_next 14 = .ok (.aload_n 0, 1) := bdX4_next_0.2.2.2.2.2.2.2.2.1
theorem dX4_next_15 : decode cX4_next 15 = .ok (.getfield 29, 3) := bdX4_next_0.2.2.2.2.2.2.2.2.2.1
theorem dX4_next_18 : decode cX4_next 18 = .ok (.iload_n 1, 1) := bdX4_next_0.2.2.2.2.2.2.2.2.2.2.1
theorem dX4_next_19 : decode cX4_next 19 = .ok (.iaload, 1) := bdX4_next_0.2.2.2.2.2.2.2.2.2.2.2
set_option maxRecDepth 20000 in
theorem bdX4_next_20 : (decode cX4_next 20 = .ok (.ldc 156, 2)) ∧ (decode cX4_next 22 = .ok (.if_icmp .ne 7, 3)) ∧ (decode cX4_next 25 = .ok (.ldc2_w 118, 3)) ∧ (decode cX4_next 28 = .ok (.lreturn, 1)) ∧ (decode cX4_next 29 = .ok (.lload_n 2, 1)) ∧ (decode cX4_next 30 = .ok (.lconst 0, 1)) ∧ (decode cX4_next 31 = .ok (.lcmp, 1)) ∧ (decode cX4_next 32 = .ok (.ifCond .ne 7, 3)) ∧ (decode cX4_next 35 = .ok (.ldc2_w 120, 3)) ∧ (decode cX4_next 38 = .ok (.lreturn, 1)) ∧ (decode cX4_next 39 = .ok (.aload_n 0, 1)) ∧ (decode cX4_next 40 = .ok (.aload_n 0, 1)) := by decide +kernel
theorem dX4_next_20 : decode cX4_next 20 = .ok (.ldc 156, 2) := bdX4_next_20.1
theorem dX4_next_22 : decode cX4_next 22 = .ok (.if_icmp .ne 7, 3) := bdX4_next_20.2.1
theorem dX4_next_25 : decode cX4_next 25 = .ok (.ldc2_w 118, 3) := bdX4_next_20.2.2.1
theorem dX4_next_28 : decode cX4_next 28 = .ok (.lreturn, 1) := bdX4_next_20.2.2.2.1
theorem dX4_next_29 : decode cX4_next 29 = .ok (.lload_n 2, 1) := bdX4_next_20.2.2.2.2.1
theorem dX4_next_30 : decode cX4_next 30 = .ok (.lconst 0, 1) := bdX4_next_20.2.2.2.2.2.1
theorem dX4_next_31 : decode cX4_next 31 = .ok (.lcmp, 1) := bdX4_next_20.2.2.2.2.2.2.1
theorem dX4_next_32 : decode cX4_next 32 = .ok (.ifCond .ne 7, 3) := bdX4_next_20.2.2.2.2.2.2.2.1
theorem dX4_next_35 : decode cX4_next 35 = .ok (.ldc2_w 120, 3) := bdX4_next_20.2.2.2.2.2.2.2.2.1
theorem dX4_next_38 : decode cX4_next 38 = .ok (.lreturn, 1) := bdX4_next_20.2.2.2.2.2.2.2.2.2.1
theorem dX4_next_39 : decode cX4_next 39 = .ok (.aload_n 0, 1) := bdX4_next_20.2.2.2.2.2.2.2.2.2.2.1
theorem dX4_next_40 : decode cX4_next 40 = .ok (.aload_n 0, 1) := bdX4_next_20.2.2.2.2.2.2.2.2.2.2.2
set_option maxRecDepth 20000 in
theorem bdX4_next_41 : (decode cX4_next 41 = .ok (.getfield 23, 3)) ∧ (decode cX4_next 44 = .ok (.iload_n 1, 1)) ∧ (decode cX4_next 45 = .ok (.laload, 1)) ∧ (decode cX4_next 46 = .ok (.aload_n 0, 1)) ∧ (decode cX4_next 47 = .ok (.getfield 26, 3)) ∧ (decode cX4_next 50 = .ok (.iload_n 1, 1)) ∧ (decode cX4_next 51 = .ok (.iaload, 1)) ∧ (decode cX4_next 52 = .ok (.aload_n 0, 1)) ∧ (decode cX4_next 53 = .ok (.getfield 29, 3)) ∧ (decode cX4_next 56 = .ok (.iload_n 1, 1)) ∧ (decode cX4_next 57 = .ok (.iaload, 1)) ∧ (decode cX4_next 58 = .ok (.lload_n 2, 1)) := by decide +kernel
theorem dX4_next_41 : decode cX4_next 41 = .ok (.getfield 23, 3) := bdX4_next_41.1
theorem dX4_next_44 : decode cX4_next 44 = .ok (.iload_n 1, 1) := bdX4_next_41.2.1
theorem dX4_next_45 : decode cX4_next 45 = .ok (.laload, 1) := bdX4_next_41.2.2.1
theorem dX4_next_46 : decode cX4_next 46 = .ok (.aload_n 0, 1) := bdX4_next_41.2.2.2.1
theorem dX4_next_47 : decode cX4_next 47 = .ok (.getfield 26, 3) := bdX4_next_41.2.2.2.2.1
theorem dX4_next_50 : decode cX4_next 50 = .ok (.iload_n 1, 1) := bdX4_next_41.2.2.2.2.2.1
theorem dX4_next_51 : decode cX4_next 51 = .ok (.iaload, 1) := bdX4_next_41.2.2.2.2.2.2.1
theorem dX4_next_52 : decode cX4_next 52 = .ok (.aload_n 0, 1) := bdX4_next_41.2.2.2.2.2.2.2.1
theorem dX4_next_53 : decode cX4_next 53 = .ok (.getfield 29, 3) := bdX4_next_41.2.2.2.2.2.2.2.2.1
theorem dX4_next_56 : decode cX4_next 56 = .ok (.iload_n 1, 1) := bdX4_next_41.2.2.2.2.2.2.2.2.2.1
theorem dX4_next_57 : decode cX4_next 57 = .ok (.iaload, 1) := bdX4_next_41.2.2.2.2.2.2.2.2.2.2.1
theorem dX4_next_58 : decode cX4_next 58 = .ok (.lload_n 2, 1) := bdX4_next_41.2.2.2.2.2.2.2.2.2.2.2
set_option maxRecDepth 20000 in
theorem bdX4_next_59 : (decode cX4_next 59 = .ok (.invokevirtual 122, 3)) ∧ (decode cX4_next 62 = .ok (.lstore 4, 2)) ∧ (decode cX4_next 64 = .ok (.aload_n 0, 1)) ∧ (decode cX4_next 65 = .ok (.getfield 29, 3)) ∧ (decode cX4_next 68 = .ok (.iload_n 1, 1)) ∧ (decode cX4_next 69 = .ok (.dup2, 1)) ∧ (decode cX4_next 70 = .ok (.iaload, 1)) ∧ (decode cX4_next 71 = .ok (.iconst 1, 1)) ∧ (decode cX4_next 72 = .ok (.iadd, 1)) ∧ (decode cX4_next 73 = .ok (.iastore, 1)) ∧ (decode cX4_next 74 = .ok (.lload 4, 2)) ∧ (decode cX4_next 76 = .ok (.lreturn, 1)) := by decide +kernel
theorem dX4_next_59 : decode cX4_next 59 = .ok (.invokevirtual 122, 3) := bdX4_next_59.1
theorem dX4_next_62 : decode cX4_next 62 = .ok (.lstore 4, 2) := bdX4_next_59.2.1
theorem dX4_next_64 : decode cX4_next 64 = .ok (.aload_n 0, 1) := bdX4_next_59.2.2.1
theorem dX4_next_65 : decode cX4_next 65 = .ok (.getfield 29, 3) := bdX4_next_59.2.2.2.1
theorem dX4_next_68 : decode cX4_next 68 = .ok (.iload_n 1, 1) := bdX4_next_59.2.2.2.2.1
theorem dX4_next_69 : decode cX4_next 69 = .ok (.dup2, 1) := bdX4_next_59.2.2.2.2.2.1
theorem dX4_next_70 : decode cX4_next 70 = .ok (.iaload, 1) := bdX4_next_59.2.2.2.2.2.2.1
theorem dX4_next_71 : decode cX4_next 71 = .ok (.iconst 1, 1) := bdX4_next_59.2.2.2.2.2.2.2.1
theorem dX4_next_72 : decode cX4_next 72 = .ok (.iadd, 1) := bdX4_next_59.2.2.2.2.2.2.2.2.1
theorem dX4_next_73 : decode cX4_next 73 = .ok (.iastore, 1) := bdX4_next_59.2.2.2.2.2.2.2.2.2.1
theorem dX4_next_74 : decode cX4_next 74 = .ok (.lload 4, 2) := bdX4_next_59.2.2.2.2.2.2.2.2.2.2.1
theorem dX4_next_76 : decode cX4_next 76 = .ok (.lreturn, 1) := bdX4_next_59.2.2.2.2.2.2.2.2.2.2.2
set_option maxRecDepth 20000 in
theorem ggX4_nextPick_X4_isStream : GoodIn wsX4_nextPick wsX4_isStream := goodIn_r _ [10, 11, 12, 13, 9, 14, 55, 56, 57, 58, 59, 60, 61, 62, 63, 64, 65, 66, 67, 68, 69, 70, 71, 72, 73, 74, 75] (by decide +kernel) (by decide +kernel)
set_option maxRecDepth 20000 in
theorem gX4_nextPick_X4_isStream : GoodIn wsX4_nextPick (wsV RX4 153 RX4 yX4_isStream wsX4_isStream) := goodIn_app (goodIn_of _ (by decide +kernel)) ggX4_nextPick_X4_isStream
set_option maxRecDepth 20000 in
theorem ggX4_nextPick_X4_sum : GoodIn wsX4_nextPick wsX4_sum := goodIn_r _ [18, 3, 19, 55, 56, 57, 58, 59, 60, 61, 62, 63, 64, 65, 66, 67, 68, 69, 70, 71, 72, 73, 74, 75] (by decide +kernel) (by decide +kernel)
set_option maxRecDepth 20000 in
theorem gX4_nextPick_X4_sum : GoodIn wsX4_nextPick (wsV RX4 134 RX4 yX4_sum wsX4_sum) := goodIn_app (goodIn_of _ (by decide +kernel)) ggX4_nextPick_X4_sum
set_option maxRecDepth 20000 in
theorem ggX4_nextPick_X4_picked : GoodIn wsX4_nextPick wsX4_picked := goodIn_r _ [23, 19, 24, 25, 26, 9, 27, 28, 29, 30, 31, 32, 33, 34, 35, 36, 37, 38, 39, 40, 41, 42, 43, 44, 45, 46, 47, 48, 49, 50, 51, 52, 53, 54, 55, 56, 57, 58, 59, 60, 61, 62, 63, 64, 65, 66, 67, 68, 69, 70, 71, 72, 73, 74, 75] (by decide +kernel) (by decide +kernel)
set_option maxRecDepth 20000 in
theorem gX4_nextPick_X4_picked : GoodIn wsX4_nextPick (wsV RX4 138 RX4 yX4_picked wsX4_picked) := goodIn_app (goodIn_of _ (by decide +kernel)) ggX4_nextPick_X4_picked
set_option maxRecDepth 20000 in
theorem bdX4_nextPick_0 : (decode cX4_nextPick 0 = .ok (.aload_n 0, 1)) ∧ (decode cX4_nextPick 1 = .ok (.iload_n 1, 1)) ∧ (decode cX4_nextPick 2 = .ok (.invokevirtual 153, 3)) ∧ (decode cX4_nextPick 5 = .ok (.ifCond .eq 14, 3)) ∧ (decode cX4_nextPick 8 = .ok (.aload_n 0, 1)) ∧ (decode cX4_nextPick 9 = .ok (.getfield 29, 3)) ∧ (decode cX4_nextPick 12 = .ok (.iload_n 1, 1)) ∧ (decode cX4_nextPick 13 = .ok (.iaload, 1)) ∧ (decode cX4_nextPick 14 = .ok (.ldc 156, 2)) ∧ (decode cX4_nextPick 16 = .ok (.if_icmp .ne 5, 3)) ∧ (decode cX4_nextPick 19 = .ok (.iconst (-1), 1)) ∧ (decode cX4_nextPick 20 = .ok (.ireturn, 1)) := by decide +kernel
theorem dX4_nextPick_0 : decode cX4_nextPick 0 = .ok (.aload_n 0, 1) := bdX4_nextPick_0.1
theorem dX4_nextPick_1 : decode cX4_nextPick 1 = .ok (.iload_n 1, 1) := bdX4_nextPick_0.2.1
theorem dX4_nextPick_2 : decode cX4_nextPick 2 = .ok (.invokevirtual 153, 3) := bdX4_nextPick_0.2.2.1
theorem dX4_nextPick_5 : decode cX4_nextPick 5 = .ok (.ifCond .eq 14, 3) := bdX4_nextPick_0.2.2.2.1
theorem dX4_nextPick_8 : decode cX4_nextPick 8 = .ok (.aload_n 0, 1) := bdX4_nextPick_0.2.2.2.2.1
theorem dX4_nextPick_9 : decode cX4_nextPick 9 = .ok (.getfield 29, 3) := bdX4_nextPick_0.2.2.2.2.2.1
theorem dX4_nextPick_12 : decode cX4_nextPick 12 = .ok (.iload_n 1, 1) := bdX4_nextPick_0.2.2.2.2.2.2.1
theorem dX4_nextPick_13 : decode cX4_nextPick 13 = .ok (.iaload, 1) := bdX4_nextPick_0.2.2.2.2.2.2.2.1
theorem dX4_nextPick_14 : decode cX4_nextPick 14 = .ok (.ldc 156, 2) := bdX4_nextPick_0.2.2.2.2.2.2.2.2.1
theorem dX4_nextPick_16 : decode cX4_nextPick 16 = .ok (.if_icmp .ne 5, 3) := bdX4_nextPick_0.2.2.2.2.2.2.2.2.2.1
theorem dX4_nextPick_19 : decode cX4_nextPick 19 = .ok (.iconst (-1), 1) := bdX4_nextPick_0.2.2.2.2.2.2.2.2.2.2.1
theorem dX4_nextPick_20 : decode cX4_nextPick 20 = .ok (.ireturn, 1) := bdX4_nextPick_0.2.2.2.2.2.2.2.2.2.2.2
set_option maxRecDepth 20000 in
theorem bdX4_nextPick_21 : (decode cX4_nextPick 21 = .ok (.aload_n 0, 1)) ∧ (decode cX4_nextPick 22 = .ok (.invokevirtual 134, 3)) ∧ (decode cX4_nextPick 25 = .ok (.lstore_n 2, 1)) ∧ (decode cX4_nextPick 26 = .ok (.aload_n 0, 1)) ∧ (decode cX4_nextPick 27 = .ok (.getfield 130, 3)) ∧ (decode cX4_nextPick 30 = .ok (.ifCond .ne 9, 3)) ∧ (decode cX4_nextPick 33 = .ok (.lload_n 2, 1)) ∧ (decode cX4_nextPick 34 = .ok (.lconst 0, 1)) ∧ (decode cX4_nextPick 35 = .ok (.lcmp, 1)) ∧ (decode cX4_nextPick 36 = .ok (.ifCond .ne 18, 3)) ∧ (decode cX4_nextPick 39 = .ok (.aload_n 0, 1)) ∧ (decode cX4_nextPick 40 = .ok (.getfield 130, 3)) := by decide +kernel
theorem dX4_nextPick_21 : decode cX4_nextPick 21 = .ok (.aload_n 0, 1) := bdX4_nextPick_21.1
theorem dX4_nextPick_22 : decode cX4_nextPick 22 = .ok (.invokevirtual 134, 3) := bdX4_nextPick_21.2.1
theorem dX4_nextPick_25 : decode cX4_nextPick 25 = .ok (.lstore_n 2, 1) := bdX4_nextPick_21.2.2.1
theorem dX4_nextPick_26 : decode cX4_nextPick 26 = .ok (.aload_n 0, 1) := bdX4_nextPick_21.2.2.2.1
theorem dX4_nextPick_27 : decode cX4_nextPick 27 = .ok (.getfield 130, 3) := bdX4_nextPick_21.2.2.2.2.1
theorem dX4_nextPick_30 : decode cX4_nextPick 30 = .ok (.ifCond .ne 9, 3) := bdX4_nextPick_21.2.2.2.2.2.1
theorem dX4_nextPick_33 : decode cX4_nextPick 33 = .ok (.lload_n 2, 1) := bdX4_nextPick_21.2.2.2.2.2.2.1
theorem dX4_nextPick_34 : decode cX4_nextPick 34 = .ok (.lconst 0, 1) := bdX4_nextPick_21.2.2.2.2.2.2.2.1
theorem dX4_nextPick_35 : decode cX4_nextPick 35 = .ok (.lcmp, 1) := bdX4_nextPick_21.2.2.2.2.2.2.2.2.1
theorem dX4_nextPick_36 : decode cX4_nextPick 36 = .ok (.ifCond .ne 18, 3) := bdX4_nextPick_21.2.2.2.2.2.2.2.2.2.1
theorem dX4_nextPick_39 : decode cX4_nextPick 39 = .ok (.aload_n 0, 1) := bdX4_nextPick_21.2.2.2.2.2.2.2.2.2.2.1
theorem dX4_nextPick_40 : decode cX4_nextPick 40 = .ok (.getfield 130, 3) := bdX4_nextPick_21.2.2.2.2.2.2.2.2.2.2.2
set_option maxRecDepth 20000 in
theorem bdX4_nextPick_43 : (decode cX4_nextPick 43 = .ok (.ifCond .eq 8, 3)) ∧ (decode cX4_nextPick 46 = .ok (.bipush (-5), 2)) ∧ (decode cX4_nextPick 48 = .ok (.goto 5, 3)) ∧ (decode cX4_nextPick 51 = .ok (.bipush (-4), 2)) ∧ (decode cX4_nextPick 53 = .ok (.ireturn, 1)) ∧ (decode cX4_nextPick 54 = .ok (.aload_n 0, 1)) ∧ (decode cX4_nextPick 55 = .ok (.aload_n 0, 1)) ∧ (decode cX4_nextPick 56 = .ok (.getfield 23, 3)) ∧ (decode cX4_nextPick 59 = .ok (.iload_n 1, 1)) ∧ (decode cX4_nextPick 60 = .ok (.laload, 1)) ∧ (decode cX4_nextPick 61 = .ok (.aload_n 0, 1)) ∧ (decode cX4_nextPick 62 = .ok (.getfield 26, 3)) := by decide +kernel
theorem dX4_nextPick_43 : decode cX4_nextPick 43 = .ok (.ifCond .eq 8, 3) := bdX4_nextPick_43.1
theorem dX4_nextPick_46 : decode cX4_nextPick 46 = .ok (.bipush (-5), 2) := bdX4_nextPick_43.2.1
theorem dX4_nextPick_48 : decode cX4_nextPick 48 = .ok (.goto 5, 3) := bdX4_nextPick_43.2.2.1
theorem dX4_nextPick_51 : decode cX4_nextPick 51 = .ok (.bipush (-4), 2) := bdX4_nextPick_43.2.2.2.1
theorem dX4_nextPick_53 : decode cX4_nextPick 53 = .ok (.ireturn, 1) := bdX4_nextPick_43.2.2.2.2.1
theorem dX4_nextPick_54 : decode cX4_nextPick 54 = .ok (.aload_n 0, 1) := bdX4_nextPick_43.2.2.2.2.2.1
theorem dX4_nextPick_55 : decode cX4_nextPick 55 = .ok (.aload_n 0, 1) := bdX4_nextPick_43.2.2.2.2.2.2.1
theorem dX4_nextPick_56 : decode cX4_nextPick 56 = .ok (.getfield 23, 3) := bdX4_nextPick_43.2.2.2.2.2.2.2.1
theorem dX4_nextPick_59 : decode cX4_nextPick 59 = .ok (.iload_n 1, 1) := bdX4_nextPick_43.2.2.2.2.2.2.2.2.1
theorem dX4_nextPick_60 : decode cX4_nextPick 60 = .ok (.laload, 1) := bdX4_nextPick_43.2.2.2.2.2.2.2.2.2.1
theorem dX4_nextPick_61 : decode cX4_nextPick 61 = .ok (.aload_n 0, 1) := bdX4_nextPick_43.2.2.2.2.2.2.2.2.2.2.1
theorem dX4_nextPick_62 : decode cX4_nextPick 62 = .ok (.getfield 26, 3) := bdX4_nextPick_43.2.2.2.2.2.2.2.2.2.2.2
set_option maxRecDepth 20000 in
theorem bdX4_nextPick_65 : (decode cX4_nextPick 65 = .ok (.iload_n 1, 1)) ∧ (decode cX4_nextPick 66 = .ok (.iaload, 1)) ∧ (decode cX4_nextPick 67 = .ok (.aload_n 0, 1)) ∧ (decode cX4_nextPick 68 = .ok (.getfield 29, 3)) ∧ (decode cX4_nextPick 71 = .ok (.iload_n 1, 1)) ∧ (decode cX4_nextPick 72 = .ok (.iaload, 1)) ∧ (decode cX4_nextPick 73 = .ok (.lload_n 2, 1)) ∧ (decode cX4_nextPick 74 = .ok (.invokevirtual 138, 3)) ∧ (decode cX4_nextPick 77 = .ok (.istore 4, 2)) ∧ (decode cX4_nextPick 79 = .ok (.aload_n 0, 1)) ∧ (decode cX4_nextPick 80 = .ok (.getfield 29, 3)) ∧ (decode cX4_nextPick 83 = .ok (.iload_n 1, 1)) := by decide +kernel
theorem dX4_nextPick_65 : decode cX4_nextPick 65 = .ok (.iload_n 1, 1) := bdX4_nextPick_65.1
theorem dX4_nextPick_66 : decode cX4_nextPick 66 = .ok (.iaload, 1) := bdX4_nextPick_65.2.1
theorem dX4_nextPick_67 : decode cX4_nextPick 67 = .ok (.aload_n 0, 1) := bdX4_nextPick_65.2.2.1
theorem dX4_nextPick_68 : decode cX4_nextPick 68 = .ok (.getfield 29, 3) := bdX4_nextPick_65.2.2.2.1
theorem dX4_nextPick_71 : decode cX4_nextPick 71 = .ok (.iload_n 1, 1) := bdX4_nextPick_65.2.2.2.2.1
theorem dX4_nextPick_72 : decode cX4_nextPick 72 = .ok (.iaload, 1) := bdX4_nextPick_65.2.2.2.2.2.1
theorem dX4_nextPick_73 : decode cX4_nextPick 73 = .ok (.lload_n 2, 1) := bdX4_nextPick_65.2.2.2.2.2.2.1
theorem dX4_nextPick_74 : decode cX4_nextPick 74 = .ok (.invokevirtual 138, 3) := bdX4_nextPick_65.2.2.2.2.2.2.2.1
theorem dX4_nextPick_77 : decode cX4_nextPick 77 = .ok (.istore 4, 2) := bdX4_nextPick_65.2.2.2.2.2.2.2.2.1
theorem dX4_nextPick_79 : decode cX4_nextPick 79 = .ok (.aload_n 0, 1) := bdX4_nextPick_65.2.2.2.2.2.2.2.2.2.1
theorem dX4_nextPick_80 : decode cX4_nextPick 80 = .ok (.getfield 29, 3) := bdX4_nextPick_65.2.2.2.2.2.2.2.2.2.2.1
theorem dX4_nextPick_83 : decode cX4_nextPick 83 = .ok (.iload_n 1, 1) := bdX4_nextPick_65.2.2.2.2.2.2.2.2.2.2.2
