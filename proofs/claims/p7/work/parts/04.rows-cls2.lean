theorem dX3_drawFraction_50 : decode cX3_drawFraction 50 = .ok (.if_icmp .ge 134, 3) := bdX3_drawFraction_41.2.2.2.2.2.1
theorem dX3_drawFraction_53 : decode cX3_drawFraction 53 = .ok (.lload 9, 2) := bdX3_drawFraction_41.2.2.2.2.2.2.1
theorem dX3_drawFraction_55 : decode cX3_drawFraction 55 = .ok (.lload 11, 2) := bdX3_drawFraction_41.2.2.2.2.2.2.2.1
theorem dX3_drawFraction_57 : decode cX3_drawFraction 57 = .ok (.iload 15, 2) := bdX3_drawFraction_41.2.2.2.2.2.2.2.2.1
theorem dX3_drawFraction_59 : decode cX3_drawFraction 59 = .ok (.i2l, 1) := bdX3_drawFraction_41.2.2.2.2.2.2.2.2.2.1
theorem dX3_drawFraction_60 : decode cX3_drawFraction 60 = .ok (.ladd, 1) := bdX3_drawFraction_41.2.2.2.2.2.2.2.2.2.2.1
theorem dX3_drawFraction_61 : decode cX3_drawFraction 61 = .ok (.invokestatic 71, 3) := bdX3_drawFraction_41.2.2.2.2.2.2.2.2.2.2.2
set_option maxRecDepth 20000 in
theorem bdX3_drawFraction_64 : (decode cX3_drawFraction 64 = .ok (.lstore 16, 2)) ∧ (decode cX3_drawFraction 66 = .ok (.bipush 63, 2)) ∧ (decode cX3_drawFraction 68 = .ok (.istore 18, 2)) ∧ (decode cX3_drawFraction 70 = .ok (.iload 18, 2)) ∧ (decode cX3_drawFraction 72 = .ok (.ifCond .lt 106, 3)) ∧ (decode cX3_drawFraction 75 = .ok (.lload 13, 2)) ∧ (decode cX3_drawFraction 77 = .ok (.lload 7, 2)) ∧ (decode cX3_drawFraction 79 = .ok (.lload 13, 2)) ∧ (decode cX3_drawFraction 81 = .ok (.lsub, 1)) ∧ (decode cX3_drawFraction 82 = .ok (.lcmp, 1)) ∧ (decode cX3_drawFraction 83 = .ok (.ifCond .lt 7, 3)) ∧ (decode cX3_drawFraction 86 = .ok (.iconst 1, 1)) := by decide +kernel
theorem dX3_drawFraction_64 : decode cX3_drawFraction 64 = .ok (.lstore 16, 2) := bdX3_drawFraction_64.1
theorem dX3_drawFraction_66 : decode cX3_drawFraction 66 = .ok (.bipush 63, 2) := bdX3_drawFraction_64.2.1
theorem dX3_drawFraction_68 : decode cX3_drawFraction 68 = .ok (.istore 18, 2) := bdX3_drawFraction_64.2.2.1
theorem dX3_drawFraction_70 : decode cX3_drawFraction 70 = .ok (.iload 18, 2) := bdX3_drawFraction_64.2.2.2.1
theorem dX3_drawFraction_72 : decode cX3_drawFraction 72 = .ok (.ifCond .lt 106, 3) := bdX3_drawFraction_64.2.2.2.2.1
theorem dX3_drawFraction_75 : decode cX3_drawFraction 75 = .ok (.lload 13, 2) := bdX3_drawFraction_64.2.2.2.2.2.1
theorem dX3_drawFraction_77 : decode cX3_drawFraction 77 = .ok (.lload 7, 2) := bdX3_drawFraction_64.2.2.2.2.2.2.1
theorem dX3_drawFraction_79 : decode cX3_drawFraction 79 = .ok (.lload 13, 2) := bdX3_drawFraction_64.2.2.2.2.2.2.2.1
theorem dX3_drawFraction_81 : decode cX3_drawFraction 81 = .ok (.lsub, 1) := bdX3_drawFraction_64.2.2.2.2.2.2.2.2.1
theorem dX3_drawFraction_82 : decode cX3_drawFraction 82 = .ok (.lcmp, 1) := bdX3_drawFraction_64.2.2.2.2.2.2.2.2.2.1
theorem dX3_drawFraction_83 : decode cX3_drawFraction 83 = .ok (.ifCond .lt 7, 3) := bdX3_drawFraction_64.2.2.2.2.2.2.2.2.2.2.1
theorem dX3_drawFraction_86 : decode cX3_drawFraction 86 = .ok (.iconst 1, 1) := bdX3_drawFraction_64.2.2.2.2.2.2.2.2.2.2.2
set_option maxRecDepth 20000 in
theorem bdX3_drawFraction_87 : (decode cX3_drawFraction 87 = .ok (.goto 4, 3)) ∧ (decode cX3_drawFraction 90 = .ok (.iconst 0, 1)) ∧ (decode cX3_drawFraction 91 = .ok (.istore 19, 2)) ∧ (decode cX3_drawFraction 93 = .ok (.iload 19, 2)) ∧ (decode cX3_drawFraction 95 = .ok (.ifCond .eq 14, 3)) ∧ (decode cX3_drawFraction 98 = .ok (.lload 13, 2)) ∧ (decode cX3_drawFraction 100 = .ok (.lload 7, 2)) ∧ (decode cX3_drawFraction 102 = .ok (.lload 13, 2)) ∧ (decode cX3_drawFraction 104 = .ok (.lsub, 1)) ∧ (decode cX3_drawFraction 105 = .ok (.lsub, 1)) ∧ (decode cX3_drawFraction 106 = .ok (.goto 8, 3)) ∧ (decode cX3_drawFraction 109 = .ok (.lload 13, 2)) := by decide +kernel
theorem dX3_drawFraction_87 : decode cX3_drawFraction 87 = .ok (.goto 4, 3) := bdX3_drawFraction_87.1
theorem dX3_drawFraction_90 : decode cX3_drawFraction 90 = .ok (.iconst 0, 1) := bdX3_drawFraction_87.2.1
theorem dX3_drawFraction_91 : decode cX3_drawFraction 91 = .ok (.istore 19, 2) := bdX3_drawFraction_87.2.2.1
theorem dX3_drawFraction_93 : decode cX3_drawFraction 93 = .ok (.iload 19, 2) := bdX3_drawFraction_87.2.2.2.1
theorem dX3_drawFraction_95 : decode cX3_drawFraction 95 = .ok (.ifCond .eq 14, 3) := bdX3_drawFraction_87.2.2.2.2.1
theorem dX3_drawFraction_98 : decode cX3_drawFraction 98 = .ok (.lload 13, 2) := bdX3_drawFraction_87.2.2.2.2.2.1
theorem dX3_drawFraction_100 : decode cX3_drawFraction 100 = .ok (.lload 7, 2) := bdX3_drawFraction_87.2.2.2.2.2.2.1
theorem dX3_drawFraction_102 : decode cX3_drawFraction 102 = .ok (.lload 13, 2) := bdX3_drawFraction_87.2.2.2.2.2.2.2.1
theorem dX3_drawFraction_104 : decode cX3_drawFraction 104 = .ok (.lsub, 1) := bdX3_drawFraction_87.2.2.2.2.2.2.2.2.1
theorem dX3_drawFraction_105 : decode cX3_drawFraction 105 = .ok (.lsub, 1) := bdX3_drawFraction_87.2.2.2.2.2.2.2.2.2.1
theorem dX3_drawFraction_106 : decode cX3_drawFraction 106 = .ok (.goto 8, 3) := bdX3_drawFraction_87.2.2.2.2.2.2.2.2.2.2.1
theorem dX3_drawFraction_109 : decode cX3_drawFraction 109 = .ok (.lload 13, 2) := bdX3_drawFraction_87.2.2.2.2.2.2.2.2.2.2.2
set_option maxRecDepth 20000 in
theorem bdX3_drawFraction_111 : (decode cX3_drawFraction 111 = .ok (.lload 13, 2)) ∧ (decode cX3_drawFraction 113 = .ok (.ladd, 1)) ∧ (decode cX3_drawFraction 114 = .ok (.lstore 13, 2)) ∧ (decode cX3_drawFraction 116 = .ok (.lload 16, 2)) ∧ (decode cX3_drawFraction 118 = .ok (.iload 18, 2)) ∧ (decode cX3_drawFraction 120 = .ok (.lushr, 1)) ∧ (decode cX3_drawFraction 121 = .ok (.lconst 1, 1)) ∧ (decode cX3_drawFraction 122 = .ok (.land, 1)) ∧ (decode cX3_drawFraction 123 = .ok (.lconst 1, 1)) ∧ (decode cX3_drawFraction 124 = .ok (.lcmp, 1)) ∧ (decode cX3_drawFraction 125 = .ok (.ifCond .ne 7, 3)) ∧ (decode cX3_drawFraction 128 = .ok (.iconst 1, 1)) := by decide +kernel
theorem dX3_drawFraction_111 : decode cX3_drawFraction 111 = .ok (.lload 13, 2) := bdX3_drawFraction_111.1
theorem dX3_drawFraction_113 : decode cX3_drawFraction 113 = .ok (.ladd, 1) := bdX3_drawFraction_111.2.1
theorem dX3_drawFraction_114 : decode cX3_drawFraction 114 = .ok (.lstore 13, 2) := bdX3_drawFraction_111.2.2.1
theorem dX3_drawFraction_116 : decode cX3_drawFraction 116 = .ok (.lload 16, 2) := bdX3_drawFraction_111.2.2.2.1
theorem dX3_drawFraction_118 : decode cX3_drawFraction 118 = .ok (.iload 18, 2) := bdX3_drawFraction_111.2.2.2.2.1
theorem dX3_drawFraction_120 : decode cX3_drawFraction 120 = .ok (.lushr, 1) := bdX3_drawFraction_111.2.2.2.2.2.1
theorem dX3_drawFraction_121 : decode cX3_drawFraction 121 = .ok (.lconst 1, 1) := bdX3_drawFraction_111.2.2.2.2.2.2.1
theorem dX3_drawFraction_122 : decode cX3_drawFraction 122 = .ok (.land, 1) := bdX3_drawFraction_111.2.2.2.2.2.2.2.1
theorem dX3_drawFraction_123 : decode cX3_drawFraction 123 = .ok (.lconst 1, 1) := bdX3_drawFraction_111.2.2.2.2.2.2.2.2.1
theorem dX3_drawFraction_124 : decode cX3_drawFraction 124 = .ok (.lcmp, 1) := bdX3_drawFraction_111.2.2.2.2.2.2.2.2.2.1
theorem dX3_drawFraction_125 : decode cX3_drawFraction 125 = .ok (.ifCond .ne 7, 3) := bdX3_drawFraction_111.2.2.2.2.2.2.2.2.2.2.1
theorem dX3_drawFraction_128 : decode cX3_drawFraction 128 = .ok (.iconst 1, 1) := bdX3_drawFraction_111.2.2.2.2.2.2.2.2.2.2.2
set_option maxRecDepth 20000 in
theorem bdX3_drawFraction_129 : (decode cX3_drawFraction 129 = .ok (.goto 4, 3)) ∧ (decode cX3_drawFraction 132 = .ok (.iconst 0, 1)) ∧ (decode cX3_drawFraction 133 = .ok (.istore 20, 2)) ∧ (decode cX3_drawFraction 135 = .ok (.aload_n 0, 1)) ∧ (decode cX3_drawFraction 136 = .ok (.dup, 1)) ∧ (decode cX3_drawFraction 137 = .ok (.getfield 46, 3)) ∧ (decode cX3_drawFraction 140 = .ok (.iconst 1, 1)) ∧ (decode cX3_drawFraction 141 = .ok (.iadd, 1)) ∧ (decode cX3_drawFraction 142 = .ok (.putfield 46, 3)) ∧ (decode cX3_drawFraction 145 = .ok (.iload 20, 2)) ∧ (decode cX3_drawFraction 147 = .ok (.iload 19, 2)) ∧ (decode cX3_drawFraction 149 = .ok (.if_icmp .eq 14, 3)) := by decide +kernel
theorem dX3_drawFraction_129 : decode cX3_drawFraction 129 = .ok (.goto 4, 3) := bdX3_drawFraction_129.1
theorem dX3_drawFraction_132 : decode cX3_drawFraction 132 = .ok (.iconst 0, 1) := bdX3_drawFraction_129.2.1
theorem dX3_drawFraction_133 : decode cX3_drawFraction 133 = .ok (.istore 20, 2) := bdX3_drawFraction_129.2.2.1
theorem dX3_drawFraction_135 : decode cX3_drawFraction 135 = .ok (.aload_n 0, 1) := bdX3_drawFraction_129.2.2.2.1
theorem dX3_drawFraction_136 : decode cX3_drawFraction 136 = .ok (.dup, 1) := bdX3_drawFraction_129.2.2.2.2.1
theorem dX3_drawFraction_137 : decode cX3_drawFraction 137 = .ok (.getfield 46, 3) := bdX3_drawFraction_129.2.2.2.2.2.1
theorem dX3_drawFraction_140 : decode cX3_drawFraction 140 = .ok (.iconst 1, 1) := bdX3_drawFraction_129.2.2.2.2.2.2.1
theorem dX3_drawFraction_141 : decode cX3_drawFraction 141 = .ok (.iadd, 1) := bdX3_drawFraction_129.2.2.2.2.2.2.2.1
theorem dX3_drawFraction_142 : decode cX3_drawFraction 142 = .ok (.putfield 46, 3) := bdX3_drawFraction_129.2.2.2.2.2.2.2.2.1
theorem dX3_drawFraction_145 : decode cX3_drawFraction 145 = .ok (.iload 20, 2) := bdX3_drawFraction_129.2.2.2.2.2.2.2.2.2.1
theorem dX3_drawFraction_147 : decode cX3_drawFraction 147 = .ok (.iload 19, 2) := bdX3_drawFraction_129.2.2.2.2.2.2.2.2.2.2.1
theorem dX3_drawFraction_149 : decode cX3_drawFraction 149 = .ok (.if_icmp .eq 14, 3) := bdX3_drawFraction_129.2.2.2.2.2.2.2.2.2.2.2
set_option maxRecDepth 20000 in
theorem bdX3_drawFraction_152 : (decode cX3_drawFraction 152 = .ok (.iload 20, 2)) ∧ (decode cX3_drawFraction 154 = .ok (.ifCond .eq 7, 3)) ∧ (decode cX3_drawFraction 157 = .ok (.iconst 0, 1)) ∧ (decode cX3_drawFraction 158 = .ok (.goto 4, 3)) ∧ (decode cX3_drawFraction 161 = .ok (.iconst 1, 1)) ∧ (decode cX3_drawFraction 162 = .ok (.ireturn, 1)) ∧ (decode cX3_drawFraction 163 = .ok (.lload 13, 2)) ∧ (decode cX3_drawFraction 165 = .ok (.lconst 0, 1)) ∧ (decode cX3_drawFraction 166 = .ok (.lcmp, 1)) ∧ (decode cX3_drawFraction 167 = .ok (.ifCond .ne 5, 3)) ∧ (decode cX3_drawFraction 170 = .ok (.iconst 0, 1)) ∧ (decode cX3_drawFraction 171 = .ok (.ireturn, 1)) := by decide +kernel
theorem dX3_drawFraction_152 : decode cX3_drawFraction 152 = .ok (.iload 20, 2) := bdX3_drawFraction_152.1
theorem dX3_drawFraction_154 : decode cX3_drawFraction 154 = .ok (.ifCond .eq 7, 3) := bdX3_drawFraction_152.2.1
theorem dX3_drawFraction_157 : decode cX3_drawFraction 157 = .ok (.iconst 0, 1) := bdX3_drawFraction_152.2.2.1
theorem dX3_drawFraction_158 : decode cX3_drawFraction 158 = .ok (.goto 4, 3) := bdX3_drawFraction_152.2.2.2.1
theorem dX3_drawFraction_161 : decode cX3_drawFraction 161 = .ok (.iconst 1, 1) := bdX3_drawFraction_152.2.2.2.2.1
theorem dX3_drawFraction_162 : decode cX3_drawFraction 162 = .ok (.ireturn, 1) := bdX3_drawFraction_152.2.2.2.2.2.1
theorem dX3_drawFraction_163 : decode cX3_drawFraction 163 = .ok (.lload 13, 2) := bdX3_drawFraction_152.2.2.2.2.2.2.1
theorem dX3_drawFraction_165 : decode cX3_drawFraction 165 = .ok (.lconst 0, 1) := bdX3_drawFraction_152.2.2.2.2.2.2.2.1
theorem dX3_drawFraction_166 : decode cX3_drawFraction 166 = .ok (.lcmp, 1) := bdX3_drawFraction_152.2.2.2.2.2.2.2.2.1
theorem dX3_drawFraction_167 : decode cX3_drawFraction 167 = .ok (.ifCond .ne 5, 3) := bdX3_drawFraction_152.2.2.2.2.2.2.2.2.2.1
theorem dX3_drawFraction_170 : decode cX3_drawFraction 170 = .ok (.iconst 0, 1) := bdX3_drawFraction_152.2.2.2.2.2.2.2.2.2.2.1
theorem dX3_drawFraction_171 : decode cX3_drawFraction 171 = .ok (.ireturn, 1) := bdX3_drawFraction_152.2.2.2.2.2.2.2.2.2.2.2
set_option maxRecDepth 20000 in
theorem bdX3_drawFraction_172 : (decode cX3_drawFraction 172 = .ok (.iinc 18 (-1), 3)) ∧ (decode cX3_drawFraction 175 = .ok (.goto (-105), 3)) ∧ (decode cX3_drawFraction 178 = .ok (.iinc 15 1, 3)) ∧ (decode cX3_drawFraction 181 = .ok (.goto (-135), 3)) ∧ (decode cX3_drawFraction 184 = .ok (.bipush (-3), 2)) ∧ (decode cX3_drawFraction 186 = .ok (.ireturn, 1)) := by decide +kernel
theorem dX3_drawFraction_172 : decode cX3_drawFraction 172 = .ok (.iinc 18 (-1), 3) := bdX3_drawFraction_172.1
theorem dX3_drawFraction_175 : decode cX3_drawFraction 175 = .ok (.goto (-105), 3) := bdX3_drawFraction_172.2.1
theorem dX3_drawFraction_178 : decode cX3_drawFraction 178 = .ok (.iinc 15 1, 3) := bdX3_drawFraction_172.2.2.1
theorem dX3_drawFraction_181 : decode cX3_drawFraction 181 = .ok (.goto (-135), 3) := bdX3_drawFraction_172.2.2.2.1
theorem dX3_drawFraction_184 : decode cX3_drawFraction 184 = .ok (.bipush (-3), 2) := bdX3_drawFraction_172.2.2.2.2.1
theorem dX3_drawFraction_186 : decode cX3_drawFraction 186 = .ok (.ireturn, 1) := bdX3_drawFraction_172.2.2.2.2.2
set_option maxRecDepth 20000 in
theorem bdX3_sumOfWeights_0 : (decode cX3_sumOfWeights 0 = .ok (.lconst 0, 1)) ∧ (decode cX3_sumOfWeights 1 = .ok (.lstore_n 1, 1)) ∧ (decode cX3_sumOfWeights 2 = .ok (.iconst 0, 1)) ∧ (decode cX3_sumOfWeights 3 = .ok (.istore_n 3, 1)) ∧ (decode cX3_sumOfWeights 4 = .ok (.iload_n 3, 1)) ∧ (decode cX3_sumOfWeights 5 = .ok (.bipush 10, 2)) ∧ (decode cX3_sumOfWeights 7 = .ok (.if_icmp .ge 28, 3)) ∧ (decode cX3_sumOfWeights 10 = .ok (.lload_n 1, 1)) ∧ (decode cX3_sumOfWeights 11 = .ok (.aload_n 0, 1)) ∧ (decode cX3_sumOfWeights 12 = .ok (.getfield 24, 3)) ∧ (decode cX3_sumOfWeights 15 = .ok (.iload_n 3, 1)) ∧ (decode cX3_sumOfWeights 16 = .ok (.laload, 1)) := by decide +kernel
theorem dX3_sumOfWeights_0 : decode cX3_sumOfWeights 0 = .ok (.lconst 0, 1) := bdX3_sumOfWeights_0.1
theorem dX3_sumOfWeights_1 : decode cX3_sumOfWeights 1 = .ok (.lstore_n 1, 1) := bdX3_sumOfWeights_0.2.1
theorem dX3_sumOfWeights_2 : decode cX3_sumOfWeights 2 = .ok (.iconst 0, 1) := bdX3_sumOfWeights_0.2.2.1
theorem dX3_sumOfWeights_3 : decode cX3_sumOfWeights 3 = .ok (.istore_n 3, 1) := bdX3_sumOfWeights_0.2.2.2.1
theorem dX3_sumOfWeights_4 : decode cX3_sumOfWeights 4 = .ok (.iload_n 3, 1) := bdX3_sumOfWeights_0.2.2.2.2.1
theorem dX3_sumOfWeights_5 : decode cX3_sumOfWeights 5 = .ok (.bipush 10, 2) := bdX3_sumOfWeights_0.2.2.2.2.2.1
theorem dX3_sumOfWeights_7 : decode cX3_sumOfWeights 7 = .ok (.if_icmp .ge 28, 3) := bdX3_sumOfWeights_0.2.2.2.2.2.2.1
theorem dX3_sumOfWeights_10 : decode cX3_sumOfWeights 10 = .ok (.lload_n 1, 1) := bdX3_sumOfWeights_0.2.2.2.2.2.2.2.1
theorem dX3_sumOfWeights_11 : decode cX3_sumOfWeights 11 = .ok (.aload_n 0, 1) := bdX3_sumOfWeights_0.2.2.2.2.2.2.2.2.1
theorem dX3_sumOfWeights_12 : decode cX3_sumOfWeights 12 = .ok (.getfield 24, 3) := bdX3_sumOfWeights_0.2.2.2.2.2.2.2.2.2.1
theorem dX3_sumOfWeights_15 : decode cX3_sumOfWeights 15 = .ok (.iload_n 3, 1) := bdX3_sumOfWeights_0.2.2.2.2.2.2.2.2.2.2.1
theorem dX3_sumOfWeights_16 : decode cX3_sumOfWeights 16 = .ok (.laload, 1) := bdX3_sumOfWeights_0.2.2.2.2.2.2.2.2.2.2.2
set_option maxRecDepth 20000 in
theorem bdX3_sumOfWeights_17 : (decode cX3_sumOfWeights 17 = .ok (.ladd, 1)) ∧ (decode cX3_sumOfWeights 18 = .ok (.lstore_n 1, 1)) ∧ (decode cX3_sumOfWeights 19 = .ok (.lload_n 1, 1)) ∧ (decode cX3_sumOfWeights 20 = .ok (.lconst 0, 1)) ∧ (decode cX3_sumOfWeights 21 = .ok (.lcmp, 1)) ∧ (decode cX3_sumOfWeights 22 = .ok (.ifCond .ge 7, 3)) ∧ (decode cX3_sumOfWeights 25 = .ok (.ldc2_w 158, 3)) ∧ (decode cX3_sumOfWeights 28 = .ok (.lreturn, 1)) ∧ (decode cX3_sumOfWeights 29 = .ok (.iinc 3 1, 3)) ∧ (decode cX3_sumOfWeights 32 = .ok (.goto (-28), 3)) ∧ (decode cX3_sumOfWeights 35 = .ok (.lload_n 1, 1)) ∧ (decode cX3_sumOfWeights 36 = .ok (.lreturn, 1)) := by decide +kernel
theorem dX3_sumOfWeights_17 : decode cX3_sumOfWeights 17 = .ok (.ladd, 1) := bdX3_sumOfWeights_17.1
theorem dX3_sumOfWeights_18 : decode cX3_sumOfWeights 18 = .ok (.lstore_n 1, 1) := bdX3_sumOfWeights_17.2.1
theorem dX3_sumOfWeights_19 : decode cX3_sumOfWeights 19 = .ok (.lload_n 1, 1) := bdX3_sumOfWeights_17.2.2.1
theorem dX3_sumOfWeights_20 : decode cX3_sumOfWeights 20 = .ok (.lconst 0, 1) := bdX3_sumOfWeights_17.2.2.2.1
theorem dX3_sumOfWeights_21 : decode cX3_sumOfWeights 21 = .ok (.lcmp, 1) := bdX3_sumOfWeights_17.2.2.2.2.1
theorem dX3_sumOfWeights_22 : decode cX3_sumOfWeights 22 = .ok (.ifCond .ge 7, 3) := bdX3_sumOfWeights_17.2.2.2.2.2.1
theorem dX3_sumOfWeights_25 : decode cX3_sumOfWeights 25 = .ok (.ldc2_w 158, 3) := bdX3_sumOfWeights_17.2.2.2.2.2.2.1
theorem dX3_sumOfWeights_28 : decode cX3_sumOfWeights 28 = .ok (.lreturn, 1) := bdX3_sumOfWeights_17.2.2.2.2.2.2.2.1
theorem dX3_sumOfWeights_29 : decode cX3_sumOfWeights 29 = .ok (.iinc 3 1, 3) := bdX3_sumOfWeights_17.2.2.2.2.2.2.2.2.1
theorem dX3_sumOfWeights_32 : decode cX3_sumOfWeights 32 = .ok (.goto (-28), 3) := bdX3_sumOfWeights_17.2.2.2.2.2.2.2.2.2.1
theorem dX3_sumOfWeights_35 : decode cX3_sumOfWeights 35 = .ok (.lload_n 1, 1) := bdX3_sumOfWeights_17.2.2.2.2.2.2.2.2.2.2.1
theorem dX3_sumOfWeights_36 : decode cX3_sumOfWeights 36 = .ok (.lreturn, 1) := bdX3_sumOfWeights_17.2.2.2.2.2.2.2.2.2.2.2
set_option maxRecDepth 20000 in
theorem ggX3_drawPick_X3_sumOfWeights : GoodIn wsX3_drawPick wsX3_sumOfWeights := goodIn_r _ [5, 6, 7, 45, 46, 47, 48, 49, 50, 51, 52, 53, 54, 55] (by decide +kernel) (by decide +kernel)
set_option maxRecDepth 20000 in
theorem gX3_drawPick_X3_sumOfWeights : GoodIn wsX3_drawPick (wsV RX3 160 RX3 yX3_sumOfWeights wsX3_sumOfWeights) := goodIn_app (goodIn_of _ (by decide +kernel)) ggX3_drawPick_X3_sumOfWeights
set_option maxRecDepth 20000 in
theorem ggX3_drawPick_X3_drawSpan : GoodIn wsX3_drawPick wsX3_drawSpan := goodIn_r _ [11, 12, 13, 14, 15, 16, 4, 17, 18, 19, 20, 21, 22, 23, 24, 25, 26, 27, 28, 29, 30, 31, 32, 33, 34, 35, 36, 37, 38, 39, 40, 45, 46, 47, 48, 49, 50, 51, 52, 53, 54, 55, 56, 57, 58, 59, 60] (by decide +kernel) (by decide +kernel)
set_option maxRecDepth 20000 in
theorem gX3_drawPick_X3_drawSpan : GoodIn wsX3_drawPick (wsV RX3 79 RX3 yX3_drawSpan wsX3_drawSpan) := goodIn_app (goodIn_of _ (by decide +kernel)) ggX3_drawPick_X3_drawSpan
set_option maxRecDepth 20000 in
theorem ggX3_drawPick_X3_weightReaching : GoodIn wsX3_drawPick wsX3_weightReaching := goodIn_r _ [44, 6, 45, 46, 47, 48, 49, 50, 51, 52, 53, 54, 55] (by decide +kernel) (by decide +kernel)
set_option maxRecDepth 20000 in
theorem gX3_drawPick_X3_weightReaching : GoodIn wsX3_drawPick (wsV RX3 164 RX3 yX3_weightReaching wsX3_weightReaching) := goodIn_app (goodIn_of _ (by decide +kernel)) ggX3_drawPick_X3_weightReaching
set_option maxRecDepth 20000 in
theorem bdX3_drawPick_0 : (decode cX3_drawPick 0 = .ok (.aload_n 0, 1)) ∧ (decode cX3_drawPick 1 = .ok (.invokevirtual 160, 3)) ∧ (decode cX3_drawPick 4 = .ok (.lstore 5, 2)) ∧ (decode cX3_drawPick 6 = .ok (.lload 5, 2)) ∧ (decode cX3_drawPick 8 = .ok (.lconst 0, 1)) ∧ (decode cX3_drawPick 9 = .ok (.lcmp, 1)) ∧ (decode cX3_drawPick 10 = .ok (.ifCond .ne 6, 3)) ∧ (decode cX3_drawPick 13 = .ok (.bipush (-4), 2)) ∧ (decode cX3_drawPick 15 = .ok (.ireturn, 1)) ∧ (decode cX3_drawPick 16 = .ok (.lload 5, 2)) ∧ (decode cX3_drawPick 18 = .ok (.lconst 0, 1)) ∧ (decode cX3_drawPick 19 = .ok (.lcmp, 1)) := by decide +kernel
theorem dX3_drawPick_0 : decode cX3_drawPick 0 = .ok (.aload_n 0, 1) := bdX3_drawPick_0.1
theorem dX3_drawPick_1 : decode cX3_drawPick 1 = .ok (.invokevirtual 160, 3) := bdX3_drawPick_0.2.1
theorem dX3_drawPick_4 : decode cX3_drawPick 4 = .ok (.lstore 5, 2) := bdX3_drawPick_0.2.2.1
theorem dX3_drawPick_6 : decode cX3_drawPick 6 = .ok (.lload 5, 2) := bdX3_drawPick_0.2.2.2.1
theorem dX3_drawPick_8 : decode cX3_drawPick 8 = .ok (.lconst 0, 1) := bdX3_drawPick_0.2.2.2.2.1
theorem dX3_drawPick_9 : decode cX3_drawPick 9 = .ok (.lcmp, 1) := bdX3_drawPick_0.2.2.2.2.2.1
theorem dX3_drawPick_10 : decode cX3_drawPick 10 = .ok (.ifCond .ne 6, 3) := bdX3_drawPick_0.2.2.2.2.2.2.1
theorem dX3_drawPick_13 : decode cX3_drawPick 13 = .ok (.bipush (-4), 2) := bdX3_drawPick_0.2.2.2.2.2.2.2.1
theorem dX3_drawPick_15 : decode cX3_drawPick 15 = .ok (.ireturn, 1) := bdX3_drawPick_0.2.2.2.2.2.2.2.2.1
theorem dX3_drawPick_16 : decode cX3_drawPick 16 = .ok (.lload 5, 2) := bdX3_drawPick_0.2.2.2.2.2.2.2.2.2.1
theorem dX3_drawPick_18 : decode cX3_drawPick 18 = .ok (.lconst 0, 1) := bdX3_drawPick_0.2.2.2.2.2.2.2.2.2.2.1
theorem dX3_drawPick_19 : decode cX3_drawPick 19 = .ok (.lcmp, 1) := bdX3_drawPick_0.2.2.2.2.2.2.2.2.2.2.2
set_option maxRecDepth 20000 in
theorem bdX3_drawPick_20 : (decode cX3_drawPick 20 = .ok (.ifCond .ge 6, 3)) ∧ (decode cX3_drawPick 23 = .ok (.bipush (-5), 2)) ∧ (decode cX3_drawPick 25 = .ok (.ireturn, 1)) ∧ (decode cX3_drawPick 26 = .ok (.aload_n 0, 1)) ∧ (decode cX3_drawPick 27 = .ok (.lload_n 1, 1)) ∧ (decode cX3_drawPick 28 = .ok (.iload_n 3, 1)) ∧ (decode cX3_drawPick 29 = .ok (.iload 4, 2)) ∧ (decode cX3_drawPick 31 = .ok (.lload 5, 2)) ∧ (decode cX3_drawPick 33 = .ok (.invokevirtual 79, 3)) ∧ (decode cX3_drawPick 36 = .ok (.lstore 7, 2)) ∧ (decode cX3_drawPick 38 = .ok (.lload 7, 2)) ∧ (decode cX3_drawPick 40 = .ok (.lconst 0, 1)) := by decide +kernel
theorem dX3_drawPick_20 : decode cX3_drawPick 20 = .ok (.ifCond .ge 6, 3) := bdX3_drawPick_20.1
theorem dX3_drawPick_23 : decode cX3_drawPick 23 = .ok (.bipush (-5), 2) := bdX3_drawPick_20.2.1
theorem dX3_drawPick_25 : decode cX3_drawPick 25 = .ok (.ireturn, 1) := bdX3_drawPick_20.2.2.1
theorem dX3_drawPick_26 : decode cX3_drawPick 26 = .ok (.aload_n 0, 1) := bdX3_drawPick_20.2.2.2.1
theorem dX3_drawPick_27 : decode cX3_drawPick 27 = .ok (.lload_n 1, 1) := bdX3_drawPick_20.2.2.2.2.1
theorem dX3_drawPick_28 : decode cX3_drawPick 28 = .ok (.iload_n 3, 1) := bdX3_drawPick_20.2.2.2.2.2.1
theorem dX3_drawPick_29 : decode cX3_drawPick 29 = .ok (.iload 4, 2) := bdX3_drawPick_20.2.2.2.2.2.2.1
theorem dX3_drawPick_31 : decode cX3_drawPick 31 = .ok (.lload 5, 2) := bdX3_drawPick_20.2.2.2.2.2.2.2.1
theorem dX3_drawPick_33 : decode cX3_drawPick 33 = .ok (.invokevirtual 79, 3) := bdX3_drawPick_20.2.2.2.2.2.2.2.2.1
theorem dX3_drawPick_36 : decode cX3_drawPick 36 = .ok (.lstore 7, 2) := bdX3_drawPick_20.2.2.2.2.2.2.2.2.2.1
theorem dX3_drawPick_38 : decode cX3_drawPick 38 = .ok (.lload 7, 2) := bdX3_drawPick_20.2.2.2.2.2.2.2.2.2.2.1
theorem dX3_drawPick_40 : decode cX3_drawPick 40 = .ok (.lconst 0, 1) := bdX3_drawPick_20.2.2.2.2.2.2.2.2.2.2.2
set_option maxRecDepth 20000 in
theorem bdX3_drawPick_41 : (decode cX3_drawPick 41 = .ok (.lcmp, 1)) ∧ (decode cX3_drawPick 42 = .ok (.ifCond .ge 8, 3)) ∧ (decode cX3_drawPick 45 = .ok (.bipush (-3), 2)) ∧ (decode cX3_drawPick 47 = .ok (.goto 9, 3)) ∧ (decode cX3_drawPick 50 = .ok (.aload_n 0, 1)) ∧ (decode cX3_drawPick 51 = .ok (.lload 7, 2)) ∧ (decode cX3_drawPick 53 = .ok (.invokevirtual 164, 3)) ∧ (decode cX3_drawPick 56 = .ok (.ireturn, 1)) := by decide +kernel
theorem dX3_drawPick_41 : decode cX3_drawPick 41 = .ok (.lcmp, 1) := bdX3_drawPick_41.1
theorem dX3_drawPick_42 : decode cX3_drawPick 42 = .ok (.ifCond .ge 8, 3) := bdX3_drawPick_41.2.1
theorem dX3_drawPick_45 : decode cX3_drawPick 45 = .ok (.bipush (-3), 2) := bdX3_drawPick_41.2.2.1
theorem dX3_drawPick_47 : decode cX3_drawPick 47 = .ok (.goto 9, 3) := bdX3_drawPick_41.2.2.2.1
theorem dX3_drawPick_50 : decode cX3_drawPick 50 = .ok (.aload_n 0, 1) := bdX3_drawPick_41.2.2.2.2.1
theorem dX3_drawPick_51 : decode cX3_drawPick 51 = .ok (.lload 7, 2) := bdX3_drawPick_41.2.2.2.2.2.1
theorem dX3_drawPick_53 : decode cX3_drawPick 53 = .ok (.invokevirtual 164, 3) := bdX3_drawPick_41.2.2.2.2.2.2.1
theorem dX3_drawPick_56 : decode cX3_drawPick 56 = .ok (.ireturn, 1) := bdX3_drawPick_41.2.2.2.2.2.2.2
set_option maxRecDepth 20000 in
theorem bdX3_weightReaching_0 : (decode cX3_weightReaching 0 = .ok (.lload_n 1, 1)) ∧ (decode cX3_weightReaching 1 = .ok (.lstore_n 3, 1)) ∧ (decode cX3_weightReaching 2 = .ok (.iconst 0, 1)) ∧ (decode cX3_weightReaching 3 = .ok (.istore 5, 2)) ∧ (decode cX3_weightReaching 5 = .ok (.iload 5, 2)) ∧ (decode cX3_weightReaching 7 = .ok (.bipush 9, 2)) ∧ (decode cX3_weightReaching 9 = .ok (.if_icmp .ge 31, 3)) ∧ (decode cX3_weightReaching 12 = .ok (.lload_n 3, 1)) ∧ (decode cX3_weightReaching 13 = .ok (.aload_n 0, 1)) ∧ (decode cX3_weightReaching 14 = .ok (.getfield 24, 3)) ∧ (decode cX3_weightReaching 17 = .ok (.iload 5, 2)) ∧ (decode cX3_weightReaching 19 = .ok (.laload, 1)) := by decide +kernel
theorem dX3_weightReaching_0 : decode cX3_weightReaching 0 = .ok (.lload_n 1, 1) := bdX3_weightReaching_0.1
theorem dX3_weightReaching_1 : decode cX3_weightReaching 1 = .ok (.lstore_n 3, 1) := bdX3_weightReaching_0.2.1
theorem dX3_weightReaching_2 : decode cX3_weightReaching 2 = .ok (.iconst 0, 1) := bdX3_weightReaching_0.2.2.1
theorem dX3_weightReaching_3 : decode cX3_weightReaching 3 = .ok (.istore 5, 2) := bdX3_weightReaching_0.2.2.2.1
theorem dX3_weightReaching_5 : decode cX3_weightReaching 5 = .ok (.iload 5, 2) := bdX3_weightReaching_0.2.2.2.2.1
theorem dX3_weightReaching_7 : decode cX3_weightReaching 7 = .ok (.bipush 9, 2) := bdX3_weightReaching_0.2.2.2.2.2.1
theorem dX3_weightReaching_9 : decode cX3_weightReaching 9 = .ok (.if_icmp .ge 31, 3) := bdX3_weightReaching_0.2.2.2.2.2.2.1
theorem dX3_weightReaching_12 : decode cX3_weightReaching 12 = .ok (.lload_n 3, 1) := bdX3_weightReaching_0.2.2.2.2.2.2.2.1
theorem dX3_weightReaching_13 : decode cX3_weightReaching 13 = .ok (.aload_n 0, 1) := bdX3_weightReaching_0.2.2.2.2.2.2.2.2.1
theorem dX3_weightReaching_14 : decode cX3_weightReaching 14 = .ok (.getfield 24, 3) := bdX3_weightReaching_0.2.2.2.2.2.2.2.2.2.1
theorem dX3_weightReaching_17 : decode cX3_weightReaching 17 = .ok (.iload 5, 2) := bdX3_weightReaching_0.2.2.2.2.2.2.2.2.2.2.1
theorem dX3_weightReaching_19 : decode cX3_weightReaching 19 = .ok (.laload, 1) := bdX3_weightReaching_0.2.2.2.2.2.2.2.2.2.2.2
set_option maxRecDepth 20000 in
theorem bdX3_weightReaching_20 : (decode cX3_weightReaching 20 = .ok (.lcmp, 1)) ∧ (decode cX3_weightReaching 21 = .ok (.ifCond .lt 19, 3)) ∧ (decode cX3_weightReaching 24 = .ok (.lload_n 3, 1)) ∧ (decode cX3_weightReaching 25 = .ok (.aload_n 0, 1)) ∧ (decode cX3_weightReaching 26 = .ok (.getfield 24, 3)) ∧ (decode cX3_weightReaching 29 = .ok (.iload 5, 2)) ∧ (decode cX3_weightReaching 31 = .ok (.laload, 1)) ∧ (decode cX3_weightReaching 32 = .ok (.lsub, 1)) ∧ (decode cX3_weightReaching 33 = .ok (.lstore_n 3, 1)) ∧ (decode cX3_weightReaching 34 = .ok (.iinc 5 1, 3)) ∧ (decode cX3_weightReaching 37 = .ok (.goto (-32), 3)) ∧ (decode cX3_weightReaching 40 = .ok (.iload 5, 2)) := by decide +kernel
theorem dX3_weightReaching_20 : decode cX3_weightReaching 20 = .ok (.lcmp, 1) := bdX3_weightReaching_20.1
theorem dX3_weightReaching_21 : decode cX3_weightReaching 21 = .ok (.ifCond .lt 19, 3) := bdX3_weightReaching_20.2.1
theorem dX3_weightReaching_24 : decode cX3_weightReaching 24 = .ok (.lload_n 3, 1) := bdX3_weightReaching_20.2.2.1
theorem dX3_weightReaching_25 : decode cX3_weightReaching 25 = .ok (.aload_n 0, 1) := bdX3_weightReaching_20.2.2.2.1
theorem dX3_weightReaching_26 : decode cX3_weightReaching 26 = .ok (.getfield 24, 3) := bdX3_weightReaching_20.2.2.2.2.1
theorem dX3_weightReaching_29 : decode cX3_weightReaching 29 = .ok (.iload 5, 2) := bdX3_weightReaching_20.2.2.2.2.2.1
theorem dX3_weightReaching_31 : decode cX3_weightReaching 31 = .ok (.laload, 1) := bdX3_weightReaching_20.2.2.2.2.2.2.1
theorem dX3_weightReaching_32 : decode cX3_weightReaching 32 = .ok (.lsub, 1) := bdX3_weightReaching_20.2.2.2.2.2.2.2.1
theorem dX3_weightReaching_33 : decode cX3_weightReaching 33 = .ok (.lstore_n 3, 1) := bdX3_weightReaching_20.2.2.2.2.2.2.2.2.1
theorem dX3_weightReaching_34 : decode cX3_weightReaching 34 = .ok (.iinc 5 1, 3) := bdX3_weightReaching_20.2.2.2.2.2.2.2.2.2.1
theorem dX3_weightReaching_37 : decode cX3_weightReaching 37 = .ok (.goto (-32), 3) := bdX3_weightReaching_20.2.2.2.2.2.2.2.2.2.2.1
theorem dX3_weightReaching_40 : decode cX3_weightReaching 40 = .ok (.iload 5, 2) := bdX3_weightReaching_20.2.2.2.2.2.2.2.2.2.2.2
theorem dX3_weightReaching_42 : decode cX3_weightReaching 42 = .ok (.ireturn, 1) := by decide +kernel
set_option maxRecDepth 20000 in
theorem ggX3_drawPermutation_X3_drawSpan : GoodIn wsX3_drawPermutation wsX3_drawSpan := goodIn_r _ [6, 7, 8, 9, 10, 11, 5, 12, 13, 14, 15, 16, 17, 18, 19, 20, 21, 22, 23, 24, 25, 26, 27, 28, 29, 30, 31, 32, 33, 34, 35, 36, 37, 38, 39, 40, 41, 42, 43, 44, 45, 46, 47, 48, 49, 50, 51] (by decide +kernel) (by decide +kernel)
set_option maxRecDepth 20000 in
theorem gX3_drawPermutation_X3_drawSpan : GoodIn wsX3_drawPermutation (wsV RX3 79 RX3 yX3_drawSpan wsX3_drawSpan) := goodIn_app (goodIn_of _ (by decide +kernel)) ggX3_drawPermutation_X3_drawSpan
set_option maxRecDepth 20000 in
theorem bdX3_drawPermutation_0 : (decode cX3_drawPermutation 0 = .ok (.iconst 0, 1)) ∧ (decode cX3_drawPermutation 1 = .ok (.istore 6, 2)) ∧ (decode cX3_drawPermutation 3 = .ok (.iload 6, 2)) ∧ (decode cX3_drawPermutation 5 = .ok (.iload 5, 2)) ∧ (decode cX3_drawPermutation 7 = .ok (.if_icmp .ge 18, 3)) ∧ (decode cX3_drawPermutation 10 = .ok (.aload_n 0, 1)) ∧ (decode cX3_drawPermutation 11 = .ok (.getfield 27, 3)) ∧ (decode cX3_drawPermutation 14 = .ok (.iload 6, 2)) ∧ (decode cX3_drawPermutation 16 = .ok (.iload 6, 2)) ∧ (decode cX3_drawPermutation 18 = .ok (.iastore, 1)) ∧ (decode cX3_drawPermutation 19 = .ok (.iinc 6 1, 3)) ∧ (decode cX3_drawPermutation 22 = .ok (.goto (-19), 3)) := by decide +kernel
theorem dX3_drawPermutation_0 : decode cX3_drawPermutation 0 = .ok (.iconst 0, 1) := bdX3_drawPermutation_0.1
theorem dX3_drawPermutation_1 : decode cX3_drawPermutation 1 = .ok (.istore 6, 2) := bdX3_drawPermutation_0.2.1
theorem dX3_drawPermutation_3 : decode cX3_drawPermutation 3 = .ok (.iload 6, 2) := bdX3_drawPermutation_0.2.2.1
theorem dX3_drawPermutation_5 : decode cX3_drawPermutation 5 = .ok (.iload 5, 2) := bdX3_drawPermutation_0.2.2.2.1
theorem dX3_drawPermutation_7 : decode cX3_drawPermutation 7 = .ok (.if_icmp .ge 18, 3) := bdX3_drawPermutation_0.2.2.2.2.1
theorem dX3_drawPermutation_10 : decode cX3_drawPermutation 10 = .ok (.aload_n 0, 1) := bdX3_drawPermutation_0.2.2.2.2.2.1
theorem dX3_drawPermutation_11 : decode cX3_drawPermutation 11 = .ok (.getfield 27, 3) := bdX3_drawPermutation_0.2.2.2.2.2.2.1
theorem dX3_drawPermutation_14 : decode cX3_drawPermutation 14 = .ok (.iload 6, 2) := bdX3_drawPermutation_0.2.2.2.2.2.2.2.1
theorem dX3_drawPermutation_16 : decode cX3_drawPermutation 16 = .ok (.iload 6, 2) := bdX3_drawPermutation_0.2.2.2.2.2.2.2.2.1
theorem dX3_drawPermutation_18 : decode cX3_drawPermutation 18 = .ok (.iastore, 1) := bdX3_drawPermutation_0.2.2.2.2.2.2.2.2.2.1
theorem dX3_drawPermutation_19 : decode cX3_drawPermutation 19 = .ok (.iinc 6 1, 3) := bdX3_drawPermutation_0.2.2.2.2.2.2.2.2.2.2.1
theorem dX3_drawPermutation_22 : decode cX3_drawPermutation 22 = .ok (.goto (-19), 3) := bdX3_drawPermutation_0.2.2.2.2.2.2.2.2.2.2.2
set_option maxRecDepth 20000 in
theorem bdX3_drawPermutation_25 : (decode cX3_drawPermutation 25 = .ok (.iload 5, 2)) ∧ (decode cX3_drawPermutation 27 = .ok (.iconst 1, 1)) ∧ (decode cX3_drawPermutation 28 = .ok (.isub, 1)) ∧ (decode cX3_drawPermutation 29 = .ok (.istore 6, 2)) ∧ (decode cX3_drawPermutation 31 = .ok (.iload 6, 2)) ∧ (decode cX3_drawPermutation 33 = .ok (.iconst 1, 1)) ∧ (decode cX3_drawPermutation 34 = .ok (.if_icmp .lt 73, 3)) ∧ (decode cX3_drawPermutation 37 = .ok (.aload_n 0, 1)) ∧ (decode cX3_drawPermutation 38 = .ok (.lload_n 1, 1)) ∧ (decode cX3_drawPermutation 39 = .ok (.iload_n 3, 1)) ∧ (decode cX3_drawPermutation 40 = .ok (.iload 4, 2)) ∧ (decode cX3_drawPermutation 42 = .ok (.iload 6, 2)) := by decide +kernel
theorem dX3_drawPermutation_25 : decode cX3_drawPermutation 25 = .ok (.iload 5, 2) := bdX3_drawPermutation_25.1
theorem dX3_drawPermutation_27 : decode cX3_drawPermutation 27 = .ok (.iconst 1, 1) := bdX3_drawPermutation_25.2.1
theorem dX3_drawPermutation_28 : decode cX3_drawPermutation 28 = .ok (.isub, 1) := bdX3_drawPermutation_25.2.2.1
theorem dX3_drawPermutation_29 : decode cX3_drawPermutation 29 = .ok (.istore 6, 2) := bdX3_drawPermutation_25.2.2.2.1
theorem dX3_drawPermutation_31 : decode cX3_drawPermutation 31 = .ok (.iload 6, 2) := bdX3_drawPermutation_25.2.2.2.2.1
theorem dX3_drawPermutation_33 : decode cX3_drawPermutation 33 = .ok (.iconst 1, 1) := bdX3_drawPermutation_25.2.2.2.2.2.1
theorem dX3_drawPermutation_34 : decode cX3_drawPermutation 34 = .ok (.if_icmp .lt 73, 3) := bdX3_drawPermutation_25.2.2.2.2.2.2.1
theorem dX3_drawPermutation_37 : decode cX3_drawPermutation 37 = .ok (.aload_n 0, 1) := bdX3_drawPermutation_25.2.2.2.2.2.2.2.1
theorem dX3_drawPermutation_38 : decode cX3_drawPermutation 38 = .ok (.lload_n 1, 1) := bdX3_drawPermutation_25.2.2.2.2.2.2.2.2.1
theorem dX3_drawPermutation_39 : decode cX3_drawPermutation 39 = .ok (.iload_n 3, 1) := bdX3_drawPermutation_25.2.2.2.2.2.2.2.2.2.1
theorem dX3_drawPermutation_40 : decode cX3_drawPermutation 40 = .ok (.iload 4, 2) := bdX3_drawPermutation_25.2.2.2.2.2.2.2.2.2.2.1
theorem dX3_drawPermutation_42 : decode cX3_drawPermutation 42 = .ok (.iload 6, 2) := bdX3_drawPermutation_25.2.2.2.2.2.2.2.2.2.2.2
set_option maxRecDepth 20000 in
theorem bdX3_drawPermutation_44 : (decode cX3_drawPermutation 44 = .ok (.iadd, 1)) ∧ (decode cX3_drawPermutation 45 = .ok (.iload 6, 2)) ∧ (decode cX3_drawPermutation 47 = .ok (.iconst 1, 1)) ∧ (decode cX3_drawPermutation 48 = .ok (.iadd, 1)) ∧ (decode cX3_drawPermutation 49 = .ok (.i2l, 1)) ∧ (decode cX3_drawPermutation 50 = .ok (.invokevirtual 79, 3)) ∧ (decode cX3_drawPermutation 53 = .ok (.lstore 7, 2)) ∧ (decode cX3_drawPermutation 55 = .ok (.lload 7, 2)) ∧ (decode cX3_drawPermutation 57 = .ok (.lconst 0, 1)) ∧ (decode cX3_drawPermutation 58 = .ok (.lcmp, 1)) ∧ (decode cX3_drawPermutation 59 = .ok (.ifCond .ge 5, 3)) ∧ (decode cX3_drawPermutation 62 = .ok (.iconst 0, 1)) := by decide +kernel
theorem dX3_drawPermutation_44 : decode cX3_drawPermutation 44 = .ok (.iadd, 1) := bdX3_drawPermutation_44.1
theorem dX3_drawPermutation_45 : decode cX3_drawPermutation 45 = .ok (.iload 6, 2) := bdX3_drawPermutation_44.2.1
theorem dX3_drawPermutation_47 : decode cX3_drawPermutation 47 = .ok (.iconst 1, 1) := bdX3_drawPermutation_44.2.2.1
theorem dX3_drawPermutation_48 : decode cX3_drawPermutation 48 = .ok (.iadd, 1) := bdX3_drawPermutation_44.2.2.2.1
theorem dX3_drawPermutation_49 : decode cX3_drawPermutation 49 = .ok (.i2l, 1) := bdX3_drawPermutation_44.2.2.2.2.1
theorem dX3_drawPermutation_50 : decode cX3_drawPermutation 50 = .ok (.invokevirtual 79, 3) := bdX3_drawPermutation_44.2.2.2.2.2.1
theorem dX3_drawPermutation_53 : decode cX3_drawPermutation 53 = .ok (.lstore 7, 2) := bdX3_drawPermutation_44.2.2.2.2.2.2.1
theorem dX3_drawPermutation_55 : decode cX3_drawPermutation 55 = .ok (.lload 7, 2) := bdX3_drawPermutation_44.2.2.2.2.2.2.2.1
theorem dX3_drawPermutation_57 : decode cX3_drawPermutation 57 = .ok (.lconst 0, 1) := bdX3_drawPermutation_44.2.2.2.2.2.2.2.2.1
theorem dX3_drawPermutation_58 : decode cX3_drawPermutation 58 = .ok (.lcmp, 1) := bdX3_drawPermutation_44.2.2.2.2.2.2.2.2.2.1
theorem dX3_drawPermutation_59 : decode cX3_drawPermutation 59 = .ok (.ifCond .ge 5, 3) := bdX3_drawPermutation_44.2.2.2.2.2.2.2.2.2.2.1
theorem dX3_drawPermutation_62 : decode cX3_drawPermutation 62 = .ok (.iconst 0, 1) := bdX3_drawPermutation_44.2.2.2.2.2.2.2.2.2.2.2
set_option maxRecDepth 20000 in
theorem bdX3_drawPermutation_63 : (decode cX3_drawPermutation 63 = .ok (.ireturn, 1)) ∧ (decode cX3_drawPermutation 64 = .ok (.lload 7, 2)) ∧ (decode cX3_drawPermutation 66 = .ok (.l2i, 1)) ∧ (decode cX3_drawPermutation 67 = .ok (.istore 9, 2)) ∧ (decode cX3_drawPermutation 69 = .ok (.aload_n 0, 1)) ∧ (decode cX3_drawPermutation 70 = .ok (.getfield 27, 3)) ∧ (decode cX3_drawPermutation 73 = .ok (.iload 6, 2)) ∧ (decode cX3_drawPermutation 75 = .ok (.iaload, 1)) ∧ (decode cX3_drawPermutation 76 = .ok (.istore 10, 2)) ∧ (decode cX3_drawPermutation 78 = .ok (.aload_n 0, 1)) ∧ (decode cX3_drawPermutation 79 = .ok (.getfield 27, 3)) ∧ (decode cX3_drawPermutation 82 = .ok (.iload 6, 2)) := by decide +kernel
theorem dX3_drawPermutation_63 : decode cX3_drawPermutation 63 = .ok (.ireturn, 1) := bdX3_drawPermutation_63.1
theorem dX3_drawPermutation_64 : decode cX3_drawPermutation 64 = .ok (.lload 7, 2) := bdX3_drawPermutation_63.2.1
theorem dX3_drawPermutation_66 : decode cX3_drawPermutation 66 = .ok (.l2i, 1) := bdX3_drawPermutation_63.2.2.1
theorem dX3_drawPermutation_67 : decode cX3_drawPermutation 67 = .ok (.istore 9, 2) := bdX3_drawPermutation_63.2.2.2.1
theorem dX3_drawPermutation_69 : decode cX3_drawPermutation 69 = .ok (.aload_n 0, 1) := bdX3_drawPermutation_63.2.2.2.2.1
theorem dX3_drawPermutation_70 : decode cX3_drawPermutation 70 = .ok (.getfield 27, 3) := bdX3_drawPermutation_63.2.2.2.2.2.1
theorem dX3_drawPermutation_73 : decode cX3_drawPermutation 73 = .ok (.iload 6, 2) := bdX3_drawPermutation_63.2.2.2.2.2.2.1
theorem dX3_drawPermutation_75 : decode cX3_drawPermutation 75 = .ok (.iaload, 1) := bdX3_drawPermutation_63.2.2.2.2.2.2.2.1
theorem dX3_drawPermutation_76 : decode cX3_drawPermutation 76 = .ok (.istore 10, 2) := bdX3_drawPermutation_63.2.2.2.2.2.2.2.2.1
theorem dX3_drawPermutation_78 : decode cX3_drawPermutation 78 = .ok (.aload_n 0, 1) := bdX3_drawPermutation_63.2.2.2.2.2.2.2.2.2.1
theorem dX3_drawPermutation_79 : decode cX3_drawPermutation 79 = .ok (.getfield 27, 3) := bdX3_drawPermutation_63.2.2.2.2.2.2.2.2.2.2.1
theorem dX3_drawPermutation_82 : decode cX3_drawPermutation 82 = .ok (.iload 6, 2) := bdX3_drawPermutation_63.2.2.2.2.2.2.2.2.2.2.2
set_option maxRecDepth 20000 in
theorem bdX3_drawPermutation_84 : (decode cX3_drawPermutation 84 = .ok (.aload_n 0, 1)) ∧ (decode cX3_drawPermutation 85 = .ok (.getfield 27, 3)) ∧ (decode cX3_drawPermutation 88 = .ok (.iload 9, 2)) ∧ (decode cX3_drawPermutation 90 = .ok (.iaload, 1)) ∧ (decode cX3_drawPermutation 91 = .ok (.iastore, 1)) ∧ (decode cX3_drawPermutation 92 = .ok (.aload_n 0, 1)) ∧ (decode cX3_drawPermutation 93 = .ok (.getfield 27, 3)) ∧ (decode cX3_drawPermutation 96 = .ok (.iload 9, 2)) ∧ (decode cX3_drawPermutation 98 = .ok (.iload 10, 2)) ∧ (decode cX3_drawPermutation 100 = .ok (.iastore, 1)) ∧ (decode cX3_drawPermutation 101 = .ok (.iinc 6 (-1), 3)) ∧ (decode cX3_drawPermutation 104 = .ok (.goto (-73), 3)) := by decide +kernel
theorem dX3_drawPermutation_84 : decode cX3_drawPermutation 84 = .ok (.aload_n 0, 1) := bdX3_drawPermutation_84.1
theorem dX3_drawPermutation_85 : decode cX3_drawPermutation 85 = .ok (.getfield 27, 3) := bdX3_drawPermutation_84.2.1
theorem dX3_drawPermutation_88 : decode cX3_drawPermutation 88 = .ok (.iload 9, 2) := bdX3_drawPermutation_84.2.2.1
theorem dX3_drawPermutation_90 : decode cX3_drawPermutation 90 = .ok (.iaload, 1) := bdX3_drawPermutation_84.2.2.2.1
theorem dX3_drawPermutation_91 : decode cX3_drawPermutation 91 = .ok (.iastore, 1) := bdX3_drawPermutation_84.2.2.2.2.1
theorem dX3_drawPermutation_92 : decode cX3_drawPermutation 92 = .ok (.aload_n 0, 1) := bdX3_drawPermutation_84.2.2.2.2.2.1
theorem dX3_drawPermutation_93 : decode cX3_drawPermutation 93 = .ok (.getfield 27, 3) := bdX3_drawPermutation_84.2.2.2.2.2.2.1
theorem dX3_drawPermutation_96 : decode cX3_drawPermutation 96 = .ok (.iload 9, 2) := bdX3_drawPermutation_84.2.2.2.2.2.2.2.1
theorem dX3_drawPermutation_98 : decode cX3_drawPermutation 98 = .ok (.iload 10, 2) := bdX3_drawPermutation_84.2.2.2.2.2.2.2.2.1
theorem dX3_drawPermutation_100 : decode cX3_drawPermutation 100 = .ok (.iastore, 1) := bdX3_drawPermutation_84.2.2.2.2.2.2.2.2.2.1
theorem dX3_drawPermutation_101 : decode cX3_drawPermutation 101 = .ok (.iinc 6 (-1), 3) := bdX3_drawPermutation_84.2.2.2.2.2.2.2.2.2.2.1
theorem dX3_drawPermutation_104 : decode cX3_drawPermutation 104 = .ok (.goto (-73), 3) := bdX3_drawPermutation_84.2.2.2.2.2.2.2.2.2.2.2
set_option maxRecDepth 20000 in
theorem bdX3_drawPermutation_107 : (decode cX3_drawPermutation 107 = .ok (.iconst 1, 1)) ∧ (decode cX3_drawPermutation 108 = .ok (.ireturn, 1)) := by decide +kernel
theorem dX3_drawPermutation_107 : decode cX3_drawPermutation 107 = .ok (.iconst 1, 1) := bdX3_drawPermutation_107.1
theorem dX3_drawPermutation_108 : decode cX3_drawPermutation 108 = .ok (.ireturn, 1) := bdX3_drawPermutation_107.2
set_option maxRecDepth 20000 in
theorem bdX3_streamAt_0 : (decode cX3_streamAt 0 = .ok (.iload_n 1, 1)) ∧ (decode cX3_streamAt 1 = .ok (.ifCond .lt 11, 3)) ∧ (decode cX3_streamAt 4 = .ok (.iload_n 1, 1)) ∧ (decode cX3_streamAt 5 = .ok (.aload_n 0, 1)) ∧ (decode cX3_streamAt 6 = .ok (.getfield 37, 3)) ∧ (decode cX3_streamAt 9 = .ok (.if_icmp .lt 7, 3)) ∧ (decode cX3_streamAt 12 = .ok (.aconst_null, 1)) ∧ (decode cX3_streamAt 13 = .ok (.goto 9, 3)) ∧ (decode cX3_streamAt 16 = .ok (.aload_n 0, 1)) ∧ (decode cX3_streamAt 17 = .ok (.getfield 33, 3)) ∧ (decode cX3_streamAt 20 = .ok (.iload_n 1, 1)) ∧ (decode cX3_streamAt 21 = .ok (.aaload, 1)) := by decide +kernel
theorem dX3_streamAt_0 : decode cX3_streamAt 0 = .ok (.iload_n 1, 1) := bdX3_streamAt_0.1
theorem dX3_streamAt_1 : decode cX3_streamAt 1 = .ok (.ifCond .lt 11, 3) := bdX3_streamAt_0.2.1
theorem dX3_streamAt_4 : decode cX3_streamAt 4 = .ok (.iload_n 1, 1) := bdX3_streamAt_0.2.2.1
theorem dX3_streamAt_5 : decode cX3_streamAt 5 = .ok (.aload_n 0, 1) := bdX3_streamAt_0.2.2.2.1
theorem dX3_streamAt_6 : decode cX3_streamAt 6 = .ok (.getfield 37, 3) := bdX3_streamAt_0.2.2.2.2.1
theorem dX3_streamAt_9 : decode cX3_streamAt 9 = .ok (.if_icmp .lt 7, 3) := bdX3_streamAt_0.2.2.2.2.2.1
theorem dX3_streamAt_12 : decode cX3_streamAt 12 = .ok (.aconst_null, 1) := bdX3_streamAt_0.2.2.2.2.2.2.1
theorem dX3_streamAt_13 : decode cX3_streamAt 13 = .ok (.goto 9, 3) := bdX3_streamAt_0.2.2.2.2.2.2.2.1
theorem dX3_streamAt_16 : decode cX3_streamAt 16 = .ok (.aload_n 0, 1) := bdX3_streamAt_0.2.2.2.2.2.2.2.2.1
theorem dX3_streamAt_17 : decode cX3_streamAt 17 = .ok (.getfield 33, 3) := bdX3_streamAt_0.2.2.2.2.2.2.2.2.2.1
theorem dX3_streamAt_20 : decode cX3_streamAt 20 = .ok (.iload_n 1, 1) := bdX3_streamAt_0.2.2.2.2.2.2.2.2.2.2.1
theorem dX3_streamAt_21 : decode cX3_streamAt 21 = .ok (.aaload, 1) := bdX3_streamAt_0.2.2.2.2.2.2.2.2.2.2.2
theorem dX3_streamAt_22 : decode cX3_streamAt 22 = .ok (.areturn, 1) := by decide +kernel
set_option maxRecDepth 20000 in
theorem ggX3_addStream_X2_init : GoodIn wsX3_addStream wsX2_init := goodIn_r _ [8, 9, 10, 11, 12, 13, 14, 15, 27, 28, 29, 30] (by decide +kernel) (by decide +kernel)
set_option maxRecDepth 20000 in
theorem gX3_addStream_X2_init : GoodIn wsX3_addStream (wsX2_init) := ggX3_addStream_X2_init
set_option maxRecDepth 20000 in
theorem bdX3_addStream_0 : (decode cX3_addStream 0 = .ok (.aload_n 0, 1)) ∧ (decode cX3_addStream 1 = .ok (.getfield 37, 3)) ∧ (decode cX3_addStream 4 = .ok (.istore 4, 2)) ∧ (decode cX3_addStream 6 = .ok (.aload_n 0, 1)) ∧ (decode cX3_addStream 7 = .ok (.getfield 33, 3)) ∧ (decode cX3_addStream 10 = .ok (.iload 4, 2)) ∧ (decode cX3_addStream 12 = .ok (.new 31, 3)) ∧ (decode cX3_addStream 15 = .ok (.dup, 1)) ∧ (decode cX3_addStream 16 = .ok (.lload_n 1, 1)) ∧ (decode cX3_addStream 17 = .ok (.iload_n 3, 1)) ∧ (decode cX3_addStream 18 = .ok (.invokespecial 168, 3)) ∧ (decode cX3_addStream 21 = .ok (.aastore, 1)) := by decide +kernel
theorem dX3_addStream_0 : decode cX3_addStream 0 = .ok (.aload_n 0, 1) := bdX3_addStream_0.1
theorem dX3_addStream_1 : decode cX3_addStream 1 = .ok (.getfield 37, 3) := bdX3_addStream_0.2.1
theorem dX3_addStream_4 : decode cX3_addStream 4 = .ok (.istore 4, 2) := bdX3_addStream_0.2.2.1
theorem dX3_addStream_6 : decode cX3_addStream 6 = .ok (.aload_n 0, 1) := bdX3_addStream_0.2.2.2.1
theorem dX3_addStream_7 : decode cX3_addStream 7 = .ok (.getfield 33, 3) := bdX3_addStream_0.2.2.2.2.1
theorem dX3_addStream_10 : decode cX3_addStream 10 = .ok (.iload 4, 2) := bdX3_addStream_0.2.2.2.2.2.1
theorem dX3_addStream_12 : decode cX3_addStream 12 = .ok (.new 31, 3) := bdX3_addStream_0.2.2.2.2.2.2.1
theorem dX3_addStream_15 : decode cX3_addStream 15 = .ok (.dup, 1) := bdX3_addStream_0.2.2.2.2.2.2.2.1
theorem dX3_addStream_16 : decode cX3_addStream 16 = .ok (.lload_n 1, 1) := bdX3_addStream_0.2.2.2.2.2.2.2.2.1
theorem dX3_addStream_17 : decode cX3_addStream 17 = .ok (.iload_n 3, 1) := bdX3_addStream_0.2.2.2.2.2.2.2.2.2.1
theorem dX3_addStream_18 : decode cX3_addStream 18 = .ok (.invokespecial 168, 3) := bdX3_addStream_0.2.2.2.2.2.2.2.2.2.2.1
theorem dX3_addStream_21 : decode cX3_addStream 21 = .ok (.aastore, 1) := bdX3_addStream_0.2.2.2.2.2.2.2.2.2.2.2
set_option maxRecDepth 20000 in
theorem bdX3_addStream_22 : (decode cX3_addStream 22 = .ok (.aload_n 0, 1)) ∧ (decode cX3_addStream 23 = .ok (.dup, 1)) ∧ (decode cX3_addStream 24 = .ok (.getfield 37, 3)) ∧ (decode cX3_addStream 27 = .ok (.iconst 1, 1)) ∧ (decode cX3_addStream 28 = .ok (.iadd, 1)) ∧ (decode cX3_addStream 29 = .ok (.putfield 37, 3)) ∧ (decode cX3_addStream 32 = .ok (.iload 4, 2)) ∧ (decode cX3_addStream 34 = .ok (.ireturn, 1)) := by decide +kernel
theorem dX3_addStream_22 : decode cX3_addStream 22 = .ok (.aload_n 0, 1) := bdX3_addStream_22.1
theorem dX3_addStream_23 : decode cX3_addStream 23 = .ok (.dup, 1) := bdX3_addStream_22.2.1
theorem dX3_addStream_24 : decode cX3_addStream 24 = .ok (.getfield 37, 3) := bdX3_addStream_22.2.2.1
theorem dX3_addStream_27 : decode cX3_addStream 27 = .ok (.iconst 1, 1) := bdX3_addStream_22.2.2.2.1
theorem dX3_addStream_28 : decode cX3_addStream 28 = .ok (.iadd, 1) := bdX3_addStream_22.2.2.2.2.1
theorem dX3_addStream_29 : decode cX3_addStream 29 = .ok (.putfield 37, 3) := bdX3_addStream_22.2.2.2.2.2.1
theorem dX3_addStream_32 : decode cX3_addStream 32 = .ok (.iload 4, 2) := bdX3_addStream_22.2.2.2.2.2.2.1
theorem dX3_addStream_34 : decode cX3_addStream 34 = .ok (.ireturn, 1) := bdX3_addStream_22.2.2.2.2.2.2.2
