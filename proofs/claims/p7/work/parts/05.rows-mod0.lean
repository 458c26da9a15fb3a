set_option maxRecDepth 20000 in
theorem bdX4_init_0 : (decode cX4_init 0 = .ok (.aload_n 0, 1)) ∧ (decode cX4_init 1 = .ok (.invokespecial 1, 3)) ∧ (decode cX4_init 4 = .ok (.aload_n 0, 1)) ∧ (decode cX4_init 5 = .ok (.bipush 96, 2)) ∧ (decode cX4_init 7 = .ok (.newarray .long, 2)) ∧ (decode cX4_init 9 = .ok (.putfield 7, 3)) ∧ (decode cX4_init 12 = .ok (.aload_n 0, 1)) ∧ (decode cX4_init 13 = .ok (.bipush 24, 2)) ∧ (decode cX4_init 15 = .ok (.newarray .int, 2)) ∧ (decode cX4_init 17 = .ok (.putfield 13, 3)) ∧ (decode cX4_init 20 = .ok (.aload_n 0, 1)) ∧ (decode cX4_init 21 = .ok (.iconst 4, 1)) := by decide +kernel
theorem dX4_init_0 : decode cX4_init 0 = .ok (.aload_n 0, 1) := bdX4_init_0.1
theorem dX4_init_1 : decode cX4_init 1 = .ok (.invokespecial 1, 3) := bdX4_init_0.2.1
theorem dX4_init_4 : decode cX4_init 4 = .ok (.aload_n 0, 1) := bdX4_init_0.2.2.1
theorem dX4_init_5 : decode cX4_init 5 = .ok (.bipush 96, 2) := bdX4_init_0.2.2.2.1
theorem dX4_init_7 : decode cX4_init 7 = .ok (.newarray .long, 2) := bdX4_init_0.2.2.2.2.1
theorem dX4_init_9 : decode cX4_init 9 = .ok (.putfield 7, 3) := bdX4_init_0.2.2.2.2.2.1
theorem dX4_init_12 : decode cX4_init 12 = .ok (.aload_n 0, 1) := bdX4_init_0.2.2.2.2.2.2.1
theorem dX4_init_13 : decode cX4_init 13 = .ok (.bipush 24, 2) := bdX4_init_0.2.2.2.2.2.2.2.1
theorem dX4_init_15 : decode cX4_init 15 = .ok (.newarray .int, 2) := bdX4_init_0.2.2.2.2.2.2.2.2.1
theorem dX4_init_17 : decode cX4_init 17 = .ok (.putfield 13, 3) := bdX4_init_0.2.2.2.2.2.2.2.2.2.1
theorem dX4_init_20 : decode cX4_init 20 = .ok (.aload_n 0, 1) := bdX4_init_0.2.2.2.2.2.2.2.2.2.2.1
theorem dX4_init_21 : decode cX4_init 21 = .ok (.iconst 4, 1) := bdX4_init_0.2.2.2.2.2.2.2.2.2.2.2
set_option maxRecDepth 20000 in
theorem bdX4_init_22 : (decode cX4_init 22 = .ok (.newarray .long, 2)) ∧ (decode cX4_init 24 = .ok (.putfield 17, 3)) ∧ (decode cX4_init 27 = .ok (.aload_n 0, 1)) ∧ (decode cX4_init 28 = .ok (.bipush 10, 2)) ∧ (decode cX4_init 30 = .ok (.newarray .long, 2)) ∧ (decode cX4_init 32 = .ok (.putfield 20, 3)) ∧ (decode cX4_init 35 = .ok (.aload_n 0, 1)) ∧ (decode cX4_init 36 = .ok (.bipush 8, 2)) ∧ (decode cX4_init 38 = .ok (.newarray .long, 2)) ∧ (decode cX4_init 40 = .ok (.putfield 23, 3)) ∧ (decode cX4_init 43 = .ok (.aload_n 0, 1)) ∧ (decode cX4_init 44 = .ok (.bipush 8, 2)) := by decide +kernel
theorem dX4_init_22 : decode cX4_init 22 = .ok (.newarray .long, 2) := bdX4_init_22.1
theorem dX4_init_24 : decode cX4_init 24 = .ok (.putfield 17, 3) := bdX4_init_22.2.1
theorem dX4_init_27 : decode cX4_init 27 = .ok (.aload_n 0, 1) := bdX4_init_22.2.2.1
theorem dX4_init_28 : decode cX4_init 28 = .ok (.bipush 10, 2) := bdX4_init_22.2.2.2.1
theorem dX4_init_30 : decode cX4_init 30 = .ok (.newarray .long, 2) := bdX4_init_22.2.2.2.2.1
theorem dX4_init_32 : decode cX4_init 32 = .ok (.putfield 20, 3) := bdX4_init_22.2.2.2.2.2.1
theorem dX4_init_35 : decode cX4_init 35 = .ok (.aload_n 0, 1) := bdX4_init_22.2.2.2.2.2.2.1
theorem dX4_init_36 : decode cX4_init 36 = .ok (.bipush 8, 2) := bdX4_init_22.2.2.2.2.2.2.2.1
theorem dX4_init_38 : decode cX4_init 38 = .ok (.newarray .long, 2) := bdX4_init_22.2.2.2.2.2.2.2.2.1
theorem dX4_init_40 : decode cX4_init 40 = .ok (.putfield 23, 3) := bdX4_init_22.2.2.2.2.2.2.2.2.2.1
theorem dX4_init_43 : decode cX4_init 43 = .ok (.aload_n 0, 1) := bdX4_init_22.2.2.2.2.2.2.2.2.2.2.1
theorem dX4_init_44 : decode cX4_init 44 = .ok (.bipush 8, 2) := bdX4_init_22.2.2.2.2.2.2.2.2.2.2.2
set_option maxRecDepth 20000 in
theorem bdX4_init_46 : (decode cX4_init 46 = .ok (.newarray .int, 2)) ∧ (decode cX4_init 48 = .ok (.putfield 26, 3)) ∧ (decode cX4_init 51 = .ok (.aload_n 0, 1)) ∧ (decode cX4_init 52 = .ok (.bipush 8, 2)) ∧ (decode cX4_init 54 = .ok (.newarray .int, 2)) ∧ (decode cX4_init 56 = .ok (.putfield 29, 3)) ∧ (decode cX4_init 59 = .ok (.aload_n 0, 1)) ∧ (decode cX4_init 60 = .ok (.bipush 8, 2)) ∧ (decode cX4_init 62 = .ok (.newarray .int, 2)) ∧ (decode cX4_init 64 = .ok (.putfield 32, 3)) ∧ (decode cX4_init 67 = .ok (.aload_n 0, 1)) ∧ (decode cX4_init 68 = .ok (.iconst 4, 1)) := by decide +kernel
theorem dX4_init_46 : decode cX4_init 46 = .ok (.newarray .int, 2) := bdX4_init_46.1
theorem dX4_init_48 : decode cX4_init 48 = .ok (.putfield 26, 3) := bdX4_init_46.2.1
theorem dX4_init_51 : decode cX4_init 51 = .ok (.aload_n 0, 1) := bdX4_init_46.2.2.1
theorem dX4_init_52 : decode cX4_init 52 = .ok (.bipush 8, 2) := bdX4_init_46.2.2.2.1
theorem dX4_init_54 : decode cX4_init 54 = .ok (.newarray .int, 2) := bdX4_init_46.2.2.2.2.1
theorem dX4_init_56 : decode cX4_init 56 = .ok (.putfield 29, 3) := bdX4_init_46.2.2.2.2.2.1
theorem dX4_init_59 : decode cX4_init 59 = .ok (.aload_n 0, 1) := bdX4_init_46.2.2.2.2.2.2.1
theorem dX4_init_60 : decode cX4_init 60 = .ok (.bipush 8, 2) := bdX4_init_46.2.2.2.2.2.2.2.1
theorem dX4_init_62 : decode cX4_init 62 = .ok (.newarray .int, 2) := bdX4_init_46.2.2.2.2.2.2.2.2.1
theorem dX4_init_64 : decode cX4_init 64 = .ok (.putfield 32, 3) := bdX4_init_46.2.2.2.2.2.2.2.2.2.1
theorem dX4_init_67 : decode cX4_init 67 = .ok (.aload_n 0, 1) := bdX4_init_46.2.2.2.2.2.2.2.2.2.2.1
theorem dX4_init_68 : decode cX4_init 68 = .ok (.iconst 4, 1) := bdX4_init_46.2.2.2.2.2.2.2.2.2.2.2
set_option maxRecDepth 20000 in
theorem bdX4_init_69 : (decode cX4_init 69 = .ok (.newarray .int, 2)) ∧ (decode cX4_init 71 = .ok (.putfield 35, 3)) ∧ (decode cX4_init 74 = .ok (.aload_n 0, 1)) ∧ (decode cX4_init 75 = .ok (.iconst 4, 1)) ∧ (decode cX4_init 76 = .ok (.newarray .int, 2)) ∧ (decode cX4_init 78 = .ok (.putfield 38, 3)) ∧ (decode cX4_init 81 = .ok (.aload_n 0, 1)) ∧ (decode cX4_init 82 = .ok (.iconst 4, 1)) ∧ (decode cX4_init 83 = .ok (.newarray .int, 2)) ∧ (decode cX4_init 85 = .ok (.putfield 41, 3)) ∧ (decode cX4_init 88 = .ok (.aload_n 0, 1)) ∧ (decode cX4_init 89 = .ok (.iconst 4, 1)) := by decide +kernel
theorem dX4_init_69 : decode cX4_init 69 = .ok (.newarray .int, 2) := bdX4_init_69.1
theorem dX4_init_71 : decode cX4_init 71 = .ok (.putfield 35, 3) := bdX4_init_69.2.1
theorem dX4_init_74 : decode cX4_init 74 = .ok (.aload_n 0, 1) := bdX4_init_69.2.2.1
theorem dX4_init_75 : decode cX4_init 75 = .ok (.iconst 4, 1) := bdX4_init_69.2.2.2.1
theorem dX4_init_76 : decode cX4_init 76 = .ok (.newarray .int, 2) := bdX4_init_69.2.2.2.2.1
theorem dX4_init_78 : decode cX4_init 78 = .ok (.putfield 38, 3) := bdX4_init_69.2.2.2.2.2.1
theorem dX4_init_81 : decode cX4_init 81 = .ok (.aload_n 0, 1) := bdX4_init_69.2.2.2.2.2.2.1
theorem dX4_init_82 : decode cX4_init 82 = .ok (.iconst 4, 1) := bdX4_init_69.2.2.2.2.2.2.2.1
theorem dX4_init_83 : decode cX4_init 83 = .ok (.newarray .int, 2) := bdX4_init_69.2.2.2.2.2.2.2.2.1
theorem dX4_init_85 : decode cX4_init 85 = .ok (.putfield 41, 3) := bdX4_init_69.2.2.2.2.2.2.2.2.2.1
theorem dX4_init_88 : decode cX4_init 88 = .ok (.aload_n 0, 1) := bdX4_init_69.2.2.2.2.2.2.2.2.2.2.1
theorem dX4_init_89 : decode cX4_init 89 = .ok (.iconst 4, 1) := bdX4_init_69.2.2.2.2.2.2.2.2.2.2.2
set_option maxRecDepth 20000 in
theorem bdX4_init_90 : (decode cX4_init 90 = .ok (.newarray .boolean, 2)) ∧ (decode cX4_init 92 = .ok (.putfield 44, 3)) ∧ (decode cX4_init 95 = .ok (.aload_n 0, 1)) ∧ (decode cX4_init 96 = .ok (.bipush 40, 2)) ∧ (decode cX4_init 98 = .ok (.newarray .int, 2)) ∧ (decode cX4_init 100 = .ok (.putfield 48, 3)) ∧ (decode cX4_init 103 = .ok (.aload_n 0, 1)) ∧ (decode cX4_init 104 = .ok (.iconst 4, 1)) ∧ (decode cX4_init 105 = .ok (.newarray .long, 2)) ∧ (decode cX4_init 107 = .ok (.putfield 51, 3)) ∧ (decode cX4_init 110 = .ok (.aload_n 0, 1)) ∧ (decode cX4_init 111 = .ok (.lload_n 1, 1)) := by decide +kernel
theorem dX4_init_90 : decode cX4_init 90 = .ok (.newarray .boolean, 2) := bdX4_init_90.1
theorem dX4_init_92 : decode cX4_init 92 = .ok (.putfield 44, 3) := bdX4_init_90.2.1
theorem dX4_init_95 : decode cX4_init 95 = .ok (.aload_n 0, 1) := bdX4_init_90.2.2.1
theorem dX4_init_96 : decode cX4_init 96 = .ok (.bipush 40, 2) := bdX4_init_90.2.2.2.1
theorem dX4_init_98 : decode cX4_init 98 = .ok (.newarray .int, 2) := bdX4_init_90.2.2.2.2.1
theorem dX4_init_100 : decode cX4_init 100 = .ok (.putfield 48, 3) := bdX4_init_90.2.2.2.2.2.1
theorem dX4_init_103 : decode cX4_init 103 = .ok (.aload_n 0, 1) := bdX4_init_90.2.2.2.2.2.2.1
theorem dX4_init_104 : decode cX4_init 104 = .ok (.iconst 4, 1) := bdX4_init_90.2.2.2.2.2.2.2.1
theorem dX4_init_105 : decode cX4_init 105 = .ok (.newarray .long, 2) := bdX4_init_90.2.2.2.2.2.2.2.2.1
theorem dX4_init_107 : decode cX4_init 107 = .ok (.putfield 51, 3) := bdX4_init_90.2.2.2.2.2.2.2.2.2.1
theorem dX4_init_110 : decode cX4_init 110 = .ok (.aload_n 0, 1) := bdX4_init_90.2.2.2.2.2.2.2.2.2.2.1
theorem dX4_init_111 : decode cX4_init 111 = .ok (.lload_n 1, 1) := bdX4_init_90.2.2.2.2.2.2.2.2.2.2.2
set_option maxRecDepth 20000 in
theorem bdX4_init_112 : (decode cX4_init 112 = .ok (.putfield 54, 3)) ∧ (decode cX4_init 115 = .ok (.return_, 1)) := by decide +kernel
theorem dX4_init_112 : decode cX4_init 112 = .ok (.putfield 54, 3) := bdX4_init_112.1
theorem dX4_init_115 : decode cX4_init 115 = .ok (.return_, 1) := bdX4_init_112.2
set_option maxRecDepth 20000 in
theorem bdX4_in_0 : (decode cX4_in 0 = .ok (.lload_n 0, 1)) ∧ (decode cX4_in 1 = .ok (.lload_n 2, 1)) ∧ (decode cX4_in 2 = .ok (.lcmp, 1)) ∧ (decode cX4_in 3 = .ok (.ifCond .lt 14, 3)) ∧ (decode cX4_in 6 = .ok (.lload_n 0, 1)) ∧ (decode cX4_in 7 = .ok (.lload 4, 2)) ∧ (decode cX4_in 9 = .ok (.lcmp, 1)) ∧ (decode cX4_in 10 = .ok (.ifCond .gt 7, 3)) ∧ (decode cX4_in 13 = .ok (.iconst 1, 1)) ∧ (decode cX4_in 14 = .ok (.goto 4, 3)) ∧ (decode cX4_in 17 = .ok (.iconst 0, 1)) ∧ (decode cX4_in 18 = .ok (.ireturn, 1)) := by decide +kernel
theorem dX4_in_0 : decode cX4_in 0 = .ok (.lload_n 0, 1) := bdX4_in_0.1
theorem dX4_in_1 : decode cX4_in 1 = .ok (.lload_n 2, 1) := bdX4_in_0.2.1
theorem dX4_in_2 : decode cX4_in 2 = .ok (.lcmp, 1) := bdX4_in_0.2.2.1
theorem dX4_in_3 : decode cX4_in 3 = .ok (.ifCond .lt 14, 3) := bdX4_in_0.2.2.2.1
theorem dX4_in_6 : decode cX4_in 6 = .ok (.lload_n 0, 1) := bdX4_in_0.2.2.2.2.1
theorem dX4_in_7 : decode cX4_in 7 = .ok (.lload 4, 2) := bdX4_in_0.2.2.2.2.2.1
theorem dX4_in_9 : decode cX4_in 9 = .ok (.lcmp, 1) := bdX4_in_0.2.2.2.2.2.2.1
theorem dX4_in_10 : decode cX4_in 10 = .ok (.ifCond .gt 7, 3) := bdX4_in_0.2.2.2.2.2.2.2.1
theorem dX4_in_13 : decode cX4_in 13 = .ok (.iconst 1, 1) := bdX4_in_0.2.2.2.2.2.2.2.2.1
theorem dX4_in_14 : decode cX4_in 14 = .ok (.goto 4, 3) := bdX4_in_0.2.2.2.2.2.2.2.2.2.1
theorem dX4_in_17 : decode cX4_in 17 = .ok (.iconst 0, 1) := bdX4_in_0.2.2.2.2.2.2.2.2.2.2.1
theorem dX4_in_18 : decode cX4_in 18 = .ok (.ireturn, 1) := bdX4_in_0.2.2.2.2.2.2.2.2.2.2.2
set_option maxRecDepth 20000 in
theorem bdX4_mix_0 : (decode cX4_mix 0 = .ok (.lload_n 0, 1)) ∧ (decode cX4_mix 1 = .ok (.lstore_n 2, 1)) ∧ (decode cX4_mix 2 = .ok (.lload_n 2, 1)) ∧ (decode cX4_mix 3 = .ok (.lload_n 2, 1)) ∧ (decode cX4_mix 4 = .ok (.bipush 30, 2)) ∧ (decode cX4_mix 6 = .ok (.lushr, 1)) ∧ (decode cX4_mix 7 = .ok (.lxor, 1)) ∧ (decode cX4_mix 8 = .ok (.ldc2_w 58, 3)) ∧ (decode cX4_mix 11 = .ok (.lmul, 1)) ∧ (decode cX4_mix 12 = .ok (.lstore_n 2, 1)) ∧ (decode cX4_mix 13 = .ok (.lload_n 2, 1)) ∧ (decode cX4_mix 14 = .ok (.lload_n 2, 1)) := by decide +kernel
theorem dX4_mix_0 : decode cX4_mix 0 = .ok (.lload_n 0, 1) := bdX4_mix_0.1
theorem dX4_mix_1 : decode cX4_mix 1 = .ok (.lstore_n 2, 1) := bdX4_mix_0.2.1
theorem dX4_mix_2 : decode cX4_mix 2 = .ok (.lload_n 2, 1) := bdX4_mix_0.2.2.1
theorem dX4_mix_3 : decode cX4_mix 3 = .ok (.lload_n 2, 1) := bdX4_mix_0.2.2.2.1
theorem dX4_mix_4 : decode cX4_mix 4 = .ok (.bipush 30, 2) := bdX4_mix_0.2.2.2.2.1
theorem dX4_mix_6 : decode cX4_mix 6 = .ok (.lushr, 1) := bdX4_mix_0.2.2.2.2.2.1
theorem dX4_mix_7 : decode cX4_mix 7 = .ok (.lxor, 1) := bdX4_mix_0.2.2.2.2.2.2.1
theorem dX4_mix_8 : decode cX4_mix 8 = .ok (.ldc2_w 58, 3) := bdX4_mix_0.2.2.2.2.2.2.2.1
theorem dX4_mix_11 : decode cX4_mix 11 = .ok (.lmul, 1) := bdX4_mix_0.2.2.2.2.2.2.2.2.1
theorem dX4_mix_12 : decode cX4_mix 12 = .ok (.lstore_n 2, 1) := bdX4_mix_0.2.2.2.2.2.2.2.2.2.1
theorem dX4_mix_13 : decode cX4_mix 13 = .ok (.lload_n 2, 1) := bdX4_mix_0.2.2.2.2.2.2.2.2.2.2.1
theorem dX4_mix_14 : decode cX4_mix 14 = .ok (.lload_n 2, 1) := bdX4_mix_0.2.2.2.2.2.2.2.2.2.2.2
set_option maxRecDepth 20000 in
theorem bdX4_mix_15 : (decode cX4_mix 15 = .ok (.bipush 27, 2)) ∧ (decode cX4_mix 17 = .ok (.lushr, 1)) ∧ (decode cX4_mix 18 = .ok (.lxor, 1)) ∧ (decode cX4_mix 19 = .ok (.ldc2_w 60, 3)) ∧ (decode cX4_mix 22 = .ok (.lmul, 1)) ∧ (decode cX4_mix 23 = .ok (.lstore_n 2, 1)) ∧ (decode cX4_mix 24 = .ok (.lload_n 2, 1)) ∧ (decode cX4_mix 25 = .ok (.lload_n 2, 1)) ∧ (decode cX4_mix 26 = .ok (.bipush 31, 2)) ∧ (decode cX4_mix 28 = .ok (.lushr, 1)) ∧ (decode cX4_mix 29 = .ok (.lxor, 1)) ∧ (decode cX4_mix 30 = .ok (.lreturn, 1)) := by decide +kernel
theorem dX4_mix_15 : decode cX4_mix 15 = .ok (.bipush 27, 2) := bdX4_mix_15.1
theorem dX4_mix_17 : decode cX4_mix 17 = .ok (.lushr, 1) := bdX4_mix_15.2.1
theorem dX4_mix_18 : decode cX4_mix 18 = .ok (.lxor, 1) := bdX4_mix_15.2.2.1
theorem dX4_mix_19 : decode cX4_mix 19 = .ok (.ldc2_w 60, 3) := bdX4_mix_15.2.2.2.1
theorem dX4_mix_22 : decode cX4_mix 22 = .ok (.lmul, 1) := bdX4_mix_15.2.2.2.2.1
theorem dX4_mix_23 : decode cX4_mix 23 = .ok (.lstore_n 2, 1) := bdX4_mix_15.2.2.2.2.2.1
theorem dX4_mix_24 : decode cX4_mix 24 = .ok (.lload_n 2, 1) := bdX4_mix_15.2.2.2.2.2.2.1
theorem dX4_mix_25 : decode cX4_mix 25 = .ok (.lload_n 2, 1) := bdX4_mix_15.2.2.2.2.2.2.2.1
theorem dX4_mix_26 : decode cX4_mix 26 = .ok (.bipush 31, 2) := bdX4_mix_15.2.2.2.2.2.2.2.2.1
theorem dX4_mix_28 : decode cX4_mix 28 = .ok (.lushr, 1) := bdX4_mix_15.2.2.2.2.2.2.2.2.2.1
theorem dX4_mix_29 : decode cX4_mix 29 = .ok (.lxor, 1) := bdX4_mix_15.2.2.2.2.2.2.2.2.2.2.1
theorem dX4_mix_30 : decode cX4_mix 30 = .ok (.lreturn, 1) := bdX4_mix_15.2.2.2.2.2.2.2.2.2.2.2
set_option maxRecDepth 20000 in
theorem bdX4_isBelow_0 : (decode cX4_isBelow 0 = .ok (.lload_n 0, 1)) ∧ (decode cX4_isBelow 1 = .ok (.ldc2_w 62, 3)) ∧ (decode cX4_isBelow 4 = .ok (.lxor, 1)) ∧ (decode cX4_isBelow 5 = .ok (.lload_n 2, 1)) ∧ (decode cX4_isBelow 6 = .ok (.ldc2_w 62, 3)) ∧ (decode cX4_isBelow 9 = .ok (.lxor, 1)) ∧ (decode cX4_isBelow 10 = .ok (.lcmp, 1)) ∧ (decode cX4_isBelow 11 = .ok (.ifCond .ge 7, 3)) ∧ (decode cX4_isBelow 14 = .ok (.iconst 1, 1)) ∧ (decode cX4_isBelow 15 = .ok (.goto 4, 3)) ∧ (decode cX4_isBelow 18 = .ok (.iconst 0, 1)) ∧ (decode cX4_isBelow 19 = .ok (.ireturn, 1)) := by decide +kernel
theorem dX4_isBelow_0 : decode cX4_isBelow 0 = .ok (.lload_n 0, 1) := bdX4_isBelow_0.1
theorem dX4_isBelow_1 : decode cX4_isBelow 1 = .ok (.ldc2_w 62, 3) := bdX4_isBelow_0.2.1
theorem dX4_isBelow_4 : decode cX4_isBelow 4 = .ok (.lxor, 1) := bdX4_isBelow_0.2.2.1
theorem dX4_isBelow_5 : decode cX4_isBelow 5 = .ok (.lload_n 2, 1) := bdX4_isBelow_0.2.2.2.1
theorem dX4_isBelow_6 : decode cX4_isBelow 6 = .ok (.ldc2_w 62, 3) := bdX4_isBelow_0.2.2.2.2.1
theorem dX4_isBelow_9 : decode cX4_isBelow 9 = .ok (.lxor, 1) := bdX4_isBelow_0.2.2.2.2.2.1
theorem dX4_isBelow_10 : decode cX4_isBelow 10 = .ok (.lcmp, 1) := bdX4_isBelow_0.2.2.2.2.2.2.1
theorem dX4_isBelow_11 : decode cX4_isBelow 11 = .ok (.ifCond .ge 7, 3) := bdX4_isBelow_0.2.2.2.2.2.2.2.1
theorem dX4_isBelow_14 : decode cX4_isBelow 14 = .ok (.iconst 1, 1) := bdX4_isBelow_0.2.2.2.2.2.2.2.2.1
theorem dX4_isBelow_15 : decode cX4_isBelow 15 = .ok (.goto 4, 3) := bdX4_isBelow_0.2.2.2.2.2.2.2.2.2.1
theorem dX4_isBelow_18 : decode cX4_isBelow 18 = .ok (.iconst 0, 1) := bdX4_isBelow_0.2.2.2.2.2.2.2.2.2.2.1
theorem dX4_isBelow_19 : decode cX4_isBelow 19 = .ok (.ireturn, 1) := bdX4_isBelow_0.2.2.2.2.2.2.2.2.2.2.2
set_option maxRecDepth 20000 in
theorem ggX4_rest_X4_isBelow : GoodIn wsX4_rest wsX4_isBelow := goodIn_r _ [4, 5] (by decide +kernel) (by decide +kernel)
set_option maxRecDepth 20000 in
theorem gX4_rest_X4_isBelow : GoodIn wsX4_rest (va_wsS RX4 64 yX4_isBelow wsX4_isBelow) := goodIn_app (goodIn_of _ (by decide +kernel)) ggX4_rest_X4_isBelow
set_option maxRecDepth 20000 in
theorem bdX4_rest_0 : (decode cX4_rest 0 = .ok (.lload_n 0, 1)) ∧ (decode cX4_rest 1 = .ok (.lconst 0, 1)) ∧ (decode cX4_rest 2 = .ok (.lcmp, 1)) ∧ (decode cX4_rest 3 = .ok (.ifCond .lt 7, 3)) ∧ (decode cX4_rest 6 = .ok (.lload_n 0, 1)) ∧ (decode cX4_rest 7 = .ok (.lload_n 2, 1)) ∧ (decode cX4_rest 8 = .ok (.lrem, 1)) ∧ (decode cX4_rest 9 = .ok (.lreturn, 1)) ∧ (decode cX4_rest 10 = .ok (.lload_n 0, 1)) ∧ (decode cX4_rest 11 = .ok (.iconst 1, 1)) ∧ (decode cX4_rest 12 = .ok (.lushr, 1)) ∧ (decode cX4_rest 13 = .ok (.lload_n 2, 1)) := by decide +kernel
theorem dX4_rest_0 : decode cX4_rest 0 = .ok (.lload_n 0, 1) := bdX4_rest_0.1
theorem dX4_rest_1 : decode cX4_rest 1 = .ok (.lconst 0, 1) := bdX4_rest_0.2.1
theorem dX4_rest_2 : decode cX4_rest 2 = .ok (.lcmp, 1) := bdX4_rest_0.2.2.1
theorem dX4_rest_3 : decode cX4_rest 3 = .ok (.ifCond .lt 7, 3) := bdX4_rest_0.2.2.2.1
theorem dX4_rest_6 : decode cX4_rest 6 = .ok (.lload_n 0, 1) := bdX4_rest_0.2.2.2.2.1
theorem dX4_rest_7 : decode cX4_rest 7 = .ok (.lload_n 2, 1) := bdX4_rest_0.2.2.2.2.2.1
theorem dX4_rest_8 : decode cX4_rest 8 = .ok (.lrem, 1) := bdX4_rest_0.2.2.2.2.2.2.1
theorem dX4_rest_9 : decode cX4_rest 9 = .ok (.lreturn, 1) := bdX4_rest_0.2.2.2.2.2.2.2.1
theorem dX4_rest_10 : decode cX4_rest 10 = .ok (.lload_n 0, 1) := bdX4_rest_0.2.2.2.2.2.2.2.2.1
theorem dX4_rest_11 : decode cX4_rest 11 = .ok (.iconst 1, 1) := bdX4_rest_0.2.2.2.2.2.2.2.2.2.1
theorem dX4_rest_12 : decode cX4_rest 12 = .ok (.lushr, 1) := bdX4_rest_0.2.2.2.2.2.2.2.2.2.2.1
theorem dX4_rest_13 : decode cX4_rest 13 = .ok (.lload_n 2, 1) := bdX4_rest_0.2.2.2.2.2.2.2.2.2.2.2
set_option maxRecDepth 20000 in
theorem bdX4_rest_14 : (decode cX4_rest 14 = .ok (.ldiv, 1)) ∧ (decode cX4_rest 15 = .ok (.iconst 1, 1)) ∧ (decode cX4_rest 16 = .ok (.lshl, 1)) ∧ (decode cX4_rest 17 = .ok (.lstore 4, 2)) ∧ (decode cX4_rest 19 = .ok (.lload_n 0, 1)) ∧ (decode cX4_rest 20 = .ok (.lload 4, 2)) ∧ (decode cX4_rest 22 = .ok (.lload_n 2, 1)) ∧ (decode cX4_rest 23 = .ok (.lmul, 1)) ∧ (decode cX4_rest 24 = .ok (.lsub, 1)) ∧ (decode cX4_rest 25 = .ok (.lstore 6, 2)) ∧ (decode cX4_rest 27 = .ok (.lload 6, 2)) ∧ (decode cX4_rest 29 = .ok (.lload_n 2, 1)) := by decide +kernel
theorem dX4_rest_14 : decode cX4_rest 14 = .ok (.ldiv, 1) := bdX4_rest_14.1
theorem dX4_rest_15 : decode cX4_rest 15 = .ok (.iconst 1, 1) := bdX4_rest_14.2.1
theorem dX4_rest_16 : decode cX4_rest 16 = .ok (.lshl, 1) := bdX4_rest_14.2.2.1
theorem dX4_rest_17 : decode cX4_rest 17 = .ok (.lstore 4, 2) := bdX4_rest_14.2.2.2.1
theorem dX4_rest_19 : decode cX4_rest 19 = .ok (.lload_n 0, 1) := bdX4_rest_14.2.2.2.2.1
theorem dX4_rest_20 : decode cX4_rest 20 = .ok (.lload 4, 2) := bdX4_rest_14.2.2.2.2.2.1
theorem dX4_rest_22 : decode cX4_rest 22 = .ok (.lload_n 2, 1) := bdX4_rest_14.2.2.2.2.2.2.1
theorem dX4_rest_23 : decode cX4_rest 23 = .ok (.lmul, 1) := bdX4_rest_14.2.2.2.2.2.2.2.1
theorem dX4_rest_24 : decode cX4_rest 24 = .ok (.lsub, 1) := bdX4_rest_14.2.2.2.2.2.2.2.2.1
theorem dX4_rest_25 : decode cX4_rest 25 = .ok (.lstore 6, 2) := bdX4_rest_14.2.2.2.2.2.2.2.2.2.1
theorem dX4_rest_27 : decode cX4_rest 27 = .ok (.lload 6, 2) := bdX4_rest_14.2.2.2.2.2.2.2.2.2.2.1
theorem dX4_rest_29 : decode cX4_rest 29 = .ok (.lload_n 2, 1) := bdX4_rest_14.2.2.2.2.2.2.2.2.2.2.2
set_option maxRecDepth 20000 in
theorem bdX4_rest_30 : (decode cX4_rest 30 = .ok (.invokestatic 64, 3)) ∧ (decode cX4_rest 33 = .ok (.ifCond .eq 8, 3)) ∧ (decode cX4_rest 36 = .ok (.lload 6, 2)) ∧ (decode cX4_rest 38 = .ok (.goto 7, 3)) ∧ (decode cX4_rest 41 = .ok (.lload 6, 2)) ∧ (decode cX4_rest 43 = .ok (.lload_n 2, 1)) ∧ (decode cX4_rest 44 = .ok (.lsub, 1)) ∧ (decode cX4_rest 45 = .ok (.lreturn, 1)) := by decide +kernel
theorem dX4_rest_30 : decode cX4_rest 30 = .ok (.invokestatic 64, 3) := bdX4_rest_30.1
theorem dX4_rest_33 : decode cX4_rest 33 = .ok (.ifCond .eq 8, 3) := bdX4_rest_30.2.1
theorem dX4_rest_36 : decode cX4_rest 36 = .ok (.lload 6, 2) := bdX4_rest_30.2.2.1
theorem dX4_rest_38 : decode cX4_rest 38 = .ok (.goto 7, 3) := bdX4_rest_30.2.2.2.1
theorem dX4_rest_41 : decode cX4_rest 41 = .ok (.lload 6, 2) := bdX4_rest_30.2.2.2.2.1
theorem dX4_rest_43 : decode cX4_rest 43 = .ok (.lload_n 2, 1) := bdX4_rest_30.2.2.2.2.2.1
theorem dX4_rest_44 : decode cX4_rest 44 = .ok (.lsub, 1) := bdX4_rest_30.2.2.2.2.2.2.1
theorem dX4_rest_45 : decode cX4_rest 45 = .ok (.lreturn, 1) := bdX4_rest_30.2.2.2.2.2.2.2
set_option maxRecDepth 20000 in
theorem bdX4_part_0 : (decode cX4_part 0 = .ok (.aload_n 0, 1)) ∧ (decode cX4_part 1 = .ok (.getfield 68, 3)) ∧ (decode cX4_part 4 = .ok (.iconst 4, 1)) ∧ (decode cX4_part 5 = .ok (.if_icmp .ne 6, 3)) ∧ (decode cX4_part 8 = .ok (.bipush (-2), 2)) ∧ (decode cX4_part 10 = .ok (.ireturn, 1)) ∧ (decode cX4_part 11 = .ok (.aload_n 0, 1)) ∧ (decode cX4_part 12 = .ok (.getfield 17, 3)) ∧ (decode cX4_part 15 = .ok (.aload_n 0, 1)) ∧ (decode cX4_part 16 = .ok (.getfield 68, 3)) ∧ (decode cX4_part 19 = .ok (.lload_n 1, 1)) ∧ (decode cX4_part 20 = .ok (.lastore, 1)) := by decide +kernel
theorem dX4_part_0 : decode cX4_part 0 = .ok (.aload_n 0, 1) := bdX4_part_0.1
theorem dX4_part_1 : decode cX4_part 1 = .ok (.getfield 68, 3) := bdX4_part_0.2.1
theorem dX4_part_4 : decode cX4_part 4 = .ok (.iconst 4, 1) := bdX4_part_0.2.2.1
theorem dX4_part_5 : decode cX4_part 5 = .ok (.if_icmp .ne 6, 3) := bdX4_part_0.2.2.2.1
theorem dX4_part_8 : decode cX4_part 8 = .ok (.bipush (-2), 2) := bdX4_part_0.2.2.2.2.1
theorem dX4_part_10 : decode cX4_part 10 = .ok (.ireturn, 1) := bdX4_part_0.2.2.2.2.2.1
theorem dX4_part_11 : decode cX4_part 11 = .ok (.aload_n 0, 1) := bdX4_part_0.2.2.2.2.2.2.1
theorem dX4_part_12 : decode cX4_part 12 = .ok (.getfield 17, 3) := bdX4_part_0.2.2.2.2.2.2.2.1
theorem dX4_part_15 : decode cX4_part 15 = .ok (.aload_n 0, 1) := bdX4_part_0.2.2.2.2.2.2.2.2.1
theorem dX4_part_16 : decode cX4_part 16 = .ok (.getfield 68, 3) := bdX4_part_0.2.2.2.2.2.2.2.2.2.1
theorem dX4_part_19 : decode cX4_part 19 = .ok (.lload_n 1, 1) := bdX4_part_0.2.2.2.2.2.2.2.2.2.2.1
theorem dX4_part_20 : decode cX4_part 20 = .ok (.lastore, 1) := bdX4_part_0.2.2.2.2.2.2.2.2.2.2.2
set_option maxRecDepth 20000 in
theorem bdX4_part_21 : (decode cX4_part 21 = .ok (.aload_n 0, 1)) ∧ (decode cX4_part 22 = .ok (.dup, 1)) ∧ (decode cX4_part 23 = .ok (.getfield 68, 3)) ∧ (decode cX4_part 26 = .ok (.iconst 1, 1)) ∧ (decode cX4_part 27 = .ok (.iadd, 1)) ∧ (decode cX4_part 28 = .ok (.putfield 68, 3)) ∧ (decode cX4_part 31 = .ok (.aload_n 0, 1)) ∧ (decode cX4_part 32 = .ok (.getfield 68, 3)) ∧ (decode cX4_part 35 = .ok (.ireturn, 1)) := by decide +kernel
theorem dX4_part_21 : decode cX4_part 21 = .ok (.aload_n 0, 1) := bdX4_part_21.1
theorem dX4_part_22 : decode cX4_part 22 = .ok (.dup, 1) := bdX4_part_21.2.1
theorem dX4_part_23 : decode cX4_part 23 = .ok (.getfield 68, 3) := bdX4_part_21.2.2.1
theorem dX4_part_26 : decode cX4_part 26 = .ok (.iconst 1, 1) := bdX4_part_21.2.2.2.1
theorem dX4_part_27 : decode cX4_part 27 = .ok (.iadd, 1) := bdX4_part_21.2.2.2.2.1
theorem dX4_part_28 : decode cX4_part 28 = .ok (.putfield 68, 3) := bdX4_part_21.2.2.2.2.2.1
theorem dX4_part_31 : decode cX4_part 31 = .ok (.aload_n 0, 1) := bdX4_part_21.2.2.2.2.2.2.1
theorem dX4_part_32 : decode cX4_part 32 = .ok (.getfield 68, 3) := bdX4_part_21.2.2.2.2.2.2.2.1
theorem dX4_part_35 : decode cX4_part 35 = .ok (.ireturn, 1) := bdX4_part_21.2.2.2.2.2.2.2.2
set_option maxRecDepth 20000 in
theorem bdX4_likePath_0 : (decode cX4_likePath 0 = .ok (.iconst 0, 1)) ∧ (decode cX4_likePath 1 = .ok (.istore_n 1, 1)) ∧ (decode cX4_likePath 2 = .ok (.iload_n 1, 1)) ∧ (decode cX4_likePath 3 = .ok (.aload_n 0, 1)) ∧ (decode cX4_likePath 4 = .ok (.getfield 72, 3)) ∧ (decode cX4_likePath 7 = .ok (.if_icmp .ge 80, 3)) ∧ (decode cX4_likePath 10 = .ok (.aload_n 0, 1)) ∧ (decode cX4_likePath 11 = .ok (.getfield 13, 3)) ∧ (decode cX4_likePath 14 = .ok (.iload_n 1, 1)) ∧ (decode cX4_likePath 15 = .ok (.iaload, 1)) ∧ (decode cX4_likePath 16 = .ok (.aload_n 0, 1)) ∧ (decode cX4_likePath 17 = .ok (.getfield 68, 3)) := by decide +kernel
theorem dX4_likePath_0 : decode cX4_likePath 0 = .ok (.iconst 0, 1) := bdX4_likePath_0.1
theorem dX4_likePath_1 : decode cX4_likePath 1 = .ok (.istore_n 1, 1) := bdX4_likePath_0.2.1
theorem dX4_likePath_2 : decode cX4_likePath 2 = .ok (.iload_n 1, 1) := bdX4_likePath_0.2.2.1
theorem dX4_likePath_3 : decode cX4_likePath 3 = .ok (.aload_n 0, 1) := bdX4_likePath_0.2.2.2.1
theorem dX4_likePath_4 : decode cX4_likePath 4 = .ok (.getfield 72, 3) := bdX4_likePath_0.2.2.2.2.1
theorem dX4_likePath_7 : decode cX4_likePath 7 = .ok (.if_icmp .ge 80, 3) := bdX4_likePath_0.2.2.2.2.2.1
theorem dX4_likePath_10 : decode cX4_likePath 10 = .ok (.aload_n 0, 1) := bdX4_likePath_0.2.2.2.2.2.2.1
theorem dX4_likePath_11 : decode cX4_likePath 11 = .ok (.getfield 13, 3) := bdX4_likePath_0.2.2.2.2.2.2.2.1
theorem dX4_likePath_14 : decode cX4_likePath 14 = .ok (.iload_n 1, 1) := bdX4_likePath_0.2.2.2.2.2.2.2.2.1
theorem dX4_likePath_15 : decode cX4_likePath 15 = .ok (.iaload, 1) := bdX4_likePath_0.2.2.2.2.2.2.2.2.2.1
theorem dX4_likePath_16 : decode cX4_likePath 16 = .ok (.aload_n 0, 1) := bdX4_likePath_0.2.2.2.2.2.2.2.2.2.2.1
theorem dX4_likePath_17 : decode cX4_likePath 17 = .ok (.getfield 68, 3) := bdX4_likePath_0.2.2.2.2.2.2.2.2.2.2.2
set_option maxRecDepth 20000 in
theorem bdX4_likePath_20 : (decode cX4_likePath 20 = .ok (.if_icmp .ne 7, 3)) ∧ (decode cX4_likePath 23 = .ok (.iconst 1, 1)) ∧ (decode cX4_likePath 24 = .ok (.goto 4, 3)) ∧ (decode cX4_likePath 27 = .ok (.iconst 0, 1)) ∧ (decode cX4_likePath 28 = .ok (.istore_n 2, 1)) ∧ (decode cX4_likePath 29 = .ok (.iconst 0, 1)) ∧ (decode cX4_likePath 30 = .ok (.istore_n 3, 1)) ∧ (decode cX4_likePath 31 = .ok (.iload_n 3, 1)) ∧ (decode cX4_likePath 32 = .ok (.aload_n 0, 1)) ∧ (decode cX4_likePath 33 = .ok (.getfield 68, 3)) ∧ (decode cX4_likePath 36 = .ok (.if_icmp .ge 39, 3)) ∧ (decode cX4_likePath 39 = .ok (.iload_n 2, 1)) := by decide +kernel
theorem dX4_likePath_20 : decode cX4_likePath 20 = .ok (.if_icmp .ne 7, 3) := bdX4_likePath_20.1
theorem dX4_likePath_23 : decode cX4_likePath 23 = .ok (.iconst 1, 1) := bdX4_likePath_20.2.1
theorem dX4_likePath_24 : decode cX4_likePath 24 = .ok (.goto 4, 3) := bdX4_likePath_20.2.2.1
theorem dX4_likePath_27 : decode cX4_likePath 27 = .ok (.iconst 0, 1) := bdX4_likePath_20.2.2.2.1
theorem dX4_likePath_28 : decode cX4_likePath 28 = .ok (.istore_n 2, 1) := bdX4_likePath_20.2.2.2.2.1
theorem dX4_likePath_29 : decode cX4_likePath 29 = .ok (.iconst 0, 1) := bdX4_likePath_20.2.2.2.2.2.1
theorem dX4_likePath_30 : decode cX4_likePath 30 = .ok (.istore_n 3, 1) := bdX4_likePath_20.2.2.2.2.2.2.1
theorem dX4_likePath_31 : decode cX4_likePath 31 = .ok (.iload_n 3, 1) := bdX4_likePath_20.2.2.2.2.2.2.2.1
theorem dX4_likePath_32 : decode cX4_likePath 32 = .ok (.aload_n 0, 1) := bdX4_likePath_20.2.2.2.2.2.2.2.2.1
theorem dX4_likePath_33 : decode cX4_likePath 33 = .ok (.getfield 68, 3) := bdX4_likePath_20.2.2.2.2.2.2.2.2.2.1
theorem dX4_likePath_36 : decode cX4_likePath 36 = .ok (.if_icmp .ge 39, 3) := bdX4_likePath_20.2.2.2.2.2.2.2.2.2.2.1
theorem dX4_likePath_39 : decode cX4_likePath 39 = .ok (.iload_n 2, 1) := bdX4_likePath_20.2.2.2.2.2.2.2.2.2.2.2
set_option maxRecDepth 20000 in
theorem bdX4_likePath_40 : (decode cX4_likePath 40 = .ok (.ifCond .eq 27, 3)) ∧ (decode cX4_likePath 43 = .ok (.aload_n 0, 1)) ∧ (decode cX4_likePath 44 = .ok (.getfield 7, 3)) ∧ (decode cX4_likePath 47 = .ok (.iconst 4, 1)) ∧ (decode cX4_likePath 48 = .ok (.iload_n 1, 1)) ∧ (decode cX4_likePath 49 = .ok (.imul, 1)) ∧ (decode cX4_likePath 50 = .ok (.iload_n 3, 1)) ∧ (decode cX4_likePath 51 = .ok (.iadd, 1)) ∧ (decode cX4_likePath 52 = .ok (.laload, 1)) ∧ (decode cX4_likePath 53 = .ok (.aload_n 0, 1)) ∧ (decode cX4_likePath 54 = .ok (.getfield 17, 3)) ∧ (decode cX4_likePath 57 = .ok (.iload_n 3, 1)) := by decide +kernel
theorem dX4_likePath_40 : decode cX4_likePath 40 = .ok (.ifCond .eq 27, 3) := bdX4_likePath_40.1
theorem dX4_likePath_43 : decode cX4_likePath 43 = .ok (.aload_n 0, 1) := bdX4_likePath_40.2.1
theorem dX4_likePath_44 : decode cX4_likePath 44 = .ok (.getfield 7, 3) := bdX4_likePath_40.2.2.1
theorem dX4_likePath_47 : decode cX4_likePath 47 = .ok (.iconst 4, 1) := bdX4_likePath_40.2.2.2.1
theorem dX4_likePath_48 : decode cX4_likePath 48 = .ok (.iload_n 1, 1) := bdX4_likePath_40.2.2.2.2.1
theorem dX4_likePath_49 : decode cX4_likePath 49 = .ok (.imul, 1) := bdX4_likePath_40.2.2.2.2.2.1
theorem dX4_likePath_50 : decode cX4_likePath 50 = .ok (.iload_n 3, 1) := bdX4_likePath_40.2.2.2.2.2.2.1
theorem dX4_likePath_51 : decode cX4_likePath 51 = .ok (.iadd, 1) := bdX4_likePath_40.2.2.2.2.2.2.2.1
theorem dX4_likePath_52 : decode cX4_likePath 52 = .ok (.laload, 1) := bdX4_likePath_40.2.2.2.2.2.2.2.2.1
theorem dX4_likePath_53 : decode cX4_likePath 53 = .ok (.aload_n 0, 1) := bdX4_likePath_40.2.2.2.2.2.2.2.2.2.1
theorem dX4_likePath_54 : decode cX4_likePath 54 = .ok (.getfield 17, 3) := bdX4_likePath_40.2.2.2.2.2.2.2.2.2.2.1
theorem dX4_likePath_57 : decode cX4_likePath 57 = .ok (.iload_n 3, 1) := bdX4_likePath_40.2.2.2.2.2.2.2.2.2.2.2
set_option maxRecDepth 20000 in
theorem bdX4_likePath_58 : (decode cX4_likePath 58 = .ok (.laload, 1)) ∧ (decode cX4_likePath 59 = .ok (.lcmp, 1)) ∧ (decode cX4_likePath 60 = .ok (.ifCond .ne 7, 3)) ∧ (decode cX4_likePath 63 = .ok (.iconst 1, 1)) ∧ (decode cX4_likePath 64 = .ok (.goto 4, 3)) ∧ (decode cX4_likePath 67 = .ok (.iconst 0, 1)) ∧ (decode cX4_likePath 68 = .ok (.istore_n 2, 1)) ∧ (decode cX4_likePath 69 = .ok (.iinc 3 1, 3)) ∧ (decode cX4_likePath 72 = .ok (.goto (-41), 3)) ∧ (decode cX4_likePath 75 = .ok (.iload_n 2, 1)) ∧ (decode cX4_likePath 76 = .ok (.ifCond .eq 5, 3)) ∧ (decode cX4_likePath 79 = .ok (.iload_n 1, 1)) := by decide +kernel
theorem dX4_likePath_58 : decode cX4_likePath 58 = .ok (.laload, 1) := bdX4_likePath_58.1
theorem dX4_likePath_59 : decode cX4_likePath 59 = .ok (.lcmp, 1) := bdX4_likePath_58.2.1
theorem dX4_likePath_60 : decode cX4_likePath 60 = .ok (.ifCond .ne 7, 3) := bdX4_likePath_58.2.2.1
theorem dX4_likePath_63 : decode cX4_likePath 63 = .ok (.iconst 1, 1) := bdX4_likePath_58.2.2.2.1
theorem dX4_likePath_64 : decode cX4_likePath 64 = .ok (.goto 4, 3) := bdX4_likePath_58.2.2.2.2.1
theorem dX4_likePath_67 : decode cX4_likePath 67 = .ok (.iconst 0, 1) := bdX4_likePath_58.2.2.2.2.2.1
theorem dX4_likePath_68 : decode cX4_likePath 68 = .ok (.istore_n 2, 1) := bdX4_likePath_58.2.2.2.2.2.2.1
theorem dX4_likePath_69 : decode cX4_likePath 69 = .ok (.iinc 3 1, 3) := bdX4_likePath_58.2.2.2.2.2.2.2.1
theorem dX4_likePath_72 : decode cX4_likePath 72 = .ok (.goto (-41), 3) := bdX4_likePath_58.2.2.2.2.2.2.2.2.1
theorem dX4_likePath_75 : decode cX4_likePath 75 = .ok (.iload_n 2, 1) := bdX4_likePath_58.2.2.2.2.2.2.2.2.2.1
theorem dX4_likePath_76 : decode cX4_likePath 76 = .ok (.ifCond .eq 5, 3) := bdX4_likePath_58.2.2.2.2.2.2.2.2.2.2.1
theorem dX4_likePath_79 : decode cX4_likePath 79 = .ok (.iload_n 1, 1) := bdX4_likePath_58.2.2.2.2.2.2.2.2.2.2.2
set_option maxRecDepth 20000 in
theorem bdX4_likePath_80 : (decode cX4_likePath 80 = .ok (.ireturn, 1)) ∧ (decode cX4_likePath 81 = .ok (.iinc 1 1, 3)) ∧ (decode cX4_likePath 84 = .ok (.goto (-82), 3)) ∧ (decode cX4_likePath 87 = .ok (.aload_n 0, 1)) ∧ (decode cX4_likePath 88 = .ok (.getfield 72, 3)) ∧ (decode cX4_likePath 91 = .ok (.ireturn, 1)) := by decide +kernel
theorem dX4_likePath_80 : decode cX4_likePath 80 = .ok (.ireturn, 1) := bdX4_likePath_80.1
theorem dX4_likePath_81 : decode cX4_likePath 81 = .ok (.iinc 1 1, 3) := bdX4_likePath_80.2.1
theorem dX4_likePath_84 : decode cX4_likePath 84 = .ok (.goto (-82), 3) := bdX4_likePath_80.2.2.1
theorem dX4_likePath_87 : decode cX4_likePath 87 = .ok (.aload_n 0, 1) := bdX4_likePath_80.2.2.2.1
theorem dX4_likePath_88 : decode cX4_likePath 88 = .ok (.getfield 72, 3) := bdX4_likePath_80.2.2.2.2.1
theorem dX4_likePath_91 : decode cX4_likePath 91 = .ok (.ireturn, 1) := bdX4_likePath_80.2.2.2.2.2
set_option maxRecDepth 20000 in
theorem ggX4_takePath_X4_likePath : GoodIn wsX4_takePath wsX4_likePath := goodIn_r _ [10, 1, 2, 3, 4, 5, 11, 12, 13, 14, 15, 16, 17, 18, 19, 20, 21, 22, 23, 24, 25, 26, 27, 28, 29, 30, 31] (by decide +kernel) (by decide +kernel)
set_option maxRecDepth 20000 in
theorem gX4_takePath_X4_likePath : GoodIn wsX4_takePath (wsV RX4 75 RX4 yX4_likePath wsX4_likePath) := goodIn_app (goodIn_of _ (by decide +kernel)) ggX4_takePath_X4_likePath
set_option maxRecDepth 20000 in
theorem bdX4_takePath_0 : (decode cX4_takePath 0 = .ok (.aload_n 0, 1)) ∧ (decode cX4_takePath 1 = .ok (.invokevirtual 75, 3)) ∧ (decode cX4_takePath 4 = .ok (.istore_n 1, 1)) ∧ (decode cX4_takePath 5 = .ok (.iload_n 1, 1)) ∧ (decode cX4_takePath 6 = .ok (.bipush 24, 2)) ∧ (decode cX4_takePath 8 = .ok (.if_icmp .ne 6, 3)) ∧ (decode cX4_takePath 11 = .ok (.bipush (-2), 2)) ∧ (decode cX4_takePath 13 = .ok (.ireturn, 1)) ∧ (decode cX4_takePath 14 = .ok (.iload_n 1, 1)) ∧ (decode cX4_takePath 15 = .ok (.aload_n 0, 1)) ∧ (decode cX4_takePath 16 = .ok (.getfield 72, 3)) ∧ (decode cX4_takePath 19 = .ok (.if_icmp .ne 55, 3)) := by decide +kernel
theorem dX4_takePath_0 : decode cX4_takePath 0 = .ok (.aload_n 0, 1) := bdX4_takePath_0.1
theorem dX4_takePath_1 : decode cX4_takePath 1 = .ok (.invokevirtual 75, 3) := bdX4_takePath_0.2.1
theorem dX4_takePath_4 : decode cX4_takePath 4 = .ok (.istore_n 1, 1) := bdX4_takePath_0.2.2.1
theorem dX4_takePath_5 : decode cX4_takePath 5 = .ok (.iload_n 1, 1) := bdX4_takePath_0.2.2.2.1
theorem dX4_takePath_6 : decode cX4_takePath 6 = .ok (.bipush 24, 2) := bdX4_takePath_0.2.2.2.2.1
theorem dX4_takePath_8 : decode cX4_takePath 8 = .ok (.if_icmp .ne 6, 3) := bdX4_takePath_0.2.2.2.2.2.1
theorem dX4_takePath_11 : decode cX4_takePath 11 = .ok (.bipush (-2), 2) := bdX4_takePath_0.2.2.2.2.2.2.1
theorem dX4_takePath_13 : decode cX4_takePath 13 = .ok (.ireturn, 1) := bdX4_takePath_0.2.2.2.2.2.2.2.1
theorem dX4_takePath_14 : decode cX4_takePath 14 = .ok (.iload_n 1, 1) := bdX4_takePath_0.2.2.2.2.2.2.2.2.1
theorem dX4_takePath_15 : decode cX4_takePath 15 = .ok (.aload_n 0, 1) := bdX4_takePath_0.2.2.2.2.2.2.2.2.2.1
theorem dX4_takePath_16 : decode cX4_takePath 16 = .ok (.getfield 72, 3) := bdX4_takePath_0.2.2.2.2.2.2.2.2.2.2.1
theorem dX4_takePath_19 : decode cX4_takePath 19 = .ok (.if_icmp .ne 55, 3) := bdX4_takePath_0.2.2.2.2.2.2.2.2.2.2.2
set_option maxRecDepth 20000 in
theorem bdX4_takePath_22 : (decode cX4_takePath 22 = .ok (.aload_n 0, 1)) ∧ (decode cX4_takePath 23 = .ok (.getfield 13, 3)) ∧ (decode cX4_takePath 26 = .ok (.iload_n 1, 1)) ∧ (decode cX4_takePath 27 = .ok (.aload_n 0, 1)) ∧ (decode cX4_takePath 28 = .ok (.getfield 68, 3)) ∧ (decode cX4_takePath 31 = .ok (.iastore, 1)) ∧ (decode cX4_takePath 32 = .ok (.iconst 0, 1)) ∧ (decode cX4_takePath 33 = .ok (.istore_n 2, 1)) ∧ (decode cX4_takePath 34 = .ok (.iload_n 2, 1)) ∧ (decode cX4_takePath 35 = .ok (.aload_n 0, 1)) ∧ (decode cX4_takePath 36 = .ok (.getfield 68, 3)) ∧ (decode cX4_takePath 39 = .ok (.if_icmp .ge 25, 3)) := by decide +kernel
theorem dX4_takePath_22 : decode cX4_takePath 22 = .ok (.aload_n 0, 1) := bdX4_takePath_22.1
theorem dX4_takePath_23 : decode cX4_takePath 23 = .ok (.getfield 13, 3) := bdX4_takePath_22.2.1
theorem dX4_takePath_26 : decode cX4_takePath 26 = .ok (.iload_n 1, 1) := bdX4_takePath_22.2.2.1
theorem dX4_takePath_27 : decode cX4_takePath 27 = .ok (.aload_n 0, 1) := bdX4_takePath_22.2.2.2.1
theorem dX4_takePath_28 : decode cX4_takePath 28 = .ok (.getfield 68, 3) := bdX4_takePath_22.2.2.2.2.1
theorem dX4_takePath_31 : decode cX4_takePath 31 = .ok (.iastore, 1) := bdX4_takePath_22.2.2.2.2.2.1
theorem dX4_takePath_32 : decode cX4_takePath 32 = .ok (.iconst 0, 1) := bdX4_takePath_22.2.2.2.2.2.2.1
theorem dX4_takePath_33 : decode cX4_takePath 33 = .ok (.istore_n 2, 1) := bdX4_takePath_22.2.2.2.2.2.2.2.1
theorem dX4_takePath_34 : decode cX4_takePath 34 = .ok (.iload_n 2, 1) := bdX4_takePath_22.2.2.2.2.2.2.2.2.1
theorem dX4_takePath_35 : decode cX4_takePath 35 = .ok (.aload_n 0, 1) := bdX4_takePath_22.2.2.2.2.2.2.2.2.2.1
theorem dX4_takePath_36 : decode cX4_takePath 36 = .ok (.getfield 68, 3) := bdX4_takePath_22.2.2.2.2.2.2.2.2.2.2.1
theorem dX4_takePath_39 : decode cX4_takePath 39 = .ok (.if_icmp .ge 25, 3) := bdX4_takePath_22.2.2.2.2.2.2.2.2.2.2.2
set_option maxRecDepth 20000 in
theorem bdX4_takePath_42 : (decode cX4_takePath 42 = .ok (.aload_n 0, 1)) ∧ (decode cX4_takePath 43 = .ok (.getfield 7, 3)) ∧ (decode cX4_takePath 46 = .ok (.iconst 4, 1)) ∧ (decode cX4_takePath 47 = .ok (.iload_n 1, 1)) ∧ (decode cX4_takePath 48 = .ok (.imul, 1)) ∧ (decode cX4_takePath 49 = .ok (.iload_n 2, 1)) ∧ (decode cX4_takePath 50 = .ok (.iadd, 1)) ∧ (decode cX4_takePath 51 = .ok (.aload_n 0, 1)) ∧ (decode cX4_takePath 52 = .ok (.getfield 17, 3)) ∧ (decode cX4_takePath 55 = .ok (.iload_n 2, 1)) ∧ (decode cX4_takePath 56 = .ok (.laload, 1)) ∧ (decode cX4_takePath 57 = .ok (.lastore, 1)) := by decide +kernel
theorem dX4_takePath_42 : decode cX4_takePath 42 = .ok (.aload_n 0, 1) := bdX4_takePath_42.1
theorem dX4_takePath_43 : decode cX4_takePath 43 = .ok (.getfield 7, 3) := bdX4_takePath_42.2.1
theorem dX4_takePath_46 : decode cX4_takePath 46 = .ok (.iconst 4, 1) := bdX4_takePath_42.2.2.1
theorem dX4_takePath_47 : decode cX4_takePath 47 = .ok (.iload_n 1, 1) := bdX4_takePath_42.2.2.2.1
theorem dX4_takePath_48 : decode cX4_takePath 48 = .ok (.imul, 1) := bdX4_takePath_42.2.2.2.2.1
theorem dX4_takePath_49 : decode cX4_takePath 49 = .ok (.iload_n 2, 1) := bdX4_takePath_42.2.2.2.2.2.1
theorem dX4_takePath_50 : decode cX4_takePath 50 = .ok (.iadd, 1) := bdX4_takePath_42.2.2.2.2.2.2.1
theorem dX4_takePath_51 : decode cX4_takePath 51 = .ok (.aload_n 0, 1) := bdX4_takePath_42.2.2.2.2.2.2.2.1
theorem dX4_takePath_52 : decode cX4_takePath 52 = .ok (.getfield 17, 3) := bdX4_takePath_42.2.2.2.2.2.2.2.2.1
theorem dX4_takePath_55 : decode cX4_takePath 55 = .ok (.iload_n 2, 1) := bdX4_takePath_42.2.2.2.2.2.2.2.2.2.1
theorem dX4_takePath_56 : decode cX4_takePath 56 = .ok (.laload, 1) := bdX4_takePath_42.2.2.2.2.2.2.2.2.2.2.1
theorem dX4_takePath_57 : decode cX4_takePath 57 = .ok (.lastore, 1) := bdX4_takePath_42.2.2.2.2.2.2.2.2.2.2.2
set_option maxRecDepth 20000 in
theorem bdX4_takePath_58 : (decode cX4_takePath 58 = .ok (.iinc 2 1, 3)) ∧ (decode cX4_takePath 61 = .ok (.goto (-27), 3)) ∧ (decode cX4_takePath 64 = .ok (.aload_n 0, 1)) ∧ (decode cX4_takePath 65 = .ok (.dup, 1)) ∧ (decode cX4_takePath 66 = .ok (.getfield 72, 3)) ∧ (decode cX4_takePath 69 = .ok (.iconst 1, 1)) ∧ (decode cX4_takePath 70 = .ok (.iadd, 1)) ∧ (decode cX4_takePath 71 = .ok (.putfield 72, 3)) ∧ (decode cX4_takePath 74 = .ok (.iload_n 1, 1)) ∧ (decode cX4_takePath 75 = .ok (.ireturn, 1)) := by decide +kernel
theorem dX4_takePath_58 : decode cX4_takePath 58 = .ok (.iinc 2 1, 3) := bdX4_takePath_58.1
theorem dX4_takePath_61 : decode cX4_takePath 61 = .ok (.goto (-27), 3) := bdX4_takePath_58.2.1
theorem dX4_takePath_64 : decode cX4_takePath 64 = .ok (.aload_n 0, 1) := bdX4_takePath_58.2.2.1
theorem dX4_takePath_65 : decode cX4_takePath 65 = .ok (.dup, 1) := bdX4_takePath_58.2.2.2.1
theorem dX4_takePath_66 : decode cX4_takePath 66 = .ok (.getfield 72, 3) := bdX4_takePath_58.2.2.2.2.1
theorem dX4_takePath_69 : decode cX4_takePath 69 = .ok (.iconst 1, 1) := bdX4_takePath_58.2.2.2.2.2.1
theorem dX4_takePath_70 : decode cX4_takePath 70 = .ok (.iadd, 1) := bdX4_takePath_58.2.2.2.2.2.2.1
theorem dX4_takePath_71 : decode cX4_takePath 71 = .ok (.putfield 72, 3) := bdX4_takePath_58.2.2.2.2.2.2.2.1
theorem dX4_takePath_74 : decode cX4_takePath 74 = .ok (.iload_n 1, 1) := bdX4_takePath_58.2.2.2.2.2.2.2.2.1
theorem dX4_takePath_75 : decode cX4_takePath 75 = .ok (.ireturn, 1) := bdX4_takePath_58.2.2.2.2.2.2.2.2.2
set_option maxRecDepth 20000 in
theorem ggX4_path_X4_takePath : GoodIn wsX4_path wsX4_takePath := goodIn_r _ [6, 7, 8, 1, 9, 10, 11, 12, 13, 5, 14, 15, 16, 17, 18, 19, 20, 21, 22, 23, 24, 25, 26, 27, 28, 29, 30, 31, 32, 33, 34, 35] (by decide +kernel) (by decide +kernel)
set_option maxRecDepth 20000 in
theorem gX4_path_X4_takePath : GoodIn wsX4_path (wsV RX4 79 RX4 yX4_takePath wsX4_takePath) := goodIn_app (goodIn_of _ (by decide +kernel)) ggX4_path_X4_takePath
set_option maxRecDepth 20000 in
theorem bdX4_path_0 : (decode cX4_path 0 = .ok (.aload_n 0, 1)) ∧ (decode cX4_path 1 = .ok (.getfield 68, 3)) ∧ (decode cX4_path 4 = .ok (.ifCond .ne 5, 3)) ∧ (decode cX4_path 7 = .ok (.iconst (-1), 1)) ∧ (decode cX4_path 8 = .ok (.ireturn, 1)) ∧ (decode cX4_path 9 = .ok (.aload_n 0, 1)) ∧ (decode cX4_path 10 = .ok (.invokevirtual 79, 3)) ∧ (decode cX4_path 13 = .ok (.istore_n 1, 1)) ∧ (decode cX4_path 14 = .ok (.aload_n 0, 1)) ∧ (decode cX4_path 15 = .ok (.iload_n 1, 1)) ∧ (decode cX4_path 16 = .ok (.ifCond .ge 10, 3)) ∧ (decode cX4_path 19 = .ok (.aload_n 0, 1)) := by decide +kernel
theorem dX4_path_0 : decode cX4_path 0 = .ok (.aload_n 0, 1) := bdX4_path_0.1
theorem dX4_path_1 : decode cX4_path 1 = .ok (.getfield 68, 3) := bdX4_path_0.2.1
theorem dX4_path_4 : decode cX4_path 4 = .ok (.ifCond .ne 5, 3) := bdX4_path_0.2.2.1
theorem dX4_path_7 : decode cX4_path 7 = .ok (.iconst (-1), 1) := bdX4_path_0.2.2.2.1
theorem dX4_path_8 : decode cX4_path 8 = .ok (.ireturn, 1) := bdX4_path_0.2.2.2.2.1
theorem dX4_path_9 : decode cX4_path 9 = .ok (.aload_n 0, 1) := bdX4_path_0.2.2.2.2.2.1
theorem dX4_path_10 : decode cX4_path 10 = .ok (.invokevirtual 79, 3) := bdX4_path_0.2.2.2.2.2.2.1
theorem dX4_path_13 : decode cX4_path 13 = .ok (.istore_n 1, 1) := bdX4_path_0.2.2.2.2.2.2.2.1
theorem dX4_path_14 : decode cX4_path 14 = .ok (.aload_n 0, 1) := bdX4_path_0.2.2.2.2.2.2.2.2.1
theorem dX4_path_15 : decode cX4_path 15 = .ok (.iload_n 1, 1) := bdX4_path_0.2.2.2.2.2.2.2.2.2.1
theorem dX4_path_16 : decode cX4_path 16 = .ok (.ifCond .ge 10, 3) := bdX4_path_0.2.2.2.2.2.2.2.2.2.2.1
theorem dX4_path_19 : decode cX4_path 19 = .ok (.aload_n 0, 1) := bdX4_path_0.2.2.2.2.2.2.2.2.2.2.2
set_option maxRecDepth 20000 in
theorem bdX4_path_20 : (decode cX4_path 20 = .ok (.getfield 68, 3)) ∧ (decode cX4_path 23 = .ok (.goto 4, 3)) ∧ (decode cX4_path 26 = .ok (.iconst 0, 1)) ∧ (decode cX4_path 27 = .ok (.putfield 68, 3)) ∧ (decode cX4_path 30 = .ok (.iload_n 1, 1)) ∧ (decode cX4_path 31 = .ok (.ireturn, 1)) := by decide +kernel
theorem dX4_path_20 : decode cX4_path 20 = .ok (.getfield 68, 3) := bdX4_path_20.1
theorem dX4_path_23 : decode cX4_path 23 = .ok (.goto 4, 3) := bdX4_path_20.2.1
theorem dX4_path_26 : decode cX4_path 26 = .ok (.iconst 0, 1) := bdX4_path_20.2.2.1
theorem dX4_path_27 : decode cX4_path 27 = .ok (.putfield 68, 3) := bdX4_path_20.2.2.2.1
theorem dX4_path_30 : decode cX4_path 30 = .ok (.iload_n 1, 1) := bdX4_path_20.2.2.2.2.1
theorem dX4_path_31 : decode cX4_path 31 = .ok (.ireturn, 1) := bdX4_path_20.2.2.2.2.2
set_option maxRecDepth 20000 in
theorem ggX4_isPath_X4_in : GoodIn wsX4_isPath wsX4_in := goodIn_r _ [5] (by decide +kernel) (by decide +kernel)
set_option maxRecDepth 20000 in
theorem gX4_isPath_X4_in : GoodIn wsX4_isPath (va_wsS RX4 82 yX4_in wsX4_in) := goodIn_app (goodIn_of _ (by decide +kernel)) ggX4_isPath_X4_in
set_option maxRecDepth 20000 in
theorem bdX4_isPath_0 : (decode cX4_isPath 0 = .ok (.iload_n 1, 1)) ∧ (decode cX4_isPath 1 = .ok (.i2l, 1)) ∧ (decode cX4_isPath 2 = .ok (.lconst 0, 1)) ∧ (decode cX4_isPath 3 = .ok (.aload_n 0, 1)) ∧ (decode cX4_isPath 4 = .ok (.getfield 72, 3)) ∧ (decode cX4_isPath 7 = .ok (.iconst 1, 1)) ∧ (decode cX4_isPath 8 = .ok (.isub, 1)) ∧ (decode cX4_isPath 9 = .ok (.i2l, 1)) ∧ (decode cX4_isPath 10 = .ok (.invokestatic 82, 3)) ∧ (decode cX4_isPath 13 = .ok (.ireturn, 1)) := by decide +kernel
theorem dX4_isPath_0 : decode cX4_isPath 0 = .ok (.iload_n 1, 1) := bdX4_isPath_0.1
theorem dX4_isPath_1 : decode cX4_isPath 1 = .ok (.i2l, 1) := bdX4_isPath_0.2.1
theorem dX4_isPath_2 : decode cX4_isPath 2 = .ok (.lconst 0, 1) := bdX4_isPath_0.2.2.1
theorem dX4_isPath_3 : decode cX4_isPath 3 = .ok (.aload_n 0, 1) := bdX4_isPath_0.2.2.2.1
theorem dX4_isPath_4 : decode cX4_isPath 4 = .ok (.getfield 72, 3) := bdX4_isPath_0.2.2.2.2.1
theorem dX4_isPath_7 : decode cX4_isPath 7 = .ok (.iconst 1, 1) := bdX4_isPath_0.2.2.2.2.2.1
theorem dX4_isPath_8 : decode cX4_isPath 8 = .ok (.isub, 1) := bdX4_isPath_0.2.2.2.2.2.2.1
theorem dX4_isPath_9 : decode cX4_isPath 9 = .ok (.i2l, 1) := bdX4_isPath_0.2.2.2.2.2.2.2.1
theorem dX4_isPath_10 : decode cX4_isPath 10 = .ok (.invokestatic 82, 3) := bdX4_isPath_0.2.2.2.2.2.2.2.2.1
theorem dX4_isPath_13 : decode cX4_isPath 13 = .ok (.ireturn, 1) := bdX4_isPath_0.2.2.2.2.2.2.2.2.2
set_option maxRecDepth 20000 in
theorem ggX4_keyOf_X4_mix : GoodIn wsX4_keyOf wsX4_mix := goodIn_r _ [7, 8, 9] (by decide +kernel) (by decide +kernel)
set_option maxRecDepth 20000 in
theorem gX4_keyOf_X4_mix : GoodIn wsX4_keyOf (va_wsS RX4 88 yX4_mix wsX4_mix) := goodIn_app (goodIn_of _ (by decide +kernel)) ggX4_keyOf_X4_mix
set_option maxRecDepth 20000 in
theorem bdX4_keyOf_0 : (decode cX4_keyOf 0 = .ok (.lconst 0, 1)) ∧ (decode cX4_keyOf 1 = .ok (.lstore_n 2, 1)) ∧ (decode cX4_keyOf 2 = .ok (.iconst 0, 1)) ∧ (decode cX4_keyOf 3 = .ok (.istore 4, 2)) ∧ (decode cX4_keyOf 5 = .ok (.iload 4, 2)) ∧ (decode cX4_keyOf 7 = .ok (.aload_n 0, 1)) ∧ (decode cX4_keyOf 8 = .ok (.getfield 13, 3)) ∧ (decode cX4_keyOf 11 = .ok (.iload_n 1, 1)) ∧ (decode cX4_keyOf 12 = .ok (.iaload, 1)) ∧ (decode cX4_keyOf 13 = .ok (.if_icmp .ge 30, 3)) ∧ (decode cX4_keyOf 16 = .ok (.lload_n 2, 1)) ∧ (decode cX4_keyOf 17 = .ok (.ldc2_w 86, 3)) := by decide +kernel
theorem dX4_keyOf_0 : decode cX4_keyOf 0 = .ok (.lconst 0, 1) := bdX4_keyOf_0.1
theorem dX4_keyOf_1 : decode cX4_keyOf 1 = .ok (.lstore_n 2, 1) := bdX4_keyOf_0.2.1
theorem dX4_keyOf_2 : decode cX4_keyOf 2 = .ok (.iconst 0, 1) := bdX4_keyOf_0.2.2.1
theorem dX4_keyOf_3 : decode cX4_keyOf 3 = .ok (.istore 4, 2) := bdX4_keyOf_0.2.2.2.1
theorem dX4_keyOf_5 : decode cX4_keyOf 5 = .ok (.iload 4, 2) := bdX4_keyOf_0.2.2.2.2.1
theorem dX4_keyOf_7 : decode cX4_keyOf 7 = .ok (.aload_n 0, 1) := bdX4_keyOf_0.2.2.2.2.2.1
theorem dX4_keyOf_8 : decode cX4_keyOf 8 = .ok (.getfield 13, 3) := bdX4_keyOf_0.2.2.2.2.2.2.1
theorem dX4_keyOf_11 : decode cX4_keyOf 11 = .ok (.iload_n 1, 1) := bdX4_keyOf_0.2.2.2.2.2.2.2.1
theorem dX4_keyOf_12 : decode cX4_keyOf 12 = .ok (.iaload, 1) := bdX4_keyOf_0.2.2.2.2.2.2.2.2.1
theorem dX4_keyOf_13 : decode cX4_keyOf 13 = .ok (.if_icmp .ge 30, 3) := bdX4_keyOf_0.2.2.2.2.2.2.2.2.2.1
theorem dX4_keyOf_16 : decode cX4_keyOf 16 = .ok (.lload_n 2, 1) := bdX4_keyOf_0.2.2.2.2.2.2.2.2.2.2.1
theorem dX4_keyOf_17 : decode cX4_keyOf 17 = .ok (.ldc2_w 86, 3) := bdX4_keyOf_0.2.2.2.2.2.2.2.2.2.2.2
set_option maxRecDepth 20000 in
theorem bdX4_keyOf_20 : (decode cX4_keyOf 20 = .ok (.ladd, 1)) ∧ (decode cX4_keyOf 21 = .ok (.aload_n 0, 1)) ∧ (decode cX4_keyOf 22 = .ok (.getfield 7, 3)) ∧ (decode cX4_keyOf 25 = .ok (.iconst 4, 1)) ∧ (decode cX4_keyOf 26 = .ok (.iload_n 1, 1)) ∧ (decode cX4_keyOf 27 = .ok (.imul, 1)) ∧ (decode cX4_keyOf 28 = .ok (.iload 4, 2)) ∧ (decode cX4_keyOf 30 = .ok (.iadd, 1)) ∧ (decode cX4_keyOf 31 = .ok (.laload, 1)) ∧ (decode cX4_keyOf 32 = .ok (.lxor, 1)) ∧ (decode cX4_keyOf 33 = .ok (.invokestatic 88, 3)) ∧ (decode cX4_keyOf 36 = .ok (.lstore_n 2, 1)) := by decide +kernel
theorem dX4_keyOf_20 : decode cX4_keyOf 20 = .ok (.ladd, 1) := bdX4_keyOf_20.1
theorem dX4_keyOf_21 : decode cX4_keyOf 21 = .ok (.aload_n 0, 1) := bdX4_keyOf_20.2.1
theorem dX4_keyOf_22 : decode cX4_keyOf 22 = .ok (.getfield 7, 3) := bdX4_keyOf_20.2.2.1
theorem dX4_keyOf_25 : decode cX4_keyOf 25 = .ok (.iconst 4, 1) := bdX4_keyOf_20.2.2.2.1
theorem dX4_keyOf_26 : decode cX4_keyOf 26 = .ok (.iload_n 1, 1) := bdX4_keyOf_20.2.2.2.2.1
theorem dX4_keyOf_27 : decode cX4_keyOf 27 = .ok (.imul, 1) := bdX4_keyOf_20.2.2.2.2.2.1
theorem dX4_keyOf_28 : decode cX4_keyOf 28 = .ok (.iload 4, 2) := bdX4_keyOf_20.2.2.2.2.2.2.1
theorem dX4_keyOf_30 : decode cX4_keyOf 30 = .ok (.iadd, 1) := bdX4_keyOf_20.2.2.2.2.2.2.2.1
theorem dX4_keyOf_31 : decode cX4_keyOf 31 = .ok (.laload, 1) := bdX4_keyOf_20.2.2.2.2.2.2.2.2.1
theorem dX4_keyOf_32 : decode cX4_keyOf 32 = .ok (.lxor, 1) := bdX4_keyOf_20.2.2.2.2.2.2.2.2.2.1
theorem dX4_keyOf_33 : decode cX4_keyOf 33 = .ok (.invokestatic 88, 3) := bdX4_keyOf_20.2.2.2.2.2.2.2.2.2.2.1
theorem dX4_keyOf_36 : decode cX4_keyOf 36 = .ok (.lstore_n 2, 1) := bdX4_keyOf_20.2.2.2.2.2.2.2.2.2.2.2
set_option maxRecDepth 20000 in
theorem bdX4_keyOf_37 : (decode cX4_keyOf 37 = .ok (.iinc 4 1, 3)) ∧ (decode cX4_keyOf 40 = .ok (.goto (-35), 3)) ∧ (decode cX4_keyOf 43 = .ok (.lload_n 2, 1)) ∧ (decode cX4_keyOf 44 = .ok (.lreturn, 1)) := by decide +kernel
theorem dX4_keyOf_37 : decode cX4_keyOf 37 = .ok (.iinc 4 1, 3) := bdX4_keyOf_37.1
theorem dX4_keyOf_40 : decode cX4_keyOf 40 = .ok (.goto (-35), 3) := bdX4_keyOf_37.2.1
theorem dX4_keyOf_43 : decode cX4_keyOf 43 = .ok (.lload_n 2, 1) := bdX4_keyOf_37.2.2.1
theorem dX4_keyOf_44 : decode cX4_keyOf 44 = .ok (.lreturn, 1) := bdX4_keyOf_37.2.2.2
set_option maxRecDepth 20000 in
theorem ggX4_key_X4_isPath : GoodIn wsX4_key wsX4_isPath := goodIn_r _ [6, 7, 8, 9, 5, 10, 23, 24, 25, 26, 27, 28, 29, 30, 31, 32, 33, 34, 35, 36, 37, 38, 39, 40, 41, 42, 43] (by decide +kernel) (by decide +kernel)
set_option maxRecDepth 20000 in
theorem gX4_key_X4_isPath : GoodIn wsX4_key (wsV RX4 92 RX4 yX4_isPath wsX4_isPath) := goodIn_app (goodIn_of _ (by decide +kernel)) ggX4_key_X4_isPath
set_option maxRecDepth 20000 in
theorem ggX4_key_X4_keyOf : GoodIn wsX4_key wsX4_keyOf := goodIn_r _ [14, 15, 16, 17, 18, 19, 5, 20, 21, 22, 23, 24, 25, 26, 27, 28, 29, 30, 31, 32, 33, 34, 35, 36, 37, 38, 39, 40, 41, 42, 43] (by decide +kernel) (by decide +kernel)
set_option maxRecDepth 20000 in
theorem gX4_key_X4_keyOf : GoodIn wsX4_key (wsV RX4 99 RX4 yX4_keyOf wsX4_keyOf) := goodIn_app (goodIn_of _ (by decide +kernel)) ggX4_key_X4_keyOf
set_option maxRecDepth 20000 in
theorem bdX4_key_0 : (decode cX4_key 0 = .ok (.aload_n 0, 1)) ∧ (decode cX4_key 1 = .ok (.aload_n 0, 1)) ∧ (decode cX4_key 2 = .ok (.iload_n 1, 1)) ∧ (decode cX4_key 3 = .ok (.invokevirtual 92, 3)) ∧ (decode cX4_key 6 = .ok (.ifCond .eq 7, 3)) ∧ (decode cX4_key 9 = .ok (.iconst 0, 1)) ∧ (decode cX4_key 10 = .ok (.goto 4, 3)) ∧ (decode cX4_key 13 = .ok (.iconst (-1), 1)) ∧ (decode cX4_key 14 = .ok (.putfield 96, 3)) ∧ (decode cX4_key 17 = .ok (.aload_n 0, 1)) ∧ (decode cX4_key 18 = .ok (.getfield 96, 3)) ∧ (decode cX4_key 21 = .ok (.ifCond .ge 7, 3)) := by decide +kernel
theorem dX4_key_0 : decode cX4_key 0 = .ok (.aload_n 0, 1) := bdX4_key_0.1
theorem dX4_key_1 : decode cX4_key 1 = .ok (.aload_n 0, 1) := bdX4_key_0.2.1
theorem dX4_key_2 : decode cX4_key 2 = .ok (.iload_n 1, 1) := bdX4_key_0.2.2.1
theorem dX4_key_3 : decode cX4_key 3 = .ok (.invokevirtual 92, 3) := bdX4_key_0.2.2.2.1
theorem dX4_key_6 : decode cX4_key 6 = .ok (.ifCond .eq 7, 3) := bdX4_key_0.2.2.2.2.1
theorem dX4_key_9 : decode cX4_key 9 = .ok (.iconst 0, 1) := bdX4_key_0.2.2.2.2.2.1
theorem dX4_key_10 : decode cX4_key 10 = .ok (.goto 4, 3) := bdX4_key_0.2.2.2.2.2.2.1
theorem dX4_key_13 : decode cX4_key 13 = .ok (.iconst (-1), 1) := bdX4_key_0.2.2.2.2.2.2.2.1
theorem dX4_key_14 : decode cX4_key 14 = .ok (.putfield 96, 3) := bdX4_key_0.2.2.2.2.2.2.2.2.1
theorem dX4_key_17 : decode cX4_key 17 = .ok (.aload_n 0, 1) := bdX4_key_0.2.2.2.2.2.2.2.2.2.1
theorem dX4_key_18 : decode cX4_key 18 = .ok (.getfield 96, 3) := bdX4_key_0.2.2.2.2.2.2.2.2.2.2.1
theorem dX4_key_21 : decode cX4_key 21 = .ok (.ifCond .ge 7, 3) := bdX4_key_0.2.2.2.2.2.2.2.2.2.2.2
set_option maxRecDepth 20000 in
theorem bdX4_key_24 : (decode cX4_key 24 = .ok (.lconst 0, 1)) ∧ (decode cX4_key 25 = .ok (.goto 8, 3)) ∧ (decode cX4_key 28 = .ok (.aload_n 0, 1)) ∧ (decode cX4_key 29 = .ok (.iload_n 1, 1)) ∧ (decode cX4_key 30 = .ok (.invokevirtual 99, 3)) ∧ (decode cX4_key 33 = .ok (.lreturn, 1)) := by decide +kernel
theorem dX4_key_24 : decode cX4_key 24 = .ok (.lconst 0, 1) := bdX4_key_24.1
theorem dX4_key_25 : decode cX4_key 25 = .ok (.goto 8, 3) := bdX4_key_24.2.1
theorem dX4_key_28 : decode cX4_key 28 = .ok (.aload_n 0, 1) := bdX4_key_24.2.2.1
theorem dX4_key_29 : decode cX4_key 29 = .ok (.iload_n 1, 1) := bdX4_key_24.2.2.2.1
theorem dX4_key_30 : decode cX4_key 30 = .ok (.invokevirtual 99, 3) := bdX4_key_24.2.2.2.2.1
theorem dX4_key_33 : decode cX4_key 33 = .ok (.lreturn, 1) := bdX4_key_24.2.2.2.2.2
set_option maxRecDepth 20000 in
theorem ggX4_wordOf_X4_keyOf : GoodIn wsX4_wordOf wsX4_keyOf := goodIn_r _ [7, 8, 2, 9, 10, 11, 6, 12, 13, 14, 15, 16, 17, 18, 19, 20, 21, 22, 23, 24, 25, 26, 27, 28, 29, 30, 31, 32, 33, 34, 35] (by decide +kernel) (by decide +kernel)
set_option maxRecDepth 20000 in
theorem gX4_wordOf_X4_keyOf : GoodIn wsX4_wordOf (wsV RX4 99 RX4 yX4_keyOf wsX4_keyOf) := goodIn_app (goodIn_of _ (by decide +kernel)) ggX4_wordOf_X4_keyOf
set_option maxRecDepth 20000 in
theorem ggX4_wordOf_X4_mix : GoodIn wsX4_wordOf wsX4_mix := goodIn_r _ [12, 13, 14] (by decide +kernel) (by decide +kernel)
set_option maxRecDepth 20000 in
theorem gX4_wordOf_X4_mix : GoodIn wsX4_wordOf (va_wsS RX4 88 yX4_mix wsX4_mix) := goodIn_app (goodIn_of _ (by decide +kernel)) ggX4_wordOf_X4_mix
set_option maxRecDepth 20000 in
theorem bdX4_wordOf_0 : (decode cX4_wordOf 0 = .ok (.aload_n 0, 1)) ∧ (decode cX4_wordOf 1 = .ok (.getfield 54, 3)) ∧ (decode cX4_wordOf 4 = .ok (.ldc2_w 86, 3)) ∧ (decode cX4_wordOf 7 = .ok (.lload_n 1, 1)) ∧ (decode cX4_wordOf 8 = .ok (.lconst 1, 1)) ∧ (decode cX4_wordOf 9 = .ok (.ladd, 1)) ∧ (decode cX4_wordOf 10 = .ok (.lmul, 1)) ∧ (decode cX4_wordOf 11 = .ok (.ladd, 1)) ∧ (decode cX4_wordOf 12 = .ok (.aload_n 0, 1)) ∧ (decode cX4_wordOf 13 = .ok (.iload_n 3, 1)) ∧ (decode cX4_wordOf 14 = .ok (.invokevirtual 99, 3)) ∧ (decode cX4_wordOf 17 = .ok (.lxor, 1)) := by decide +kernel
theorem dX4_wordOf_0 : decode cX4_wordOf 0 = .ok (.aload_n 0, 1) := bdX4_wordOf_0.1
theorem dX4_wordOf_1 : decode cX4_wordOf 1 = .ok (.getfield 54, 3) := bdX4_wordOf_0.2.1
theorem dX4_wordOf_4 : decode cX4_wordOf 4 = .ok (.ldc2_w 86, 3) := bdX4_wordOf_0.2.2.1
theorem dX4_wordOf_7 : decode cX4_wordOf 7 = .ok (.lload_n 1, 1) := bdX4_wordOf_0.2.2.2.1
theorem dX4_wordOf_8 : decode cX4_wordOf 8 = .ok (.lconst 1, 1) := bdX4_wordOf_0.2.2.2.2.1
theorem dX4_wordOf_9 : decode cX4_wordOf 9 = .ok (.ladd, 1) := bdX4_wordOf_0.2.2.2.2.2.1
theorem dX4_wordOf_10 : decode cX4_wordOf 10 = .ok (.lmul, 1) := bdX4_wordOf_0.2.2.2.2.2.2.1
theorem dX4_wordOf_11 : decode cX4_wordOf 11 = .ok (.ladd, 1) := bdX4_wordOf_0.2.2.2.2.2.2.2.1
theorem dX4_wordOf_12 : decode cX4_wordOf 12 = .ok (.aload_n 0, 1) := bdX4_wordOf_0.2.2.2.2.2.2.2.2.1
theorem dX4_wordOf_13 : decode cX4_wordOf 13 = .ok (.iload_n 3, 1) := bdX4_wordOf_0.2.2.2.2.2.2.2.2.2.1
theorem dX4_wordOf_14 : decode cX4_wordOf 14 = .ok (.invokevirtual 99, 3) := bdX4_wordOf_0.2.2.2.2.2.2.2.2.2.2.1
theorem dX4_wordOf_17 : decode cX4_wordOf 17 = .ok (.lxor, 1) := bdX4_wordOf_0.2.2.2.2.2.2.2.2.2.2.2
set_option maxRecDepth 20000 in
theorem bdX4_wordOf_18 : (decode cX4_wordOf 18 = .ok (.invokestatic 88, 3)) ∧ (decode cX4_wordOf 21 = .ok (.lstore 6, 2)) ∧ (decode cX4_wordOf 23 = .ok (.lload 6, 2)) ∧ (decode cX4_wordOf 25 = .ok (.ldc2_w 86, 3)) ∧ (decode cX4_wordOf 28 = .ok (.lload 4, 2)) ∧ (decode cX4_wordOf 30 = .ok (.lconst 1, 1)) ∧ (decode cX4_wordOf 31 = .ok (.ladd, 1)) ∧ (decode cX4_wordOf 32 = .ok (.lmul, 1)) ∧ (decode cX4_wordOf 33 = .ok (.ladd, 1)) ∧ (decode cX4_wordOf 34 = .ok (.invokestatic 88, 3)) ∧ (decode cX4_wordOf 37 = .ok (.lreturn, 1)) := by decide +kernel
theorem dX4_wordOf_18 : decode cX4_wordOf 18 = .ok (.invokestatic 88, 3) := bdX4_wordOf_18.1
theorem dX4_wordOf_21 : decode cX4_wordOf 21 = .ok (.lstore 6, 2) := bdX4_wordOf_18.2.1
theorem dX4_wordOf_23 : decode cX4_wordOf 23 = .ok (.lload 6, 2) := bdX4_wordOf_18.2.2.1
theorem dX4_wordOf_25 : decode cX4_wordOf 25 = .ok (.ldc2_w 86, 3) := bdX4_wordOf_18.2.2.2.1
theorem dX4_wordOf_28 : decode cX4_wordOf 28 = .ok (.lload 4, 2) := bdX4_wordOf_18.2.2.2.2.1
theorem dX4_wordOf_30 : decode cX4_wordOf 30 = .ok (.lconst 1, 1) := bdX4_wordOf_18.2.2.2.2.2.1
theorem dX4_wordOf_31 : decode cX4_wordOf 31 = .ok (.ladd, 1) := bdX4_wordOf_18.2.2.2.2.2.2.1
theorem dX4_wordOf_32 : decode cX4_wordOf 32 = .ok (.lmul, 1) := bdX4_wordOf_18.2.2.2.2.2.2.2.1
theorem dX4_wordOf_33 : decode cX4_wordOf 33 = .ok (.ladd, 1) := bdX4_wordOf_18.2.2.2.2.2.2.2.2.1
theorem dX4_wordOf_34 : decode cX4_wordOf 34 = .ok (.invokestatic 88, 3) := bdX4_wordOf_18.2.2.2.2.2.2.2.2.2.1
theorem dX4_wordOf_37 : decode cX4_wordOf 37 = .ok (.lreturn, 1) := bdX4_wordOf_18.2.2.2.2.2.2.2.2.2.2
set_option maxRecDepth 20000 in
theorem ggX4_word_X4_isPath : GoodIn wsX4_word wsX4_isPath := goodIn_r _ [6, 7, 8, 9, 5, 10, 28, 29, 30, 31, 32, 33, 34, 35, 36, 37, 38, 39, 40, 41, 42, 43, 44, 45, 46, 47, 48] (by decide +kernel) (by decide +kernel)
set_option maxRecDepth 20000 in
theorem gX4_word_X4_isPath : GoodIn wsX4_word (wsV RX4 92 RX4 yX4_isPath wsX4_isPath) := goodIn_app (goodIn_of _ (by decide +kernel)) ggX4_word_X4_isPath
set_option maxRecDepth 20000 in
theorem ggX4_word_X4_wordOf : GoodIn wsX4_word wsX4_wordOf := goodIn_r _ [14, 15, 16, 17, 18, 19, 5, 20, 21, 22, 23, 24, 25, 26, 27, 28, 29, 30, 31, 32, 33, 34, 35, 36, 37, 38, 39, 40, 41, 42, 43, 44, 45, 46, 47, 48] (by decide +kernel) (by decide +kernel)
set_option maxRecDepth 20000 in
theorem gX4_word_X4_wordOf : GoodIn wsX4_word (wsV RX4 103 RX4 yX4_wordOf wsX4_wordOf) := goodIn_app (goodIn_of _ (by decide +kernel)) ggX4_word_X4_wordOf
set_option maxRecDepth 20000 in
theorem bdX4_word_0 : (decode cX4_word 0 = .ok (.aload_n 0, 1)) ∧ (decode cX4_word 1 = .ok (.aload_n 0, 1)) ∧ (decode cX4_word 2 = .ok (.iload_n 3, 1)) ∧ (decode cX4_word 3 = .ok (.invokevirtual 92, 3)) ∧ (decode cX4_word 6 = .ok (.ifCond .eq 7, 3)) ∧ (decode cX4_word 9 = .ok (.iconst 0, 1)) ∧ (decode cX4_word 10 = .ok (.goto 4, 3)) ∧ (decode cX4_word 13 = .ok (.iconst (-1), 1)) ∧ (decode cX4_word 14 = .ok (.putfield 96, 3)) ∧ (decode cX4_word 17 = .ok (.aload_n 0, 1)) ∧ (decode cX4_word 18 = .ok (.getfield 96, 3)) ∧ (decode cX4_word 21 = .ok (.ifCond .ge 7, 3)) := by decide +kernel
theorem dX4_word_0 : decode cX4_word 0 = .ok (.aload_n 0, 1) := bdX4_word_0.1
theorem dX4_word_1 : decode cX4_word 1 = .ok (.aload_n 0, 1) := bdX4_word_0.2.1
theorem dX4_word_2 : decode cX4_word 2 = .ok (.iload_n 3, 1) := bdX4_word_0.2.2.1
theorem dX4_word_3 : decode cX4_word 3 = .ok (.invokevirtual 92, 3) := bdX4_word_0.2.2.2.1
theorem dX4_word_6 : decode cX4_word 6 = .ok (.ifCond .eq 7, 3) := bdX4_word_0.2.2.2.2.1
theorem dX4_word_9 : decode cX4_word 9 = .ok (.iconst 0, 1) := bdX4_word_0.2.2.2.2.2.1
theorem dX4_word_10 : decode cX4_word 10 = .ok (.goto 4, 3) := bdX4_word_0.2.2.2.2.2.2.1
theorem dX4_word_13 : decode cX4_word 13 = .ok (.iconst (-1), 1) := bdX4_word_0.2.2.2.2.2.2.2.1
theorem dX4_word_14 : decode cX4_word 14 = .ok (.putfield 96, 3) := bdX4_word_0.2.2.2.2.2.2.2.2.1
theorem dX4_word_17 : decode cX4_word 17 = .ok (.aload_n 0, 1) := bdX4_word_0.2.2.2.2.2.2.2.2.2.1
theorem dX4_word_18 : decode cX4_word 18 = .ok (.getfield 96, 3) := bdX4_word_0.2.2.2.2.2.2.2.2.2.2.1
theorem dX4_word_21 : decode cX4_word 21 = .ok (.ifCond .ge 7, 3) := bdX4_word_0.2.2.2.2.2.2.2.2.2.2.2
set_option maxRecDepth 20000 in
theorem bdX4_word_24 : (decode cX4_word 24 = .ok (.lconst 0, 1)) ∧ (decode cX4_word 25 = .ok (.goto 11, 3)) ∧ (decode cX4_word 28 = .ok (.aload_n 0, 1)) ∧ (decode cX4_word 29 = .ok (.lload_n 1, 1)) ∧ (decode cX4_word 30 = .ok (.iload_n 3, 1)) ∧ (decode cX4_word 31 = .ok (.lload 4, 2)) ∧ (decode cX4_word 33 = .ok (.invokevirtual 103, 3)) ∧ (decode cX4_word 36 = .ok (.lreturn, 1)) := by decide +kernel
theorem dX4_word_24 : decode cX4_word 24 = .ok (.lconst 0, 1) := bdX4_word_24.1
theorem dX4_word_25 : decode cX4_word 25 = .ok (.goto 11, 3) := bdX4_word_24.2.1
theorem dX4_word_28 : decode cX4_word 28 = .ok (.aload_n 0, 1) := bdX4_word_24.2.2.1
theorem dX4_word_29 : decode cX4_word 29 = .ok (.lload_n 1, 1) := bdX4_word_24.2.2.2.1
theorem dX4_word_30 : decode cX4_word 30 = .ok (.iload_n 3, 1) := bdX4_word_24.2.2.2.2.1
theorem dX4_word_31 : decode cX4_word 31 = .ok (.lload 4, 2) := bdX4_word_24.2.2.2.2.2.1
theorem dX4_word_33 : decode cX4_word 33 = .ok (.invokevirtual 103, 3) := bdX4_word_24.2.2.2.2.2.2.1
theorem dX4_word_36 : decode cX4_word 36 = .ok (.lreturn, 1) := bdX4_word_24.2.2.2.2.2.2.2
set_option maxRecDepth 20000 in
theorem ggX4_draw_X4_rest : GoodIn wsX4_draw wsX4_rest := goodIn_r _ [7, 8, 9, 6, 10, 11] (by decide +kernel) (by decide +kernel)
set_option maxRecDepth 20000 in
theorem gX4_draw_X4_rest : GoodIn wsX4_draw (va_wsS RX4 107 yX4_rest wsX4_rest) := goodIn_app (goodIn_of _ (by decide +kernel)) ggX4_draw_X4_rest
set_option maxRecDepth 20000 in
theorem ggX4_draw_X4_wordOf : GoodIn wsX4_draw wsX4_wordOf := goodIn_r _ [15, 16, 17, 18, 19, 20, 6, 21, 22, 23, 24, 25, 26, 27, 28, 29, 30, 31, 32, 33, 34, 35, 36, 37, 38, 39, 40, 41, 42, 43, 44, 45, 46, 47, 48, 49] (by decide +kernel) (by decide +kernel)
set_option maxRecDepth 20000 in
theorem gX4_draw_X4_wordOf : GoodIn wsX4_draw (wsV RX4 103 RX4 yX4_wordOf wsX4_wordOf) := goodIn_app (goodIn_of _ (by decide +kernel)) ggX4_draw_X4_wordOf
set_option maxRecDepth 20000 in
theorem ggX4_draw_X4_isBelow : GoodIn wsX4_draw wsX4_isBelow := goodIn_r _ [10, 11] (by decide +kernel) (by decide +kernel)
set_option maxRecDepth 20000 in
theorem gX4_draw_X4_isBelow : GoodIn wsX4_draw (va_wsS RX4 64 yX4_isBelow wsX4_isBelow) := goodIn_app (goodIn_of _ (by decide +kernel)) ggX4_draw_X4_isBelow
set_option maxRecDepth 20000 in
theorem bdX4_draw_0 : (decode cX4_draw 0 = .ok (.lload 5, 2)) ∧ (decode cX4_draw 2 = .ok (.lneg, 1)) ∧ (decode cX4_draw 3 = .ok (.lload 5, 2)) ∧ (decode cX4_draw 5 = .ok (.invokestatic 107, 3)) ∧ (decode cX4_draw 8 = .ok (.lstore 7, 2)) ∧ (decode cX4_draw 10 = .ok (.iconst 0, 1)) ∧ (decode cX4_draw 11 = .ok (.istore 9, 2)) ∧ (decode cX4_draw 13 = .ok (.iload 9, 2)) ∧ (decode cX4_draw 15 = .ok (.bipush 32, 2)) ∧ (decode cX4_draw 17 = .ok (.if_icmp .ge 62, 3)) ∧ (decode cX4_draw 20 = .ok (.aload_n 0, 1)) ∧ (decode cX4_draw 21 = .ok (.lload_n 1, 1)) := by decide +kernel
theorem dX4_draw_0 : decode cX4_draw 0 = .ok (.lload 5, 2) := bdX4_draw_0.1
theorem dX4_draw_2 : decode cX4_draw 2 = .ok (.lneg, 1) := bdX4_draw_0.2.1
theorem dX4_draw_3 : decode cX4_draw 3 = .ok (.lload 5, 2) := bdX4_draw_0.2.2.1
theorem dX4_draw_5 : decode cX4_draw 5 = .ok (.invokestatic 107, 3) := bdX4_draw_0.2.2.2.1
theorem dX4_draw_8 : decode cX4_draw 8 = .ok (.lstore 7, 2) := bdX4_draw_0.2.2.2.2.1
theorem dX4_draw_10 : decode cX4_draw 10 = .ok (.iconst 0, 1) := bdX4_draw_0.2.2.2.2.2.1
theorem dX4_draw_11 : decode cX4_draw 11 = .ok (.istore 9, 2) := bdX4_draw_0.2.2.2.2.2.2.1
theorem dX4_draw_13 : decode cX4_draw 13 = .ok (.iload 9, 2) := bdX4_draw_0.2.2.2.2.2.2.2.1
theorem dX4_draw_15 : decode cX4_draw 15 = .ok (.bipush 32, 2) := bdX4_draw_0.2.2.2.2.2.2.2.2.1
theorem dX4_draw_17 : decode cX4_draw 17 = .ok (.if_icmp .ge 62, 3) := bdX4_draw_0.2.2.2.2.2.2.2.2.2.1
theorem dX4_draw_20 : decode cX4_draw 20 = .ok (.aload_n 0, 1) := bdX4_draw_0.2.2.2.2.2.2.2.2.2.2.1
theorem dX4_draw_21 : decode cX4_draw 21 = .ok (.lload_n 1, 1) := bdX4_draw_0.2.2.2.2.2.2.2.2.2.2.2
set_option maxRecDepth 20000 in
theorem bdX4_draw_22 : (decode cX4_draw 22 = .ok (.iload_n 3, 1)) ∧ (decode cX4_draw 23 = .ok (.ldc2_w 111, 3)) ∧ (decode cX4_draw 26 = .ok (.iload 4, 2)) ∧ (decode cX4_draw 28 = .ok (.i2l, 1)) ∧ (decode cX4_draw 29 = .ok (.lmul, 1)) ∧ (decode cX4_draw 30 = .ok (.iload 9, 2)) ∧ (decode cX4_draw 32 = .ok (.i2l, 1)) ∧ (decode cX4_draw 33 = .ok (.ladd, 1)) ∧ (decode cX4_draw 34 = .ok (.invokevirtual 103, 3)) ∧ (decode cX4_draw 37 = .ok (.lstore 10, 2)) ∧ (decode cX4_draw 39 = .ok (.aload_n 0, 1)) ∧ (decode cX4_draw 40 = .ok (.iload 9, 2)) := by decide +kernel
theorem dX4_draw_22 : decode cX4_draw 22 = .ok (.iload_n 3, 1) := bdX4_draw_22.1
theorem dX4_draw_23 : decode cX4_draw 23 = .ok (.ldc2_w 111, 3) := bdX4_draw_22.2.1
theorem dX4_draw_26 : decode cX4_draw 26 = .ok (.iload 4, 2) := bdX4_draw_22.2.2.1
theorem dX4_draw_28 : decode cX4_draw 28 = .ok (.i2l, 1) := bdX4_draw_22.2.2.2.1
theorem dX4_draw_29 : decode cX4_draw 29 = .ok (.lmul, 1) := bdX4_draw_22.2.2.2.2.1
theorem dX4_draw_30 : decode cX4_draw 30 = .ok (.iload 9, 2) := bdX4_draw_22.2.2.2.2.2.1
theorem dX4_draw_32 : decode cX4_draw 32 = .ok (.i2l, 1) := bdX4_draw_22.2.2.2.2.2.2.1
theorem dX4_draw_33 : decode cX4_draw 33 = .ok (.ladd, 1) := bdX4_draw_22.2.2.2.2.2.2.2.1
theorem dX4_draw_34 : decode cX4_draw 34 = .ok (.invokevirtual 103, 3) := bdX4_draw_22.2.2.2.2.2.2.2.2.1
theorem dX4_draw_37 : decode cX4_draw 37 = .ok (.lstore 10, 2) := bdX4_draw_22.2.2.2.2.2.2.2.2.2.1
theorem dX4_draw_39 : decode cX4_draw 39 = .ok (.aload_n 0, 1) := bdX4_draw_22.2.2.2.2.2.2.2.2.2.2.1
theorem dX4_draw_40 : decode cX4_draw 40 = .ok (.iload 9, 2) := bdX4_draw_22.2.2.2.2.2.2.2.2.2.2.2
set_option maxRecDepth 20000 in
theorem bdX4_draw_42 : (decode cX4_draw 42 = .ok (.iconst 1, 1)) ∧ (decode cX4_draw 43 = .ok (.iadd, 1)) ∧ (decode cX4_draw 44 = .ok (.putfield 113, 3)) ∧ (decode cX4_draw 47 = .ok (.lload 7, 2)) ∧ (decode cX4_draw 49 = .ok (.lconst 0, 1)) ∧ (decode cX4_draw 50 = .ok (.lcmp, 1)) ∧ (decode cX4_draw 51 = .ok (.ifCond .eq 14, 3)) ∧ (decode cX4_draw 54 = .ok (.lload 10, 2)) ∧ (decode cX4_draw 56 = .ok (.lload 7, 2)) ∧ (decode cX4_draw 58 = .ok (.lneg, 1)) ∧ (decode cX4_draw 59 = .ok (.invokestatic 64, 3)) ∧ (decode cX4_draw 62 = .ok (.ifCond .eq 11, 3)) := by decide +kernel
theorem dX4_draw_42 : decode cX4_draw 42 = .ok (.iconst 1, 1) := bdX4_draw_42.1
theorem dX4_draw_43 : decode cX4_draw 43 = .ok (.iadd, 1) := bdX4_draw_42.2.1
theorem dX4_draw_44 : decode cX4_draw 44 = .ok (.putfield 113, 3) := bdX4_draw_42.2.2.1
theorem dX4_draw_47 : decode cX4_draw 47 = .ok (.lload 7, 2) := bdX4_draw_42.2.2.2.1
theorem dX4_draw_49 : decode cX4_draw 49 = .ok (.lconst 0, 1) := bdX4_draw_42.2.2.2.2.1
theorem dX4_draw_50 : decode cX4_draw 50 = .ok (.lcmp, 1) := bdX4_draw_42.2.2.2.2.2.1
theorem dX4_draw_51 : decode cX4_draw 51 = .ok (.ifCond .eq 14, 3) := bdX4_draw_42.2.2.2.2.2.2.1
theorem dX4_draw_54 : decode cX4_draw 54 = .ok (.lload 10, 2) := bdX4_draw_42.2.2.2.2.2.2.2.1
theorem dX4_draw_56 : decode cX4_draw 56 = .ok (.lload 7, 2) := bdX4_draw_42.2.2.2.2.2.2.2.2.1
theorem dX4_draw_58 : decode cX4_draw 58 = .ok (.lneg, 1) := bdX4_draw_42.2.2.2.2.2.2.2.2.2.1
theorem dX4_draw_59 : decode cX4_draw 59 = .ok (.invokestatic 64, 3) := bdX4_draw_42.2.2.2.2.2.2.2.2.2.2.1
theorem dX4_draw_62 : decode cX4_draw 62 = .ok (.ifCond .eq 11, 3) := bdX4_draw_42.2.2.2.2.2.2.2.2.2.2.2
set_option maxRecDepth 20000 in
theorem bdX4_draw_65 : (decode cX4_draw 65 = .ok (.lload 10, 2)) ∧ (decode cX4_draw 67 = .ok (.lload 5, 2)) ∧ (decode cX4_draw 69 = .ok (.invokestatic 107, 3)) ∧ (decode cX4_draw 72 = .ok (.lreturn, 1)) ∧ (decode cX4_draw 73 = .ok (.iinc 9 1, 3)) ∧ (decode cX4_draw 76 = .ok (.goto (-63), 3)) ∧ (decode cX4_draw 79 = .ok (.ldc2_w 116, 3)) ∧ (decode cX4_draw 82 = .ok (.lreturn, 1)) := by decide +kernel
theorem dX4_draw_65 : decode cX4_draw 65 = .ok (.lload 10, 2) := bdX4_draw_65.1
theorem dX4_draw_67 : decode cX4_draw 67 = .ok (.lload 5, 2) := bdX4_draw_65.2.1
theorem dX4_draw_69 : decode cX4_draw 69 = .ok (.invokestatic 107, 3) := bdX4_draw_65.2.2.1
theorem dX4_draw_72 : decode cX4_draw 72 = .ok (.lreturn, 1) := bdX4_draw_65.2.2.2.1
theorem dX4_draw_73 : decode cX4_draw 73 = .ok (.iinc 9 1, 3) := bdX4_draw_65.2.2.2.2.1
theorem dX4_draw_76 : decode cX4_draw 76 = .ok (.goto (-63), 3) := bdX4_draw_65.2.2.2.2.2.1
theorem dX4_draw_79 : decode cX4_draw 79 = .ok (.ldc2_w 116, 3) := bdX4_draw_65.2.2.2.2.2.2.1
theorem dX4_draw_82 : decode cX4_draw 82 = .ok (.lreturn, 1) := bdX4_draw_65.2.2.2.2.2.2.2
set_option maxRecDepth 20000 in
theorem ggX4_span_X4_isPath : GoodIn wsX4_span wsX4_isPath := goodIn_r _ [7, 8, 9, 10, 6, 11, 43, 44, 45, 46, 47, 48, 49, 50, 51, 52, 53, 54, 55, 56, 57, 58, 59, 60, 61, 62, 63] (by decide +kernel) (by decide +kernel)
set_option maxRecDepth 20000 in
theorem gX4_span_X4_isPath : GoodIn wsX4_span (wsV RX4 92 RX4 yX4_isPath wsX4_isPath) := goodIn_app (goodIn_of _ (by decide +kernel)) ggX4_span_X4_isPath
set_option maxRecDepth 20000 in
theorem ggX4_span_X4_draw : GoodIn wsX4_span wsX4_draw := goodIn_r _ [15, 16, 17, 18, 19, 20, 6, 21, 22, 23, 24, 25, 26, 27, 28, 29, 30, 31, 32, 33, 34, 35, 36, 37, 38, 39, 40, 41, 42, 43, 44, 45, 46, 47, 48, 49, 50, 51, 52, 53, 54, 55, 56, 57, 58, 59, 60, 61, 62, 63] (by decide +kernel) (by decide +kernel)
set_option maxRecDepth 20000 in
theorem gX4_span_X4_draw : GoodIn wsX4_span (wsV RX4 122 RX4 yX4_draw wsX4_draw) := goodIn_app (goodIn_of _ (by decide +kernel)) ggX4_span_X4_draw
set_option maxRecDepth 20000 in
theorem bdX4_span_0 : (decode cX4_span 0 = .ok (.aload_n 0, 1)) ∧ (decode cX4_span 1 = .ok (.iload_n 3, 1)) ∧ (decode cX4_span 2 = .ok (.invokevirtual 92, 3)) ∧ (decode cX4_span 5 = .ok (.ifCond .eq 15, 3)) ∧ (decode cX4_span 8 = .ok (.iload 4, 2)) ∧ (decode cX4_span 10 = .ok (.ifCond .lt 10, 3)) ∧ (decode cX4_span 13 = .ok (.lload 5, 2)) ∧ (decode cX4_span 15 = .ok (.lconst 0, 1)) ∧ (decode cX4_span 16 = .ok (.lcmp, 1)) ∧ (decode cX4_span 17 = .ok (.ifCond .ge 7, 3)) ∧ (decode cX4_span 20 = .ok (.ldc2_w 118, 3)) ∧ (decode cX4_span 23 = .ok (.lreturn, 1)) := by decide +kernel
theorem dX4_span_0 : decode cX4_span 0 = .ok (.aload_n 0, 1) := bdX4_span_0.1
theorem dX4_span_1 : decode cX4_span 1 = .ok (.iload_n 3, 1) := bdX4_span_0.2.1
theorem dX4_span_2 : decode cX4_span 2 = .ok (.invokevirtual 92, 3) := bdX4_span_0.2.2.1
theorem dX4_span_5 : decode cX4_span 5 = .ok (.ifCond .eq 15, 3) := bdX4_span_0.2.2.2.1
theorem dX4_span_8 : decode cX4_span 8 = .ok (.iload 4, 2) := bdX4_span_0.2.2.2.2.1
theorem dX4_span_10 : decode cX4_span 10 = .ok (.ifCond .lt 10, 3) := bdX4_span_0.2.2.2.2.2.1
theorem dX4_span_13 : decode cX4_span 13 = .ok (.lload 5, 2) := bdX4_span_0.2.2.2.2.2.2.1
theorem dX4_span_15 : decode cX4_span 15 = .ok (.lconst 0, 1) := bdX4_span_0.2.2.2.2.2.2.2.1
theorem dX4_span_16 : decode cX4_span 16 = .ok (.lcmp, 1) := bdX4_span_0.2.2.2.2.2.2.2.2.1
theorem dX4_span_17 : decode cX4_span 17 = .ok (.ifCond .ge 7, 3) := bdX4_span_0.2.2.2.2.2.2.2.2.2.1
theorem dX4_span_20 : decode cX4_span 20 = .ok (.ldc2_w 118, 3) := bdX4_span_0.2.2.2.2.2.2.2.2.2.2.1
theorem dX4_span_23 : decode cX4_span 23 = .ok (.lreturn, 1) := bdX4_span_0.2.2.2.2.2.2.2.2.2.2.2
set_option maxRecDepth 20000 in
theorem bdX4_span_24 : (decode cX4_span 24 = .ok (.lload 5, 2)) ∧ (decode cX4_span 26 = .ok (.lconst 0, 1)) ∧ (decode cX4_span 27 = .ok (.lcmp, 1)) ∧ (decode cX4_span 28 = .ok (.ifCond .ne 9, 3)) ∧ (decode cX4_span 31 = .ok (.ldc2_w 120, 3)) ∧ (decode cX4_span 34 = .ok (.goto 13, 3)) ∧ (decode cX4_span 37 = .ok (.aload_n 0, 1)) ∧ (decode cX4_span 38 = .ok (.lload_n 1, 1)) ∧ (decode cX4_span 39 = .ok (.iload_n 3, 1)) ∧ (decode cX4_span 40 = .ok (.iload 4, 2)) ∧ (decode cX4_span 42 = .ok (.lload 5, 2)) ∧ (decode cX4_span 44 = .ok (.invokevirtual 122, 3)) := by decide +kernel
theorem dX4_span_24 : decode cX4_span 24 = .ok (.lload 5, 2) := bdX4_span_24.1
theorem dX4_span_26 : decode cX4_span 26 = .ok (.lconst 0, 1) := bdX4_span_24.2.1
theorem dX4_span_27 : decode cX4_span 27 = .ok (.lcmp, 1) := bdX4_span_24.2.2.1
theorem dX4_span_28 : decode cX4_span 28 = .ok (.ifCond .ne 9, 3) := bdX4_span_24.2.2.2.1
theorem dX4_span_31 : decode cX4_span 31 = .ok (.ldc2_w 120, 3) := bdX4_span_24.2.2.2.2.1
theorem dX4_span_34 : decode cX4_span 34 = .ok (.goto 13, 3) := bdX4_span_24.2.2.2.2.2.1
theorem dX4_span_37 : decode cX4_span 37 = .ok (.aload_n 0, 1) := bdX4_span_24.2.2.2.2.2.2.1
theorem dX4_span_38 : decode cX4_span 38 = .ok (.lload_n 1, 1) := bdX4_span_24.2.2.2.2.2.2.2.1
theorem dX4_span_39 : decode cX4_span 39 = .ok (.iload_n 3, 1) := bdX4_span_24.2.2.2.2.2.2.2.2.1
theorem dX4_span_40 : decode cX4_span 40 = .ok (.iload 4, 2) := bdX4_span_24.2.2.2.2.2.2.2.2.2.1
theorem dX4_span_42 : decode cX4_span 42 = .ok (.lload 5, 2) := bdX4_span_24.2.2.2.2.2.2.2.2.2.2.1
theorem dX4_span_44 : decode cX4_span 44 = .ok (.invokevirtual 122, 3) := bdX4_span_24.2.2.2.2.2.2.2.2.2.2.2
theorem dX4_span_47 : decode cX4_span 47 = .ok (.lreturn, 1) := by decide +kernel
set_option maxRecDepth 20000 in
theorem ggX4_fraction_X4_isPath : GoodIn wsX4_fraction wsX4_isPath := goodIn_r _ [8, 9, 10, 11, 7, 12, 30, 31, 32, 33, 34, 35, 36, 37, 38, 39, 40, 41, 42, 43, 44, 45, 46, 47, 48, 49, 50] (by decide +kernel) (by decide +kernel)
set_option maxRecDepth 20000 in
theorem gX4_fraction_X4_isPath : GoodIn wsX4_fraction (wsV RX4 92 RX4 yX4_isPath wsX4_isPath) := goodIn_app (goodIn_of _ (by decide +kernel)) ggX4_fraction_X4_isPath
set_option maxRecDepth 20000 in
theorem ggX4_fraction_X4_in : GoodIn wsX4_fraction wsX4_in := goodIn_r _ [12] (by decide +kernel) (by decide +kernel)
set_option maxRecDepth 20000 in
theorem gX4_fraction_X4_in : GoodIn wsX4_fraction (va_wsS RX4 82 yX4_in wsX4_in) := goodIn_app (goodIn_of _ (by decide +kernel)) ggX4_fraction_X4_in
set_option maxRecDepth 20000 in
theorem ggX4_fraction_X4_wordOf : GoodIn wsX4_fraction wsX4_wordOf := goodIn_r _ [16, 17, 18, 19, 20, 21, 7, 22, 23, 24, 25, 26, 27, 28, 29, 30, 31, 32, 33, 34, 35, 36, 37, 38, 39, 40, 41, 42, 43, 44, 45, 46, 47, 48, 49, 50] (by decide +kernel) (by decide +kernel)
set_option maxRecDepth 20000 in
theorem gX4_fraction_X4_wordOf : GoodIn wsX4_fraction (wsV RX4 103 RX4 yX4_wordOf wsX4_wordOf) := goodIn_app (goodIn_of _ (by decide +kernel)) ggX4_fraction_X4_wordOf
set_option maxRecDepth 20000 in
theorem bdX4_fraction_0 : (decode cX4_fraction 0 = .ok (.aload_n 0, 1)) ∧ (decode cX4_fraction 1 = .ok (.iload_n 3, 1)) ∧ (decode cX4_fraction 2 = .ok (.invokevirtual 92, 3)) ∧ (decode cX4_fraction 5 = .ok (.ifCond .eq 26, 3)) ∧ (decode cX4_fraction 8 = .ok (.iload 4, 2)) ∧ (decode cX4_fraction 10 = .ok (.ifCond .lt 21, 3)) ∧ (decode cX4_fraction 13 = .ok (.lload 7, 2)) ∧ (decode cX4_fraction 15 = .ok (.lconst 0, 1)) ∧ (decode cX4_fraction 16 = .ok (.lcmp, 1)) ∧ (decode cX4_fraction 17 = .ok (.ifCond .lt 14, 3)) ∧ (decode cX4_fraction 20 = .ok (.lload 5, 2)) ∧ (decode cX4_fraction 22 = .ok (.lconst 0, 1)) := by decide +kernel
theorem dX4_fraction_0 : decode cX4_fraction 0 = .ok (.aload_n 0, 1) := bdX4_fraction_0.1
theorem dX4_fraction_1 : decode cX4_fraction 1 = .ok (.iload_n 3, 1) := bdX4_fraction_0.2.1
theorem dX4_fraction_2 : decode cX4_fraction 2 = .ok (.invokevirtual 92, 3) := bdX4_fraction_0.2.2.1
theorem dX4_fraction_5 : decode cX4_fraction 5 = .ok (.ifCond .eq 26, 3) := bdX4_fraction_0.2.2.2.1
theorem dX4_fraction_8 : decode cX4_fraction 8 = .ok (.iload 4, 2) := bdX4_fraction_0.2.2.2.2.1
theorem dX4_fraction_10 : decode cX4_fraction 10 = .ok (.ifCond .lt 21, 3) := bdX4_fraction_0.2.2.2.2.2.1
theorem dX4_fraction_13 : decode cX4_fraction 13 = .ok (.lload 7, 2) := bdX4_fraction_0.2.2.2.2.2.2.1
theorem dX4_fraction_15 : decode cX4_fraction 15 = .ok (.lconst 0, 1) := bdX4_fraction_0.2.2.2.2.2.2.2.1
theorem dX4_fraction_16 : decode cX4_fraction 16 = .ok (.lcmp, 1) := bdX4_fraction_0.2.2.2.2.2.2.2.2.1
theorem dX4_fraction_17 : decode cX4_fraction 17 = .ok (.ifCond .lt 14, 3) := bdX4_fraction_0.2.2.2.2.2.2.2.2.2.1
theorem dX4_fraction_20 : decode cX4_fraction 20 = .ok (.lload 5, 2) := bdX4_fraction_0.2.2.2.2.2.2.2.2.2.2.1
theorem dX4_fraction_22 : decode cX4_fraction 22 = .ok (.lconst 0, 1) := bdX4_fraction_0.2.2.2.2.2.2.2.2.2.2.2
set_option maxRecDepth 20000 in
theorem bdX4_fraction_23 : (decode cX4_fraction 23 = .ok (.lload 7, 2)) ∧ (decode cX4_fraction 25 = .ok (.invokestatic 82, 3)) ∧ (decode cX4_fraction 28 = .ok (.ifCond .ne 5, 3)) ∧ (decode cX4_fraction 31 = .ok (.iconst (-1), 1)) ∧ (decode cX4_fraction 32 = .ok (.ireturn, 1)) ∧ (decode cX4_fraction 33 = .ok (.lload 7, 2)) ∧ (decode cX4_fraction 35 = .ok (.lconst 0, 1)) ∧ (decode cX4_fraction 36 = .ok (.lcmp, 1)) ∧ (decode cX4_fraction 37 = .ok (.ifCond .ne 6, 3)) ∧ (decode cX4_fraction 40 = .ok (.bipush (-4), 2)) ∧ (decode cX4_fraction 42 = .ok (.ireturn, 1)) ∧ (decode cX4_fraction 43 = .ok (.aload_n 0, 1)) := by decide +kernel
theorem dX4_fraction_23 : decode cX4_fraction 23 = .ok (.lload 7, 2) := bdX4_fraction_23.1
theorem dX4_fraction_25 : decode cX4_fraction 25 = .ok (.invokestatic 82, 3) := bdX4_fraction_23.2.1
theorem dX4_fraction_28 : decode cX4_fraction 28 = .ok (.ifCond .ne 5, 3) := bdX4_fraction_23.2.2.1
theorem dX4_fraction_31 : decode cX4_fraction 31 = .ok (.iconst (-1), 1) := bdX4_fraction_23.2.2.2.1
theorem dX4_fraction_32 : decode cX4_fraction 32 = .ok (.ireturn, 1) := bdX4_fraction_23.2.2.2.2.1
theorem dX4_fraction_33 : decode cX4_fraction 33 = .ok (.lload 7, 2) := bdX4_fraction_23.2.2.2.2.2.1
theorem dX4_fraction_35 : decode cX4_fraction 35 = .ok (.lconst 0, 1) := bdX4_fraction_23.2.2.2.2.2.2.1
theorem dX4_fraction_36 : decode cX4_fraction 36 = .ok (.lcmp, 1) := bdX4_fraction_23.2.2.2.2.2.2.2.1
theorem dX4_fraction_37 : decode cX4_fraction 37 = .ok (.ifCond .ne 6, 3) := bdX4_fraction_23.2.2.2.2.2.2.2.2.1
theorem dX4_fraction_40 : decode cX4_fraction 40 = .ok (.bipush (-4), 2) := bdX4_fraction_23.2.2.2.2.2.2.2.2.2.1
theorem dX4_fraction_42 : decode cX4_fraction 42 = .ok (.ireturn, 1) := bdX4_fraction_23.2.2.2.2.2.2.2.2.2.2.1
theorem dX4_fraction_43 : decode cX4_fraction 43 = .ok (.aload_n 0, 1) := bdX4_fraction_23.2.2.2.2.2.2.2.2.2.2.2
set_option maxRecDepth 20000 in
theorem bdX4_fraction_44 : (decode cX4_fraction 44 = .ok (.iconst 0, 1)) ∧ (decode cX4_fraction 45 = .ok (.putfield 113, 3)) ∧ (decode cX4_fraction 48 = .ok (.lload 5, 2)) ∧ (decode cX4_fraction 50 = .ok (.lconst 0, 1)) ∧ (decode cX4_fraction 51 = .ok (.lcmp, 1)) ∧ (decode cX4_fraction 52 = .ok (.ifCond .eq 11, 3)) ∧ (decode cX4_fraction 55 = .ok (.lload 5, 2)) ∧ (decode cX4_fraction 57 = .ok (.lload 7, 2)) ∧ (decode cX4_fraction 59 = .ok (.lcmp, 1)) ∧ (decode cX4_fraction 60 = .ok (.ifCond .ne 16, 3)) ∧ (decode cX4_fraction 63 = .ok (.lload 5, 2)) ∧ (decode cX4_fraction 65 = .ok (.lconst 0, 1)) := by decide +kernel
theorem dX4_fraction_44 : decode cX4_fraction 44 = .ok (.iconst 0, 1) := bdX4_fraction_44.1
theorem dX4_fraction_45 : decode cX4_fraction 45 = .ok (.putfield 113, 3) := bdX4_fraction_44.2.1
theorem dX4_fraction_48 : decode cX4_fraction 48 = .ok (.lload 5, 2) := bdX4_fraction_44.2.2.1
theorem dX4_fraction_50 : decode cX4_fraction 50 = .ok (.lconst 0, 1) := bdX4_fraction_44.2.2.2.1
