set_option maxRecDepth 20000 in
theorem bdX4_nextPick_84 : (decode cX4_nextPick 84 = .ok (.dup2, 1)) ∧ (decode cX4_nextPick 85 = .ok (.iaload, 1)) ∧ (decode cX4_nextPick 86 = .ok (.iconst 1, 1)) ∧ (decode cX4_nextPick 87 = .ok (.iadd, 1)) ∧ (decode cX4_nextPick 88 = .ok (.iastore, 1)) ∧ (decode cX4_nextPick 89 = .ok (.iload 4, 2)) ∧ (decode cX4_nextPick 91 = .ok (.ireturn, 1)) := by decide +kernel
theorem dX4_nextPick_84 : decode cX4_nextPick 84 = .ok (.dup2, 1) := bdX4_nextPick_84.1
theorem dX4_nextPick_85 : decode cX4_nextPick 85 = .ok (.iaload, 1) := bdX4_nextPick_84.2.1
theorem dX4_nextPick_86 : decode cX4_nextPick 86 = .ok (.iconst 1, 1) := bdX4_nextPick_84.2.2.1
theorem dX4_nextPick_87 : decode cX4_nextPick 87 = .ok (.iadd, 1) := bdX4_nextPick_84.2.2.2.1
theorem dX4_nextPick_88 : decode cX4_nextPick 88 = .ok (.iastore, 1) := bdX4_nextPick_84.2.2.2.2.1
theorem dX4_nextPick_89 : decode cX4_nextPick 89 = .ok (.iload 4, 2) := bdX4_nextPick_84.2.2.2.2.2.1
theorem dX4_nextPick_91 : decode cX4_nextPick 91 = .ok (.ireturn, 1) := bdX4_nextPick_84.2.2.2.2.2.2
set_option maxRecDepth 20000 in
theorem ggX4_split_X4_isStream : GoodIn wsX4_split wsX4_isStream := goodIn_r _ [14, 2, 15, 16, 13, 17, 32, 33, 34, 35, 36, 37, 38, 39, 40, 41, 42, 43, 44, 45, 46, 47, 48, 49, 50, 51, 52] (by decide +kernel) (by decide +kernel)
set_option maxRecDepth 20000 in
theorem gX4_split_X4_isStream : GoodIn wsX4_split (wsV RX4 153 RX4 yX4_isStream wsX4_isStream) := goodIn_app (goodIn_of _ (by decide +kernel)) ggX4_split_X4_isStream
set_option maxRecDepth 20000 in
theorem ggX4_split_X4_takePath : GoodIn wsX4_split wsX4_takePath := goodIn_r _ [21, 22, 3, 4, 7, 6, 23, 24, 25, 13, 26, 32, 33, 34, 35, 36, 37, 38, 39, 40, 41, 42, 43, 44, 45, 46, 47, 48, 49, 50, 51, 52] (by decide +kernel) (by decide +kernel)
set_option maxRecDepth 20000 in
theorem gX4_split_X4_takePath : GoodIn wsX4_split (wsV RX4 79 RX4 yX4_takePath wsX4_takePath) := goodIn_app (goodIn_of _ (by decide +kernel)) ggX4_split_X4_takePath
set_option maxRecDepth 20000 in
theorem ggX4_split_X4_begin : GoodIn wsX4_split wsX4_begin := goodIn_r _ [30, 9, 2, 1, 31, 8, 32, 33, 34, 35, 36, 37, 38, 39, 40, 41, 42, 43, 44, 45, 46, 47, 48, 49, 50, 51, 52] (by decide +kernel) (by decide +kernel)
set_option maxRecDepth 20000 in
theorem gX4_split_X4_begin : GoodIn wsX4_split (wsV RX4 149 RX4 yX4_begin wsX4_begin) := goodIn_app (goodIn_of _ (by decide +kernel)) ggX4_split_X4_begin
set_option maxRecDepth 20000 in
theorem bdX4_split_0 : (decode cX4_split 0 = .ok (.aload_n 0, 1)) ∧ (decode cX4_split 1 = .ok (.iload_n 1, 1)) ∧ (decode cX4_split 2 = .ok (.invokevirtual 153, 3)) ∧ (decode cX4_split 5 = .ok (.ifCond .ne 5, 3)) ∧ (decode cX4_split 8 = .ok (.iconst (-1), 1)) ∧ (decode cX4_split 9 = .ok (.ireturn, 1)) ∧ (decode cX4_split 10 = .ok (.aload_n 0, 1)) ∧ (decode cX4_split 11 = .ok (.getfield 26, 3)) ∧ (decode cX4_split 14 = .ok (.iload_n 1, 1)) ∧ (decode cX4_split 15 = .ok (.iaload, 1)) ∧ (decode cX4_split 16 = .ok (.istore_n 2, 1)) ∧ (decode cX4_split 17 = .ok (.aload_n 0, 1)) := by decide +kernel
theorem dX4_split_0 : decode cX4_split 0 = .ok (.aload_n 0, 1) := bdX4_split_0.1
theorem dX4_split_1 : decode cX4_split 1 = .ok (.iload_n 1, 1) := bdX4_split_0.2.1
theorem dX4_split_2 : decode cX4_split 2 = .ok (.invokevirtual 153, 3) := bdX4_split_0.2.2.1
theorem dX4_split_5 : decode cX4_split 5 = .ok (.ifCond .ne 5, 3) := bdX4_split_0.2.2.2.1
theorem dX4_split_8 : decode cX4_split 8 = .ok (.iconst (-1), 1) := bdX4_split_0.2.2.2.2.1
theorem dX4_split_9 : decode cX4_split 9 = .ok (.ireturn, 1) := bdX4_split_0.2.2.2.2.2.1
theorem dX4_split_10 : decode cX4_split 10 = .ok (.aload_n 0, 1) := bdX4_split_0.2.2.2.2.2.2.1
theorem dX4_split_11 : decode cX4_split 11 = .ok (.getfield 26, 3) := bdX4_split_0.2.2.2.2.2.2.2.1
theorem dX4_split_14 : decode cX4_split 14 = .ok (.iload_n 1, 1) := bdX4_split_0.2.2.2.2.2.2.2.2.1
theorem dX4_split_15 : decode cX4_split 15 = .ok (.iaload, 1) := bdX4_split_0.2.2.2.2.2.2.2.2.2.1
theorem dX4_split_16 : decode cX4_split 16 = .ok (.istore_n 2, 1) := bdX4_split_0.2.2.2.2.2.2.2.2.2.2.1
theorem dX4_split_17 : decode cX4_split 17 = .ok (.aload_n 0, 1) := bdX4_split_0.2.2.2.2.2.2.2.2.2.2.2
set_option maxRecDepth 20000 in
theorem bdX4_split_18 : (decode cX4_split 18 = .ok (.getfield 146, 3)) ∧ (decode cX4_split 21 = .ok (.bipush 8, 2)) ∧ (decode cX4_split 23 = .ok (.if_icmp .eq 13, 3)) ∧ (decode cX4_split 26 = .ok (.aload_n 0, 1)) ∧ (decode cX4_split 27 = .ok (.getfield 13, 3)) ∧ (decode cX4_split 30 = .ok (.iload_n 2, 1)) ∧ (decode cX4_split 31 = .ok (.iaload, 1)) ∧ (decode cX4_split 32 = .ok (.iconst 4, 1)) ∧ (decode cX4_split 33 = .ok (.if_icmp .ne 6, 3)) ∧ (decode cX4_split 36 = .ok (.bipush (-2), 2)) ∧ (decode cX4_split 38 = .ok (.ireturn, 1)) ∧ (decode cX4_split 39 = .ok (.aload_n 0, 1)) := by decide +kernel
theorem dX4_split_18 : decode cX4_split 18 = .ok (.getfield 146, 3) := bdX4_split_18.1
theorem dX4_split_21 : decode cX4_split 21 = .ok (.bipush 8, 2) := bdX4_split_18.2.1
theorem dX4_split_23 : decode cX4_split 23 = .ok (.if_icmp .eq 13, 3) := bdX4_split_18.2.2.1
theorem dX4_split_26 : decode cX4_split 26 = .ok (.aload_n 0, 1) := bdX4_split_18.2.2.2.1
theorem dX4_split_27 : decode cX4_split 27 = .ok (.getfield 13, 3) := bdX4_split_18.2.2.2.2.1
theorem dX4_split_30 : decode cX4_split 30 = .ok (.iload_n 2, 1) := bdX4_split_18.2.2.2.2.2.1
theorem dX4_split_31 : decode cX4_split 31 = .ok (.iaload, 1) := bdX4_split_18.2.2.2.2.2.2.1
theorem dX4_split_32 : decode cX4_split 32 = .ok (.iconst 4, 1) := bdX4_split_18.2.2.2.2.2.2.2.1
theorem dX4_split_33 : decode cX4_split 33 = .ok (.if_icmp .ne 6, 3) := bdX4_split_18.2.2.2.2.2.2.2.2.1
theorem dX4_split_36 : decode cX4_split 36 = .ok (.bipush (-2), 2) := bdX4_split_18.2.2.2.2.2.2.2.2.2.1
theorem dX4_split_38 : decode cX4_split 38 = .ok (.ireturn, 1) := bdX4_split_18.2.2.2.2.2.2.2.2.2.2.1
theorem dX4_split_39 : decode cX4_split 39 = .ok (.aload_n 0, 1) := bdX4_split_18.2.2.2.2.2.2.2.2.2.2.2
set_option maxRecDepth 20000 in
theorem bdX4_split_40 : (decode cX4_split 40 = .ok (.getfield 68, 3)) ∧ (decode cX4_split 43 = .ok (.istore_n 3, 1)) ∧ (decode cX4_split 44 = .ok (.iconst 0, 1)) ∧ (decode cX4_split 45 = .ok (.istore 4, 2)) ∧ (decode cX4_split 47 = .ok (.iload 4, 2)) ∧ (decode cX4_split 49 = .ok (.iconst 4, 1)) ∧ (decode cX4_split 50 = .ok (.if_icmp .ge 23, 3)) ∧ (decode cX4_split 53 = .ok (.aload_n 0, 1)) ∧ (decode cX4_split 54 = .ok (.getfield 51, 3)) ∧ (decode cX4_split 57 = .ok (.iload 4, 2)) ∧ (decode cX4_split 59 = .ok (.aload_n 0, 1)) ∧ (decode cX4_split 60 = .ok (.getfield 17, 3)) := by decide +kernel
theorem dX4_split_40 : decode cX4_split 40 = .ok (.getfield 68, 3) := bdX4_split_40.1
theorem dX4_split_43 : decode cX4_split 43 = .ok (.istore_n 3, 1) := bdX4_split_40.2.1
theorem dX4_split_44 : decode cX4_split 44 = .ok (.iconst 0, 1) := bdX4_split_40.2.2.1
theorem dX4_split_45 : decode cX4_split 45 = .ok (.istore 4, 2) := bdX4_split_40.2.2.2.1
theorem dX4_split_47 : decode cX4_split 47 = .ok (.iload 4, 2) := bdX4_split_40.2.2.2.2.1
theorem dX4_split_49 : decode cX4_split 49 = .ok (.iconst 4, 1) := bdX4_split_40.2.2.2.2.2.1
theorem dX4_split_50 : decode cX4_split 50 = .ok (.if_icmp .ge 23, 3) := bdX4_split_40.2.2.2.2.2.2.1
theorem dX4_split_53 : decode cX4_split 53 = .ok (.aload_n 0, 1) := bdX4_split_40.2.2.2.2.2.2.2.1
theorem dX4_split_54 : decode cX4_split 54 = .ok (.getfield 51, 3) := bdX4_split_40.2.2.2.2.2.2.2.2.1
theorem dX4_split_57 : decode cX4_split 57 = .ok (.iload 4, 2) := bdX4_split_40.2.2.2.2.2.2.2.2.2.1
theorem dX4_split_59 : decode cX4_split 59 = .ok (.aload_n 0, 1) := bdX4_split_40.2.2.2.2.2.2.2.2.2.2.1
theorem dX4_split_60 : decode cX4_split 60 = .ok (.getfield 17, 3) := bdX4_split_40.2.2.2.2.2.2.2.2.2.2.2
set_option maxRecDepth 20000 in
theorem bdX4_split_63 : (decode cX4_split 63 = .ok (.iload 4, 2)) ∧ (decode cX4_split 65 = .ok (.laload, 1)) ∧ (decode cX4_split 66 = .ok (.lastore, 1)) ∧ (decode cX4_split 67 = .ok (.iinc 4 1, 3)) ∧ (decode cX4_split 70 = .ok (.goto (-23), 3)) ∧ (decode cX4_split 73 = .ok (.aload_n 0, 1)) ∧ (decode cX4_split 74 = .ok (.aload_n 0, 1)) ∧ (decode cX4_split 75 = .ok (.getfield 13, 3)) ∧ (decode cX4_split 78 = .ok (.iload_n 2, 1)) ∧ (decode cX4_split 79 = .ok (.iaload, 1)) ∧ (decode cX4_split 80 = .ok (.iconst 1, 1)) ∧ (decode cX4_split 81 = .ok (.iadd, 1)) := by decide +kernel
theorem dX4_split_63 : decode cX4_split 63 = .ok (.iload 4, 2) := bdX4_split_63.1
theorem dX4_split_65 : decode cX4_split 65 = .ok (.laload, 1) := bdX4_split_63.2.1
theorem dX4_split_66 : decode cX4_split 66 = .ok (.lastore, 1) := bdX4_split_63.2.2.1
theorem dX4_split_67 : decode cX4_split 67 = .ok (.iinc 4 1, 3) := bdX4_split_63.2.2.2.1
theorem dX4_split_70 : decode cX4_split 70 = .ok (.goto (-23), 3) := bdX4_split_63.2.2.2.2.1
theorem dX4_split_73 : decode cX4_split 73 = .ok (.aload_n 0, 1) := bdX4_split_63.2.2.2.2.2.1
theorem dX4_split_74 : decode cX4_split 74 = .ok (.aload_n 0, 1) := bdX4_split_63.2.2.2.2.2.2.1
theorem dX4_split_75 : decode cX4_split 75 = .ok (.getfield 13, 3) := bdX4_split_63.2.2.2.2.2.2.2.1
theorem dX4_split_78 : decode cX4_split 78 = .ok (.iload_n 2, 1) := bdX4_split_63.2.2.2.2.2.2.2.2.1
theorem dX4_split_79 : decode cX4_split 79 = .ok (.iaload, 1) := bdX4_split_63.2.2.2.2.2.2.2.2.2.1
theorem dX4_split_80 : decode cX4_split 80 = .ok (.iconst 1, 1) := bdX4_split_63.2.2.2.2.2.2.2.2.2.2.1
theorem dX4_split_81 : decode cX4_split 81 = .ok (.iadd, 1) := bdX4_split_63.2.2.2.2.2.2.2.2.2.2.2
set_option maxRecDepth 20000 in
theorem bdX4_split_82 : (decode cX4_split 82 = .ok (.putfield 68, 3)) ∧ (decode cX4_split 85 = .ok (.iconst 0, 1)) ∧ (decode cX4_split 86 = .ok (.istore 4, 2)) ∧ (decode cX4_split 88 = .ok (.iload 4, 2)) ∧ (decode cX4_split 90 = .ok (.aload_n 0, 1)) ∧ (decode cX4_split 91 = .ok (.getfield 13, 3)) ∧ (decode cX4_split 94 = .ok (.iload_n 2, 1)) ∧ (decode cX4_split 95 = .ok (.iaload, 1)) ∧ (decode cX4_split 96 = .ok (.if_icmp .ge 27, 3)) ∧ (decode cX4_split 99 = .ok (.aload_n 0, 1)) ∧ (decode cX4_split 100 = .ok (.getfield 17, 3)) ∧ (decode cX4_split 103 = .ok (.iload 4, 2)) := by decide +kernel
theorem dX4_split_82 : decode cX4_split 82 = .ok (.putfield 68, 3) := bdX4_split_82.1
theorem dX4_split_85 : decode cX4_split 85 = .ok (.iconst 0, 1) := bdX4_split_82.2.1
theorem dX4_split_86 : decode cX4_split 86 = .ok (.istore 4, 2) := bdX4_split_82.2.2.1
theorem dX4_split_88 : decode cX4_split 88 = .ok (.iload 4, 2) := bdX4_split_82.2.2.2.1
theorem dX4_split_90 : decode cX4_split 90 = .ok (.aload_n 0, 1) := bdX4_split_82.2.2.2.2.1
theorem dX4_split_91 : decode cX4_split 91 = .ok (.getfield 13, 3) := bdX4_split_82.2.2.2.2.2.1
theorem dX4_split_94 : decode cX4_split 94 = .ok (.iload_n 2, 1) := bdX4_split_82.2.2.2.2.2.2.1
theorem dX4_split_95 : decode cX4_split 95 = .ok (.iaload, 1) := bdX4_split_82.2.2.2.2.2.2.2.1
theorem dX4_split_96 : decode cX4_split 96 = .ok (.if_icmp .ge 27, 3) := bdX4_split_82.2.2.2.2.2.2.2.2.1
theorem dX4_split_99 : decode cX4_split 99 = .ok (.aload_n 0, 1) := bdX4_split_82.2.2.2.2.2.2.2.2.2.1
theorem dX4_split_100 : decode cX4_split 100 = .ok (.getfield 17, 3) := bdX4_split_82.2.2.2.2.2.2.2.2.2.2.1
theorem dX4_split_103 : decode cX4_split 103 = .ok (.iload 4, 2) := bdX4_split_82.2.2.2.2.2.2.2.2.2.2.2
set_option maxRecDepth 20000 in
theorem bdX4_split_105 : (decode cX4_split 105 = .ok (.aload_n 0, 1)) ∧ (decode cX4_split 106 = .ok (.getfield 7, 3)) ∧ (decode cX4_split 109 = .ok (.iconst 4, 1)) ∧ (decode cX4_split 110 = .ok (.iload_n 2, 1)) ∧ (decode cX4_split 111 = .ok (.imul, 1)) ∧ (decode cX4_split 112 = .ok (.iload 4, 2)) ∧ (decode cX4_split 114 = .ok (.iadd, 1)) ∧ (decode cX4_split 115 = .ok (.laload, 1)) ∧ (decode cX4_split 116 = .ok (.lastore, 1)) ∧ (decode cX4_split 117 = .ok (.iinc 4 1, 3)) ∧ (decode cX4_split 120 = .ok (.goto (-32), 3)) ∧ (decode cX4_split 123 = .ok (.aload_n 0, 1)) := by decide +kernel
theorem dX4_split_105 : decode cX4_split 105 = .ok (.aload_n 0, 1) := bdX4_split_105.1
theorem dX4_split_106 : decode cX4_split 106 = .ok (.getfield 7, 3) := bdX4_split_105.2.1
theorem dX4_split_109 : decode cX4_split 109 = .ok (.iconst 4, 1) := bdX4_split_105.2.2.1
theorem dX4_split_110 : decode cX4_split 110 = .ok (.iload_n 2, 1) := bdX4_split_105.2.2.2.1
theorem dX4_split_111 : decode cX4_split 111 = .ok (.imul, 1) := bdX4_split_105.2.2.2.2.1
theorem dX4_split_112 : decode cX4_split 112 = .ok (.iload 4, 2) := bdX4_split_105.2.2.2.2.2.1
theorem dX4_split_114 : decode cX4_split 114 = .ok (.iadd, 1) := bdX4_split_105.2.2.2.2.2.2.1
theorem dX4_split_115 : decode cX4_split 115 = .ok (.laload, 1) := bdX4_split_105.2.2.2.2.2.2.2.1
theorem dX4_split_116 : decode cX4_split 116 = .ok (.lastore, 1) := bdX4_split_105.2.2.2.2.2.2.2.2.1
theorem dX4_split_117 : decode cX4_split 117 = .ok (.iinc 4 1, 3) := bdX4_split_105.2.2.2.2.2.2.2.2.2.1
theorem dX4_split_120 : decode cX4_split 120 = .ok (.goto (-32), 3) := bdX4_split_105.2.2.2.2.2.2.2.2.2.2.1
theorem dX4_split_123 : decode cX4_split 123 = .ok (.aload_n 0, 1) := bdX4_split_105.2.2.2.2.2.2.2.2.2.2.2
set_option maxRecDepth 20000 in
theorem bdX4_split_124 : (decode cX4_split 124 = .ok (.getfield 17, 3)) ∧ (decode cX4_split 127 = .ok (.aload_n 0, 1)) ∧ (decode cX4_split 128 = .ok (.getfield 13, 3)) ∧ (decode cX4_split 131 = .ok (.iload_n 2, 1)) ∧ (decode cX4_split 132 = .ok (.iaload, 1)) ∧ (decode cX4_split 133 = .ok (.aload_n 0, 1)) ∧ (decode cX4_split 134 = .ok (.getfield 32, 3)) ∧ (decode cX4_split 137 = .ok (.iload_n 1, 1)) ∧ (decode cX4_split 138 = .ok (.iaload, 1)) ∧ (decode cX4_split 139 = .ok (.i2l, 1)) ∧ (decode cX4_split 140 = .ok (.lastore, 1)) ∧ (decode cX4_split 141 = .ok (.aload_n 0, 1)) := by decide +kernel
theorem dX4_split_124 : decode cX4_split 124 = .ok (.getfield 17, 3) := bdX4_split_124.1
theorem dX4_split_127 : decode cX4_split 127 = .ok (.aload_n 0, 1) := bdX4_split_124.2.1
theorem dX4_split_128 : decode cX4_split 128 = .ok (.getfield 13, 3) := bdX4_split_124.2.2.1
theorem dX4_split_131 : decode cX4_split 131 = .ok (.iload_n 2, 1) := bdX4_split_124.2.2.2.1
theorem dX4_split_132 : decode cX4_split 132 = .ok (.iaload, 1) := bdX4_split_124.2.2.2.2.1
theorem dX4_split_133 : decode cX4_split 133 = .ok (.aload_n 0, 1) := bdX4_split_124.2.2.2.2.2.1
theorem dX4_split_134 : decode cX4_split 134 = .ok (.getfield 32, 3) := bdX4_split_124.2.2.2.2.2.2.1
theorem dX4_split_137 : decode cX4_split 137 = .ok (.iload_n 1, 1) := bdX4_split_124.2.2.2.2.2.2.2.1
theorem dX4_split_138 : decode cX4_split 138 = .ok (.iaload, 1) := bdX4_split_124.2.2.2.2.2.2.2.2.1
theorem dX4_split_139 : decode cX4_split 139 = .ok (.i2l, 1) := bdX4_split_124.2.2.2.2.2.2.2.2.2.1
theorem dX4_split_140 : decode cX4_split 140 = .ok (.lastore, 1) := bdX4_split_124.2.2.2.2.2.2.2.2.2.2.1
theorem dX4_split_141 : decode cX4_split 141 = .ok (.aload_n 0, 1) := bdX4_split_124.2.2.2.2.2.2.2.2.2.2.2
set_option maxRecDepth 20000 in
theorem bdX4_split_142 : (decode cX4_split 142 = .ok (.invokevirtual 79, 3)) ∧ (decode cX4_split 145 = .ok (.istore 4, 2)) ∧ (decode cX4_split 147 = .ok (.aload_n 0, 1)) ∧ (decode cX4_split 148 = .ok (.iload_n 3, 1)) ∧ (decode cX4_split 149 = .ok (.putfield 68, 3)) ∧ (decode cX4_split 152 = .ok (.iconst 0, 1)) ∧ (decode cX4_split 153 = .ok (.istore 5, 2)) ∧ (decode cX4_split 155 = .ok (.iload 5, 2)) ∧ (decode cX4_split 157 = .ok (.iconst 4, 1)) ∧ (decode cX4_split 158 = .ok (.if_icmp .ge 23, 3)) ∧ (decode cX4_split 161 = .ok (.aload_n 0, 1)) ∧ (decode cX4_split 162 = .ok (.getfield 17, 3)) := by decide +kernel
theorem dX4_split_142 : decode cX4_split 142 = .ok (.invokevirtual 79, 3) := bdX4_split_142.1
theorem dX4_split_145 : decode cX4_split 145 = .ok (.istore 4, 2) := bdX4_split_142.2.1
theorem dX4_split_147 : decode cX4_split 147 = .ok (.aload_n 0, 1) := bdX4_split_142.2.2.1
theorem dX4_split_148 : decode cX4_split 148 = .ok (.iload_n 3, 1) := bdX4_split_142.2.2.2.1
theorem dX4_split_149 : decode cX4_split 149 = .ok (.putfield 68, 3) := bdX4_split_142.2.2.2.2.1
theorem dX4_split_152 : decode cX4_split 152 = .ok (.iconst 0, 1) := bdX4_split_142.2.2.2.2.2.1
theorem dX4_split_153 : decode cX4_split 153 = .ok (.istore 5, 2) := bdX4_split_142.2.2.2.2.2.2.1
theorem dX4_split_155 : decode cX4_split 155 = .ok (.iload 5, 2) := bdX4_split_142.2.2.2.2.2.2.2.1
theorem dX4_split_157 : decode cX4_split 157 = .ok (.iconst 4, 1) := bdX4_split_142.2.2.2.2.2.2.2.2.1
theorem dX4_split_158 : decode cX4_split 158 = .ok (.if_icmp .ge 23, 3) := bdX4_split_142.2.2.2.2.2.2.2.2.2.1
theorem dX4_split_161 : decode cX4_split 161 = .ok (.aload_n 0, 1) := bdX4_split_142.2.2.2.2.2.2.2.2.2.2.1
theorem dX4_split_162 : decode cX4_split 162 = .ok (.getfield 17, 3) := bdX4_split_142.2.2.2.2.2.2.2.2.2.2.2
set_option maxRecDepth 20000 in
theorem bdX4_split_165 : (decode cX4_split 165 = .ok (.iload 5, 2)) ∧ (decode cX4_split 167 = .ok (.aload_n 0, 1)) ∧ (decode cX4_split 168 = .ok (.getfield 51, 3)) ∧ (decode cX4_split 171 = .ok (.iload 5, 2)) ∧ (decode cX4_split 173 = .ok (.laload, 1)) ∧ (decode cX4_split 174 = .ok (.lastore, 1)) ∧ (decode cX4_split 175 = .ok (.iinc 5 1, 3)) ∧ (decode cX4_split 178 = .ok (.goto (-23), 3)) ∧ (decode cX4_split 181 = .ok (.iload 4, 2)) ∧ (decode cX4_split 183 = .ok (.ifCond .ge 6, 3)) ∧ (decode cX4_split 186 = .ok (.bipush (-2), 2)) ∧ (decode cX4_split 188 = .ok (.ireturn, 1)) := by decide +kernel
theorem dX4_split_165 : decode cX4_split 165 = .ok (.iload 5, 2) := bdX4_split_165.1
theorem dX4_split_167 : decode cX4_split 167 = .ok (.aload_n 0, 1) := bdX4_split_165.2.1
theorem dX4_split_168 : decode cX4_split 168 = .ok (.getfield 51, 3) := bdX4_split_165.2.2.1
theorem dX4_split_171 : decode cX4_split 171 = .ok (.iload 5, 2) := bdX4_split_165.2.2.2.1
theorem dX4_split_173 : decode cX4_split 173 = .ok (.laload, 1) := bdX4_split_165.2.2.2.2.1
theorem dX4_split_174 : decode cX4_split 174 = .ok (.lastore, 1) := bdX4_split_165.2.2.2.2.2.1
theorem dX4_split_175 : decode cX4_split 175 = .ok (.iinc 5 1, 3) := bdX4_split_165.2.2.2.2.2.2.1
theorem dX4_split_178 : decode cX4_split 178 = .ok (.goto (-23), 3) := bdX4_split_165.2.2.2.2.2.2.2.1
theorem dX4_split_181 : decode cX4_split 181 = .ok (.iload 4, 2) := bdX4_split_165.2.2.2.2.2.2.2.2.1
theorem dX4_split_183 : decode cX4_split 183 = .ok (.ifCond .ge 6, 3) := bdX4_split_165.2.2.2.2.2.2.2.2.2.1
theorem dX4_split_186 : decode cX4_split 186 = .ok (.bipush (-2), 2) := bdX4_split_165.2.2.2.2.2.2.2.2.2.2.1
theorem dX4_split_188 : decode cX4_split 188 = .ok (.ireturn, 1) := bdX4_split_165.2.2.2.2.2.2.2.2.2.2.2
set_option maxRecDepth 20000 in
theorem bdX4_split_189 : (decode cX4_split 189 = .ok (.aload_n 0, 1)) ∧ (decode cX4_split 190 = .ok (.getfield 32, 3)) ∧ (decode cX4_split 193 = .ok (.iload_n 1, 1)) ∧ (decode cX4_split 194 = .ok (.dup2, 1)) ∧ (decode cX4_split 195 = .ok (.iaload, 1)) ∧ (decode cX4_split 196 = .ok (.iconst 1, 1)) ∧ (decode cX4_split 197 = .ok (.iadd, 1)) ∧ (decode cX4_split 198 = .ok (.iastore, 1)) ∧ (decode cX4_split 199 = .ok (.aload_n 0, 1)) ∧ (decode cX4_split 200 = .ok (.aload_n 0, 1)) ∧ (decode cX4_split 201 = .ok (.getfield 23, 3)) ∧ (decode cX4_split 204 = .ok (.iload_n 1, 1)) := by decide +kernel
theorem dX4_split_189 : decode cX4_split 189 = .ok (.aload_n 0, 1) := bdX4_split_189.1
theorem dX4_split_190 : decode cX4_split 190 = .ok (.getfield 32, 3) := bdX4_split_189.2.1
theorem dX4_split_193 : decode cX4_split 193 = .ok (.iload_n 1, 1) := bdX4_split_189.2.2.1
theorem dX4_split_194 : decode cX4_split 194 = .ok (.dup2, 1) := bdX4_split_189.2.2.2.1
theorem dX4_split_195 : decode cX4_split 195 = .ok (.iaload, 1) := bdX4_split_189.2.2.2.2.1
theorem dX4_split_196 : decode cX4_split 196 = .ok (.iconst 1, 1) := bdX4_split_189.2.2.2.2.2.1
theorem dX4_split_197 : decode cX4_split 197 = .ok (.iadd, 1) := bdX4_split_189.2.2.2.2.2.2.1
theorem dX4_split_198 : decode cX4_split 198 = .ok (.iastore, 1) := bdX4_split_189.2.2.2.2.2.2.2.1
theorem dX4_split_199 : decode cX4_split 199 = .ok (.aload_n 0, 1) := bdX4_split_189.2.2.2.2.2.2.2.2.1
theorem dX4_split_200 : decode cX4_split 200 = .ok (.aload_n 0, 1) := bdX4_split_189.2.2.2.2.2.2.2.2.2.1
theorem dX4_split_201 : decode cX4_split 201 = .ok (.getfield 23, 3) := bdX4_split_189.2.2.2.2.2.2.2.2.2.2.1
theorem dX4_split_204 : decode cX4_split 204 = .ok (.iload_n 1, 1) := bdX4_split_189.2.2.2.2.2.2.2.2.2.2.2
set_option maxRecDepth 20000 in
theorem bdX4_split_205 : (decode cX4_split 205 = .ok (.laload, 1)) ∧ (decode cX4_split 206 = .ok (.iload 4, 2)) ∧ (decode cX4_split 208 = .ok (.invokevirtual 149, 3)) ∧ (decode cX4_split 211 = .ok (.ireturn, 1)) := by decide +kernel
theorem dX4_split_205 : decode cX4_split 205 = .ok (.laload, 1) := bdX4_split_205.1
theorem dX4_split_206 : decode cX4_split 206 = .ok (.iload 4, 2) := bdX4_split_205.2.1
theorem dX4_split_208 : decode cX4_split 208 = .ok (.invokevirtual 149, 3) := bdX4_split_205.2.2.1
theorem dX4_split_211 : decode cX4_split 211 = .ok (.ireturn, 1) := bdX4_split_205.2.2.2
set_option maxRecDepth 20000 in
theorem ggX4_skip_X4_isStream : GoodIn wsX4_skip wsX4_isStream := goodIn_r _ [8, 9, 10, 11, 7, 12, 13, 14, 15, 16, 17, 18, 19, 20, 21, 22, 23, 24, 25, 26, 27, 28, 29, 30, 31, 32, 33] (by decide +kernel) (by decide +kernel)
set_option maxRecDepth 20000 in
theorem gX4_skip_X4_isStream : GoodIn wsX4_skip (wsV RX4 153 RX4 yX4_isStream wsX4_isStream) := goodIn_app (goodIn_of _ (by decide +kernel)) ggX4_skip_X4_isStream
set_option maxRecDepth 20000 in
theorem ggX4_skip_X4_in : GoodIn wsX4_skip wsX4_in := goodIn_r _ [12] (by decide +kernel) (by decide +kernel)
set_option maxRecDepth 20000 in
theorem gX4_skip_X4_in : GoodIn wsX4_skip (va_wsS RX4 82 yX4_in wsX4_in) := goodIn_app (goodIn_of _ (by decide +kernel)) ggX4_skip_X4_in
set_option maxRecDepth 20000 in
theorem bdX4_skip_0 : (decode cX4_skip 0 = .ok (.aload_n 0, 1)) ∧ (decode cX4_skip 1 = .ok (.iload_n 1, 1)) ∧ (decode cX4_skip 2 = .ok (.invokevirtual 153, 3)) ∧ (decode cX4_skip 5 = .ok (.ifCond .eq 32, 3)) ∧ (decode cX4_skip 8 = .ok (.iload_n 2, 1)) ∧ (decode cX4_skip 9 = .ok (.i2l, 1)) ∧ (decode cX4_skip 10 = .ok (.lconst 0, 1)) ∧ (decode cX4_skip 11 = .ok (.ldc2_w 157, 3)) ∧ (decode cX4_skip 14 = .ok (.invokestatic 82, 3)) ∧ (decode cX4_skip 17 = .ok (.ifCond .eq 20, 3)) ∧ (decode cX4_skip 20 = .ok (.aload_n 0, 1)) ∧ (decode cX4_skip 21 = .ok (.getfield 29, 3)) := by decide +kernel
theorem dX4_skip_0 : decode cX4_skip 0 = .ok (.aload_n 0, 1) := bdX4_skip_0.1
theorem dX4_skip_1 : decode cX4_skip 1 = .ok (.iload_n 1, 1) := bdX4_skip_0.2.1
theorem dX4_skip_2 : decode cX4_skip 2 = .ok (.invokevirtual 153, 3) := bdX4_skip_0.2.2.1
theorem dX4_skip_5 : decode cX4_skip 5 = .ok (.ifCond .eq 32, 3) := bdX4_skip_0.2.2.2.1
theorem dX4_skip_8 : decode cX4_skip 8 = .ok (.iload_n 2, 1) := bdX4_skip_0.2.2.2.2.1
theorem dX4_skip_9 : decode cX4_skip 9 = .ok (.i2l, 1) := bdX4_skip_0.2.2.2.2.2.1
theorem dX4_skip_10 : decode cX4_skip 10 = .ok (.lconst 0, 1) := bdX4_skip_0.2.2.2.2.2.2.1
theorem dX4_skip_11 : decode cX4_skip 11 = .ok (.ldc2_w 157, 3) := bdX4_skip_0.2.2.2.2.2.2.2.1
theorem dX4_skip_14 : decode cX4_skip 14 = .ok (.invokestatic 82, 3) := bdX4_skip_0.2.2.2.2.2.2.2.2.1
theorem dX4_skip_17 : decode cX4_skip 17 = .ok (.ifCond .eq 20, 3) := bdX4_skip_0.2.2.2.2.2.2.2.2.2.1
theorem dX4_skip_20 : decode cX4_skip 20 = .ok (.aload_n 0, 1) := bdX4_skip_0.2.2.2.2.2.2.2.2.2.2.1
theorem dX4_skip_21 : decode cX4_skip 21 = .ok (.getfield 29, 3) := bdX4_skip_0.2.2.2.2.2.2.2.2.2.2.2
set_option maxRecDepth 20000 in
theorem bdX4_skip_24 : (decode cX4_skip 24 = .ok (.iload_n 1, 1)) ∧ (decode cX4_skip 25 = .ok (.iaload, 1)) ∧ (decode cX4_skip 26 = .ok (.i2l, 1)) ∧ (decode cX4_skip 27 = .ok (.iload_n 2, 1)) ∧ (decode cX4_skip 28 = .ok (.i2l, 1)) ∧ (decode cX4_skip 29 = .ok (.ladd, 1)) ∧ (decode cX4_skip 30 = .ok (.ldc2_w 144, 3)) ∧ (decode cX4_skip 33 = .ok (.lcmp, 1)) ∧ (decode cX4_skip 34 = .ok (.ifCond .le 5, 3)) ∧ (decode cX4_skip 37 = .ok (.iconst (-1), 1)) ∧ (decode cX4_skip 38 = .ok (.ireturn, 1)) ∧ (decode cX4_skip 39 = .ok (.aload_n 0, 1)) := by decide +kernel
theorem dX4_skip_24 : decode cX4_skip 24 = .ok (.iload_n 1, 1) := bdX4_skip_24.1
theorem dX4_skip_25 : decode cX4_skip 25 = .ok (.iaload, 1) := bdX4_skip_24.2.1
theorem dX4_skip_26 : decode cX4_skip 26 = .ok (.i2l, 1) := bdX4_skip_24.2.2.1
theorem dX4_skip_27 : decode cX4_skip 27 = .ok (.iload_n 2, 1) := bdX4_skip_24.2.2.2.1
theorem dX4_skip_28 : decode cX4_skip 28 = .ok (.i2l, 1) := bdX4_skip_24.2.2.2.2.1
theorem dX4_skip_29 : decode cX4_skip 29 = .ok (.ladd, 1) := bdX4_skip_24.2.2.2.2.2.1
theorem dX4_skip_30 : decode cX4_skip 30 = .ok (.ldc2_w 144, 3) := bdX4_skip_24.2.2.2.2.2.2.1
theorem dX4_skip_33 : decode cX4_skip 33 = .ok (.lcmp, 1) := bdX4_skip_24.2.2.2.2.2.2.2.1
theorem dX4_skip_34 : decode cX4_skip 34 = .ok (.ifCond .le 5, 3) := bdX4_skip_24.2.2.2.2.2.2.2.2.1
theorem dX4_skip_37 : decode cX4_skip 37 = .ok (.iconst (-1), 1) := bdX4_skip_24.2.2.2.2.2.2.2.2.2.1
theorem dX4_skip_38 : decode cX4_skip 38 = .ok (.ireturn, 1) := bdX4_skip_24.2.2.2.2.2.2.2.2.2.2.1
theorem dX4_skip_39 : decode cX4_skip 39 = .ok (.aload_n 0, 1) := bdX4_skip_24.2.2.2.2.2.2.2.2.2.2.2
set_option maxRecDepth 20000 in
theorem bdX4_skip_40 : (decode cX4_skip 40 = .ok (.getfield 29, 3)) ∧ (decode cX4_skip 43 = .ok (.iload_n 1, 1)) ∧ (decode cX4_skip 44 = .ok (.dup2, 1)) ∧ (decode cX4_skip 45 = .ok (.iaload, 1)) ∧ (decode cX4_skip 46 = .ok (.iload_n 2, 1)) ∧ (decode cX4_skip 47 = .ok (.iadd, 1)) ∧ (decode cX4_skip 48 = .ok (.iastore, 1)) ∧ (decode cX4_skip 49 = .ok (.aload_n 0, 1)) ∧ (decode cX4_skip 50 = .ok (.getfield 29, 3)) ∧ (decode cX4_skip 53 = .ok (.iload_n 1, 1)) ∧ (decode cX4_skip 54 = .ok (.iaload, 1)) ∧ (decode cX4_skip 55 = .ok (.ireturn, 1)) := by decide +kernel
theorem dX4_skip_40 : decode cX4_skip 40 = .ok (.getfield 29, 3) := bdX4_skip_40.1
theorem dX4_skip_43 : decode cX4_skip 43 = .ok (.iload_n 1, 1) := bdX4_skip_40.2.1
theorem dX4_skip_44 : decode cX4_skip 44 = .ok (.dup2, 1) := bdX4_skip_40.2.2.1
theorem dX4_skip_45 : decode cX4_skip 45 = .ok (.iaload, 1) := bdX4_skip_40.2.2.2.1
theorem dX4_skip_46 : decode cX4_skip 46 = .ok (.iload_n 2, 1) := bdX4_skip_40.2.2.2.2.1
theorem dX4_skip_47 : decode cX4_skip 47 = .ok (.iadd, 1) := bdX4_skip_40.2.2.2.2.2.1
theorem dX4_skip_48 : decode cX4_skip 48 = .ok (.iastore, 1) := bdX4_skip_40.2.2.2.2.2.2.1
theorem dX4_skip_49 : decode cX4_skip 49 = .ok (.aload_n 0, 1) := bdX4_skip_40.2.2.2.2.2.2.2.1
theorem dX4_skip_50 : decode cX4_skip 50 = .ok (.getfield 29, 3) := bdX4_skip_40.2.2.2.2.2.2.2.2.1
theorem dX4_skip_53 : decode cX4_skip 53 = .ok (.iload_n 1, 1) := bdX4_skip_40.2.2.2.2.2.2.2.2.2.1
theorem dX4_skip_54 : decode cX4_skip 54 = .ok (.iaload, 1) := bdX4_skip_40.2.2.2.2.2.2.2.2.2.2.1
theorem dX4_skip_55 : decode cX4_skip 55 = .ok (.ireturn, 1) := bdX4_skip_40.2.2.2.2.2.2.2.2.2.2.2
set_option maxRecDepth 20000 in
theorem ggX4_keep_X4_in : GoodIn wsX4_keep wsX4_in := goodIn_r _ [11] (by decide +kernel) (by decide +kernel)
set_option maxRecDepth 20000 in
theorem gX4_keep_X4_in : GoodIn wsX4_keep (va_wsS RX4 82 yX4_in wsX4_in) := goodIn_app (goodIn_of _ (by decide +kernel)) ggX4_keep_X4_in
set_option maxRecDepth 20000 in
theorem ggX4_keep_X4_isStream : GoodIn wsX4_keep wsX4_isStream := goodIn_r _ [15, 16, 8, 9, 10, 11, 17, 18, 19, 20, 21, 22, 23, 24, 25, 26, 27, 28, 29, 30, 31, 32, 33, 34, 35, 36, 37] (by decide +kernel) (by decide +kernel)
set_option maxRecDepth 20000 in
theorem gX4_keep_X4_isStream : GoodIn wsX4_keep (wsV RX4 153 RX4 yX4_isStream wsX4_isStream) := goodIn_app (goodIn_of _ (by decide +kernel)) ggX4_keep_X4_isStream
set_option maxRecDepth 20000 in
theorem bdX4_keep_0 : (decode cX4_keep 0 = .ok (.iload_n 1, 1)) ∧ (decode cX4_keep 1 = .ok (.i2l, 1)) ∧ (decode cX4_keep 2 = .ok (.lconst 0, 1)) ∧ (decode cX4_keep 3 = .ok (.ldc2_w 159, 3)) ∧ (decode cX4_keep 6 = .ok (.invokestatic 82, 3)) ∧ (decode cX4_keep 9 = .ok (.ifCond .eq 11, 3)) ∧ (decode cX4_keep 12 = .ok (.aload_n 0, 1)) ∧ (decode cX4_keep 13 = .ok (.iload_n 2, 1)) ∧ (decode cX4_keep 14 = .ok (.invokevirtual 153, 3)) ∧ (decode cX4_keep 17 = .ok (.ifCond .ne 5, 3)) ∧ (decode cX4_keep 20 = .ok (.iconst (-1), 1)) ∧ (decode cX4_keep 21 = .ok (.ireturn, 1)) := by decide +kernel
theorem dX4_keep_0 : decode cX4_keep 0 = .ok (.iload_n 1, 1) := bdX4_keep_0.1
theorem dX4_keep_1 : decode cX4_keep 1 = .ok (.i2l, 1) := bdX4_keep_0.2.1
theorem dX4_keep_2 : decode cX4_keep 2 = .ok (.lconst 0, 1) := bdX4_keep_0.2.2.1
theorem dX4_keep_3 : decode cX4_keep 3 = .ok (.ldc2_w 159, 3) := bdX4_keep_0.2.2.2.1
theorem dX4_keep_6 : decode cX4_keep 6 = .ok (.invokestatic 82, 3) := bdX4_keep_0.2.2.2.2.1
theorem dX4_keep_9 : decode cX4_keep 9 = .ok (.ifCond .eq 11, 3) := bdX4_keep_0.2.2.2.2.2.1
theorem dX4_keep_12 : decode cX4_keep 12 = .ok (.aload_n 0, 1) := bdX4_keep_0.2.2.2.2.2.2.1
theorem dX4_keep_13 : decode cX4_keep 13 = .ok (.iload_n 2, 1) := bdX4_keep_0.2.2.2.2.2.2.2.1
theorem dX4_keep_14 : decode cX4_keep 14 = .ok (.invokevirtual 153, 3) := bdX4_keep_0.2.2.2.2.2.2.2.2.1
theorem dX4_keep_17 : decode cX4_keep 17 = .ok (.ifCond .ne 5, 3) := bdX4_keep_0.2.2.2.2.2.2.2.2.2.1
theorem dX4_keep_20 : decode cX4_keep 20 = .ok (.iconst (-1), 1) := bdX4_keep_0.2.2.2.2.2.2.2.2.2.2.1
theorem dX4_keep_21 : decode cX4_keep 21 = .ok (.ireturn, 1) := bdX4_keep_0.2.2.2.2.2.2.2.2.2.2.2
set_option maxRecDepth 20000 in
theorem bdX4_keep_22 : (decode cX4_keep 22 = .ok (.aload_n 0, 1)) ∧ (decode cX4_keep 23 = .ok (.getfield 44, 3)) ∧ (decode cX4_keep 26 = .ok (.iload_n 1, 1)) ∧ (decode cX4_keep 27 = .ok (.iconst 1, 1)) ∧ (decode cX4_keep 28 = .ok (.bastore, 1)) ∧ (decode cX4_keep 29 = .ok (.aload_n 0, 1)) ∧ (decode cX4_keep 30 = .ok (.getfield 35, 3)) ∧ (decode cX4_keep 33 = .ok (.iload_n 1, 1)) ∧ (decode cX4_keep 34 = .ok (.iload_n 2, 1)) ∧ (decode cX4_keep 35 = .ok (.iastore, 1)) ∧ (decode cX4_keep 36 = .ok (.aload_n 0, 1)) ∧ (decode cX4_keep 37 = .ok (.getfield 38, 3)) := by decide +kernel
theorem dX4_keep_22 : decode cX4_keep 22 = .ok (.aload_n 0, 1) := bdX4_keep_22.1
theorem dX4_keep_23 : decode cX4_keep 23 = .ok (.getfield 44, 3) := bdX4_keep_22.2.1
theorem dX4_keep_26 : decode cX4_keep 26 = .ok (.iload_n 1, 1) := bdX4_keep_22.2.2.1
theorem dX4_keep_27 : decode cX4_keep 27 = .ok (.iconst 1, 1) := bdX4_keep_22.2.2.2.1
theorem dX4_keep_28 : decode cX4_keep 28 = .ok (.bastore, 1) := bdX4_keep_22.2.2.2.2.1
theorem dX4_keep_29 : decode cX4_keep 29 = .ok (.aload_n 0, 1) := bdX4_keep_22.2.2.2.2.2.1
theorem dX4_keep_30 : decode cX4_keep 30 = .ok (.getfield 35, 3) := bdX4_keep_22.2.2.2.2.2.2.1
theorem dX4_keep_33 : decode cX4_keep 33 = .ok (.iload_n 1, 1) := bdX4_keep_22.2.2.2.2.2.2.2.1
theorem dX4_keep_34 : decode cX4_keep 34 = .ok (.iload_n 2, 1) := bdX4_keep_22.2.2.2.2.2.2.2.2.1
theorem dX4_keep_35 : decode cX4_keep 35 = .ok (.iastore, 1) := bdX4_keep_22.2.2.2.2.2.2.2.2.2.1
theorem dX4_keep_36 : decode cX4_keep 36 = .ok (.aload_n 0, 1) := bdX4_keep_22.2.2.2.2.2.2.2.2.2.2.1
theorem dX4_keep_37 : decode cX4_keep 37 = .ok (.getfield 38, 3) := bdX4_keep_22.2.2.2.2.2.2.2.2.2.2.2
set_option maxRecDepth 20000 in
theorem bdX4_keep_40 : (decode cX4_keep 40 = .ok (.iload_n 1, 1)) ∧ (decode cX4_keep 41 = .ok (.aload_n 0, 1)) ∧ (decode cX4_keep 42 = .ok (.getfield 29, 3)) ∧ (decode cX4_keep 45 = .ok (.iload_n 2, 1)) ∧ (decode cX4_keep 46 = .ok (.iaload, 1)) ∧ (decode cX4_keep 47 = .ok (.iastore, 1)) ∧ (decode cX4_keep 48 = .ok (.aload_n 0, 1)) ∧ (decode cX4_keep 49 = .ok (.getfield 41, 3)) ∧ (decode cX4_keep 52 = .ok (.iload_n 1, 1)) ∧ (decode cX4_keep 53 = .ok (.aload_n 0, 1)) ∧ (decode cX4_keep 54 = .ok (.getfield 32, 3)) ∧ (decode cX4_keep 57 = .ok (.iload_n 2, 1)) := by decide +kernel
theorem dX4_keep_40 : decode cX4_keep 40 = .ok (.iload_n 1, 1) := bdX4_keep_40.1
theorem dX4_keep_41 : decode cX4_keep 41 = .ok (.aload_n 0, 1) := bdX4_keep_40.2.1
theorem dX4_keep_42 : decode cX4_keep 42 = .ok (.getfield 29, 3) := bdX4_keep_40.2.2.1
theorem dX4_keep_45 : decode cX4_keep 45 = .ok (.iload_n 2, 1) := bdX4_keep_40.2.2.2.1
theorem dX4_keep_46 : decode cX4_keep 46 = .ok (.iaload, 1) := bdX4_keep_40.2.2.2.2.1
theorem dX4_keep_47 : decode cX4_keep 47 = .ok (.iastore, 1) := bdX4_keep_40.2.2.2.2.2.1
theorem dX4_keep_48 : decode cX4_keep 48 = .ok (.aload_n 0, 1) := bdX4_keep_40.2.2.2.2.2.2.1
theorem dX4_keep_49 : decode cX4_keep 49 = .ok (.getfield 41, 3) := bdX4_keep_40.2.2.2.2.2.2.2.1
theorem dX4_keep_52 : decode cX4_keep 52 = .ok (.iload_n 1, 1) := bdX4_keep_40.2.2.2.2.2.2.2.2.1
theorem dX4_keep_53 : decode cX4_keep 53 = .ok (.aload_n 0, 1) := bdX4_keep_40.2.2.2.2.2.2.2.2.2.1
theorem dX4_keep_54 : decode cX4_keep 54 = .ok (.getfield 32, 3) := bdX4_keep_40.2.2.2.2.2.2.2.2.2.2.1
theorem dX4_keep_57 : decode cX4_keep 57 = .ok (.iload_n 2, 1) := bdX4_keep_40.2.2.2.2.2.2.2.2.2.2.2
set_option maxRecDepth 20000 in
theorem bdX4_keep_58 : (decode cX4_keep 58 = .ok (.iaload, 1)) ∧ (decode cX4_keep 59 = .ok (.iastore, 1)) ∧ (decode cX4_keep 60 = .ok (.aload_n 0, 1)) ∧ (decode cX4_keep 61 = .ok (.getfield 29, 3)) ∧ (decode cX4_keep 64 = .ok (.iload_n 2, 1)) ∧ (decode cX4_keep 65 = .ok (.iaload, 1)) ∧ (decode cX4_keep 66 = .ok (.ireturn, 1)) := by decide +kernel
theorem dX4_keep_58 : decode cX4_keep 58 = .ok (.iaload, 1) := bdX4_keep_58.1
theorem dX4_keep_59 : decode cX4_keep 59 = .ok (.iastore, 1) := bdX4_keep_58.2.1
theorem dX4_keep_60 : decode cX4_keep 60 = .ok (.aload_n 0, 1) := bdX4_keep_58.2.2.1
theorem dX4_keep_61 : decode cX4_keep 61 = .ok (.getfield 29, 3) := bdX4_keep_58.2.2.2.1
theorem dX4_keep_64 : decode cX4_keep 64 = .ok (.iload_n 2, 1) := bdX4_keep_58.2.2.2.2.1
theorem dX4_keep_65 : decode cX4_keep 65 = .ok (.iaload, 1) := bdX4_keep_58.2.2.2.2.2.1
theorem dX4_keep_66 : decode cX4_keep 66 = .ok (.ireturn, 1) := bdX4_keep_58.2.2.2.2.2.2
set_option maxRecDepth 20000 in
theorem ggX4_back_X4_in : GoodIn wsX4_back wsX4_in := goodIn_r _ [11] (by decide +kernel) (by decide +kernel)
set_option maxRecDepth 20000 in
theorem gX4_back_X4_in : GoodIn wsX4_back (va_wsS RX4 82 yX4_in wsX4_in) := goodIn_app (goodIn_of _ (by decide +kernel)) ggX4_back_X4_in
set_option maxRecDepth 20000 in
theorem bdX4_back_0 : (decode cX4_back 0 = .ok (.iload_n 1, 1)) ∧ (decode cX4_back 1 = .ok (.i2l, 1)) ∧ (decode cX4_back 2 = .ok (.lconst 0, 1)) ∧ (decode cX4_back 3 = .ok (.ldc2_w 159, 3)) ∧ (decode cX4_back 6 = .ok (.invokestatic 82, 3)) ∧ (decode cX4_back 9 = .ok (.ifCond .ne 5, 3)) ∧ (decode cX4_back 12 = .ok (.iconst (-1), 1)) ∧ (decode cX4_back 13 = .ok (.ireturn, 1)) ∧ (decode cX4_back 14 = .ok (.aload_n 0, 1)) ∧ (decode cX4_back 15 = .ok (.getfield 44, 3)) ∧ (decode cX4_back 18 = .ok (.iload_n 1, 1)) ∧ (decode cX4_back 19 = .ok (.baload, 1)) := by decide +kernel
theorem dX4_back_0 : decode cX4_back 0 = .ok (.iload_n 1, 1) := bdX4_back_0.1
theorem dX4_back_1 : decode cX4_back 1 = .ok (.i2l, 1) := bdX4_back_0.2.1
theorem dX4_back_2 : decode cX4_back 2 = .ok (.lconst 0, 1) := bdX4_back_0.2.2.1
theorem dX4_back_3 : decode cX4_back 3 = .ok (.ldc2_w 159, 3) := bdX4_back_0.2.2.2.1
theorem dX4_back_6 : decode cX4_back 6 = .ok (.invokestatic 82, 3) := bdX4_back_0.2.2.2.2.1
theorem dX4_back_9 : decode cX4_back 9 = .ok (.ifCond .ne 5, 3) := bdX4_back_0.2.2.2.2.2.1
theorem dX4_back_12 : decode cX4_back 12 = .ok (.iconst (-1), 1) := bdX4_back_0.2.2.2.2.2.2.1
theorem dX4_back_13 : decode cX4_back 13 = .ok (.ireturn, 1) := bdX4_back_0.2.2.2.2.2.2.2.1
theorem dX4_back_14 : decode cX4_back 14 = .ok (.aload_n 0, 1) := bdX4_back_0.2.2.2.2.2.2.2.2.1
theorem dX4_back_15 : decode cX4_back 15 = .ok (.getfield 44, 3) := bdX4_back_0.2.2.2.2.2.2.2.2.2.1
theorem dX4_back_18 : decode cX4_back 18 = .ok (.iload_n 1, 1) := bdX4_back_0.2.2.2.2.2.2.2.2.2.2.1
theorem dX4_back_19 : decode cX4_back 19 = .ok (.baload, 1) := bdX4_back_0.2.2.2.2.2.2.2.2.2.2.2
set_option maxRecDepth 20000 in
theorem bdX4_back_20 : (decode cX4_back 20 = .ok (.ifCond .ne 6, 3)) ∧ (decode cX4_back 23 = .ok (.bipush (-3), 2)) ∧ (decode cX4_back 25 = .ok (.ireturn, 1)) ∧ (decode cX4_back 26 = .ok (.aload_n 0, 1)) ∧ (decode cX4_back 27 = .ok (.getfield 35, 3)) ∧ (decode cX4_back 30 = .ok (.iload_n 1, 1)) ∧ (decode cX4_back 31 = .ok (.iaload, 1)) ∧ (decode cX4_back 32 = .ok (.istore_n 2, 1)) ∧ (decode cX4_back 33 = .ok (.aload_n 0, 1)) ∧ (decode cX4_back 34 = .ok (.getfield 29, 3)) ∧ (decode cX4_back 37 = .ok (.iload_n 2, 1)) ∧ (decode cX4_back 38 = .ok (.aload_n 0, 1)) := by decide +kernel
theorem dX4_back_20 : decode cX4_back 20 = .ok (.ifCond .ne 6, 3) := bdX4_back_20.1
theorem dX4_back_23 : decode cX4_back 23 = .ok (.bipush (-3), 2) := bdX4_back_20.2.1
theorem dX4_back_25 : decode cX4_back 25 = .ok (.ireturn, 1) := bdX4_back_20.2.2.1
theorem dX4_back_26 : decode cX4_back 26 = .ok (.aload_n 0, 1) := bdX4_back_20.2.2.2.1
theorem dX4_back_27 : decode cX4_back 27 = .ok (.getfield 35, 3) := bdX4_back_20.2.2.2.2.1
theorem dX4_back_30 : decode cX4_back 30 = .ok (.iload_n 1, 1) := bdX4_back_20.2.2.2.2.2.1
theorem dX4_back_31 : decode cX4_back 31 = .ok (.iaload, 1) := bdX4_back_20.2.2.2.2.2.2.1
theorem dX4_back_32 : decode cX4_back 32 = .ok (.istore_n 2, 1) := bdX4_back_20.2.2.2.2.2.2.2.1
theorem dX4_back_33 : decode cX4_back 33 = .ok (.aload_n 0, 1) := bdX4_back_20.2.2.2.2.2.2.2.2.1
theorem dX4_back_34 : decode cX4_back 34 = .ok (.getfield 29, 3) := bdX4_back_20.2.2.2.2.2.2.2.2.2.1
theorem dX4_back_37 : decode cX4_back 37 = .ok (.iload_n 2, 1) := bdX4_back_20.2.2.2.2.2.2.2.2.2.2.1
theorem dX4_back_38 : decode cX4_back 38 = .ok (.aload_n 0, 1) := bdX4_back_20.2.2.2.2.2.2.2.2.2.2.2
set_option maxRecDepth 20000 in
theorem bdX4_back_39 : (decode cX4_back 39 = .ok (.getfield 38, 3)) ∧ (decode cX4_back 42 = .ok (.iload_n 1, 1)) ∧ (decode cX4_back 43 = .ok (.iaload, 1)) ∧ (decode cX4_back 44 = .ok (.iastore, 1)) ∧ (decode cX4_back 45 = .ok (.aload_n 0, 1)) ∧ (decode cX4_back 46 = .ok (.getfield 32, 3)) ∧ (decode cX4_back 49 = .ok (.iload_n 2, 1)) ∧ (decode cX4_back 50 = .ok (.aload_n 0, 1)) ∧ (decode cX4_back 51 = .ok (.getfield 41, 3)) ∧ (decode cX4_back 54 = .ok (.iload_n 1, 1)) ∧ (decode cX4_back 55 = .ok (.iaload, 1)) ∧ (decode cX4_back 56 = .ok (.iastore, 1)) := by decide +kernel
theorem dX4_back_39 : decode cX4_back 39 = .ok (.getfield 38, 3) := bdX4_back_39.1
theorem dX4_back_42 : decode cX4_back 42 = .ok (.iload_n 1, 1) := bdX4_back_39.2.1
theorem dX4_back_43 : decode cX4_back 43 = .ok (.iaload, 1) := bdX4_back_39.2.2.1
theorem dX4_back_44 : decode cX4_back 44 = .ok (.iastore, 1) := bdX4_back_39.2.2.2.1
theorem dX4_back_45 : decode cX4_back 45 = .ok (.aload_n 0, 1) := bdX4_back_39.2.2.2.2.1
theorem dX4_back_46 : decode cX4_back 46 = .ok (.getfield 32, 3) := bdX4_back_39.2.2.2.2.2.1
theorem dX4_back_49 : decode cX4_back 49 = .ok (.iload_n 2, 1) := bdX4_back_39.2.2.2.2.2.2.1
theorem dX4_back_50 : decode cX4_back 50 = .ok (.aload_n 0, 1) := bdX4_back_39.2.2.2.2.2.2.2.1
theorem dX4_back_51 : decode cX4_back 51 = .ok (.getfield 41, 3) := bdX4_back_39.2.2.2.2.2.2.2.2.1
theorem dX4_back_54 : decode cX4_back 54 = .ok (.iload_n 1, 1) := bdX4_back_39.2.2.2.2.2.2.2.2.2.1
theorem dX4_back_55 : decode cX4_back 55 = .ok (.iaload, 1) := bdX4_back_39.2.2.2.2.2.2.2.2.2.2.1
theorem dX4_back_56 : decode cX4_back 56 = .ok (.iastore, 1) := bdX4_back_39.2.2.2.2.2.2.2.2.2.2.2
set_option maxRecDepth 20000 in
theorem bdX4_back_57 : (decode cX4_back 57 = .ok (.iload_n 2, 1)) ∧ (decode cX4_back 58 = .ok (.ireturn, 1)) := by decide +kernel
theorem dX4_back_57 : decode cX4_back 57 = .ok (.iload_n 2, 1) := bdX4_back_57.1
theorem dX4_back_58 : decode cX4_back 58 = .ok (.ireturn, 1) := bdX4_back_57.2
set_option maxRecDepth 20000 in
theorem ggX4_told_X4_isStream : GoodIn wsX4_told wsX4_isStream := goodIn_r _ [9, 10, 11, 12, 8, 13, 14, 15, 16, 17, 18, 19, 20, 21, 22, 23, 24, 25, 26, 27, 28, 29, 30, 31, 32, 33, 34] (by decide +kernel) (by decide +kernel)
set_option maxRecDepth 20000 in
theorem gX4_told_X4_isStream : GoodIn wsX4_told (wsV RX4 153 RX4 yX4_isStream wsX4_isStream) := goodIn_app (goodIn_of _ (by decide +kernel)) ggX4_told_X4_isStream
set_option maxRecDepth 20000 in
theorem ggX4_told_X4_in : GoodIn wsX4_told wsX4_in := goodIn_r _ [13] (by decide +kernel) (by decide +kernel)
set_option maxRecDepth 20000 in
theorem gX4_told_X4_in : GoodIn wsX4_told (va_wsS RX4 82 yX4_in wsX4_in) := goodIn_app (goodIn_of _ (by decide +kernel)) ggX4_told_X4_in
set_option maxRecDepth 20000 in
theorem bdX4_told_0 : (decode cX4_told 0 = .ok (.aload_n 0, 1)) ∧ (decode cX4_told 1 = .ok (.iload_n 1, 1)) ∧ (decode cX4_told 2 = .ok (.invokevirtual 153, 3)) ∧ (decode cX4_told 5 = .ok (.ifCond .eq 15, 3)) ∧ (decode cX4_told 8 = .ok (.iload_n 2, 1)) ∧ (decode cX4_told 9 = .ok (.i2l, 1)) ∧ (decode cX4_told 10 = .ok (.lconst 0, 1)) ∧ (decode cX4_told 11 = .ok (.ldc2_w 126, 3)) ∧ (decode cX4_told 14 = .ok (.invokestatic 82, 3)) ∧ (decode cX4_told 17 = .ok (.ifCond .ne 5, 3)) ∧ (decode cX4_told 20 = .ok (.iconst (-1), 1)) ∧ (decode cX4_told 21 = .ok (.ireturn, 1)) := by decide +kernel
theorem dX4_told_0 : decode cX4_told 0 = .ok (.aload_n 0, 1) := bdX4_told_0.1
theorem dX4_told_1 : decode cX4_told 1 = .ok (.iload_n 1, 1) := bdX4_told_0.2.1
theorem dX4_told_2 : decode cX4_told 2 = .ok (.invokevirtual 153, 3) := bdX4_told_0.2.2.1
theorem dX4_told_5 : decode cX4_told 5 = .ok (.ifCond .eq 15, 3) := bdX4_told_0.2.2.2.1
theorem dX4_told_8 : decode cX4_told 8 = .ok (.iload_n 2, 1) := bdX4_told_0.2.2.2.2.1
theorem dX4_told_9 : decode cX4_told 9 = .ok (.i2l, 1) := bdX4_told_0.2.2.2.2.2.1
theorem dX4_told_10 : decode cX4_told 10 = .ok (.lconst 0, 1) := bdX4_told_0.2.2.2.2.2.2.1
theorem dX4_told_11 : decode cX4_told 11 = .ok (.ldc2_w 126, 3) := bdX4_told_0.2.2.2.2.2.2.2.1
theorem dX4_told_14 : decode cX4_told 14 = .ok (.invokestatic 82, 3) := bdX4_told_0.2.2.2.2.2.2.2.2.1
theorem dX4_told_17 : decode cX4_told 17 = .ok (.ifCond .ne 5, 3) := bdX4_told_0.2.2.2.2.2.2.2.2.2.1
theorem dX4_told_20 : decode cX4_told 20 = .ok (.iconst (-1), 1) := bdX4_told_0.2.2.2.2.2.2.2.2.2.2.1
theorem dX4_told_21 : decode cX4_told 21 = .ok (.ireturn, 1) := bdX4_told_0.2.2.2.2.2.2.2.2.2.2.2
set_option maxRecDepth 20000 in
theorem bdX4_told_22 : (decode cX4_told 22 = .ok (.iload_n 2, 1)) ∧ (decode cX4_told 23 = .ok (.ifCond .ne 12, 3)) ∧ (decode cX4_told 26 = .ok (.aload_n 0, 1)) ∧ (decode cX4_told 27 = .ok (.getfield 26, 3)) ∧ (decode cX4_told 30 = .ok (.iload_n 1, 1)) ∧ (decode cX4_told 31 = .ok (.iaload, 1)) ∧ (decode cX4_told 32 = .ok (.goto 23, 3)) ∧ (decode cX4_told 35 = .ok (.iload_n 2, 1)) ∧ (decode cX4_told 36 = .ok (.iconst 1, 1)) ∧ (decode cX4_told 37 = .ok (.if_icmp .ne 12, 3)) ∧ (decode cX4_told 40 = .ok (.aload_n 0, 1)) ∧ (decode cX4_told 41 = .ok (.getfield 29, 3)) := by decide +kernel
theorem dX4_told_22 : decode cX4_told 22 = .ok (.iload_n 2, 1) := bdX4_told_22.1
theorem dX4_told_23 : decode cX4_told 23 = .ok (.ifCond .ne 12, 3) := bdX4_told_22.2.1
theorem dX4_told_26 : decode cX4_told 26 = .ok (.aload_n 0, 1) := bdX4_told_22.2.2.1
theorem dX4_told_27 : decode cX4_told 27 = .ok (.getfield 26, 3) := bdX4_told_22.2.2.2.1
theorem dX4_told_30 : decode cX4_told 30 = .ok (.iload_n 1, 1) := bdX4_told_22.2.2.2.2.1
theorem dX4_told_31 : decode cX4_told 31 = .ok (.iaload, 1) := bdX4_told_22.2.2.2.2.2.1
theorem dX4_told_32 : decode cX4_told 32 = .ok (.goto 23, 3) := bdX4_told_22.2.2.2.2.2.2.1
theorem dX4_told_35 : decode cX4_told 35 = .ok (.iload_n 2, 1) := bdX4_told_22.2.2.2.2.2.2.2.1
theorem dX4_told_36 : decode cX4_told 36 = .ok (.iconst 1, 1) := bdX4_told_22.2.2.2.2.2.2.2.2.1
theorem dX4_told_37 : decode cX4_told 37 = .ok (.if_icmp .ne 12, 3) := bdX4_told_22.2.2.2.2.2.2.2.2.2.1
theorem dX4_told_40 : decode cX4_told 40 = .ok (.aload_n 0, 1) := bdX4_told_22.2.2.2.2.2.2.2.2.2.2.1
theorem dX4_told_41 : decode cX4_told 41 = .ok (.getfield 29, 3) := bdX4_told_22.2.2.2.2.2.2.2.2.2.2.2
set_option maxRecDepth 20000 in
theorem bdX4_told_44 : (decode cX4_told 44 = .ok (.iload_n 1, 1)) ∧ (decode cX4_told 45 = .ok (.iaload, 1)) ∧ (decode cX4_told 46 = .ok (.goto 9, 3)) ∧ (decode cX4_told 49 = .ok (.aload_n 0, 1)) ∧ (decode cX4_told 50 = .ok (.getfield 32, 3)) ∧ (decode cX4_told 53 = .ok (.iload_n 1, 1)) ∧ (decode cX4_told 54 = .ok (.iaload, 1)) ∧ (decode cX4_told 55 = .ok (.ireturn, 1)) := by decide +kernel
theorem dX4_told_44 : decode cX4_told 44 = .ok (.iload_n 1, 1) := bdX4_told_44.1
theorem dX4_told_45 : decode cX4_told 45 = .ok (.iaload, 1) := bdX4_told_44.2.1
theorem dX4_told_46 : decode cX4_told 46 = .ok (.goto 9, 3) := bdX4_told_44.2.2.1
theorem dX4_told_49 : decode cX4_told 49 = .ok (.aload_n 0, 1) := bdX4_told_44.2.2.2.1
theorem dX4_told_50 : decode cX4_told 50 = .ok (.getfield 32, 3) := bdX4_told_44.2.2.2.2.1
theorem dX4_told_53 : decode cX4_told 53 = .ok (.iload_n 1, 1) := bdX4_told_44.2.2.2.2.2.1
theorem dX4_told_54 : decode cX4_told 54 = .ok (.iaload, 1) := bdX4_told_44.2.2.2.2.2.2.1
theorem dX4_told_55 : decode cX4_told 55 = .ok (.ireturn, 1) := bdX4_told_44.2.2.2.2.2.2.2
set_option maxRecDepth 20000 in
theorem ggX4_counted_X4_in : GoodIn wsX4_counted wsX4_in := goodIn_r _ [6] (by decide +kernel) (by decide +kernel)
set_option maxRecDepth 20000 in
theorem gX4_counted_X4_in : GoodIn wsX4_counted (va_wsS RX4 82 yX4_in wsX4_in) := goodIn_app (goodIn_of _ (by decide +kernel)) ggX4_counted_X4_in
set_option maxRecDepth 20000 in
theorem bdX4_counted_0 : (decode cX4_counted 0 = .ok (.iload_n 1, 1)) ∧ (decode cX4_counted 1 = .ok (.i2l, 1)) ∧ (decode cX4_counted 2 = .ok (.lconst 1, 1)) ∧ (decode cX4_counted 3 = .ok (.ldc2_w 161, 3)) ∧ (decode cX4_counted 6 = .ok (.invokestatic 82, 3)) ∧ (decode cX4_counted 9 = .ok (.ifCond .eq 28, 3)) ∧ (decode cX4_counted 12 = .ok (.iload_n 2, 1)) ∧ (decode cX4_counted 13 = .ok (.i2l, 1)) ∧ (decode cX4_counted 14 = .ok (.lconst 1, 1)) ∧ (decode cX4_counted 15 = .ok (.ldc2_w 163, 3)) ∧ (decode cX4_counted 18 = .ok (.invokestatic 82, 3)) ∧ (decode cX4_counted 21 = .ok (.ifCond .eq 16, 3)) := by decide +kernel
theorem dX4_counted_0 : decode cX4_counted 0 = .ok (.iload_n 1, 1) := bdX4_counted_0.1
theorem dX4_counted_1 : decode cX4_counted 1 = .ok (.i2l, 1) := bdX4_counted_0.2.1
theorem dX4_counted_2 : decode cX4_counted 2 = .ok (.lconst 1, 1) := bdX4_counted_0.2.2.1
theorem dX4_counted_3 : decode cX4_counted 3 = .ok (.ldc2_w 161, 3) := bdX4_counted_0.2.2.2.1
theorem dX4_counted_6 : decode cX4_counted 6 = .ok (.invokestatic 82, 3) := bdX4_counted_0.2.2.2.2.1
theorem dX4_counted_9 : decode cX4_counted 9 = .ok (.ifCond .eq 28, 3) := bdX4_counted_0.2.2.2.2.2.1
theorem dX4_counted_12 : decode cX4_counted 12 = .ok (.iload_n 2, 1) := bdX4_counted_0.2.2.2.2.2.2.1
theorem dX4_counted_13 : decode cX4_counted 13 = .ok (.i2l, 1) := bdX4_counted_0.2.2.2.2.2.2.2.1
theorem dX4_counted_14 : decode cX4_counted 14 = .ok (.lconst 1, 1) := bdX4_counted_0.2.2.2.2.2.2.2.2.1
theorem dX4_counted_15 : decode cX4_counted 15 = .ok (.ldc2_w 163, 3) := bdX4_counted_0.2.2.2.2.2.2.2.2.2.1
theorem dX4_counted_18 : decode cX4_counted 18 = .ok (.invokestatic 82, 3) := bdX4_counted_0.2.2.2.2.2.2.2.2.2.2.1
theorem dX4_counted_21 : decode cX4_counted 21 = .ok (.ifCond .eq 16, 3) := bdX4_counted_0.2.2.2.2.2.2.2.2.2.2.2
set_option maxRecDepth 20000 in
theorem bdX4_counted_24 : (decode cX4_counted 24 = .ok (.iload_n 3, 1)) ∧ (decode cX4_counted 25 = .ok (.i2l, 1)) ∧ (decode cX4_counted 26 = .ok (.lconst 0, 1)) ∧ (decode cX4_counted 27 = .ok (.iload_n 2, 1)) ∧ (decode cX4_counted 28 = .ok (.iconst 1, 1)) ∧ (decode cX4_counted 29 = .ok (.isub, 1)) ∧ (decode cX4_counted 30 = .ok (.i2l, 1)) ∧ (decode cX4_counted 31 = .ok (.invokestatic 82, 3)) ∧ (decode cX4_counted 34 = .ok (.ifCond .ne 5, 3)) ∧ (decode cX4_counted 37 = .ok (.iconst (-1), 1)) ∧ (decode cX4_counted 38 = .ok (.ireturn, 1)) ∧ (decode cX4_counted 39 = .ok (.iconst 1, 1)) := by decide +kernel
theorem dX4_counted_24 : decode cX4_counted 24 = .ok (.iload_n 3, 1) := bdX4_counted_24.1
theorem dX4_counted_25 : decode cX4_counted 25 = .ok (.i2l, 1) := bdX4_counted_24.2.1
theorem dX4_counted_26 : decode cX4_counted 26 = .ok (.lconst 0, 1) := bdX4_counted_24.2.2.1
theorem dX4_counted_27 : decode cX4_counted 27 = .ok (.iload_n 2, 1) := bdX4_counted_24.2.2.2.1
theorem dX4_counted_28 : decode cX4_counted 28 = .ok (.iconst 1, 1) := bdX4_counted_24.2.2.2.2.1
theorem dX4_counted_29 : decode cX4_counted 29 = .ok (.isub, 1) := bdX4_counted_24.2.2.2.2.2.1
theorem dX4_counted_30 : decode cX4_counted 30 = .ok (.i2l, 1) := bdX4_counted_24.2.2.2.2.2.2.1
theorem dX4_counted_31 : decode cX4_counted 31 = .ok (.invokestatic 82, 3) := bdX4_counted_24.2.2.2.2.2.2.2.1
theorem dX4_counted_34 : decode cX4_counted 34 = .ok (.ifCond .ne 5, 3) := bdX4_counted_24.2.2.2.2.2.2.2.2.1
theorem dX4_counted_37 : decode cX4_counted 37 = .ok (.iconst (-1), 1) := bdX4_counted_24.2.2.2.2.2.2.2.2.2.1
theorem dX4_counted_38 : decode cX4_counted 38 = .ok (.ireturn, 1) := bdX4_counted_24.2.2.2.2.2.2.2.2.2.2.1
theorem dX4_counted_39 : decode cX4_counted 39 = .ok (.iconst 1, 1) := bdX4_counted_24.2.2.2.2.2.2.2.2.2.2.2
set_option maxRecDepth 20000 in
theorem bdX4_counted_40 : (decode cX4_counted 40 = .ok (.iload_n 1, 1)) ∧ (decode cX4_counted 41 = .ok (.ishl, 1)) ∧ (decode cX4_counted 42 = .ok (.iload_n 2, 1)) ∧ (decode cX4_counted 43 = .ok (.idiv, 1)) ∧ (decode cX4_counted 44 = .ok (.ireturn, 1)) := by decide +kernel
theorem dX4_counted_40 : decode cX4_counted 40 = .ok (.iload_n 1, 1) := bdX4_counted_40.1
theorem dX4_counted_41 : decode cX4_counted 41 = .ok (.ishl, 1) := bdX4_counted_40.2.1
theorem dX4_counted_42 : decode cX4_counted 42 = .ok (.iload_n 2, 1) := bdX4_counted_40.2.2.1
theorem dX4_counted_43 : decode cX4_counted 43 = .ok (.idiv, 1) := bdX4_counted_40.2.2.2.1
theorem dX4_counted_44 : decode cX4_counted 44 = .ok (.ireturn, 1) := bdX4_counted_40.2.2.2.2
set_option maxRecDepth 20000 in
theorem bdX4_count_0 : (decode cX4_count 0 = .ok (.iload_n 1, 1)) ∧ (decode cX4_count 1 = .ok (.ifCond .ne 10, 3)) ∧ (decode cX4_count 4 = .ok (.aload_n 0, 1)) ∧ (decode cX4_count 5 = .ok (.getfield 72, 3)) ∧ (decode cX4_count 8 = .ok (.goto 28, 3)) ∧ (decode cX4_count 11 = .ok (.iload_n 1, 1)) ∧ (decode cX4_count 12 = .ok (.iconst 1, 1)) ∧ (decode cX4_count 13 = .ok (.if_icmp .ne 10, 3)) ∧ (decode cX4_count 16 = .ok (.aload_n 0, 1)) ∧ (decode cX4_count 17 = .ok (.getfield 146, 3)) ∧ (decode cX4_count 20 = .ok (.goto 16, 3)) ∧ (decode cX4_count 23 = .ok (.iload_n 1, 1)) := by decide +kernel
theorem dX4_count_0 : decode cX4_count 0 = .ok (.iload_n 1, 1) := bdX4_count_0.1
theorem dX4_count_1 : decode cX4_count 1 = .ok (.ifCond .ne 10, 3) := bdX4_count_0.2.1
theorem dX4_count_4 : decode cX4_count 4 = .ok (.aload_n 0, 1) := bdX4_count_0.2.2.1
theorem dX4_count_5 : decode cX4_count 5 = .ok (.getfield 72, 3) := bdX4_count_0.2.2.2.1
theorem dX4_count_8 : decode cX4_count 8 = .ok (.goto 28, 3) := bdX4_count_0.2.2.2.2.1
theorem dX4_count_11 : decode cX4_count 11 = .ok (.iload_n 1, 1) := bdX4_count_0.2.2.2.2.2.1
theorem dX4_count_12 : decode cX4_count 12 = .ok (.iconst 1, 1) := bdX4_count_0.2.2.2.2.2.2.1
theorem dX4_count_13 : decode cX4_count 13 = .ok (.if_icmp .ne 10, 3) := bdX4_count_0.2.2.2.2.2.2.2.1
theorem dX4_count_16 : decode cX4_count 16 = .ok (.aload_n 0, 1) := bdX4_count_0.2.2.2.2.2.2.2.2.1
theorem dX4_count_17 : decode cX4_count 17 = .ok (.getfield 146, 3) := bdX4_count_0.2.2.2.2.2.2.2.2.2.1
theorem dX4_count_20 : decode cX4_count 20 = .ok (.goto 16, 3) := bdX4_count_0.2.2.2.2.2.2.2.2.2.2.1
theorem dX4_count_23 : decode cX4_count 23 = .ok (.iload_n 1, 1) := bdX4_count_0.2.2.2.2.2.2.2.2.2.2.2
set_option maxRecDepth 20000 in
theorem bdX4_count_24 : (decode cX4_count 24 = .ok (.iconst 2, 1)) ∧ (decode cX4_count 25 = .ok (.if_icmp .ne 10, 3)) ∧ (decode cX4_count 28 = .ok (.aload_n 0, 1)) ∧ (decode cX4_count 29 = .ok (.getfield 68, 3)) ∧ (decode cX4_count 32 = .ok (.goto 4, 3)) ∧ (decode cX4_count 35 = .ok (.iconst (-1), 1)) ∧ (decode cX4_count 36 = .ok (.ireturn, 1)) := by decide +kernel
theorem dX4_count_24 : decode cX4_count 24 = .ok (.iconst 2, 1) := bdX4_count_24.1
theorem dX4_count_25 : decode cX4_count 25 = .ok (.if_icmp .ne 10, 3) := bdX4_count_24.2.1
theorem dX4_count_28 : decode cX4_count 28 = .ok (.aload_n 0, 1) := bdX4_count_24.2.2.1
theorem dX4_count_29 : decode cX4_count 29 = .ok (.getfield 68, 3) := bdX4_count_24.2.2.2.1
theorem dX4_count_32 : decode cX4_count 32 = .ok (.goto 4, 3) := bdX4_count_24.2.2.2.2.1
theorem dX4_count_35 : decode cX4_count 35 = .ok (.iconst (-1), 1) := bdX4_count_24.2.2.2.2.2.1
theorem dX4_count_36 : decode cX4_count 36 = .ok (.ireturn, 1) := bdX4_count_24.2.2.2.2.2.2
