set_option maxRecDepth 20000 in
theorem gX3_open_X1_has : GoodIn wsX3_open (wsV RX3 60 RX1 yX1_has wsX1_has) := goodIn_app (goodIn_of _ (by decide +kernel)) ggX3_open_X1_has
set_option maxRecDepth 20000 in
theorem ggX3_open_X3_addStream : GoodIn wsX3_open wsX3_addStream := goodIn_r _ [13, 2, 14, 15, 16, 17, 18, 19, 20, 21, 22, 23, 24, 25, 26, 27, 28, 29, 30, 31, 32, 33, 34, 35, 36, 37, 38, 44, 45, 46, 47] (by decide +kernel) (by decide +kernel)
set_option maxRecDepth 20000 in
theorem gX3_open_X3_addStream : GoodIn wsX3_open (wsV RX3 96 RX3 yX3_addStream wsX3_addStream) := goodIn_app (goodIn_of _ (by decide +kernel)) ggX3_open_X3_addStream
set_option maxRecDepth 20000 in
theorem bdX3_open_0 : (decode cX3_open 0 = .ok (.aload_n 0, 1)) ∧ (decode cX3_open 1 = .ok (.getfield 20, 3)) ∧ (decode cX3_open 4 = .ok (.iload_n 3, 1)) ∧ (decode cX3_open 5 = .ok (.invokevirtual 60, 3)) ∧ (decode cX3_open 8 = .ok (.ifCond .ne 5, 3)) ∧ (decode cX3_open 11 = .ok (.iconst (-1), 1)) ∧ (decode cX3_open 12 = .ok (.ireturn, 1)) ∧ (decode cX3_open 13 = .ok (.aload_n 0, 1)) ∧ (decode cX3_open 14 = .ok (.getfield 37, 3)) ∧ (decode cX3_open 17 = .ok (.bipush 8, 2)) ∧ (decode cX3_open 19 = .ok (.if_icmp .lt 6, 3)) ∧ (decode cX3_open 22 = .ok (.bipush (-2), 2)) := by decide +kernel
theorem dX3_open_0 : decode cX3_open 0 = .ok (.aload_n 0, 1) := bdX3_open_0.1
theorem dX3_open_1 : decode cX3_open 1 = .ok (.getfield 20, 3) := bdX3_open_0.2.1
theorem dX3_open_4 : decode cX3_open 4 = .ok (.iload_n 3, 1) := bdX3_open_0.2.2.1
theorem dX3_open_5 : decode cX3_open 5 = .ok (.invokevirtual 60, 3) := bdX3_open_0.2.2.2.1
theorem dX3_open_8 : decode cX3_open 8 = .ok (.ifCond .ne 5, 3) := bdX3_open_0.2.2.2.2.1
theorem dX3_open_11 : decode cX3_open 11 = .ok (.iconst (-1), 1) := bdX3_open_0.2.2.2.2.2.1
theorem dX3_open_12 : decode cX3_open 12 = .ok (.ireturn, 1) := bdX3_open_0.2.2.2.2.2.2.1
theorem dX3_open_13 : decode cX3_open 13 = .ok (.aload_n 0, 1) := bdX3_open_0.2.2.2.2.2.2.2.1
theorem dX3_open_14 : decode cX3_open 14 = .ok (.getfield 37, 3) := bdX3_open_0.2.2.2.2.2.2.2.2.1
theorem dX3_open_17 : decode cX3_open 17 = .ok (.bipush 8, 2) := bdX3_open_0.2.2.2.2.2.2.2.2.2.1
theorem dX3_open_19 : decode cX3_open 19 = .ok (.if_icmp .lt 6, 3) := bdX3_open_0.2.2.2.2.2.2.2.2.2.2.1
theorem dX3_open_22 : decode cX3_open 22 = .ok (.bipush (-2), 2) := bdX3_open_0.2.2.2.2.2.2.2.2.2.2.2
set_option maxRecDepth 20000 in
theorem bdX3_open_24 : (decode cX3_open 24 = .ok (.ireturn, 1)) ∧ (decode cX3_open 25 = .ok (.aload_n 0, 1)) ∧ (decode cX3_open 26 = .ok (.lload_n 1, 1)) ∧ (decode cX3_open 27 = .ok (.iload_n 3, 1)) ∧ (decode cX3_open 28 = .ok (.invokevirtual 96, 3)) ∧ (decode cX3_open 31 = .ok (.ireturn, 1)) := by decide +kernel
theorem dX3_open_24 : decode cX3_open 24 = .ok (.ireturn, 1) := bdX3_open_24.1
theorem dX3_open_25 : decode cX3_open 25 = .ok (.aload_n 0, 1) := bdX3_open_24.2.1
theorem dX3_open_26 : decode cX3_open 26 = .ok (.lload_n 1, 1) := bdX3_open_24.2.2.1
theorem dX3_open_27 : decode cX3_open 27 = .ok (.iload_n 3, 1) := bdX3_open_24.2.2.2.1
theorem dX3_open_28 : decode cX3_open 28 = .ok (.invokevirtual 96, 3) := bdX3_open_24.2.2.2.2.1
theorem dX3_open_31 : decode cX3_open 31 = .ok (.ireturn, 1) := bdX3_open_24.2.2.2.2.2
set_option maxRecDepth 20000 in
theorem ggX3_next_X3_streamAt : GoodIn wsX3_next wsX3_streamAt := goodIn_r _ [11, 12, 13, 51, 52, 53, 54, 55, 56, 57, 58, 59, 60, 61] (by decide +kernel) (by decide +kernel)
set_option maxRecDepth 20000 in
theorem gX3_next_X3_streamAt : GoodIn wsX3_next (wsV RX3 100 RX3 yX3_streamAt wsX3_streamAt) := goodIn_app (goodIn_of _ (by decide +kernel)) ggX3_next_X3_streamAt
set_option maxRecDepth 20000 in
theorem ggX3_next_X3_drawSpan : GoodIn wsX3_next wsX3_drawSpan := goodIn_r _ [17, 18, 19, 20, 21, 22, 10, 23, 24, 25, 26, 27, 28, 29, 30, 31, 32, 33, 34, 35, 36, 37, 38, 39, 40, 41, 42, 43, 44, 45, 46, 51, 52, 53, 54, 55, 56, 57, 58, 59, 60, 61, 62, 63, 64, 65, 66] (by decide +kernel) (by decide +kernel)
set_option maxRecDepth 20000 in
theorem gX3_next_X3_drawSpan : GoodIn wsX3_next (wsV RX3 79 RX3 yX3_drawSpan wsX3_drawSpan) := goodIn_app (goodIn_of _ (by decide +kernel)) ggX3_next_X3_drawSpan
set_option maxRecDepth 20000 in
theorem bdX3_next_0 : (decode cX3_next 0 = .ok (.aload_n 0, 1)) ∧ (decode cX3_next 1 = .ok (.iload_n 1, 1)) ∧ (decode cX3_next 2 = .ok (.invokevirtual 100, 3)) ∧ (decode cX3_next 5 = .ok (.astore 4, 2)) ∧ (decode cX3_next 7 = .ok (.lload_n 2, 1)) ∧ (decode cX3_next 8 = .ok (.lconst 0, 1)) ∧ (decode cX3_next 9 = .ok (.lcmp, 1)) ∧ (decode cX3_next 10 = .ok (.ifCond .lt 18, 3)) ∧ (decode cX3_next 13 = .ok (.aload 4, 2)) ∧ (decode cX3_next 15 = .ok (.ifnull 13, 3)) ∧ (decode cX3_next 18 = .ok (.aload 4, 2)) ∧ (decode cX3_next 20 = .ok (.getfield 104, 3)) := by decide +kernel
theorem dX3_next_0 : decode cX3_next 0 = .ok (.aload_n 0, 1) := bdX3_next_0.1
theorem dX3_next_1 : decode cX3_next 1 = .ok (.iload_n 1, 1) := bdX3_next_0.2.1
theorem dX3_next_2 : decode cX3_next 2 = .ok (.invokevirtual 100, 3) := bdX3_next_0.2.2.1
theorem dX3_next_5 : decode cX3_next 5 = .ok (.astore 4, 2) := bdX3_next_0.2.2.2.1
theorem dX3_next_7 : decode cX3_next 7 = .ok (.lload_n 2, 1) := bdX3_next_0.2.2.2.2.1
theorem dX3_next_8 : decode cX3_next 8 = .ok (.lconst 0, 1) := bdX3_next_0.2.2.2.2.2.1
theorem dX3_next_9 : decode cX3_next 9 = .ok (.lcmp, 1) := bdX3_next_0.2.2.2.2.2.2.1
theorem dX3_next_10 : decode cX3_next 10 = .ok (.ifCond .lt 18, 3) := bdX3_next_0.2.2.2.2.2.2.2.1
theorem dX3_next_13 : decode cX3_next 13 = .ok (.aload 4, 2) := bdX3_next_0.2.2.2.2.2.2.2.2.1
theorem dX3_next_15 : decode cX3_next 15 = .ok (.ifnull 13, 3) := bdX3_next_0.2.2.2.2.2.2.2.2.2.1
theorem dX3_next_18 : decode cX3_next 18 = .ok (.aload 4, 2) := bdX3_next_0.2.2.2.2.2.2.2.2.2.2.1
theorem dX3_next_20 : decode cX3_next 20 = .ok (.getfield 104, 3) := bdX3_next_0.2.2.2.2.2.2.2.2.2.2.2
set_option maxRecDepth 20000 in
theorem bdX3_next_23 : (decode cX3_next 23 = .ok (.ldc 91, 2)) ∧ (decode cX3_next 25 = .ok (.if_icmp .ne 7, 3)) ∧ (decode cX3_next 28 = .ok (.ldc2_w 77, 3)) ∧ (decode cX3_next 31 = .ok (.lreturn, 1)) ∧ (decode cX3_next 32 = .ok (.lload_n 2, 1)) ∧ (decode cX3_next 33 = .ok (.lconst 0, 1)) ∧ (decode cX3_next 34 = .ok (.lcmp, 1)) ∧ (decode cX3_next 35 = .ok (.ifCond .ne 7, 3)) ∧ (decode cX3_next 38 = .ok (.ldc2_w 75, 3)) ∧ (decode cX3_next 41 = .ok (.lreturn, 1)) ∧ (decode cX3_next 42 = .ok (.aload_n 0, 1)) ∧ (decode cX3_next 43 = .ok (.aload 4, 2)) := by decide +kernel
theorem dX3_next_23 : decode cX3_next 23 = .ok (.ldc 91, 2) := bdX3_next_23.1
theorem dX3_next_25 : decode cX3_next 25 = .ok (.if_icmp .ne 7, 3) := bdX3_next_23.2.1
theorem dX3_next_28 : decode cX3_next 28 = .ok (.ldc2_w 77, 3) := bdX3_next_23.2.2.1
theorem dX3_next_31 : decode cX3_next 31 = .ok (.lreturn, 1) := bdX3_next_23.2.2.2.1
theorem dX3_next_32 : decode cX3_next 32 = .ok (.lload_n 2, 1) := bdX3_next_23.2.2.2.2.1
theorem dX3_next_33 : decode cX3_next 33 = .ok (.lconst 0, 1) := bdX3_next_23.2.2.2.2.2.1
theorem dX3_next_34 : decode cX3_next 34 = .ok (.lcmp, 1) := bdX3_next_23.2.2.2.2.2.2.1
theorem dX3_next_35 : decode cX3_next 35 = .ok (.ifCond .ne 7, 3) := bdX3_next_23.2.2.2.2.2.2.2.1
theorem dX3_next_38 : decode cX3_next 38 = .ok (.ldc2_w 75, 3) := bdX3_next_23.2.2.2.2.2.2.2.2.1
theorem dX3_next_41 : decode cX3_next 41 = .ok (.lreturn, 1) := bdX3_next_23.2.2.2.2.2.2.2.2.2.1
theorem dX3_next_42 : decode cX3_next 42 = .ok (.aload_n 0, 1) := bdX3_next_23.2.2.2.2.2.2.2.2.2.2.1
theorem dX3_next_43 : decode cX3_next 43 = .ok (.aload 4, 2) := bdX3_next_23.2.2.2.2.2.2.2.2.2.2.2
set_option maxRecDepth 20000 in
theorem bdX3_next_45 : (decode cX3_next 45 = .ok (.getfield 107, 3)) ∧ (decode cX3_next 48 = .ok (.aload 4, 2)) ∧ (decode cX3_next 50 = .ok (.getfield 110, 3)) ∧ (decode cX3_next 53 = .ok (.aload 4, 2)) ∧ (decode cX3_next 55 = .ok (.getfield 104, 3)) ∧ (decode cX3_next 58 = .ok (.lload_n 2, 1)) ∧ (decode cX3_next 59 = .ok (.invokevirtual 79, 3)) ∧ (decode cX3_next 62 = .ok (.lstore 5, 2)) ∧ (decode cX3_next 64 = .ok (.aload 4, 2)) ∧ (decode cX3_next 66 = .ok (.dup, 1)) ∧ (decode cX3_next 67 = .ok (.getfield 104, 3)) ∧ (decode cX3_next 70 = .ok (.iconst 1, 1)) := by decide +kernel
theorem dX3_next_45 : decode cX3_next 45 = .ok (.getfield 107, 3) := bdX3_next_45.1
theorem dX3_next_48 : decode cX3_next 48 = .ok (.aload 4, 2) := bdX3_next_45.2.1
theorem dX3_next_50 : decode cX3_next 50 = .ok (.getfield 110, 3) := bdX3_next_45.2.2.1
theorem dX3_next_53 : decode cX3_next 53 = .ok (.aload 4, 2) := bdX3_next_45.2.2.2.1
theorem dX3_next_55 : decode cX3_next 55 = .ok (.getfield 104, 3) := bdX3_next_45.2.2.2.2.1
theorem dX3_next_58 : decode cX3_next 58 = .ok (.lload_n 2, 1) := bdX3_next_45.2.2.2.2.2.1
theorem dX3_next_59 : decode cX3_next 59 = .ok (.invokevirtual 79, 3) := bdX3_next_45.2.2.2.2.2.2.1
theorem dX3_next_62 : decode cX3_next 62 = .ok (.lstore 5, 2) := bdX3_next_45.2.2.2.2.2.2.2.1
theorem dX3_next_64 : decode cX3_next 64 = .ok (.aload 4, 2) := bdX3_next_45.2.2.2.2.2.2.2.2.1
theorem dX3_next_66 : decode cX3_next 66 = .ok (.dup, 1) := bdX3_next_45.2.2.2.2.2.2.2.2.2.1
theorem dX3_next_67 : decode cX3_next 67 = .ok (.getfield 104, 3) := bdX3_next_45.2.2.2.2.2.2.2.2.2.2.1
theorem dX3_next_70 : decode cX3_next 70 = .ok (.iconst 1, 1) := bdX3_next_45.2.2.2.2.2.2.2.2.2.2.2
set_option maxRecDepth 20000 in
theorem bdX3_next_71 : (decode cX3_next 71 = .ok (.iadd, 1)) ∧ (decode cX3_next 72 = .ok (.putfield 104, 3)) ∧ (decode cX3_next 75 = .ok (.lload 5, 2)) ∧ (decode cX3_next 77 = .ok (.lreturn, 1)) := by decide +kernel
theorem dX3_next_71 : decode cX3_next 71 = .ok (.iadd, 1) := bdX3_next_71.1
theorem dX3_next_72 : decode cX3_next 72 = .ok (.putfield 104, 3) := bdX3_next_71.2.1
theorem dX3_next_75 : decode cX3_next 75 = .ok (.lload 5, 2) := bdX3_next_71.2.2.1
theorem dX3_next_77 : decode cX3_next 77 = .ok (.lreturn, 1) := bdX3_next_71.2.2.2
set_option maxRecDepth 20000 in
theorem ggX3_nextPick_X3_streamAt : GoodIn wsX3_nextPick wsX3_streamAt := goodIn_r _ [9, 10, 11, 63, 64, 65, 66, 67, 68, 69, 70, 71, 72, 73] (by decide +kernel) (by decide +kernel)
set_option maxRecDepth 20000 in
theorem gX3_nextPick_X3_streamAt : GoodIn wsX3_nextPick (wsV RX3 100 RX3 yX3_streamAt wsX3_streamAt) := goodIn_app (goodIn_of _ (by decide +kernel)) ggX3_nextPick_X3_streamAt
set_option maxRecDepth 20000 in
theorem ggX3_nextPick_X3_drawPick : GoodIn wsX3_nextPick wsX3_drawPick := goodIn_r _ [15, 16, 17, 18, 8, 19, 20, 21, 22, 23, 24, 25, 26, 27, 28, 29, 30, 31, 32, 33, 34, 35, 36, 37, 38, 39, 40, 41, 42, 43, 44, 45, 46, 47, 48, 49, 50, 51, 52, 53, 54, 55, 56, 57, 58, 63, 64, 65, 66, 67, 68, 69, 70, 71, 72, 73, 74, 75, 76, 77, 78] (by decide +kernel) (by decide +kernel)
set_option maxRecDepth 20000 in
theorem gX3_nextPick_X3_drawPick : GoodIn wsX3_nextPick (wsV RX3 87 RX3 yX3_drawPick wsX3_drawPick) := goodIn_app (goodIn_of _ (by decide +kernel)) ggX3_nextPick_X3_drawPick
set_option maxRecDepth 20000 in
theorem bdX3_nextPick_0 : (decode cX3_nextPick 0 = .ok (.aload_n 0, 1)) ∧ (decode cX3_nextPick 1 = .ok (.iload_n 1, 1)) ∧ (decode cX3_nextPick 2 = .ok (.invokevirtual 100, 3)) ∧ (decode cX3_nextPick 5 = .ok (.astore_n 2, 1)) ∧ (decode cX3_nextPick 6 = .ok (.aload_n 2, 1)) ∧ (decode cX3_nextPick 7 = .ok (.ifnull 12, 3)) ∧ (decode cX3_nextPick 10 = .ok (.aload_n 2, 1)) ∧ (decode cX3_nextPick 11 = .ok (.getfield 104, 3)) ∧ (decode cX3_nextPick 14 = .ok (.ldc 91, 2)) ∧ (decode cX3_nextPick 16 = .ok (.if_icmp .ne 5, 3)) ∧ (decode cX3_nextPick 19 = .ok (.iconst (-1), 1)) ∧ (decode cX3_nextPick 20 = .ok (.ireturn, 1)) := by decide +kernel
theorem dX3_nextPick_0 : decode cX3_nextPick 0 = .ok (.aload_n 0, 1) := bdX3_nextPick_0.1
theorem dX3_nextPick_1 : decode cX3_nextPick 1 = .ok (.iload_n 1, 1) := bdX3_nextPick_0.2.1
theorem dX3_nextPick_2 : decode cX3_nextPick 2 = .ok (.invokevirtual 100, 3) := bdX3_nextPick_0.2.2.1
theorem dX3_nextPick_5 : decode cX3_nextPick 5 = .ok (.astore_n 2, 1) := bdX3_nextPick_0.2.2.2.1
theorem dX3_nextPick_6 : decode cX3_nextPick 6 = .ok (.aload_n 2, 1) := bdX3_nextPick_0.2.2.2.2.1
theorem dX3_nextPick_7 : decode cX3_nextPick 7 = .ok (.ifnull 12, 3) := bdX3_nextPick_0.2.2.2.2.2.1
theorem dX3_nextPick_10 : decode cX3_nextPick 10 = .ok (.aload_n 2, 1) := bdX3_nextPick_0.2.2.2.2.2.2.1
theorem dX3_nextPick_11 : decode cX3_nextPick 11 = .ok (.getfield 104, 3) := bdX3_nextPick_0.2.2.2.2.2.2.2.1
theorem dX3_nextPick_14 : decode cX3_nextPick 14 = .ok (.ldc 91, 2) := bdX3_nextPick_0.2.2.2.2.2.2.2.2.1
theorem dX3_nextPick_16 : decode cX3_nextPick 16 = .ok (.if_icmp .ne 5, 3) := bdX3_nextPick_0.2.2.2.2.2.2.2.2.2.1
theorem dX3_nextPick_19 : decode cX3_nextPick 19 = .ok (.iconst (-1), 1) := bdX3_nextPick_0.2.2.2.2.2.2.2.2.2.2.1
theorem dX3_nextPick_20 : decode cX3_nextPick 20 = .ok (.ireturn, 1) := bdX3_nextPick_0.2.2.2.2.2.2.2.2.2.2.2
set_option maxRecDepth 20000 in
theorem bdX3_nextPick_21 : (decode cX3_nextPick 21 = .ok (.aload_n 0, 1)) ∧ (decode cX3_nextPick 22 = .ok (.aload_n 2, 1)) ∧ (decode cX3_nextPick 23 = .ok (.getfield 107, 3)) ∧ (decode cX3_nextPick 26 = .ok (.aload_n 2, 1)) ∧ (decode cX3_nextPick 27 = .ok (.getfield 110, 3)) ∧ (decode cX3_nextPick 30 = .ok (.aload_n 2, 1)) ∧ (decode cX3_nextPick 31 = .ok (.getfield 104, 3)) ∧ (decode cX3_nextPick 34 = .ok (.invokevirtual 87, 3)) ∧ (decode cX3_nextPick 37 = .ok (.istore_n 3, 1)) ∧ (decode cX3_nextPick 38 = .ok (.iload_n 3, 1)) ∧ (decode cX3_nextPick 39 = .ok (.bipush (-4), 2)) ∧ (decode cX3_nextPick 41 = .ok (.if_icmp .eq 19, 3)) := by decide +kernel
theorem dX3_nextPick_21 : decode cX3_nextPick 21 = .ok (.aload_n 0, 1) := bdX3_nextPick_21.1
theorem dX3_nextPick_22 : decode cX3_nextPick 22 = .ok (.aload_n 2, 1) := bdX3_nextPick_21.2.1
theorem dX3_nextPick_23 : decode cX3_nextPick 23 = .ok (.getfield 107, 3) := bdX3_nextPick_21.2.2.1
theorem dX3_nextPick_26 : decode cX3_nextPick 26 = .ok (.aload_n 2, 1) := bdX3_nextPick_21.2.2.2.1
theorem dX3_nextPick_27 : decode cX3_nextPick 27 = .ok (.getfield 110, 3) := bdX3_nextPick_21.2.2.2.2.1
theorem dX3_nextPick_30 : decode cX3_nextPick 30 = .ok (.aload_n 2, 1) := bdX3_nextPick_21.2.2.2.2.2.1
theorem dX3_nextPick_31 : decode cX3_nextPick 31 = .ok (.getfield 104, 3) := bdX3_nextPick_21.2.2.2.2.2.2.1
theorem dX3_nextPick_34 : decode cX3_nextPick 34 = .ok (.invokevirtual 87, 3) := bdX3_nextPick_21.2.2.2.2.2.2.2.1
theorem dX3_nextPick_37 : decode cX3_nextPick 37 = .ok (.istore_n 3, 1) := bdX3_nextPick_21.2.2.2.2.2.2.2.2.1
theorem dX3_nextPick_38 : decode cX3_nextPick 38 = .ok (.iload_n 3, 1) := bdX3_nextPick_21.2.2.2.2.2.2.2.2.2.1
theorem dX3_nextPick_39 : decode cX3_nextPick 39 = .ok (.bipush (-4), 2) := bdX3_nextPick_21.2.2.2.2.2.2.2.2.2.2.1
theorem dX3_nextPick_41 : decode cX3_nextPick 41 = .ok (.if_icmp .eq 19, 3) := bdX3_nextPick_21.2.2.2.2.2.2.2.2.2.2.2
set_option maxRecDepth 20000 in
theorem bdX3_nextPick_44 : (decode cX3_nextPick 44 = .ok (.iload_n 3, 1)) ∧ (decode cX3_nextPick 45 = .ok (.bipush (-5), 2)) ∧ (decode cX3_nextPick 47 = .ok (.if_icmp .eq 13, 3)) ∧ (decode cX3_nextPick 50 = .ok (.aload_n 2, 1)) ∧ (decode cX3_nextPick 51 = .ok (.dup, 1)) ∧ (decode cX3_nextPick 52 = .ok (.getfield 104, 3)) ∧ (decode cX3_nextPick 55 = .ok (.iconst 1, 1)) ∧ (decode cX3_nextPick 56 = .ok (.iadd, 1)) ∧ (decode cX3_nextPick 57 = .ok (.putfield 104, 3)) ∧ (decode cX3_nextPick 60 = .ok (.iload_n 3, 1)) ∧ (decode cX3_nextPick 61 = .ok (.ireturn, 1)) := by decide +kernel
theorem dX3_nextPick_44 : decode cX3_nextPick 44 = .ok (.iload_n 3, 1) := bdX3_nextPick_44.1
theorem dX3_nextPick_45 : decode cX3_nextPick 45 = .ok (.bipush (-5), 2) := bdX3_nextPick_44.2.1
theorem dX3_nextPick_47 : decode cX3_nextPick 47 = .ok (.if_icmp .eq 13, 3) := bdX3_nextPick_44.2.2.1
theorem dX3_nextPick_50 : decode cX3_nextPick 50 = .ok (.aload_n 2, 1) := bdX3_nextPick_44.2.2.2.1
theorem dX3_nextPick_51 : decode cX3_nextPick 51 = .ok (.dup, 1) := bdX3_nextPick_44.2.2.2.2.1
theorem dX3_nextPick_52 : decode cX3_nextPick 52 = .ok (.getfield 104, 3) := bdX3_nextPick_44.2.2.2.2.2.1
theorem dX3_nextPick_55 : decode cX3_nextPick 55 = .ok (.iconst 1, 1) := bdX3_nextPick_44.2.2.2.2.2.2.1
theorem dX3_nextPick_56 : decode cX3_nextPick 56 = .ok (.iadd, 1) := bdX3_nextPick_44.2.2.2.2.2.2.2.1
theorem dX3_nextPick_57 : decode cX3_nextPick 57 = .ok (.putfield 104, 3) := bdX3_nextPick_44.2.2.2.2.2.2.2.2.1
theorem dX3_nextPick_60 : decode cX3_nextPick 60 = .ok (.iload_n 3, 1) := bdX3_nextPick_44.2.2.2.2.2.2.2.2.2.1
theorem dX3_nextPick_61 : decode cX3_nextPick 61 = .ok (.ireturn, 1) := bdX3_nextPick_44.2.2.2.2.2.2.2.2.2.2
set_option maxRecDepth 20000 in
theorem ggX3_split_X3_streamAt : GoodIn wsX3_split wsX3_streamAt := goodIn_r _ [10, 1, 11, 56, 57, 58, 59, 60, 61, 62, 63, 64, 65, 66] (by decide +kernel) (by decide +kernel)
set_option maxRecDepth 20000 in
theorem gX3_split_X3_streamAt : GoodIn wsX3_split (wsV RX3 100 RX3 yX3_streamAt wsX3_streamAt) := goodIn_app (goodIn_of _ (by decide +kernel)) ggX3_split_X3_streamAt
set_option maxRecDepth 20000 in
theorem ggX3_split_X1_enterChild : GoodIn wsX3_split wsX1_enterChild := goodIn_r _ [16, 17, 18, 19, 20, 21, 22, 15, 23, 24, 25, 26, 27, 28, 29, 30, 31, 32, 33, 34, 35, 9, 36, 37, 38, 71, 72, 73, 74, 75] (by decide +kernel) (by decide +kernel)
set_option maxRecDepth 20000 in
theorem gX3_split_X1_enterChild : GoodIn wsX3_split (wsV RX3 116 RX1 yX1_enterChild wsX1_enterChild) := goodIn_app (goodIn_of _ (by decide +kernel)) ggX3_split_X1_enterChild
set_option maxRecDepth 20000 in
theorem ggX3_split_X3_addStream : GoodIn wsX3_split wsX3_addStream := goodIn_r _ [42, 1, 11, 43, 44, 45, 46, 47, 48, 49, 50, 51, 52, 53, 54, 55, 56, 57, 58, 59, 60, 61, 62, 63, 64, 65, 66, 67, 68, 69, 70] (by decide +kernel) (by decide +kernel)
set_option maxRecDepth 20000 in
theorem gX3_split_X3_addStream : GoodIn wsX3_split (wsV RX3 96 RX3 yX3_addStream wsX3_addStream) := goodIn_app (goodIn_of _ (by decide +kernel)) ggX3_split_X3_addStream
set_option maxRecDepth 20000 in
theorem bdX3_split_0 : (decode cX3_split 0 = .ok (.aload_n 0, 1)) ∧ (decode cX3_split 1 = .ok (.iload_n 1, 1)) ∧ (decode cX3_split 2 = .ok (.invokevirtual 100, 3)) ∧ (decode cX3_split 5 = .ok (.astore_n 2, 1)) ∧ (decode cX3_split 6 = .ok (.aload_n 2, 1)) ∧ (decode cX3_split 7 = .ok (.ifnonnull 5, 3)) ∧ (decode cX3_split 10 = .ok (.iconst (-1), 1)) ∧ (decode cX3_split 11 = .ok (.ireturn, 1)) ∧ (decode cX3_split 12 = .ok (.aload_n 0, 1)) ∧ (decode cX3_split 13 = .ok (.getfield 37, 3)) ∧ (decode cX3_split 16 = .ok (.bipush 8, 2)) ∧ (decode cX3_split 18 = .ok (.if_icmp .lt 6, 3)) := by decide +kernel
theorem dX3_split_0 : decode cX3_split 0 = .ok (.aload_n 0, 1) := bdX3_split_0.1
theorem dX3_split_1 : decode cX3_split 1 = .ok (.iload_n 1, 1) := bdX3_split_0.2.1
theorem dX3_split_2 : decode cX3_split 2 = .ok (.invokevirtual 100, 3) := bdX3_split_0.2.2.1
theorem dX3_split_5 : decode cX3_split 5 = .ok (.astore_n 2, 1) := bdX3_split_0.2.2.2.1
theorem dX3_split_6 : decode cX3_split 6 = .ok (.aload_n 2, 1) := bdX3_split_0.2.2.2.2.1
theorem dX3_split_7 : decode cX3_split 7 = .ok (.ifnonnull 5, 3) := bdX3_split_0.2.2.2.2.2.1
theorem dX3_split_10 : decode cX3_split 10 = .ok (.iconst (-1), 1) := bdX3_split_0.2.2.2.2.2.2.1
theorem dX3_split_11 : decode cX3_split 11 = .ok (.ireturn, 1) := bdX3_split_0.2.2.2.2.2.2.2.1
theorem dX3_split_12 : decode cX3_split 12 = .ok (.aload_n 0, 1) := bdX3_split_0.2.2.2.2.2.2.2.2.1
theorem dX3_split_13 : decode cX3_split 13 = .ok (.getfield 37, 3) := bdX3_split_0.2.2.2.2.2.2.2.2.2.1
theorem dX3_split_16 : decode cX3_split 16 = .ok (.bipush 8, 2) := bdX3_split_0.2.2.2.2.2.2.2.2.2.2.1
theorem dX3_split_18 : decode cX3_split 18 = .ok (.if_icmp .lt 6, 3) := bdX3_split_0.2.2.2.2.2.2.2.2.2.2.2
set_option maxRecDepth 20000 in
theorem bdX3_split_21 : (decode cX3_split 21 = .ok (.bipush (-2), 2)) ∧ (decode cX3_split 23 = .ok (.ireturn, 1)) ∧ (decode cX3_split 24 = .ok (.aload_n 0, 1)) ∧ (decode cX3_split 25 = .ok (.getfield 20, 3)) ∧ (decode cX3_split 28 = .ok (.aload_n 2, 1)) ∧ (decode cX3_split 29 = .ok (.getfield 110, 3)) ∧ (decode cX3_split 32 = .ok (.aload_n 2, 1)) ∧ (decode cX3_split 33 = .ok (.getfield 113, 3)) ∧ (decode cX3_split 36 = .ok (.i2l, 1)) ∧ (decode cX3_split 37 = .ok (.invokevirtual 116, 3)) ∧ (decode cX3_split 40 = .ok (.istore_n 3, 1)) ∧ (decode cX3_split 41 = .ok (.iload_n 3, 1)) := by decide +kernel
theorem dX3_split_21 : decode cX3_split 21 = .ok (.bipush (-2), 2) := bdX3_split_21.1
theorem dX3_split_23 : decode cX3_split 23 = .ok (.ireturn, 1) := bdX3_split_21.2.1
theorem dX3_split_24 : decode cX3_split 24 = .ok (.aload_n 0, 1) := bdX3_split_21.2.2.1
theorem dX3_split_25 : decode cX3_split 25 = .ok (.getfield 20, 3) := bdX3_split_21.2.2.2.1
theorem dX3_split_28 : decode cX3_split 28 = .ok (.aload_n 2, 1) := bdX3_split_21.2.2.2.2.1
theorem dX3_split_29 : decode cX3_split 29 = .ok (.getfield 110, 3) := bdX3_split_21.2.2.2.2.2.1
theorem dX3_split_32 : decode cX3_split 32 = .ok (.aload_n 2, 1) := bdX3_split_21.2.2.2.2.2.2.1
theorem dX3_split_33 : decode cX3_split 33 = .ok (.getfield 113, 3) := bdX3_split_21.2.2.2.2.2.2.2.1
theorem dX3_split_36 : decode cX3_split 36 = .ok (.i2l, 1) := bdX3_split_21.2.2.2.2.2.2.2.2.1
theorem dX3_split_37 : decode cX3_split 37 = .ok (.invokevirtual 116, 3) := bdX3_split_21.2.2.2.2.2.2.2.2.2.1
theorem dX3_split_40 : decode cX3_split 40 = .ok (.istore_n 3, 1) := bdX3_split_21.2.2.2.2.2.2.2.2.2.2.1
theorem dX3_split_41 : decode cX3_split 41 = .ok (.iload_n 3, 1) := bdX3_split_21.2.2.2.2.2.2.2.2.2.2.2
set_option maxRecDepth 20000 in
theorem bdX3_split_42 : (decode cX3_split 42 = .ok (.bipush (-2), 2)) ∧ (decode cX3_split 44 = .ok (.if_icmp .ne 6, 3)) ∧ (decode cX3_split 47 = .ok (.bipush (-2), 2)) ∧ (decode cX3_split 49 = .ok (.ireturn, 1)) ∧ (decode cX3_split 50 = .ok (.aload_n 2, 1)) ∧ (decode cX3_split 51 = .ok (.dup, 1)) ∧ (decode cX3_split 52 = .ok (.getfield 113, 3)) ∧ (decode cX3_split 55 = .ok (.iconst 1, 1)) ∧ (decode cX3_split 56 = .ok (.iadd, 1)) ∧ (decode cX3_split 57 = .ok (.putfield 113, 3)) ∧ (decode cX3_split 60 = .ok (.aload_n 0, 1)) ∧ (decode cX3_split 61 = .ok (.aload_n 2, 1)) := by decide +kernel
theorem dX3_split_42 : decode cX3_split 42 = .ok (.bipush (-2), 2) := bdX3_split_42.1
theorem dX3_split_44 : decode cX3_split 44 = .ok (.if_icmp .ne 6, 3) := bdX3_split_42.2.1
theorem dX3_split_47 : decode cX3_split 47 = .ok (.bipush (-2), 2) := bdX3_split_42.2.2.1
theorem dX3_split_49 : decode cX3_split 49 = .ok (.ireturn, 1) := bdX3_split_42.2.2.2.1
theorem dX3_split_50 : decode cX3_split 50 = .ok (.aload_n 2, 1) := bdX3_split_42.2.2.2.2.1
theorem dX3_split_51 : decode cX3_split 51 = .ok (.dup, 1) := bdX3_split_42.2.2.2.2.2.1
theorem dX3_split_52 : decode cX3_split 52 = .ok (.getfield 113, 3) := bdX3_split_42.2.2.2.2.2.2.1
theorem dX3_split_55 : decode cX3_split 55 = .ok (.iconst 1, 1) := bdX3_split_42.2.2.2.2.2.2.2.1
theorem dX3_split_56 : decode cX3_split 56 = .ok (.iadd, 1) := bdX3_split_42.2.2.2.2.2.2.2.2.1
theorem dX3_split_57 : decode cX3_split 57 = .ok (.putfield 113, 3) := bdX3_split_42.2.2.2.2.2.2.2.2.2.1
theorem dX3_split_60 : decode cX3_split 60 = .ok (.aload_n 0, 1) := bdX3_split_42.2.2.2.2.2.2.2.2.2.2.1
theorem dX3_split_61 : decode cX3_split 61 = .ok (.aload_n 2, 1) := bdX3_split_42.2.2.2.2.2.2.2.2.2.2.2
set_option maxRecDepth 20000 in
theorem bdX3_split_62 : (decode cX3_split 62 = .ok (.getfield 107, 3)) ∧ (decode cX3_split 65 = .ok (.iload_n 3, 1)) ∧ (decode cX3_split 66 = .ok (.invokevirtual 96, 3)) ∧ (decode cX3_split 69 = .ok (.ireturn, 1)) := by decide +kernel
theorem dX3_split_62 : decode cX3_split 62 = .ok (.getfield 107, 3) := bdX3_split_62.1
theorem dX3_split_65 : decode cX3_split 65 = .ok (.iload_n 3, 1) := bdX3_split_62.2.1
theorem dX3_split_66 : decode cX3_split 66 = .ok (.invokevirtual 96, 3) := bdX3_split_62.2.2.1
theorem dX3_split_69 : decode cX3_split 69 = .ok (.ireturn, 1) := bdX3_split_62.2.2.2
set_option maxRecDepth 20000 in
theorem ggX3_skip_X3_streamAt : GoodIn wsX3_skip wsX3_streamAt := goodIn_r _ [8, 9, 10, 15, 16, 17, 18, 19, 20, 21, 22, 23, 24, 25] (by decide +kernel) (by decide +kernel)
set_option maxRecDepth 20000 in
theorem gX3_skip_X3_streamAt : GoodIn wsX3_skip (wsV RX3 100 RX3 yX3_streamAt wsX3_streamAt) := goodIn_app (goodIn_of _ (by decide +kernel)) ggX3_skip_X3_streamAt
set_option maxRecDepth 20000 in
theorem bdX3_skip_0 : (decode cX3_skip 0 = .ok (.aload_n 0, 1)) ∧ (decode cX3_skip 1 = .ok (.iload_n 1, 1)) ∧ (decode cX3_skip 2 = .ok (.invokevirtual 100, 3)) ∧ (decode cX3_skip 5 = .ok (.astore_n 3, 1)) ∧ (decode cX3_skip 6 = .ok (.aload_n 3, 1)) ∧ (decode cX3_skip 7 = .ok (.ifnull 24, 3)) ∧ (decode cX3_skip 10 = .ok (.iload_n 2, 1)) ∧ (decode cX3_skip 11 = .ok (.ifCond .lt 20, 3)) ∧ (decode cX3_skip 14 = .ok (.iload_n 2, 1)) ∧ (decode cX3_skip 15 = .ok (.ldc 120, 2)) ∧ (decode cX3_skip 17 = .ok (.if_icmp .gt 14, 3)) ∧ (decode cX3_skip 20 = .ok (.aload_n 3, 1)) := by decide +kernel
theorem dX3_skip_0 : decode cX3_skip 0 = .ok (.aload_n 0, 1) := bdX3_skip_0.1
theorem dX3_skip_1 : decode cX3_skip 1 = .ok (.iload_n 1, 1) := bdX3_skip_0.2.1
theorem dX3_skip_2 : decode cX3_skip 2 = .ok (.invokevirtual 100, 3) := bdX3_skip_0.2.2.1
theorem dX3_skip_5 : decode cX3_skip 5 = .ok (.astore_n 3, 1) := bdX3_skip_0.2.2.2.1
theorem dX3_skip_6 : decode cX3_skip 6 = .ok (.aload_n 3, 1) := bdX3_skip_0.2.2.2.2.1
theorem dX3_skip_7 : decode cX3_skip 7 = .ok (.ifnull 24, 3) := bdX3_skip_0.2.2.2.2.2.1
theorem dX3_skip_10 : decode cX3_skip 10 = .ok (.iload_n 2, 1) := bdX3_skip_0.2.2.2.2.2.2.1
theorem dX3_skip_11 : decode cX3_skip 11 = .ok (.ifCond .lt 20, 3) := bdX3_skip_0.2.2.2.2.2.2.2.1
theorem dX3_skip_14 : decode cX3_skip 14 = .ok (.iload_n 2, 1) := bdX3_skip_0.2.2.2.2.2.2.2.2.1
theorem dX3_skip_15 : decode cX3_skip 15 = .ok (.ldc 120, 2) := bdX3_skip_0.2.2.2.2.2.2.2.2.2.1
theorem dX3_skip_17 : decode cX3_skip 17 = .ok (.if_icmp .gt 14, 3) := bdX3_skip_0.2.2.2.2.2.2.2.2.2.2.1
theorem dX3_skip_20 : decode cX3_skip 20 = .ok (.aload_n 3, 1) := bdX3_skip_0.2.2.2.2.2.2.2.2.2.2.2
set_option maxRecDepth 20000 in
theorem bdX3_skip_21 : (decode cX3_skip 21 = .ok (.getfield 104, 3)) ∧ (decode cX3_skip 24 = .ok (.ldc 91, 2)) ∧ (decode cX3_skip 26 = .ok (.iload_n 2, 1)) ∧ (decode cX3_skip 27 = .ok (.isub, 1)) ∧ (decode cX3_skip 28 = .ok (.if_icmp .le 5, 3)) ∧ (decode cX3_skip 31 = .ok (.iconst (-1), 1)) ∧ (decode cX3_skip 32 = .ok (.ireturn, 1)) ∧ (decode cX3_skip 33 = .ok (.aload_n 3, 1)) ∧ (decode cX3_skip 34 = .ok (.dup, 1)) ∧ (decode cX3_skip 35 = .ok (.getfield 104, 3)) ∧ (decode cX3_skip 38 = .ok (.iload_n 2, 1)) ∧ (decode cX3_skip 39 = .ok (.iadd, 1)) := by decide +kernel
theorem dX3_skip_21 : decode cX3_skip 21 = .ok (.getfield 104, 3) := bdX3_skip_21.1
theorem dX3_skip_24 : decode cX3_skip 24 = .ok (.ldc 91, 2) := bdX3_skip_21.2.1
theorem dX3_skip_26 : decode cX3_skip 26 = .ok (.iload_n 2, 1) := bdX3_skip_21.2.2.1
theorem dX3_skip_27 : decode cX3_skip 27 = .ok (.isub, 1) := bdX3_skip_21.2.2.2.1
theorem dX3_skip_28 : decode cX3_skip 28 = .ok (.if_icmp .le 5, 3) := bdX3_skip_21.2.2.2.2.1
theorem dX3_skip_31 : decode cX3_skip 31 = .ok (.iconst (-1), 1) := bdX3_skip_21.2.2.2.2.2.1
theorem dX3_skip_32 : decode cX3_skip 32 = .ok (.ireturn, 1) := bdX3_skip_21.2.2.2.2.2.2.1
theorem dX3_skip_33 : decode cX3_skip 33 = .ok (.aload_n 3, 1) := bdX3_skip_21.2.2.2.2.2.2.2.1
theorem dX3_skip_34 : decode cX3_skip 34 = .ok (.dup, 1) := bdX3_skip_21.2.2.2.2.2.2.2.2.1
theorem dX3_skip_35 : decode cX3_skip 35 = .ok (.getfield 104, 3) := bdX3_skip_21.2.2.2.2.2.2.2.2.2.1
theorem dX3_skip_38 : decode cX3_skip 38 = .ok (.iload_n 2, 1) := bdX3_skip_21.2.2.2.2.2.2.2.2.2.2.1
theorem dX3_skip_39 : decode cX3_skip 39 = .ok (.iadd, 1) := bdX3_skip_21.2.2.2.2.2.2.2.2.2.2.2
set_option maxRecDepth 20000 in
theorem bdX3_skip_40 : (decode cX3_skip 40 = .ok (.putfield 104, 3)) ∧ (decode cX3_skip 43 = .ok (.aload_n 3, 1)) ∧ (decode cX3_skip 44 = .ok (.getfield 104, 3)) ∧ (decode cX3_skip 47 = .ok (.ireturn, 1)) := by decide +kernel
theorem dX3_skip_40 : decode cX3_skip 40 = .ok (.putfield 104, 3) := bdX3_skip_40.1
theorem dX3_skip_43 : decode cX3_skip 43 = .ok (.aload_n 3, 1) := bdX3_skip_40.2.1
theorem dX3_skip_44 : decode cX3_skip 44 = .ok (.getfield 104, 3) := bdX3_skip_40.2.2.1
theorem dX3_skip_47 : decode cX3_skip 47 = .ok (.ireturn, 1) := bdX3_skip_40.2.2.2
set_option maxRecDepth 20000 in
theorem ggX3_keep_X3_streamAt : GoodIn wsX3_keep wsX3_streamAt := goodIn_r _ [14, 15, 16, 25, 26, 27, 28, 29, 30, 31, 32, 33, 34, 35] (by decide +kernel) (by decide +kernel)
set_option maxRecDepth 20000 in
theorem gX3_keep_X3_streamAt : GoodIn wsX3_keep (wsV RX3 100 RX3 yX3_streamAt wsX3_streamAt) := goodIn_app (goodIn_of _ (by decide +kernel)) ggX3_keep_X3_streamAt
set_option maxRecDepth 20000 in
theorem ggX3_keep_X0_init : GoodIn wsX3_keep wsX0_init := goodIn_r _ [18, 19, 20, 21, 22, 23, 24, 36, 37, 38] (by decide +kernel) (by decide +kernel)
set_option maxRecDepth 20000 in
theorem gX3_keep_X0_init_n121 : GoodIn wsX3_keep (wsX0_init) := ggX3_keep_X0_init
set_option maxRecDepth 20000 in
theorem bdX3_keep_0 : (decode cX3_keep 0 = .ok (.aload_n 0, 1)) ∧ (decode cX3_keep 1 = .ok (.iload_n 2, 1)) ∧ (decode cX3_keep 2 = .ok (.invokevirtual 100, 3)) ∧ (decode cX3_keep 5 = .ok (.astore_n 3, 1)) ∧ (decode cX3_keep 6 = .ok (.iload_n 1, 1)) ∧ (decode cX3_keep 7 = .ok (.ifCond .lt 12, 3)) ∧ (decode cX3_keep 10 = .ok (.iload_n 1, 1)) ∧ (decode cX3_keep 11 = .ok (.iconst 4, 1)) ∧ (decode cX3_keep 12 = .ok (.if_icmp .ge 7, 3)) ∧ (decode cX3_keep 15 = .ok (.aload_n 3, 1)) ∧ (decode cX3_keep 16 = .ok (.ifnonnull 5, 3)) ∧ (decode cX3_keep 19 = .ok (.iconst (-1), 1)) := by decide +kernel
theorem dX3_keep_0 : decode cX3_keep 0 = .ok (.aload_n 0, 1) := bdX3_keep_0.1
theorem dX3_keep_1 : decode cX3_keep 1 = .ok (.iload_n 2, 1) := bdX3_keep_0.2.1
theorem dX3_keep_2 : decode cX3_keep 2 = .ok (.invokevirtual 100, 3) := bdX3_keep_0.2.2.1
theorem dX3_keep_5 : decode cX3_keep 5 = .ok (.astore_n 3, 1) := bdX3_keep_0.2.2.2.1
theorem dX3_keep_6 : decode cX3_keep 6 = .ok (.iload_n 1, 1) := bdX3_keep_0.2.2.2.2.1
theorem dX3_keep_7 : decode cX3_keep 7 = .ok (.ifCond .lt 12, 3) := bdX3_keep_0.2.2.2.2.2.1
theorem dX3_keep_10 : decode cX3_keep 10 = .ok (.iload_n 1, 1) := bdX3_keep_0.2.2.2.2.2.2.1
theorem dX3_keep_11 : decode cX3_keep 11 = .ok (.iconst 4, 1) := bdX3_keep_0.2.2.2.2.2.2.2.1
theorem dX3_keep_12 : decode cX3_keep 12 = .ok (.if_icmp .ge 7, 3) := bdX3_keep_0.2.2.2.2.2.2.2.2.1
theorem dX3_keep_15 : decode cX3_keep 15 = .ok (.aload_n 3, 1) := bdX3_keep_0.2.2.2.2.2.2.2.2.2.1
theorem dX3_keep_16 : decode cX3_keep 16 = .ok (.ifnonnull 5, 3) := bdX3_keep_0.2.2.2.2.2.2.2.2.2.2.1
theorem dX3_keep_19 : decode cX3_keep 19 = .ok (.iconst (-1), 1) := bdX3_keep_0.2.2.2.2.2.2.2.2.2.2.2
set_option maxRecDepth 20000 in
theorem bdX3_keep_20 : (decode cX3_keep 20 = .ok (.ireturn, 1)) ∧ (decode cX3_keep 21 = .ok (.aload_n 0, 1)) ∧ (decode cX3_keep 22 = .ok (.getfield 42, 3)) ∧ (decode cX3_keep 25 = .ok (.iload_n 1, 1)) ∧ (decode cX3_keep 26 = .ok (.aaload, 1)) ∧ (decode cX3_keep 27 = .ok (.astore 4, 2)) ∧ (decode cX3_keep 29 = .ok (.aload 4, 2)) ∧ (decode cX3_keep 31 = .ok (.ifnonnull 20, 3)) ∧ (decode cX3_keep 34 = .ok (.new 40, 3)) ∧ (decode cX3_keep 37 = .ok (.dup, 1)) ∧ (decode cX3_keep 38 = .ok (.invokespecial 121, 3)) ∧ (decode cX3_keep 41 = .ok (.astore 4, 2)) := by decide +kernel
theorem dX3_keep_20 : decode cX3_keep 20 = .ok (.ireturn, 1) := bdX3_keep_20.1
theorem dX3_keep_21 : decode cX3_keep 21 = .ok (.aload_n 0, 1) := bdX3_keep_20.2.1
theorem dX3_keep_22 : decode cX3_keep 22 = .ok (.getfield 42, 3) := bdX3_keep_20.2.2.1
theorem dX3_keep_25 : decode cX3_keep 25 = .ok (.iload_n 1, 1) := bdX3_keep_20.2.2.2.1
theorem dX3_keep_26 : decode cX3_keep 26 = .ok (.aaload, 1) := bdX3_keep_20.2.2.2.2.1
theorem dX3_keep_27 : decode cX3_keep 27 = .ok (.astore 4, 2) := bdX3_keep_20.2.2.2.2.2.1
theorem dX3_keep_29 : decode cX3_keep 29 = .ok (.aload 4, 2) := bdX3_keep_20.2.2.2.2.2.2.1
theorem dX3_keep_31 : decode cX3_keep 31 = .ok (.ifnonnull 20, 3) := bdX3_keep_20.2.2.2.2.2.2.2.1
theorem dX3_keep_34 : decode cX3_keep 34 = .ok (.new 40, 3) := bdX3_keep_20.2.2.2.2.2.2.2.2.1
theorem dX3_keep_37 : decode cX3_keep 37 = .ok (.dup, 1) := bdX3_keep_20.2.2.2.2.2.2.2.2.2.1
theorem dX3_keep_38 : decode cX3_keep 38 = .ok (.invokespecial 121, 3) := bdX3_keep_20.2.2.2.2.2.2.2.2.2.2.1
theorem dX3_keep_41 : decode cX3_keep 41 = .ok (.astore 4, 2) := bdX3_keep_20.2.2.2.2.2.2.2.2.2.2.2
set_option maxRecDepth 20000 in
theorem bdX3_keep_43 : (decode cX3_keep 43 = .ok (.aload_n 0, 1)) ∧ (decode cX3_keep 44 = .ok (.getfield 42, 3)) ∧ (decode cX3_keep 47 = .ok (.iload_n 1, 1)) ∧ (decode cX3_keep 48 = .ok (.aload 4, 2)) ∧ (decode cX3_keep 50 = .ok (.aastore, 1)) ∧ (decode cX3_keep 51 = .ok (.aload 4, 2)) ∧ (decode cX3_keep 53 = .ok (.iload_n 2, 1)) ∧ (decode cX3_keep 54 = .ok (.putfield 122, 3)) ∧ (decode cX3_keep 57 = .ok (.aload 4, 2)) ∧ (decode cX3_keep 59 = .ok (.aload_n 3, 1)) ∧ (decode cX3_keep 60 = .ok (.getfield 104, 3)) ∧ (decode cX3_keep 63 = .ok (.putfield 125, 3)) := by decide +kernel
theorem dX3_keep_43 : decode cX3_keep 43 = .ok (.aload_n 0, 1) := bdX3_keep_43.1
theorem dX3_keep_44 : decode cX3_keep 44 = .ok (.getfield 42, 3) := bdX3_keep_43.2.1
theorem dX3_keep_47 : decode cX3_keep 47 = .ok (.iload_n 1, 1) := bdX3_keep_43.2.2.1
theorem dX3_keep_48 : decode cX3_keep 48 = .ok (.aload 4, 2) := bdX3_keep_43.2.2.2.1
theorem dX3_keep_50 : decode cX3_keep 50 = .ok (.aastore, 1) := bdX3_keep_43.2.2.2.2.1
theorem dX3_keep_51 : decode cX3_keep 51 = .ok (.aload 4, 2) := bdX3_keep_43.2.2.2.2.2.1
theorem dX3_keep_53 : decode cX3_keep 53 = .ok (.iload_n 2, 1) := bdX3_keep_43.2.2.2.2.2.2.1
theorem dX3_keep_54 : decode cX3_keep 54 = .ok (.putfield 122, 3) := bdX3_keep_43.2.2.2.2.2.2.2.1
theorem dX3_keep_57 : decode cX3_keep 57 = .ok (.aload 4, 2) := bdX3_keep_43.2.2.2.2.2.2.2.2.1
theorem dX3_keep_59 : decode cX3_keep 59 = .ok (.aload_n 3, 1) := bdX3_keep_43.2.2.2.2.2.2.2.2.2.1
theorem dX3_keep_60 : decode cX3_keep 60 = .ok (.getfield 104, 3) := bdX3_keep_43.2.2.2.2.2.2.2.2.2.2.1
theorem dX3_keep_63 : decode cX3_keep 63 = .ok (.putfield 125, 3) := bdX3_keep_43.2.2.2.2.2.2.2.2.2.2.2
set_option maxRecDepth 20000 in
theorem bdX3_keep_66 : (decode cX3_keep 66 = .ok (.aload 4, 2)) ∧ (decode cX3_keep 68 = .ok (.aload_n 3, 1)) ∧ (decode cX3_keep 69 = .ok (.getfield 113, 3)) ∧ (decode cX3_keep 72 = .ok (.putfield 126, 3)) ∧ (decode cX3_keep 75 = .ok (.aload_n 3, 1)) ∧ (decode cX3_keep 76 = .ok (.getfield 104, 3)) ∧ (decode cX3_keep 79 = .ok (.ireturn, 1)) := by decide +kernel
theorem dX3_keep_66 : decode cX3_keep 66 = .ok (.aload 4, 2) := bdX3_keep_66.1
theorem dX3_keep_68 : decode cX3_keep 68 = .ok (.aload_n 3, 1) := bdX3_keep_66.2.1
theorem dX3_keep_69 : decode cX3_keep 69 = .ok (.getfield 113, 3) := bdX3_keep_66.2.2.1
theorem dX3_keep_72 : decode cX3_keep 72 = .ok (.putfield 126, 3) := bdX3_keep_66.2.2.2.1
theorem dX3_keep_75 : decode cX3_keep 75 = .ok (.aload_n 3, 1) := bdX3_keep_66.2.2.2.2.1
theorem dX3_keep_76 : decode cX3_keep 76 = .ok (.getfield 104, 3) := bdX3_keep_66.2.2.2.2.2.1
theorem dX3_keep_79 : decode cX3_keep 79 = .ok (.ireturn, 1) := bdX3_keep_66.2.2.2.2.2.2
set_option maxRecDepth 20000 in
theorem ggX3_back_X3_streamAt : GoodIn wsX3_back wsX3_streamAt := goodIn_r _ [11, 12, 13, 14, 15, 16, 17, 18, 19, 20, 21, 22, 23, 24] (by decide +kernel) (by decide +kernel)
set_option maxRecDepth 20000 in
theorem gX3_back_X3_streamAt : GoodIn wsX3_back (wsV RX3 100 RX3 yX3_streamAt wsX3_streamAt) := goodIn_app (goodIn_of _ (by decide +kernel)) ggX3_back_X3_streamAt
set_option maxRecDepth 20000 in
theorem bdX3_back_0 : (decode cX3_back 0 = .ok (.iload_n 1, 1)) ∧ (decode cX3_back 1 = .ok (.ifCond .lt 8, 3)) ∧ (decode cX3_back 4 = .ok (.iload_n 1, 1)) ∧ (decode cX3_back 5 = .ok (.iconst 4, 1)) ∧ (decode cX3_back 6 = .ok (.if_icmp .lt 5, 3)) ∧ (decode cX3_back 9 = .ok (.iconst (-1), 1)) ∧ (decode cX3_back 10 = .ok (.ireturn, 1)) ∧ (decode cX3_back 11 = .ok (.aload_n 0, 1)) ∧ (decode cX3_back 12 = .ok (.getfield 42, 3)) ∧ (decode cX3_back 15 = .ok (.iload_n 1, 1)) ∧ (decode cX3_back 16 = .ok (.aaload, 1)) ∧ (decode cX3_back 17 = .ok (.astore_n 2, 1)) := by decide +kernel
theorem dX3_back_0 : decode cX3_back 0 = .ok (.iload_n 1, 1) := bdX3_back_0.1
theorem dX3_back_1 : decode cX3_back 1 = .ok (.ifCond .lt 8, 3) := bdX3_back_0.2.1
theorem dX3_back_4 : decode cX3_back 4 = .ok (.iload_n 1, 1) := bdX3_back_0.2.2.1
theorem dX3_back_5 : decode cX3_back 5 = .ok (.iconst 4, 1) := bdX3_back_0.2.2.2.1
theorem dX3_back_6 : decode cX3_back 6 = .ok (.if_icmp .lt 5, 3) := bdX3_back_0.2.2.2.2.1
theorem dX3_back_9 : decode cX3_back 9 = .ok (.iconst (-1), 1) := bdX3_back_0.2.2.2.2.2.1
theorem dX3_back_10 : decode cX3_back 10 = .ok (.ireturn, 1) := bdX3_back_0.2.2.2.2.2.2.1
theorem dX3_back_11 : decode cX3_back 11 = .ok (.aload_n 0, 1) := bdX3_back_0.2.2.2.2.2.2.2.1
theorem dX3_back_12 : decode cX3_back 12 = .ok (.getfield 42, 3) := bdX3_back_0.2.2.2.2.2.2.2.2.1
theorem dX3_back_15 : decode cX3_back 15 = .ok (.iload_n 1, 1) := bdX3_back_0.2.2.2.2.2.2.2.2.2.1
theorem dX3_back_16 : decode cX3_back 16 = .ok (.aaload, 1) := bdX3_back_0.2.2.2.2.2.2.2.2.2.2.1
theorem dX3_back_17 : decode cX3_back 17 = .ok (.astore_n 2, 1) := bdX3_back_0.2.2.2.2.2.2.2.2.2.2.2
set_option maxRecDepth 20000 in
theorem bdX3_back_18 : (decode cX3_back 18 = .ok (.aload_n 2, 1)) ∧ (decode cX3_back 19 = .ok (.ifnonnull 6, 3)) ∧ (decode cX3_back 22 = .ok (.bipush (-3), 2)) ∧ (decode cX3_back 24 = .ok (.ireturn, 1)) ∧ (decode cX3_back 25 = .ok (.aload_n 0, 1)) ∧ (decode cX3_back 26 = .ok (.aload_n 2, 1)) ∧ (decode cX3_back 27 = .ok (.getfield 122, 3)) ∧ (decode cX3_back 30 = .ok (.invokevirtual 100, 3)) ∧ (decode cX3_back 33 = .ok (.astore_n 3, 1)) ∧ (decode cX3_back 34 = .ok (.aload_n 3, 1)) ∧ (decode cX3_back 35 = .ok (.ifnonnull 6, 3)) ∧ (decode cX3_back 38 = .ok (.bipush (-3), 2)) := by decide +kernel
theorem dX3_back_18 : decode cX3_back 18 = .ok (.aload_n 2, 1) := bdX3_back_18.1
theorem dX3_back_19 : decode cX3_back 19 = .ok (.ifnonnull 6, 3) := bdX3_back_18.2.1
theorem dX3_back_22 : decode cX3_back 22 = .ok (.bipush (-3), 2) := bdX3_back_18.2.2.1
theorem dX3_back_24 : decode cX3_back 24 = .ok (.ireturn, 1) := bdX3_back_18.2.2.2.1
theorem dX3_back_25 : decode cX3_back 25 = .ok (.aload_n 0, 1) := bdX3_back_18.2.2.2.2.1
theorem dX3_back_26 : decode cX3_back 26 = .ok (.aload_n 2, 1) := bdX3_back_18.2.2.2.2.2.1
theorem dX3_back_27 : decode cX3_back 27 = .ok (.getfield 122, 3) := bdX3_back_18.2.2.2.2.2.2.1
theorem dX3_back_30 : decode cX3_back 30 = .ok (.invokevirtual 100, 3) := bdX3_back_18.2.2.2.2.2.2.2.1
theorem dX3_back_33 : decode cX3_back 33 = .ok (.astore_n 3, 1) := bdX3_back_18.2.2.2.2.2.2.2.2.1
theorem dX3_back_34 : decode cX3_back 34 = .ok (.aload_n 3, 1) := bdX3_back_18.2.2.2.2.2.2.2.2.2.1
theorem dX3_back_35 : decode cX3_back 35 = .ok (.ifnonnull 6, 3) := bdX3_back_18.2.2.2.2.2.2.2.2.2.2.1
theorem dX3_back_38 : decode cX3_back 38 = .ok (.bipush (-3), 2) := bdX3_back_18.2.2.2.2.2.2.2.2.2.2.2
set_option maxRecDepth 20000 in
theorem bdX3_back_40 : (decode cX3_back 40 = .ok (.ireturn, 1)) ∧ (decode cX3_back 41 = .ok (.aload_n 3, 1)) ∧ (decode cX3_back 42 = .ok (.aload_n 2, 1)) ∧ (decode cX3_back 43 = .ok (.getfield 125, 3)) ∧ (decode cX3_back 46 = .ok (.putfield 104, 3)) ∧ (decode cX3_back 49 = .ok (.aload_n 3, 1)) ∧ (decode cX3_back 50 = .ok (.aload_n 2, 1)) ∧ (decode cX3_back 51 = .ok (.getfield 126, 3)) ∧ (decode cX3_back 54 = .ok (.putfield 113, 3)) ∧ (decode cX3_back 57 = .ok (.aload_n 2, 1)) ∧ (decode cX3_back 58 = .ok (.getfield 122, 3)) ∧ (decode cX3_back 61 = .ok (.ireturn, 1)) := by decide +kernel
theorem dX3_back_40 : decode cX3_back 40 = .ok (.ireturn, 1) := bdX3_back_40.1
theorem dX3_back_41 : decode cX3_back 41 = .ok (.aload_n 3, 1) := bdX3_back_40.2.1
theorem dX3_back_42 : decode cX3_back 42 = .ok (.aload_n 2, 1) := bdX3_back_40.2.2.1
theorem dX3_back_43 : decode cX3_back 43 = .ok (.getfield 125, 3) := bdX3_back_40.2.2.2.1
theorem dX3_back_46 : decode cX3_back 46 = .ok (.putfield 104, 3) := bdX3_back_40.2.2.2.2.1
theorem dX3_back_49 : decode cX3_back 49 = .ok (.aload_n 3, 1) := bdX3_back_40.2.2.2.2.2.1
theorem dX3_back_50 : decode cX3_back 50 = .ok (.aload_n 2, 1) := bdX3_back_40.2.2.2.2.2.2.1
theorem dX3_back_51 : decode cX3_back 51 = .ok (.getfield 126, 3) := bdX3_back_40.2.2.2.2.2.2.2.1
theorem dX3_back_54 : decode cX3_back 54 = .ok (.putfield 113, 3) := bdX3_back_40.2.2.2.2.2.2.2.2.1
theorem dX3_back_57 : decode cX3_back 57 = .ok (.aload_n 2, 1) := bdX3_back_40.2.2.2.2.2.2.2.2.2.1
theorem dX3_back_58 : decode cX3_back 58 = .ok (.getfield 122, 3) := bdX3_back_40.2.2.2.2.2.2.2.2.2.2.1
theorem dX3_back_61 : decode cX3_back 61 = .ok (.ireturn, 1) := bdX3_back_40.2.2.2.2.2.2.2.2.2.2.2
set_option maxRecDepth 20000 in
theorem ggX3_told_X3_streamAt : GoodIn wsX3_told wsX3_streamAt := goodIn_r _ [8, 9, 10, 15, 16, 17, 18, 19, 20, 21, 22, 23, 24, 25] (by decide +kernel) (by decide +kernel)
set_option maxRecDepth 20000 in
theorem gX3_told_X3_streamAt : GoodIn wsX3_told (wsV RX3 100 RX3 yX3_streamAt wsX3_streamAt) := goodIn_app (goodIn_of _ (by decide +kernel)) ggX3_told_X3_streamAt
set_option maxRecDepth 20000 in
theorem bdX3_told_0 : (decode cX3_told 0 = .ok (.aload_n 0, 1)) ∧ (decode cX3_told 1 = .ok (.iload_n 1, 1)) ∧ (decode cX3_told 2 = .ok (.invokevirtual 100, 3)) ∧ (decode cX3_told 5 = .ok (.astore_n 3, 1)) ∧ (decode cX3_told 6 = .ok (.aload_n 3, 1)) ∧ (decode cX3_told 7 = .ok (.ifnonnull 5, 3)) ∧ (decode cX3_told 10 = .ok (.iconst (-1), 1)) ∧ (decode cX3_told 11 = .ok (.ireturn, 1)) ∧ (decode cX3_told 12 = .ok (.iload_n 2, 1)) ∧ (decode cX3_told 13 = .ok (.tableswitch 42 0 2 #[27, 32, 37], 27)) ∧ (decode cX3_told 40 = .ok (.aload_n 3, 1)) ∧ (decode cX3_told 41 = .ok (.getfield 110, 3)) := by decide +kernel
theorem dX3_told_0 : decode cX3_told 0 = .ok (.aload_n 0, 1) := bdX3_told_0.1
theorem dX3_told_1 : decode cX3_told 1 = .ok (.iload_n 1, 1) := bdX3_told_0.2.1
theorem dX3_told_2 : decode cX3_told 2 = .ok (.invokevirtual 100, 3) := bdX3_told_0.2.2.1
theorem dX3_told_5 : decode cX3_told 5 = .ok (.astore_n 3, 1) := bdX3_told_0.2.2.2.1
theorem dX3_told_6 : decode cX3_told 6 = .ok (.aload_n 3, 1) := bdX3_told_0.2.2.2.2.1
theorem dX3_told_7 : decode cX3_told 7 = .ok (.ifnonnull 5, 3) := bdX3_told_0.2.2.2.2.2.1
theorem dX3_told_10 : decode cX3_told 10 = .ok (.iconst (-1), 1) := bdX3_told_0.2.2.2.2.2.2.1
theorem dX3_told_11 : decode cX3_told 11 = .ok (.ireturn, 1) := bdX3_told_0.2.2.2.2.2.2.2.1
theorem dX3_told_12 : decode cX3_told 12 = .ok (.iload_n 2, 1) := bdX3_told_0.2.2.2.2.2.2.2.2.1
theorem dX3_told_13 : decode cX3_told 13 = .ok (.tableswitch 42 0 2 #[27, 32, 37], 27) := bdX3_told_0.2.2.2.2.2.2.2.2.2.1
theorem dX3_told_40 : decode cX3_told 40 = .ok (.aload_n 3, 1) := bdX3_told_0.2.2.2.2.2.2.2.2.2.2.1
theorem dX3_told_41 : decode cX3_told 41 = .ok (.getfield 110, 3) := bdX3_told_0.2.2.2.2.2.2.2.2.2.2.2
set_option maxRecDepth 20000 in
theorem bdX3_told_44 : (decode cX3_told 44 = .ok (.ireturn, 1)) ∧ (decode cX3_told 45 = .ok (.aload_n 3, 1)) ∧ (decode cX3_told 46 = .ok (.getfield 104, 3)) ∧ (decode cX3_told 49 = .ok (.ireturn, 1)) ∧ (decode cX3_told 50 = .ok (.aload_n 3, 1)) ∧ (decode cX3_told 51 = .ok (.getfield 113, 3)) ∧ (decode cX3_told 54 = .ok (.ireturn, 1)) ∧ (decode cX3_told 55 = .ok (.iconst (-1), 1)) ∧ (decode cX3_told 56 = .ok (.ireturn, 1)) := by decide +kernel
theorem dX3_told_44 : decode cX3_told 44 = .ok (.ireturn, 1) := bdX3_told_44.1
theorem dX3_told_45 : decode cX3_told 45 = .ok (.aload_n 3, 1) := bdX3_told_44.2.1
theorem dX3_told_46 : decode cX3_told 46 = .ok (.getfield 104, 3) := bdX3_told_44.2.2.1
theorem dX3_told_49 : decode cX3_told 49 = .ok (.ireturn, 1) := bdX3_told_44.2.2.2.1
theorem dX3_told_50 : decode cX3_told 50 = .ok (.aload_n 3, 1) := bdX3_told_44.2.2.2.2.1
theorem dX3_told_51 : decode cX3_told 51 = .ok (.getfield 113, 3) := bdX3_told_44.2.2.2.2.2.1
theorem dX3_told_54 : decode cX3_told 54 = .ok (.ireturn, 1) := bdX3_told_44.2.2.2.2.2.2.1
theorem dX3_told_55 : decode cX3_told 55 = .ok (.iconst (-1), 1) := bdX3_told_44.2.2.2.2.2.2.2.1
theorem dX3_told_56 : decode cX3_told 56 = .ok (.ireturn, 1) := bdX3_told_44.2.2.2.2.2.2.2.2
set_option maxRecDepth 20000 in
theorem bdX3_counted_0 : (decode cX3_counted 0 = .ok (.iload_n 1, 1)) ∧ (decode cX3_counted 1 = .ok (.iconst 1, 1)) ∧ (decode cX3_counted 2 = .ok (.if_icmp .lt 29, 3)) ∧ (decode cX3_counted 5 = .ok (.iload_n 1, 1)) ∧ (decode cX3_counted 6 = .ok (.bipush 16, 2)) ∧ (decode cX3_counted 8 = .ok (.if_icmp .gt 23, 3)) ∧ (decode cX3_counted 11 = .ok (.iload_n 2, 1)) ∧ (decode cX3_counted 12 = .ok (.iconst 1, 1)) ∧ (decode cX3_counted 13 = .ok (.if_icmp .lt 18, 3)) ∧ (decode cX3_counted 16 = .ok (.iload_n 2, 1)) ∧ (decode cX3_counted 17 = .ok (.ldc 127, 2)) ∧ (decode cX3_counted 19 = .ok (.if_icmp .gt 12, 3)) := by decide +kernel
theorem dX3_counted_0 : decode cX3_counted 0 = .ok (.iload_n 1, 1) := bdX3_counted_0.1
theorem dX3_counted_1 : decode cX3_counted 1 = .ok (.iconst 1, 1) := bdX3_counted_0.2.1
theorem dX3_counted_2 : decode cX3_counted 2 = .ok (.if_icmp .lt 29, 3) := bdX3_counted_0.2.2.1
theorem dX3_counted_5 : decode cX3_counted 5 = .ok (.iload_n 1, 1) := bdX3_counted_0.2.2.2.1
theorem dX3_counted_6 : decode cX3_counted 6 = .ok (.bipush 16, 2) := bdX3_counted_0.2.2.2.2.1
theorem dX3_counted_8 : decode cX3_counted 8 = .ok (.if_icmp .gt 23, 3) := bdX3_counted_0.2.2.2.2.2.1
theorem dX3_counted_11 : decode cX3_counted 11 = .ok (.iload_n 2, 1) := bdX3_counted_0.2.2.2.2.2.2.1
theorem dX3_counted_12 : decode cX3_counted 12 = .ok (.iconst 1, 1) := bdX3_counted_0.2.2.2.2.2.2.2.1
theorem dX3_counted_13 : decode cX3_counted 13 = .ok (.if_icmp .lt 18, 3) := bdX3_counted_0.2.2.2.2.2.2.2.2.1
theorem dX3_counted_16 : decode cX3_counted 16 = .ok (.iload_n 2, 1) := bdX3_counted_0.2.2.2.2.2.2.2.2.2.1
theorem dX3_counted_17 : decode cX3_counted 17 = .ok (.ldc 127, 2) := bdX3_counted_0.2.2.2.2.2.2.2.2.2.2.1
theorem dX3_counted_19 : decode cX3_counted 19 = .ok (.if_icmp .gt 12, 3) := bdX3_counted_0.2.2.2.2.2.2.2.2.2.2.2
set_option maxRecDepth 20000 in
theorem bdX3_counted_22 : (decode cX3_counted 22 = .ok (.iload_n 3, 1)) ∧ (decode cX3_counted 23 = .ok (.ifCond .lt 8, 3)) ∧ (decode cX3_counted 26 = .ok (.iload_n 3, 1)) ∧ (decode cX3_counted 27 = .ok (.iload_n 2, 1)) ∧ (decode cX3_counted 28 = .ok (.if_icmp .lt 5, 3)) ∧ (decode cX3_counted 31 = .ok (.iconst (-1), 1)) ∧ (decode cX3_counted 32 = .ok (.ireturn, 1)) ∧ (decode cX3_counted 33 = .ok (.iconst 1, 1)) ∧ (decode cX3_counted 34 = .ok (.iload_n 1, 1)) ∧ (decode cX3_counted 35 = .ok (.ishl, 1)) ∧ (decode cX3_counted 36 = .ok (.iload_n 2, 1)) ∧ (decode cX3_counted 37 = .ok (.idiv, 1)) := by decide +kernel
theorem dX3_counted_22 : decode cX3_counted 22 = .ok (.iload_n 3, 1) := bdX3_counted_22.1
theorem dX3_counted_23 : decode cX3_counted 23 = .ok (.ifCond .lt 8, 3) := bdX3_counted_22.2.1
theorem dX3_counted_26 : decode cX3_counted 26 = .ok (.iload_n 3, 1) := bdX3_counted_22.2.2.1
theorem dX3_counted_27 : decode cX3_counted 27 = .ok (.iload_n 2, 1) := bdX3_counted_22.2.2.2.1
theorem dX3_counted_28 : decode cX3_counted 28 = .ok (.if_icmp .lt 5, 3) := bdX3_counted_22.2.2.2.2.1
theorem dX3_counted_31 : decode cX3_counted 31 = .ok (.iconst (-1), 1) := bdX3_counted_22.2.2.2.2.2.1
theorem dX3_counted_32 : decode cX3_counted 32 = .ok (.ireturn, 1) := bdX3_counted_22.2.2.2.2.2.2.1
theorem dX3_counted_33 : decode cX3_counted 33 = .ok (.iconst 1, 1) := bdX3_counted_22.2.2.2.2.2.2.2.1
theorem dX3_counted_34 : decode cX3_counted 34 = .ok (.iload_n 1, 1) := bdX3_counted_22.2.2.2.2.2.2.2.2.1
theorem dX3_counted_35 : decode cX3_counted 35 = .ok (.ishl, 1) := bdX3_counted_22.2.2.2.2.2.2.2.2.2.1
theorem dX3_counted_36 : decode cX3_counted 36 = .ok (.iload_n 2, 1) := bdX3_counted_22.2.2.2.2.2.2.2.2.2.2.1
theorem dX3_counted_37 : decode cX3_counted 37 = .ok (.idiv, 1) := bdX3_counted_22.2.2.2.2.2.2.2.2.2.2.2
theorem dX3_counted_38 : decode cX3_counted 38 = .ok (.ireturn, 1) := by decide +kernel
set_option maxRecDepth 20000 in
theorem bdX3_count_0 : (decode cX3_count 0 = .ok (.iload_n 1, 1)) ∧ (decode cX3_count 1 = .ok (.tableswitch 45 0 2 #[27, 35, 40], 27)) ∧ (decode cX3_count 28 = .ok (.aload_n 0, 1)) ∧ (decode cX3_count 29 = .ok (.getfield 20, 3)) ∧ (decode cX3_count 32 = .ok (.getfield 128, 3)) ∧ (decode cX3_count 35 = .ok (.ireturn, 1)) ∧ (decode cX3_count 36 = .ok (.aload_n 0, 1)) ∧ (decode cX3_count 37 = .ok (.getfield 37, 3)) ∧ (decode cX3_count 40 = .ok (.ireturn, 1)) ∧ (decode cX3_count 41 = .ok (.aload_n 0, 1)) ∧ (decode cX3_count 42 = .ok (.getfield 13, 3)) ∧ (decode cX3_count 45 = .ok (.ireturn, 1)) := by decide +kernel
theorem dX3_count_0 : decode cX3_count 0 = .ok (.iload_n 1, 1) := bdX3_count_0.1
theorem dX3_count_1 : decode cX3_count 1 = .ok (.tableswitch 45 0 2 #[27, 35, 40], 27) := bdX3_count_0.2.1
theorem dX3_count_28 : decode cX3_count 28 = .ok (.aload_n 0, 1) := bdX3_count_0.2.2.1
theorem dX3_count_29 : decode cX3_count 29 = .ok (.getfield 20, 3) := bdX3_count_0.2.2.2.1
theorem dX3_count_32 : decode cX3_count 32 = .ok (.getfield 128, 3) := bdX3_count_0.2.2.2.2.1
theorem dX3_count_35 : decode cX3_count 35 = .ok (.ireturn, 1) := bdX3_count_0.2.2.2.2.2.1
theorem dX3_count_36 : decode cX3_count 36 = .ok (.aload_n 0, 1) := bdX3_count_0.2.2.2.2.2.2.1
theorem dX3_count_37 : decode cX3_count 37 = .ok (.getfield 37, 3) := bdX3_count_0.2.2.2.2.2.2.2.1
theorem dX3_count_40 : decode cX3_count 40 = .ok (.ireturn, 1) := bdX3_count_0.2.2.2.2.2.2.2.2.1
theorem dX3_count_41 : decode cX3_count 41 = .ok (.aload_n 0, 1) := bdX3_count_0.2.2.2.2.2.2.2.2.2.1
theorem dX3_count_42 : decode cX3_count 42 = .ok (.getfield 13, 3) := bdX3_count_0.2.2.2.2.2.2.2.2.2.2.1
theorem dX3_count_45 : decode cX3_count 45 = .ok (.ireturn, 1) := bdX3_count_0.2.2.2.2.2.2.2.2.2.2.2
set_option maxRecDepth 20000 in
theorem bdX3_count_46 : (decode cX3_count 46 = .ok (.iconst (-1), 1)) ∧ (decode cX3_count 47 = .ok (.ireturn, 1)) := by decide +kernel
theorem dX3_count_46 : decode cX3_count 46 = .ok (.iconst (-1), 1) := bdX3_count_46.1
theorem dX3_count_47 : decode cX3_count 47 = .ok (.ireturn, 1) := bdX3_count_46.2
set_option maxRecDepth 20000 in
theorem bdX3_mix_0 : (decode cX3_mix 0 = .ok (.lload_n 0, 1)) ∧ (decode cX3_mix 1 = .ok (.lstore_n 2, 1)) ∧ (decode cX3_mix 2 = .ok (.lload_n 2, 1)) ∧ (decode cX3_mix 3 = .ok (.lload_n 2, 1)) ∧ (decode cX3_mix 4 = .ok (.bipush 30, 2)) ∧ (decode cX3_mix 6 = .ok (.lushr, 1)) ∧ (decode cX3_mix 7 = .ok (.lxor, 1)) ∧ (decode cX3_mix 8 = .ok (.ldc2_w 131, 3)) ∧ (decode cX3_mix 11 = .ok (.lmul, 1)) ∧ (decode cX3_mix 12 = .ok (.lstore_n 2, 1)) ∧ (decode cX3_mix 13 = .ok (.lload_n 2, 1)) ∧ (decode cX3_mix 14 = .ok (.lload_n 2, 1)) := by decide +kernel
theorem dX3_mix_0 : decode cX3_mix 0 = .ok (.lload_n 0, 1) := bdX3_mix_0.1
theorem dX3_mix_1 : decode cX3_mix 1 = .ok (.lstore_n 2, 1) := bdX3_mix_0.2.1
theorem dX3_mix_2 : decode cX3_mix 2 = .ok (.lload_n 2, 1) := bdX3_mix_0.2.2.1
theorem dX3_mix_3 : decode cX3_mix 3 = .ok (.lload_n 2, 1) := bdX3_mix_0.2.2.2.1
theorem dX3_mix_4 : decode cX3_mix 4 = .ok (.bipush 30, 2) := bdX3_mix_0.2.2.2.2.1
theorem dX3_mix_6 : decode cX3_mix 6 = .ok (.lushr, 1) := bdX3_mix_0.2.2.2.2.2.1
theorem dX3_mix_7 : decode cX3_mix 7 = .ok (.lxor, 1) := bdX3_mix_0.2.2.2.2.2.2.1
theorem dX3_mix_8 : decode cX3_mix 8 = .ok (.ldc2_w 131, 3) := bdX3_mix_0.2.2.2.2.2.2.2.1
theorem dX3_mix_11 : decode cX3_mix 11 = .ok (.lmul, 1) := bdX3_mix_0.2.2.2.2.2.2.2.2.1
theorem dX3_mix_12 : decode cX3_mix 12 = .ok (.lstore_n 2, 1) := bdX3_mix_0.2.2.2.2.2.2.2.2.2.1
theorem dX3_mix_13 : decode cX3_mix 13 = .ok (.lload_n 2, 1) := bdX3_mix_0.2.2.2.2.2.2.2.2.2.2.1
theorem dX3_mix_14 : decode cX3_mix 14 = .ok (.lload_n 2, 1) := bdX3_mix_0.2.2.2.2.2.2.2.2.2.2.2
set_option maxRecDepth 20000 in
theorem bdX3_mix_15 : (decode cX3_mix 15 = .ok (.bipush 27, 2)) ∧ (decode cX3_mix 17 = .ok (.lushr, 1)) ∧ (decode cX3_mix 18 = .ok (.lxor, 1)) ∧ (decode cX3_mix 19 = .ok (.ldc2_w 133, 3)) ∧ (decode cX3_mix 22 = .ok (.lmul, 1)) ∧ (decode cX3_mix 23 = .ok (.lstore_n 2, 1)) ∧ (decode cX3_mix 24 = .ok (.lload_n 2, 1)) ∧ (decode cX3_mix 25 = .ok (.lload_n 2, 1)) ∧ (decode cX3_mix 26 = .ok (.bipush 31, 2)) ∧ (decode cX3_mix 28 = .ok (.lushr, 1)) ∧ (decode cX3_mix 29 = .ok (.lxor, 1)) ∧ (decode cX3_mix 30 = .ok (.lreturn, 1)) := by decide +kernel
theorem dX3_mix_15 : decode cX3_mix 15 = .ok (.bipush 27, 2) := bdX3_mix_15.1
theorem dX3_mix_17 : decode cX3_mix 17 = .ok (.lushr, 1) := bdX3_mix_15.2.1
theorem dX3_mix_18 : decode cX3_mix 18 = .ok (.lxor, 1) := bdX3_mix_15.2.2.1
theorem dX3_mix_19 : decode cX3_mix 19 = .ok (.ldc2_w 133, 3) := bdX3_mix_15.2.2.2.1
theorem dX3_mix_22 : decode cX3_mix 22 = .ok (.lmul, 1) := bdX3_mix_15.2.2.2.2.1
theorem dX3_mix_23 : decode cX3_mix 23 = .ok (.lstore_n 2, 1) := bdX3_mix_15.2.2.2.2.2.1
theorem dX3_mix_24 : decode cX3_mix 24 = .ok (.lload_n 2, 1) := bdX3_mix_15.2.2.2.2.2.2.1
theorem dX3_mix_25 : decode cX3_mix 25 = .ok (.lload_n 2, 1) := bdX3_mix_15.2.2.2.2.2.2.2.1
theorem dX3_mix_26 : decode cX3_mix 26 = .ok (.bipush 31, 2) := bdX3_mix_15.2.2.2.2.2.2.2.2.1
theorem dX3_mix_28 : decode cX3_mix 28 = .ok (.lushr, 1) := bdX3_mix_15.2.2.2.2.2.2.2.2.2.1
theorem dX3_mix_29 : decode cX3_mix 29 = .ok (.lxor, 1) := bdX3_mix_15.2.2.2.2.2.2.2.2.2.2.1
theorem dX3_mix_30 : decode cX3_mix 30 = .ok (.lreturn, 1) := bdX3_mix_15.2.2.2.2.2.2.2.2.2.2.2
set_option maxRecDepth 20000 in
theorem ggX3_baseOf_X3_mix : GoodIn wsX3_baseOf wsX3_mix := goodIn_r _ [8, 9, 10] (by decide +kernel) (by decide +kernel)
set_option maxRecDepth 20000 in
theorem gX3_baseOf_X3_mix : GoodIn wsX3_baseOf (va_wsS RX3 137 yX3_mix wsX3_mix) := goodIn_app (goodIn_of _ (by decide +kernel)) ggX3_baseOf_X3_mix
set_option maxRecDepth 20000 in
theorem bdX3_baseOf_0 : (decode cX3_baseOf 0 = .ok (.aload_n 0, 1)) ∧ (decode cX3_baseOf 1 = .ok (.getfield 52, 3)) ∧ (decode cX3_baseOf 4 = .ok (.ldc2_w 135, 3)) ∧ (decode cX3_baseOf 7 = .ok (.lload_n 1, 1)) ∧ (decode cX3_baseOf 8 = .ok (.lconst 1, 1)) ∧ (decode cX3_baseOf 9 = .ok (.ladd, 1)) ∧ (decode cX3_baseOf 10 = .ok (.lmul, 1)) ∧ (decode cX3_baseOf 11 = .ok (.ladd, 1)) ∧ (decode cX3_baseOf 12 = .ok (.aload_n 0, 1)) ∧ (decode cX3_baseOf 13 = .ok (.getfield 20, 3)) ∧ (decode cX3_baseOf 16 = .ok (.getfield 64, 3)) ∧ (decode cX3_baseOf 19 = .ok (.iload_n 3, 1)) := by decide +kernel
theorem dX3_baseOf_0 : decode cX3_baseOf 0 = .ok (.aload_n 0, 1) := bdX3_baseOf_0.1
theorem dX3_baseOf_1 : decode cX3_baseOf 1 = .ok (.getfield 52, 3) := bdX3_baseOf_0.2.1
theorem dX3_baseOf_4 : decode cX3_baseOf 4 = .ok (.ldc2_w 135, 3) := bdX3_baseOf_0.2.2.1
theorem dX3_baseOf_7 : decode cX3_baseOf 7 = .ok (.lload_n 1, 1) := bdX3_baseOf_0.2.2.2.1
theorem dX3_baseOf_8 : decode cX3_baseOf 8 = .ok (.lconst 1, 1) := bdX3_baseOf_0.2.2.2.2.1
theorem dX3_baseOf_9 : decode cX3_baseOf 9 = .ok (.ladd, 1) := bdX3_baseOf_0.2.2.2.2.2.1
theorem dX3_baseOf_10 : decode cX3_baseOf 10 = .ok (.lmul, 1) := bdX3_baseOf_0.2.2.2.2.2.2.1
theorem dX3_baseOf_11 : decode cX3_baseOf 11 = .ok (.ladd, 1) := bdX3_baseOf_0.2.2.2.2.2.2.2.1
theorem dX3_baseOf_12 : decode cX3_baseOf 12 = .ok (.aload_n 0, 1) := bdX3_baseOf_0.2.2.2.2.2.2.2.2.1
theorem dX3_baseOf_13 : decode cX3_baseOf 13 = .ok (.getfield 20, 3) := bdX3_baseOf_0.2.2.2.2.2.2.2.2.2.1
theorem dX3_baseOf_16 : decode cX3_baseOf 16 = .ok (.getfield 64, 3) := bdX3_baseOf_0.2.2.2.2.2.2.2.2.2.2.1
theorem dX3_baseOf_19 : decode cX3_baseOf 19 = .ok (.iload_n 3, 1) := bdX3_baseOf_0.2.2.2.2.2.2.2.2.2.2.2
set_option maxRecDepth 20000 in
theorem bdX3_baseOf_20 : (decode cX3_baseOf 20 = .ok (.laload, 1)) ∧ (decode cX3_baseOf 21 = .ok (.lxor, 1)) ∧ (decode cX3_baseOf 22 = .ok (.invokestatic 137, 3)) ∧ (decode cX3_baseOf 25 = .ok (.lreturn, 1)) := by decide +kernel
theorem dX3_baseOf_20 : decode cX3_baseOf 20 = .ok (.laload, 1) := bdX3_baseOf_20.1
theorem dX3_baseOf_21 : decode cX3_baseOf 21 = .ok (.lxor, 1) := bdX3_baseOf_20.2.1
theorem dX3_baseOf_22 : decode cX3_baseOf 22 = .ok (.invokestatic 137, 3) := bdX3_baseOf_20.2.2.1
theorem dX3_baseOf_25 : decode cX3_baseOf 25 = .ok (.lreturn, 1) := bdX3_baseOf_20.2.2.2
set_option maxRecDepth 20000 in
theorem ggX3_wordAt_X3_mix : GoodIn wsX3_wordAt wsX3_mix := goodIn_r _ [5, 6, 7] (by decide +kernel) (by decide +kernel)
set_option maxRecDepth 20000 in
theorem gX3_wordAt_X3_mix : GoodIn wsX3_wordAt (va_wsS RX3 137 yX3_mix wsX3_mix) := goodIn_app (goodIn_of _ (by decide +kernel)) ggX3_wordAt_X3_mix
set_option maxRecDepth 20000 in
theorem bdX3_wordAt_0 : (decode cX3_wordAt 0 = .ok (.lload_n 0, 1)) ∧ (decode cX3_wordAt 1 = .ok (.ldc2_w 135, 3)) ∧ (decode cX3_wordAt 4 = .ok (.lload_n 2, 1)) ∧ (decode cX3_wordAt 5 = .ok (.lconst 1, 1)) ∧ (decode cX3_wordAt 6 = .ok (.ladd, 1)) ∧ (decode cX3_wordAt 7 = .ok (.lmul, 1)) ∧ (decode cX3_wordAt 8 = .ok (.ladd, 1)) ∧ (decode cX3_wordAt 9 = .ok (.invokestatic 137, 3)) ∧ (decode cX3_wordAt 12 = .ok (.lreturn, 1)) := by decide +kernel
theorem dX3_wordAt_0 : decode cX3_wordAt 0 = .ok (.lload_n 0, 1) := bdX3_wordAt_0.1
theorem dX3_wordAt_1 : decode cX3_wordAt 1 = .ok (.ldc2_w 135, 3) := bdX3_wordAt_0.2.1
theorem dX3_wordAt_4 : decode cX3_wordAt 4 = .ok (.lload_n 2, 1) := bdX3_wordAt_0.2.2.1
theorem dX3_wordAt_5 : decode cX3_wordAt 5 = .ok (.lconst 1, 1) := bdX3_wordAt_0.2.2.2.1
theorem dX3_wordAt_6 : decode cX3_wordAt 6 = .ok (.ladd, 1) := bdX3_wordAt_0.2.2.2.2.1
theorem dX3_wordAt_7 : decode cX3_wordAt 7 = .ok (.lmul, 1) := bdX3_wordAt_0.2.2.2.2.2.1
theorem dX3_wordAt_8 : decode cX3_wordAt 8 = .ok (.ladd, 1) := bdX3_wordAt_0.2.2.2.2.2.2.1
theorem dX3_wordAt_9 : decode cX3_wordAt 9 = .ok (.invokestatic 137, 3) := bdX3_wordAt_0.2.2.2.2.2.2.2.1
theorem dX3_wordAt_12 : decode cX3_wordAt 12 = .ok (.lreturn, 1) := bdX3_wordAt_0.2.2.2.2.2.2.2.2
set_option maxRecDepth 20000 in
theorem bdX3_firstCounter_0 : (decode cX3_firstCounter 0 = .ok (.ldc2_w 141, 3)) ∧ (decode cX3_firstCounter 3 = .ok (.iload_n 0, 1)) ∧ (decode cX3_firstCounter 4 = .ok (.i2l, 1)) ∧ (decode cX3_firstCounter 5 = .ok (.lmul, 1)) ∧ (decode cX3_firstCounter 6 = .ok (.lreturn, 1)) := by decide +kernel
theorem dX3_firstCounter_0 : decode cX3_firstCounter 0 = .ok (.ldc2_w 141, 3) := bdX3_firstCounter_0.1
theorem dX3_firstCounter_3 : decode cX3_firstCounter 3 = .ok (.iload_n 0, 1) := bdX3_firstCounter_0.2.1
theorem dX3_firstCounter_4 : decode cX3_firstCounter 4 = .ok (.i2l, 1) := bdX3_firstCounter_0.2.2.1
theorem dX3_firstCounter_5 : decode cX3_firstCounter 5 = .ok (.lmul, 1) := bdX3_firstCounter_0.2.2.2.1
theorem dX3_firstCounter_6 : decode cX3_firstCounter 6 = .ok (.lreturn, 1) := bdX3_firstCounter_0.2.2.2.2
set_option maxRecDepth 20000 in
theorem bdX3_belowUnsigned_0 : (decode cX3_belowUnsigned 0 = .ok (.lload_n 0, 1)) ∧ (decode cX3_belowUnsigned 1 = .ok (.ldc2_w 143, 3)) ∧ (decode cX3_belowUnsigned 4 = .ok (.lxor, 1)) ∧ (decode cX3_belowUnsigned 5 = .ok (.lload_n 2, 1)) ∧ (decode cX3_belowUnsigned 6 = .ok (.ldc2_w 143, 3)) ∧ (decode cX3_belowUnsigned 9 = .ok (.lxor, 1)) ∧ (decode cX3_belowUnsigned 10 = .ok (.lcmp, 1)) ∧ (decode cX3_belowUnsigned 11 = .ok (.ifCond .ge 7, 3)) ∧ (decode cX3_belowUnsigned 14 = .ok (.iconst 1, 1)) ∧ (decode cX3_belowUnsigned 15 = .ok (.goto 4, 3)) ∧ (decode cX3_belowUnsigned 18 = .ok (.iconst 0, 1)) ∧ (decode cX3_belowUnsigned 19 = .ok (.ireturn, 1)) := by decide +kernel
theorem dX3_belowUnsigned_0 : decode cX3_belowUnsigned 0 = .ok (.lload_n 0, 1) := bdX3_belowUnsigned_0.1
theorem dX3_belowUnsigned_1 : decode cX3_belowUnsigned 1 = .ok (.ldc2_w 143, 3) := bdX3_belowUnsigned_0.2.1
theorem dX3_belowUnsigned_4 : decode cX3_belowUnsigned 4 = .ok (.lxor, 1) := bdX3_belowUnsigned_0.2.2.1
theorem dX3_belowUnsigned_5 : decode cX3_belowUnsigned 5 = .ok (.lload_n 2, 1) := bdX3_belowUnsigned_0.2.2.2.1
theorem dX3_belowUnsigned_6 : decode cX3_belowUnsigned 6 = .ok (.ldc2_w 143, 3) := bdX3_belowUnsigned_0.2.2.2.2.1
theorem dX3_belowUnsigned_9 : decode cX3_belowUnsigned 9 = .ok (.lxor, 1) := bdX3_belowUnsigned_0.2.2.2.2.2.1
theorem dX3_belowUnsigned_10 : decode cX3_belowUnsigned 10 = .ok (.lcmp, 1) := bdX3_belowUnsigned_0.2.2.2.2.2.2.1
theorem dX3_belowUnsigned_11 : decode cX3_belowUnsigned 11 = .ok (.ifCond .ge 7, 3) := bdX3_belowUnsigned_0.2.2.2.2.2.2.2.1
theorem dX3_belowUnsigned_14 : decode cX3_belowUnsigned 14 = .ok (.iconst 1, 1) := bdX3_belowUnsigned_0.2.2.2.2.2.2.2.2.1
theorem dX3_belowUnsigned_15 : decode cX3_belowUnsigned 15 = .ok (.goto 4, 3) := bdX3_belowUnsigned_0.2.2.2.2.2.2.2.2.2.1
theorem dX3_belowUnsigned_18 : decode cX3_belowUnsigned 18 = .ok (.iconst 0, 1) := bdX3_belowUnsigned_0.2.2.2.2.2.2.2.2.2.2.1
theorem dX3_belowUnsigned_19 : decode cX3_belowUnsigned 19 = .ok (.ireturn, 1) := bdX3_belowUnsigned_0.2.2.2.2.2.2.2.2.2.2.2
set_option maxRecDepth 20000 in
theorem ggX3_remainderUnsigned_X3_belowUnsigned : GoodIn wsX3_remainderUnsigned wsX3_belowUnsigned := goodIn_r _ [4, 5] (by decide +kernel) (by decide +kernel)
set_option maxRecDepth 20000 in
theorem gX3_remainderUnsigned_X3_belowUnsigned : GoodIn wsX3_remainderUnsigned (va_wsS RX3 145 yX3_belowUnsigned wsX3_belowUnsigned) := goodIn_app (goodIn_of _ (by decide +kernel)) ggX3_remainderUnsigned_X3_belowUnsigned
set_option maxRecDepth 20000 in
theorem bdX3_remainderUnsigned_0 : (decode cX3_remainderUnsigned 0 = .ok (.lload_n 0, 1)) ∧ (decode cX3_remainderUnsigned 1 = .ok (.iconst 1, 1)) ∧ (decode cX3_remainderUnsigned 2 = .ok (.lushr, 1)) ∧ (decode cX3_remainderUnsigned 3 = .ok (.lload_n 2, 1)) ∧ (decode cX3_remainderUnsigned 4 = .ok (.ldiv, 1)) ∧ (decode cX3_remainderUnsigned 5 = .ok (.iconst 1, 1)) ∧ (decode cX3_remainderUnsigned 6 = .ok (.lshl, 1)) ∧ (decode cX3_remainderUnsigned 7 = .ok (.lstore 4, 2)) ∧ (decode cX3_remainderUnsigned 9 = .ok (.lload_n 0, 1)) ∧ (decode cX3_remainderUnsigned 10 = .ok (.lload 4, 2)) ∧ (decode cX3_remainderUnsigned 12 = .ok (.lload_n 2, 1)) ∧ (decode cX3_remainderUnsigned 13 = .ok (.lmul, 1)) := by decide +kernel
theorem dX3_remainderUnsigned_0 : decode cX3_remainderUnsigned 0 = .ok (.lload_n 0, 1) := bdX3_remainderUnsigned_0.1
theorem dX3_remainderUnsigned_1 : decode cX3_remainderUnsigned 1 = .ok (.iconst 1, 1) := bdX3_remainderUnsigned_0.2.1
theorem dX3_remainderUnsigned_2 : decode cX3_remainderUnsigned 2 = .ok (.lushr, 1) := bdX3_remainderUnsigned_0.2.2.1
theorem dX3_remainderUnsigned_3 : decode cX3_remainderUnsigned 3 = .ok (.lload_n 2, 1) := bdX3_remainderUnsigned_0.2.2.2.1
theorem dX3_remainderUnsigned_4 : decode cX3_remainderUnsigned 4 = .ok (.ldiv, 1) := bdX3_remainderUnsigned_0.2.2.2.2.1
theorem dX3_remainderUnsigned_5 : decode cX3_remainderUnsigned 5 = .ok (.iconst 1, 1) := bdX3_remainderUnsigned_0.2.2.2.2.2.1
theorem dX3_remainderUnsigned_6 : decode cX3_remainderUnsigned 6 = .ok (.lshl, 1) := bdX3_remainderUnsigned_0.2.2.2.2.2.2.1
theorem dX3_remainderUnsigned_7 : decode cX3_remainderUnsigned 7 = .ok (.lstore 4, 2) := bdX3_remainderUnsigned_0.2.2.2.2.2.2.2.1
theorem dX3_remainderUnsigned_9 : decode cX3_remainderUnsigned 9 = .ok (.lload_n 0, 1) := bdX3_remainderUnsigned_0.2.2.2.2.2.2.2.2.1
theorem dX3_remainderUnsigned_10 : decode cX3_remainderUnsigned 10 = .ok (.lload 4, 2) := bdX3_remainderUnsigned_0.2.2.2.2.2.2.2.2.2.1
theorem dX3_remainderUnsigned_12 : decode cX3_remainderUnsigned 12 = .ok (.lload_n 2, 1) := bdX3_remainderUnsigned_0.2.2.2.2.2.2.2.2.2.2.1
theorem dX3_remainderUnsigned_13 : decode cX3_remainderUnsigned 13 = .ok (.lmul, 1) := bdX3_remainderUnsigned_0.2.2.2.2.2.2.2.2.2.2.2
set_option maxRecDepth 20000 in
theorem bdX3_remainderUnsigned_14 : (decode cX3_remainderUnsigned 14 = .ok (.lsub, 1)) ∧ (decode cX3_remainderUnsigned 15 = .ok (.lstore 6, 2)) ∧ (decode cX3_remainderUnsigned 17 = .ok (.lload 6, 2)) ∧ (decode cX3_remainderUnsigned 19 = .ok (.lload_n 2, 1)) ∧ (decode cX3_remainderUnsigned 20 = .ok (.invokestatic 145, 3)) ∧ (decode cX3_remainderUnsigned 23 = .ok (.ifCond .eq 8, 3)) ∧ (decode cX3_remainderUnsigned 26 = .ok (.lload 6, 2)) ∧ (decode cX3_remainderUnsigned 28 = .ok (.goto 7, 3)) ∧ (decode cX3_remainderUnsigned 31 = .ok (.lload 6, 2)) ∧ (decode cX3_remainderUnsigned 33 = .ok (.lload_n 2, 1)) ∧ (decode cX3_remainderUnsigned 34 = .ok (.lsub, 1)) ∧ (decode cX3_remainderUnsigned 35 = .ok (.lreturn, 1)) := by decide +kernel
theorem dX3_remainderUnsigned_14 : decode cX3_remainderUnsigned 14 = .ok (.lsub, 1) := bdX3_remainderUnsigned_14.1
theorem dX3_remainderUnsigned_15 : decode cX3_remainderUnsigned 15 = .ok (.lstore 6, 2) := bdX3_remainderUnsigned_14.2.1
theorem dX3_remainderUnsigned_17 : decode cX3_remainderUnsigned 17 = .ok (.lload 6, 2) := bdX3_remainderUnsigned_14.2.2.1
theorem dX3_remainderUnsigned_19 : decode cX3_remainderUnsigned 19 = .ok (.lload_n 2, 1) := bdX3_remainderUnsigned_14.2.2.2.1
theorem dX3_remainderUnsigned_20 : decode cX3_remainderUnsigned 20 = .ok (.invokestatic 145, 3) := bdX3_remainderUnsigned_14.2.2.2.2.1
theorem dX3_remainderUnsigned_23 : decode cX3_remainderUnsigned 23 = .ok (.ifCond .eq 8, 3) := bdX3_remainderUnsigned_14.2.2.2.2.2.1
theorem dX3_remainderUnsigned_26 : decode cX3_remainderUnsigned 26 = .ok (.lload 6, 2) := bdX3_remainderUnsigned_14.2.2.2.2.2.2.1
theorem dX3_remainderUnsigned_28 : decode cX3_remainderUnsigned 28 = .ok (.goto 7, 3) := bdX3_remainderUnsigned_14.2.2.2.2.2.2.2.1
theorem dX3_remainderUnsigned_31 : decode cX3_remainderUnsigned 31 = .ok (.lload 6, 2) := bdX3_remainderUnsigned_14.2.2.2.2.2.2.2.2.1
theorem dX3_remainderUnsigned_33 : decode cX3_remainderUnsigned 33 = .ok (.lload_n 2, 1) := bdX3_remainderUnsigned_14.2.2.2.2.2.2.2.2.2.1
theorem dX3_remainderUnsigned_34 : decode cX3_remainderUnsigned 34 = .ok (.lsub, 1) := bdX3_remainderUnsigned_14.2.2.2.2.2.2.2.2.2.2.1
theorem dX3_remainderUnsigned_35 : decode cX3_remainderUnsigned 35 = .ok (.lreturn, 1) := bdX3_remainderUnsigned_14.2.2.2.2.2.2.2.2.2.2.2
set_option maxRecDepth 20000 in
theorem ggX3_drawSpan_X3_baseOf : GoodIn wsX3_drawSpan wsX3_baseOf := goodIn_r _ [7, 8, 9, 10, 11, 12, 13, 6, 14, 15, 16, 31, 32, 33, 34, 35, 36, 37, 38, 39, 40, 41, 42, 43, 44, 45, 46] (by decide +kernel) (by decide +kernel)
set_option maxRecDepth 20000 in
theorem gX3_drawSpan_X3_baseOf : GoodIn wsX3_drawSpan (wsV RX3 67 RX3 yX3_baseOf wsX3_baseOf) := goodIn_app (goodIn_of _ (by decide +kernel)) ggX3_drawSpan_X3_baseOf
set_option maxRecDepth 20000 in
theorem ggX3_drawSpan_X3_firstCounter : GoodIn wsX3_drawSpan wsX3_firstCounter := goodIn_r _ [19, 20] (by decide +kernel) (by decide +kernel)
set_option maxRecDepth 20000 in
theorem gX3_drawSpan_X3_firstCounter : GoodIn wsX3_drawSpan (va_wsS RX3 149 yX3_firstCounter wsX3_firstCounter) := goodIn_app (goodIn_of _ (by decide +kernel)) ggX3_drawSpan_X3_firstCounter
set_option maxRecDepth 20000 in
theorem ggX3_drawSpan_X3_remainderUnsigned : GoodIn wsX3_drawSpan wsX3_remainderUnsigned := goodIn_r _ [23, 24, 25, 6, 26, 27] (by decide +kernel) (by decide +kernel)
set_option maxRecDepth 20000 in
theorem gX3_drawSpan_X3_remainderUnsigned : GoodIn wsX3_drawSpan (va_wsS RX3 153 yX3_remainderUnsigned wsX3_remainderUnsigned) := goodIn_app (goodIn_of _ (by decide +kernel)) ggX3_drawSpan_X3_remainderUnsigned
set_option maxRecDepth 20000 in
theorem ggX3_drawSpan_X3_wordAt : GoodIn wsX3_drawSpan wsX3_wordAt := goodIn_r _ [30, 9, 12, 13, 6, 14, 15, 16] (by decide +kernel) (by decide +kernel)
set_option maxRecDepth 20000 in
theorem gX3_drawSpan_X3_wordAt : GoodIn wsX3_drawSpan (va_wsS RX3 71 yX3_wordAt wsX3_wordAt) := goodIn_app (goodIn_of _ (by decide +kernel)) ggX3_drawSpan_X3_wordAt
set_option maxRecDepth 20000 in
theorem ggX3_drawSpan_X3_belowUnsigned : GoodIn wsX3_drawSpan wsX3_belowUnsigned := goodIn_r _ [26, 27] (by decide +kernel) (by decide +kernel)
set_option maxRecDepth 20000 in
theorem gX3_drawSpan_X3_belowUnsigned : GoodIn wsX3_drawSpan (va_wsS RX3 145 yX3_belowUnsigned wsX3_belowUnsigned) := goodIn_app (goodIn_of _ (by decide +kernel)) ggX3_drawSpan_X3_belowUnsigned
set_option maxRecDepth 20000 in
theorem bdX3_drawSpan_0 : (decode cX3_drawSpan 0 = .ok (.aload_n 0, 1)) ∧ (decode cX3_drawSpan 1 = .ok (.lload_n 1, 1)) ∧ (decode cX3_drawSpan 2 = .ok (.iload_n 3, 1)) ∧ (decode cX3_drawSpan 3 = .ok (.invokevirtual 67, 3)) ∧ (decode cX3_drawSpan 6 = .ok (.lstore 7, 2)) ∧ (decode cX3_drawSpan 8 = .ok (.iload 4, 2)) ∧ (decode cX3_drawSpan 10 = .ok (.invokestatic 149, 3)) ∧ (decode cX3_drawSpan 13 = .ok (.lstore 9, 2)) ∧ (decode cX3_drawSpan 15 = .ok (.lload 5, 2)) ∧ (decode cX3_drawSpan 17 = .ok (.lneg, 1)) ∧ (decode cX3_drawSpan 18 = .ok (.lload 5, 2)) ∧ (decode cX3_drawSpan 20 = .ok (.invokestatic 153, 3)) := by decide +kernel
theorem dX3_drawSpan_0 : decode cX3_drawSpan 0 = .ok (.aload_n 0, 1) := bdX3_drawSpan_0.1
theorem dX3_drawSpan_1 : decode cX3_drawSpan 1 = .ok (.lload_n 1, 1) := bdX3_drawSpan_0.2.1
theorem dX3_drawSpan_2 : decode cX3_drawSpan 2 = .ok (.iload_n 3, 1) := bdX3_drawSpan_0.2.2.1
theorem dX3_drawSpan_3 : decode cX3_drawSpan 3 = .ok (.invokevirtual 67, 3) := bdX3_drawSpan_0.2.2.2.1
theorem dX3_drawSpan_6 : decode cX3_drawSpan 6 = .ok (.lstore 7, 2) := bdX3_drawSpan_0.2.2.2.2.1
theorem dX3_drawSpan_8 : decode cX3_drawSpan 8 = .ok (.iload 4, 2) := bdX3_drawSpan_0.2.2.2.2.2.1
theorem dX3_drawSpan_10 : decode cX3_drawSpan 10 = .ok (.invokestatic 149, 3) := bdX3_drawSpan_0.2.2.2.2.2.2.1
theorem dX3_drawSpan_13 : decode cX3_drawSpan 13 = .ok (.lstore 9, 2) := bdX3_drawSpan_0.2.2.2.2.2.2.2.1
theorem dX3_drawSpan_15 : decode cX3_drawSpan 15 = .ok (.lload 5, 2) := bdX3_drawSpan_0.2.2.2.2.2.2.2.2.1
theorem dX3_drawSpan_17 : decode cX3_drawSpan 17 = .ok (.lneg, 1) := bdX3_drawSpan_0.2.2.2.2.2.2.2.2.2.1
theorem dX3_drawSpan_18 : decode cX3_drawSpan 18 = .ok (.lload 5, 2) := bdX3_drawSpan_0.2.2.2.2.2.2.2.2.2.2.1
theorem dX3_drawSpan_20 : decode cX3_drawSpan 20 = .ok (.invokestatic 153, 3) := bdX3_drawSpan_0.2.2.2.2.2.2.2.2.2.2.2
set_option maxRecDepth 20000 in
theorem bdX3_drawSpan_23 : (decode cX3_drawSpan 23 = .ok (.lstore 11, 2)) ∧ (decode cX3_drawSpan 25 = .ok (.iconst 0, 1)) ∧ (decode cX3_drawSpan 26 = .ok (.istore 13, 2)) ∧ (decode cX3_drawSpan 28 = .ok (.iload 13, 2)) ∧ (decode cX3_drawSpan 30 = .ok (.bipush 32, 2)) ∧ (decode cX3_drawSpan 32 = .ok (.if_icmp .ge 56, 3)) ∧ (decode cX3_drawSpan 35 = .ok (.lload 7, 2)) ∧ (decode cX3_drawSpan 37 = .ok (.lload 9, 2)) ∧ (decode cX3_drawSpan 39 = .ok (.iload 13, 2)) ∧ (decode cX3_drawSpan 41 = .ok (.i2l, 1)) ∧ (decode cX3_drawSpan 42 = .ok (.ladd, 1)) ∧ (decode cX3_drawSpan 43 = .ok (.invokestatic 71, 3)) := by decide +kernel
theorem dX3_drawSpan_23 : decode cX3_drawSpan 23 = .ok (.lstore 11, 2) := bdX3_drawSpan_23.1
theorem dX3_drawSpan_25 : decode cX3_drawSpan 25 = .ok (.iconst 0, 1) := bdX3_drawSpan_23.2.1
theorem dX3_drawSpan_26 : decode cX3_drawSpan 26 = .ok (.istore 13, 2) := bdX3_drawSpan_23.2.2.1
theorem dX3_drawSpan_28 : decode cX3_drawSpan 28 = .ok (.iload 13, 2) := bdX3_drawSpan_23.2.2.2.1
theorem dX3_drawSpan_30 : decode cX3_drawSpan 30 = .ok (.bipush 32, 2) := bdX3_drawSpan_23.2.2.2.2.1
theorem dX3_drawSpan_32 : decode cX3_drawSpan 32 = .ok (.if_icmp .ge 56, 3) := bdX3_drawSpan_23.2.2.2.2.2.1
theorem dX3_drawSpan_35 : decode cX3_drawSpan 35 = .ok (.lload 7, 2) := bdX3_drawSpan_23.2.2.2.2.2.2.1
theorem dX3_drawSpan_37 : decode cX3_drawSpan 37 = .ok (.lload 9, 2) := bdX3_drawSpan_23.2.2.2.2.2.2.2.1
theorem dX3_drawSpan_39 : decode cX3_drawSpan 39 = .ok (.iload 13, 2) := bdX3_drawSpan_23.2.2.2.2.2.2.2.2.1
theorem dX3_drawSpan_41 : decode cX3_drawSpan 41 = .ok (.i2l, 1) := bdX3_drawSpan_23.2.2.2.2.2.2.2.2.2.1
theorem dX3_drawSpan_42 : decode cX3_drawSpan 42 = .ok (.ladd, 1) := bdX3_drawSpan_23.2.2.2.2.2.2.2.2.2.2.1
theorem dX3_drawSpan_43 : decode cX3_drawSpan 43 = .ok (.invokestatic 71, 3) := bdX3_drawSpan_23.2.2.2.2.2.2.2.2.2.2.2
set_option maxRecDepth 20000 in
theorem bdX3_drawSpan_46 : (decode cX3_drawSpan 46 = .ok (.lstore 14, 2)) ∧ (decode cX3_drawSpan 48 = .ok (.aload_n 0, 1)) ∧ (decode cX3_drawSpan 49 = .ok (.iload 13, 2)) ∧ (decode cX3_drawSpan 51 = .ok (.iconst 1, 1)) ∧ (decode cX3_drawSpan 52 = .ok (.iadd, 1)) ∧ (decode cX3_drawSpan 53 = .ok (.putfield 46, 3)) ∧ (decode cX3_drawSpan 56 = .ok (.lload 11, 2)) ∧ (decode cX3_drawSpan 58 = .ok (.lconst 0, 1)) ∧ (decode cX3_drawSpan 59 = .ok (.lcmp, 1)) ∧ (decode cX3_drawSpan 60 = .ok (.ifCond .eq 14, 3)) ∧ (decode cX3_drawSpan 63 = .ok (.lload 14, 2)) ∧ (decode cX3_drawSpan 65 = .ok (.lload 11, 2)) := by decide +kernel
theorem dX3_drawSpan_46 : decode cX3_drawSpan 46 = .ok (.lstore 14, 2) := bdX3_drawSpan_46.1
theorem dX3_drawSpan_48 : decode cX3_drawSpan 48 = .ok (.aload_n 0, 1) := bdX3_drawSpan_46.2.1
theorem dX3_drawSpan_49 : decode cX3_drawSpan 49 = .ok (.iload 13, 2) := bdX3_drawSpan_46.2.2.1
theorem dX3_drawSpan_51 : decode cX3_drawSpan 51 = .ok (.iconst 1, 1) := bdX3_drawSpan_46.2.2.2.1
theorem dX3_drawSpan_52 : decode cX3_drawSpan 52 = .ok (.iadd, 1) := bdX3_drawSpan_46.2.2.2.2.1
theorem dX3_drawSpan_53 : decode cX3_drawSpan 53 = .ok (.putfield 46, 3) := bdX3_drawSpan_46.2.2.2.2.2.1
theorem dX3_drawSpan_56 : decode cX3_drawSpan 56 = .ok (.lload 11, 2) := bdX3_drawSpan_46.2.2.2.2.2.2.1
theorem dX3_drawSpan_58 : decode cX3_drawSpan 58 = .ok (.lconst 0, 1) := bdX3_drawSpan_46.2.2.2.2.2.2.2.1
theorem dX3_drawSpan_59 : decode cX3_drawSpan 59 = .ok (.lcmp, 1) := bdX3_drawSpan_46.2.2.2.2.2.2.2.2.1
theorem dX3_drawSpan_60 : decode cX3_drawSpan 60 = .ok (.ifCond .eq 14, 3) := bdX3_drawSpan_46.2.2.2.2.2.2.2.2.2.1
theorem dX3_drawSpan_63 : decode cX3_drawSpan 63 = .ok (.lload 14, 2) := bdX3_drawSpan_46.2.2.2.2.2.2.2.2.2.2.1
theorem dX3_drawSpan_65 : decode cX3_drawSpan 65 = .ok (.lload 11, 2) := bdX3_drawSpan_46.2.2.2.2.2.2.2.2.2.2.2
set_option maxRecDepth 20000 in
theorem bdX3_drawSpan_67 : (decode cX3_drawSpan 67 = .ok (.lneg, 1)) ∧ (decode cX3_drawSpan 68 = .ok (.invokestatic 145, 3)) ∧ (decode cX3_drawSpan 71 = .ok (.ifCond .eq 11, 3)) ∧ (decode cX3_drawSpan 74 = .ok (.lload 14, 2)) ∧ (decode cX3_drawSpan 76 = .ok (.lload 5, 2)) ∧ (decode cX3_drawSpan 78 = .ok (.invokestatic 153, 3)) ∧ (decode cX3_drawSpan 81 = .ok (.lreturn, 1)) ∧ (decode cX3_drawSpan 82 = .ok (.iinc 13 1, 3)) ∧ (decode cX3_drawSpan 85 = .ok (.goto (-57), 3)) ∧ (decode cX3_drawSpan 88 = .ok (.ldc2_w 156, 3)) ∧ (decode cX3_drawSpan 91 = .ok (.lreturn, 1)) := by decide +kernel
theorem dX3_drawSpan_67 : decode cX3_drawSpan 67 = .ok (.lneg, 1) := bdX3_drawSpan_67.1
theorem dX3_drawSpan_68 : decode cX3_drawSpan 68 = .ok (.invokestatic 145, 3) := bdX3_drawSpan_67.2.1
theorem dX3_drawSpan_71 : decode cX3_drawSpan 71 = .ok (.ifCond .eq 11, 3) := bdX3_drawSpan_67.2.2.1
theorem dX3_drawSpan_74 : decode cX3_drawSpan 74 = .ok (.lload 14, 2) := bdX3_drawSpan_67.2.2.2.1
theorem dX3_drawSpan_76 : decode cX3_drawSpan 76 = .ok (.lload 5, 2) := bdX3_drawSpan_67.2.2.2.2.1
theorem dX3_drawSpan_78 : decode cX3_drawSpan 78 = .ok (.invokestatic 153, 3) := bdX3_drawSpan_67.2.2.2.2.2.1
theorem dX3_drawSpan_81 : decode cX3_drawSpan 81 = .ok (.lreturn, 1) := bdX3_drawSpan_67.2.2.2.2.2.2.1
theorem dX3_drawSpan_82 : decode cX3_drawSpan 82 = .ok (.iinc 13 1, 3) := bdX3_drawSpan_67.2.2.2.2.2.2.2.1
theorem dX3_drawSpan_85 : decode cX3_drawSpan 85 = .ok (.goto (-57), 3) := bdX3_drawSpan_67.2.2.2.2.2.2.2.2.1
theorem dX3_drawSpan_88 : decode cX3_drawSpan 88 = .ok (.ldc2_w 156, 3) := bdX3_drawSpan_67.2.2.2.2.2.2.2.2.2.1
theorem dX3_drawSpan_91 : decode cX3_drawSpan 91 = .ok (.lreturn, 1) := bdX3_drawSpan_67.2.2.2.2.2.2.2.2.2.2
set_option maxRecDepth 20000 in
theorem ggX3_drawFraction_X3_baseOf : GoodIn wsX3_drawFraction wsX3_baseOf := goodIn_r _ [6, 7, 8, 9, 10, 11, 12, 5, 13, 14, 15, 23, 24, 25, 26, 27, 28, 29, 30, 31, 32, 33, 34, 35, 36, 37, 38] (by decide +kernel) (by decide +kernel)
set_option maxRecDepth 20000 in
theorem gX3_drawFraction_X3_baseOf : GoodIn wsX3_drawFraction (wsV RX3 67 RX3 yX3_baseOf wsX3_baseOf) := goodIn_app (goodIn_of _ (by decide +kernel)) ggX3_drawFraction_X3_baseOf
set_option maxRecDepth 20000 in
theorem ggX3_drawFraction_X3_firstCounter : GoodIn wsX3_drawFraction wsX3_firstCounter := goodIn_r _ [18, 19] (by decide +kernel) (by decide +kernel)
set_option maxRecDepth 20000 in
theorem gX3_drawFraction_X3_firstCounter : GoodIn wsX3_drawFraction (va_wsS RX3 149 yX3_firstCounter wsX3_firstCounter) := goodIn_app (goodIn_of _ (by decide +kernel)) ggX3_drawFraction_X3_firstCounter
set_option maxRecDepth 20000 in
theorem ggX3_drawFraction_X3_wordAt : GoodIn wsX3_drawFraction wsX3_wordAt := goodIn_r _ [22, 8, 11, 12, 5, 13, 14, 15] (by decide +kernel) (by decide +kernel)
set_option maxRecDepth 20000 in
theorem gX3_drawFraction_X3_wordAt : GoodIn wsX3_drawFraction (va_wsS RX3 71 yX3_wordAt wsX3_wordAt) := goodIn_app (goodIn_of _ (by decide +kernel)) ggX3_drawFraction_X3_wordAt
set_option maxRecDepth 20000 in
theorem bdX3_drawFraction_0 : (decode cX3_drawFraction 0 = .ok (.aload_n 0, 1)) ∧ (decode cX3_drawFraction 1 = .ok (.iconst 0, 1)) ∧ (decode cX3_drawFraction 2 = .ok (.putfield 46, 3)) ∧ (decode cX3_drawFraction 5 = .ok (.lload 5, 2)) ∧ (decode cX3_drawFraction 7 = .ok (.lload 7, 2)) ∧ (decode cX3_drawFraction 9 = .ok (.lcmp, 1)) ∧ (decode cX3_drawFraction 10 = .ok (.ifCond .ne 5, 3)) ∧ (decode cX3_drawFraction 13 = .ok (.iconst 1, 1)) ∧ (decode cX3_drawFraction 14 = .ok (.ireturn, 1)) ∧ (decode cX3_drawFraction 15 = .ok (.lload 5, 2)) ∧ (decode cX3_drawFraction 17 = .ok (.lconst 0, 1)) ∧ (decode cX3_drawFraction 18 = .ok (.lcmp, 1)) := by decide +kernel
theorem dX3_drawFraction_0 : decode cX3_drawFraction 0 = .ok (.aload_n 0, 1) := bdX3_drawFraction_0.1
theorem dX3_drawFraction_1 : decode cX3_drawFraction 1 = .ok (.iconst 0, 1) := bdX3_drawFraction_0.2.1
theorem dX3_drawFraction_2 : decode cX3_drawFraction 2 = .ok (.putfield 46, 3) := bdX3_drawFraction_0.2.2.1
theorem dX3_drawFraction_5 : decode cX3_drawFraction 5 = .ok (.lload 5, 2) := bdX3_drawFraction_0.2.2.2.1
theorem dX3_drawFraction_7 : decode cX3_drawFraction 7 = .ok (.lload 7, 2) := bdX3_drawFraction_0.2.2.2.2.1
theorem dX3_drawFraction_9 : decode cX3_drawFraction 9 = .ok (.lcmp, 1) := bdX3_drawFraction_0.2.2.2.2.2.1
theorem dX3_drawFraction_10 : decode cX3_drawFraction 10 = .ok (.ifCond .ne 5, 3) := bdX3_drawFraction_0.2.2.2.2.2.2.1
theorem dX3_drawFraction_13 : decode cX3_drawFraction 13 = .ok (.iconst 1, 1) := bdX3_drawFraction_0.2.2.2.2.2.2.2.1
theorem dX3_drawFraction_14 : decode cX3_drawFraction 14 = .ok (.ireturn, 1) := bdX3_drawFraction_0.2.2.2.2.2.2.2.2.1
theorem dX3_drawFraction_15 : decode cX3_drawFraction 15 = .ok (.lload 5, 2) := bdX3_drawFraction_0.2.2.2.2.2.2.2.2.2.1
theorem dX3_drawFraction_17 : decode cX3_drawFraction 17 = .ok (.lconst 0, 1) := bdX3_drawFraction_0.2.2.2.2.2.2.2.2.2.2.1
theorem dX3_drawFraction_18 : decode cX3_drawFraction 18 = .ok (.lcmp, 1) := bdX3_drawFraction_0.2.2.2.2.2.2.2.2.2.2.2
set_option maxRecDepth 20000 in
theorem bdX3_drawFraction_19 : (decode cX3_drawFraction 19 = .ok (.ifCond .ne 5, 3)) ∧ (decode cX3_drawFraction 22 = .ok (.iconst 0, 1)) ∧ (decode cX3_drawFraction 23 = .ok (.ireturn, 1)) ∧ (decode cX3_drawFraction 24 = .ok (.aload_n 0, 1)) ∧ (decode cX3_drawFraction 25 = .ok (.lload_n 1, 1)) ∧ (decode cX3_drawFraction 26 = .ok (.iload_n 3, 1)) ∧ (decode cX3_drawFraction 27 = .ok (.invokevirtual 67, 3)) ∧ (decode cX3_drawFraction 30 = .ok (.lstore 9, 2)) ∧ (decode cX3_drawFraction 32 = .ok (.iload 4, 2)) ∧ (decode cX3_drawFraction 34 = .ok (.invokestatic 149, 3)) ∧ (decode cX3_drawFraction 37 = .ok (.lstore 11, 2)) ∧ (decode cX3_drawFraction 39 = .ok (.lload 5, 2)) := by decide +kernel
theorem dX3_drawFraction_19 : decode cX3_drawFraction 19 = .ok (.ifCond .ne 5, 3) := bdX3_drawFraction_19.1
theorem dX3_drawFraction_22 : decode cX3_drawFraction 22 = .ok (.iconst 0, 1) := bdX3_drawFraction_19.2.1
theorem dX3_drawFraction_23 : decode cX3_drawFraction 23 = .ok (.ireturn, 1) := bdX3_drawFraction_19.2.2.1
theorem dX3_drawFraction_24 : decode cX3_drawFraction 24 = .ok (.aload_n 0, 1) := bdX3_drawFraction_19.2.2.2.1
theorem dX3_drawFraction_25 : decode cX3_drawFraction 25 = .ok (.lload_n 1, 1) := bdX3_drawFraction_19.2.2.2.2.1
theorem dX3_drawFraction_26 : decode cX3_drawFraction 26 = .ok (.iload_n 3, 1) := bdX3_drawFraction_19.2.2.2.2.2.1
theorem dX3_drawFraction_27 : decode cX3_drawFraction 27 = .ok (.invokevirtual 67, 3) := bdX3_drawFraction_19.2.2.2.2.2.2.1
theorem dX3_drawFraction_30 : decode cX3_drawFraction 30 = .ok (.lstore 9, 2) := bdX3_drawFraction_19.2.2.2.2.2.2.2.1
theorem dX3_drawFraction_32 : decode cX3_drawFraction 32 = .ok (.iload 4, 2) := bdX3_drawFraction_19.2.2.2.2.2.2.2.2.1
theorem dX3_drawFraction_34 : decode cX3_drawFraction 34 = .ok (.invokestatic 149, 3) := bdX3_drawFraction_19.2.2.2.2.2.2.2.2.2.1
theorem dX3_drawFraction_37 : decode cX3_drawFraction 37 = .ok (.lstore 11, 2) := bdX3_drawFraction_19.2.2.2.2.2.2.2.2.2.2.1
theorem dX3_drawFraction_39 : decode cX3_drawFraction 39 = .ok (.lload 5, 2) := bdX3_drawFraction_19.2.2.2.2.2.2.2.2.2.2.2
set_option maxRecDepth 20000 in
theorem bdX3_drawFraction_41 : (decode cX3_drawFraction 41 = .ok (.lstore 13, 2)) ∧ (decode cX3_drawFraction 43 = .ok (.iconst 0, 1)) ∧ (decode cX3_drawFraction 44 = .ok (.istore 15, 2)) ∧ (decode cX3_drawFraction 46 = .ok (.iload 15, 2)) ∧ (decode cX3_drawFraction 48 = .ok (.bipush 32, 2)) ∧ (decode cX3_drawFraction 50 = .ok (.if_icmp .ge 134, 3)) ∧ (decode cX3_drawFraction 53 = .ok (.lload 9, 2)) ∧ (decode cX3_drawFraction 55 = .ok (.lload 11, 2)) ∧ (decode cX3_drawFraction 57 = .ok (.iload 15, 2)) ∧ (decode cX3_drawFraction 59 = .ok (.i2l, 1)) ∧ (decode cX3_drawFraction 60 = .ok (.ladd, 1)) ∧ (decode cX3_drawFraction 61 = .ok (.invokestatic 71, 3)) := by decide +kernel
theorem dX3_drawFraction_41 : decode cX3_drawFraction 41 = .ok (.lstore 13, 2) := bdX3_drawFraction_41.1
theorem dX3_drawFraction_43 : decode cX3_drawFraction 43 = .ok (.iconst 0, 1) := bdX3_drawFraction_41.2.1
theorem dX3_drawFraction_44 : decode cX3_drawFraction 44 = .ok (.istore 15, 2) := bdX3_drawFraction_41.2.2.1
theorem dX3_drawFraction_46 : decode cX3_drawFraction 46 = .ok (.iload 15, 2) := bdX3_drawFraction_41.2.2.2.1
theorem dX3_drawFraction_48 : decode cX3_drawFraction 48 = .ok (.bipush 32, 2) := bdX3_drawFraction_41.2.2.2.2.1
