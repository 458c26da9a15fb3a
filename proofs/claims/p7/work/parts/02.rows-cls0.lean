set_option maxRecDepth 20000 in
theorem bdX0_init_0 : (decode cX0_init 0 = .ok (.aload_n 0, 1)) ∧ (decode cX0_init 1 = .ok (.invokespecial 1, 3)) ∧ (decode cX0_init 4 = .ok (.aload_n 0, 1)) ∧ (decode cX0_init 5 = .ok (.iconst 0, 1)) ∧ (decode cX0_init 6 = .ok (.putfield 7, 3)) ∧ (decode cX0_init 9 = .ok (.aload_n 0, 1)) ∧ (decode cX0_init 10 = .ok (.iconst 0, 1)) ∧ (decode cX0_init 11 = .ok (.putfield 13, 3)) ∧ (decode cX0_init 14 = .ok (.aload_n 0, 1)) ∧ (decode cX0_init 15 = .ok (.iconst 0, 1)) ∧ (decode cX0_init 16 = .ok (.putfield 16, 3)) ∧ (decode cX0_init 19 = .ok (.return_, 1)) := by decide +kernel
theorem dX0_init_0 : decode cX0_init 0 = .ok (.aload_n 0, 1) := bdX0_init_0.1
theorem dX0_init_1 : decode cX0_init 1 = .ok (.invokespecial 1, 3) := bdX0_init_0.2.1
theorem dX0_init_4 : decode cX0_init 4 = .ok (.aload_n 0, 1) := bdX0_init_0.2.2.1
theorem dX0_init_5 : decode cX0_init 5 = .ok (.iconst 0, 1) := bdX0_init_0.2.2.2.1
theorem dX0_init_6 : decode cX0_init 6 = .ok (.putfield 7, 3) := bdX0_init_0.2.2.2.2.1
theorem dX0_init_9 : decode cX0_init 9 = .ok (.aload_n 0, 1) := bdX0_init_0.2.2.2.2.2.1
theorem dX0_init_10 : decode cX0_init 10 = .ok (.iconst 0, 1) := bdX0_init_0.2.2.2.2.2.2.1
theorem dX0_init_11 : decode cX0_init 11 = .ok (.putfield 13, 3) := bdX0_init_0.2.2.2.2.2.2.2.1
theorem dX0_init_14 : decode cX0_init 14 = .ok (.aload_n 0, 1) := bdX0_init_0.2.2.2.2.2.2.2.2.1
theorem dX0_init_15 : decode cX0_init 15 = .ok (.iconst 0, 1) := bdX0_init_0.2.2.2.2.2.2.2.2.2.1
theorem dX0_init_16 : decode cX0_init 16 = .ok (.putfield 16, 3) := bdX0_init_0.2.2.2.2.2.2.2.2.2.2.1
theorem dX0_init_19 : decode cX0_init 19 = .ok (.return_, 1) := bdX0_init_0.2.2.2.2.2.2.2.2.2.2.2
set_option maxRecDepth 20000 in
theorem bdX1_init_0 : (decode cX1_init 0 = .ok (.aload_n 0, 1)) ∧ (decode cX1_init 1 = .ok (.invokespecial 3, 3)) ∧ (decode cX1_init 4 = .ok (.aload_n 0, 1)) ∧ (decode cX1_init 5 = .ok (.bipush 96, 2)) ∧ (decode cX1_init 7 = .ok (.newarray .long, 2)) ∧ (decode cX1_init 9 = .ok (.putfield 9, 3)) ∧ (decode cX1_init 12 = .ok (.aload_n 0, 1)) ∧ (decode cX1_init 13 = .ok (.bipush 24, 2)) ∧ (decode cX1_init 15 = .ok (.newarray .int, 2)) ∧ (decode cX1_init 17 = .ok (.putfield 15, 3)) ∧ (decode cX1_init 20 = .ok (.aload_n 0, 1)) ∧ (decode cX1_init 21 = .ok (.bipush 24, 2)) := by decide +kernel
theorem dX1_init_0 : decode cX1_init 0 = .ok (.aload_n 0, 1) := bdX1_init_0.1
theorem dX1_init_1 : decode cX1_init 1 = .ok (.invokespecial 3, 3) := bdX1_init_0.2.1
theorem dX1_init_4 : decode cX1_init 4 = .ok (.aload_n 0, 1) := bdX1_init_0.2.2.1
theorem dX1_init_5 : decode cX1_init 5 = .ok (.bipush 96, 2) := bdX1_init_0.2.2.2.1
theorem dX1_init_7 : decode cX1_init 7 = .ok (.newarray .long, 2) := bdX1_init_0.2.2.2.2.1
theorem dX1_init_9 : decode cX1_init 9 = .ok (.putfield 9, 3) := bdX1_init_0.2.2.2.2.2.1
theorem dX1_init_12 : decode cX1_init 12 = .ok (.aload_n 0, 1) := bdX1_init_0.2.2.2.2.2.2.1
theorem dX1_init_13 : decode cX1_init 13 = .ok (.bipush 24, 2) := bdX1_init_0.2.2.2.2.2.2.2.1
theorem dX1_init_15 : decode cX1_init 15 = .ok (.newarray .int, 2) := bdX1_init_0.2.2.2.2.2.2.2.2.1
theorem dX1_init_17 : decode cX1_init 17 = .ok (.putfield 15, 3) := bdX1_init_0.2.2.2.2.2.2.2.2.2.1
theorem dX1_init_20 : decode cX1_init 20 = .ok (.aload_n 0, 1) := bdX1_init_0.2.2.2.2.2.2.2.2.2.2.1
theorem dX1_init_21 : decode cX1_init 21 = .ok (.bipush 24, 2) := bdX1_init_0.2.2.2.2.2.2.2.2.2.2.2
set_option maxRecDepth 20000 in
theorem bdX1_init_23 : (decode cX1_init 23 = .ok (.newarray .long, 2)) ∧ (decode cX1_init 25 = .ok (.putfield 19, 3)) ∧ (decode cX1_init 28 = .ok (.aload_n 0, 1)) ∧ (decode cX1_init 29 = .ok (.iconst 4, 1)) ∧ (decode cX1_init 30 = .ok (.newarray .long, 2)) ∧ (decode cX1_init 32 = .ok (.putfield 22, 3)) ∧ (decode cX1_init 35 = .ok (.aload_n 0, 1)) ∧ (decode cX1_init 36 = .ok (.iconst 0, 1)) ∧ (decode cX1_init 37 = .ok (.putfield 25, 3)) ∧ (decode cX1_init 40 = .ok (.return_, 1)) := by decide +kernel
theorem dX1_init_23 : decode cX1_init 23 = .ok (.newarray .long, 2) := bdX1_init_23.1
theorem dX1_init_25 : decode cX1_init 25 = .ok (.putfield 19, 3) := bdX1_init_23.2.1
theorem dX1_init_28 : decode cX1_init 28 = .ok (.aload_n 0, 1) := bdX1_init_23.2.2.1
theorem dX1_init_29 : decode cX1_init 29 = .ok (.iconst 4, 1) := bdX1_init_23.2.2.2.1
theorem dX1_init_30 : decode cX1_init 30 = .ok (.newarray .long, 2) := bdX1_init_23.2.2.2.2.1
theorem dX1_init_32 : decode cX1_init 32 = .ok (.putfield 22, 3) := bdX1_init_23.2.2.2.2.2.1
theorem dX1_init_35 : decode cX1_init 35 = .ok (.aload_n 0, 1) := bdX1_init_23.2.2.2.2.2.2.1
theorem dX1_init_36 : decode cX1_init 36 = .ok (.iconst 0, 1) := bdX1_init_23.2.2.2.2.2.2.2.1
theorem dX1_init_37 : decode cX1_init 37 = .ok (.putfield 25, 3) := bdX1_init_23.2.2.2.2.2.2.2.2.1
theorem dX1_init_40 : decode cX1_init 40 = .ok (.return_, 1) := bdX1_init_23.2.2.2.2.2.2.2.2.2
set_option maxRecDepth 20000 in
theorem bdX1_has_0 : (decode cX1_has 0 = .ok (.iload_n 1, 1)) ∧ (decode cX1_has 1 = .ok (.ifCond .lt 15, 3)) ∧ (decode cX1_has 4 = .ok (.iload_n 1, 1)) ∧ (decode cX1_has 5 = .ok (.aload_n 0, 1)) ∧ (decode cX1_has 6 = .ok (.getfield 25, 3)) ∧ (decode cX1_has 9 = .ok (.if_icmp .ge 7, 3)) ∧ (decode cX1_has 12 = .ok (.iconst 1, 1)) ∧ (decode cX1_has 13 = .ok (.goto 4, 3)) ∧ (decode cX1_has 16 = .ok (.iconst 0, 1)) ∧ (decode cX1_has 17 = .ok (.ireturn, 1)) := by decide +kernel
theorem dX1_has_0 : decode cX1_has 0 = .ok (.iload_n 1, 1) := bdX1_has_0.1
theorem dX1_has_1 : decode cX1_has 1 = .ok (.ifCond .lt 15, 3) := bdX1_has_0.2.1
theorem dX1_has_4 : decode cX1_has 4 = .ok (.iload_n 1, 1) := bdX1_has_0.2.2.1
theorem dX1_has_5 : decode cX1_has 5 = .ok (.aload_n 0, 1) := bdX1_has_0.2.2.2.1
theorem dX1_has_6 : decode cX1_has 6 = .ok (.getfield 25, 3) := bdX1_has_0.2.2.2.2.1
theorem dX1_has_9 : decode cX1_has 9 = .ok (.if_icmp .ge 7, 3) := bdX1_has_0.2.2.2.2.2.1
theorem dX1_has_12 : decode cX1_has 12 = .ok (.iconst 1, 1) := bdX1_has_0.2.2.2.2.2.2.1
theorem dX1_has_13 : decode cX1_has 13 = .ok (.goto 4, 3) := bdX1_has_0.2.2.2.2.2.2.2.1
theorem dX1_has_16 : decode cX1_has 16 = .ok (.iconst 0, 1) := bdX1_has_0.2.2.2.2.2.2.2.2.1
theorem dX1_has_17 : decode cX1_has 17 = .ok (.ireturn, 1) := bdX1_has_0.2.2.2.2.2.2.2.2.2
set_option maxRecDepth 20000 in
theorem ggX1_enter_X1_isLike : GoodIn wsX1_enter wsX1_isLike := goodIn_r _ [6, 7, 8, 20, 21, 22, 23, 24] (by decide +kernel) (by decide +kernel)
set_option maxRecDepth 20000 in
theorem gX1_enter_X1_isLike : GoodIn wsX1_enter (wsV RX1 29 RX1 yX1_isLike wsX1_isLike) := goodIn_app (goodIn_of _ (by decide +kernel)) ggX1_enter_X1_isLike
set_option maxRecDepth 20000 in
theorem ggX1_enter_X1_add : GoodIn wsX1_enter wsX1_add := goodIn_r _ [12, 1, 8, 13, 7, 14, 15, 16, 17, 18, 19, 20, 21, 22, 23, 24] (by decide +kernel) (by decide +kernel)
set_option maxRecDepth 20000 in
theorem gX1_enter_X1_add : GoodIn wsX1_enter (wsV RX1 33 RX1 yX1_add wsX1_add) := goodIn_app (goodIn_of _ (by decide +kernel)) ggX1_enter_X1_add
set_option maxRecDepth 20000 in
theorem bdX1_enter_0 : (decode cX1_enter 0 = .ok (.iconst 0, 1)) ∧ (decode cX1_enter 1 = .ok (.istore_n 3, 1)) ∧ (decode cX1_enter 2 = .ok (.iload_n 3, 1)) ∧ (decode cX1_enter 3 = .ok (.aload_n 0, 1)) ∧ (decode cX1_enter 4 = .ok (.getfield 25, 3)) ∧ (decode cX1_enter 7 = .ok (.if_icmp .ge 21, 3)) ∧ (decode cX1_enter 10 = .ok (.aload_n 0, 1)) ∧ (decode cX1_enter 11 = .ok (.iload_n 3, 1)) ∧ (decode cX1_enter 12 = .ok (.aload_n 1, 1)) ∧ (decode cX1_enter 13 = .ok (.iload_n 2, 1)) ∧ (decode cX1_enter 14 = .ok (.invokevirtual 29, 3)) ∧ (decode cX1_enter 17 = .ok (.ifCond .eq 5, 3)) := by decide +kernel
theorem dX1_enter_0 : decode cX1_enter 0 = .ok (.iconst 0, 1) := bdX1_enter_0.1
theorem dX1_enter_1 : decode cX1_enter 1 = .ok (.istore_n 3, 1) := bdX1_enter_0.2.1
theorem dX1_enter_2 : decode cX1_enter 2 = .ok (.iload_n 3, 1) := bdX1_enter_0.2.2.1
theorem dX1_enter_3 : decode cX1_enter 3 = .ok (.aload_n 0, 1) := bdX1_enter_0.2.2.2.1
theorem dX1_enter_4 : decode cX1_enter 4 = .ok (.getfield 25, 3) := bdX1_enter_0.2.2.2.2.1
theorem dX1_enter_7 : decode cX1_enter 7 = .ok (.if_icmp .ge 21, 3) := bdX1_enter_0.2.2.2.2.2.1
theorem dX1_enter_10 : decode cX1_enter 10 = .ok (.aload_n 0, 1) := bdX1_enter_0.2.2.2.2.2.2.1
theorem dX1_enter_11 : decode cX1_enter 11 = .ok (.iload_n 3, 1) := bdX1_enter_0.2.2.2.2.2.2.2.1
theorem dX1_enter_12 : decode cX1_enter 12 = .ok (.aload_n 1, 1) := bdX1_enter_0.2.2.2.2.2.2.2.2.1
theorem dX1_enter_13 : decode cX1_enter 13 = .ok (.iload_n 2, 1) := bdX1_enter_0.2.2.2.2.2.2.2.2.2.1
theorem dX1_enter_14 : decode cX1_enter 14 = .ok (.invokevirtual 29, 3) := bdX1_enter_0.2.2.2.2.2.2.2.2.2.2.1
theorem dX1_enter_17 : decode cX1_enter 17 = .ok (.ifCond .eq 5, 3) := bdX1_enter_0.2.2.2.2.2.2.2.2.2.2.2
set_option maxRecDepth 20000 in
theorem bdX1_enter_20 : (decode cX1_enter 20 = .ok (.iload_n 3, 1)) ∧ (decode cX1_enter 21 = .ok (.ireturn, 1)) ∧ (decode cX1_enter 22 = .ok (.iinc 3 1, 3)) ∧ (decode cX1_enter 25 = .ok (.goto (-23), 3)) ∧ (decode cX1_enter 28 = .ok (.aload_n 0, 1)) ∧ (decode cX1_enter 29 = .ok (.getfield 25, 3)) ∧ (decode cX1_enter 32 = .ok (.bipush 24, 2)) ∧ (decode cX1_enter 34 = .ok (.if_icmp .lt 8, 3)) ∧ (decode cX1_enter 37 = .ok (.bipush (-2), 2)) ∧ (decode cX1_enter 39 = .ok (.goto 9, 3)) ∧ (decode cX1_enter 42 = .ok (.aload_n 0, 1)) ∧ (decode cX1_enter 43 = .ok (.aload_n 1, 1)) := by decide +kernel
theorem dX1_enter_20 : decode cX1_enter 20 = .ok (.iload_n 3, 1) := bdX1_enter_20.1
theorem dX1_enter_21 : decode cX1_enter 21 = .ok (.ireturn, 1) := bdX1_enter_20.2.1
theorem dX1_enter_22 : decode cX1_enter 22 = .ok (.iinc 3 1, 3) := bdX1_enter_20.2.2.1
theorem dX1_enter_25 : decode cX1_enter 25 = .ok (.goto (-23), 3) := bdX1_enter_20.2.2.2.1
theorem dX1_enter_28 : decode cX1_enter 28 = .ok (.aload_n 0, 1) := bdX1_enter_20.2.2.2.2.1
theorem dX1_enter_29 : decode cX1_enter 29 = .ok (.getfield 25, 3) := bdX1_enter_20.2.2.2.2.2.1
theorem dX1_enter_32 : decode cX1_enter 32 = .ok (.bipush 24, 2) := bdX1_enter_20.2.2.2.2.2.2.1
theorem dX1_enter_34 : decode cX1_enter 34 = .ok (.if_icmp .lt 8, 3) := bdX1_enter_20.2.2.2.2.2.2.2.1
theorem dX1_enter_37 : decode cX1_enter 37 = .ok (.bipush (-2), 2) := bdX1_enter_20.2.2.2.2.2.2.2.2.1
theorem dX1_enter_39 : decode cX1_enter 39 = .ok (.goto 9, 3) := bdX1_enter_20.2.2.2.2.2.2.2.2.2.1
theorem dX1_enter_42 : decode cX1_enter 42 = .ok (.aload_n 0, 1) := bdX1_enter_20.2.2.2.2.2.2.2.2.2.2.1
theorem dX1_enter_43 : decode cX1_enter 43 = .ok (.aload_n 1, 1) := bdX1_enter_20.2.2.2.2.2.2.2.2.2.2.2
set_option maxRecDepth 20000 in
theorem bdX1_enter_44 : (decode cX1_enter 44 = .ok (.iload_n 2, 1)) ∧ (decode cX1_enter 45 = .ok (.invokevirtual 33, 3)) ∧ (decode cX1_enter 48 = .ok (.ireturn, 1)) := by decide +kernel
theorem dX1_enter_44 : decode cX1_enter 44 = .ok (.iload_n 2, 1) := bdX1_enter_44.1
theorem dX1_enter_45 : decode cX1_enter 45 = .ok (.invokevirtual 33, 3) := bdX1_enter_44.2.1
theorem dX1_enter_48 : decode cX1_enter 48 = .ok (.ireturn, 1) := bdX1_enter_44.2.2
set_option maxRecDepth 20000 in
theorem ggX1_enterChild_X1_enter : GoodIn wsX1_enterChild wsX1_enter := goodIn_r _ [8, 9, 10, 11, 12, 7, 13, 1, 3, 14, 15, 16, 17, 18, 19, 20, 21, 22, 23, 24, 25, 26, 27, 28, 29] (by decide +kernel) (by decide +kernel)
set_option maxRecDepth 20000 in
theorem gX1_enterChild_X1_enter : GoodIn wsX1_enterChild (wsV RX1 37 RX1 yX1_enter wsX1_enter) := goodIn_app (goodIn_of _ (by decide +kernel)) ggX1_enterChild_X1_enter
set_option maxRecDepth 20000 in
theorem bdX1_enterChild_0 : (decode cX1_enterChild 0 = .ok (.aload_n 0, 1)) ∧ (decode cX1_enterChild 1 = .ok (.getfield 15, 3)) ∧ (decode cX1_enterChild 4 = .ok (.iload_n 1, 1)) ∧ (decode cX1_enterChild 5 = .ok (.iaload, 1)) ∧ (decode cX1_enterChild 6 = .ok (.istore 4, 2)) ∧ (decode cX1_enterChild 8 = .ok (.iload 4, 2)) ∧ (decode cX1_enterChild 10 = .ok (.iconst 4, 1)) ∧ (decode cX1_enterChild 11 = .ok (.if_icmp .lt 6, 3)) ∧ (decode cX1_enterChild 14 = .ok (.bipush (-2), 2)) ∧ (decode cX1_enterChild 16 = .ok (.ireturn, 1)) ∧ (decode cX1_enterChild 17 = .ok (.iconst 0, 1)) ∧ (decode cX1_enterChild 18 = .ok (.istore 5, 2)) := by decide +kernel
theorem dX1_enterChild_0 : decode cX1_enterChild 0 = .ok (.aload_n 0, 1) := bdX1_enterChild_0.1
theorem dX1_enterChild_1 : decode cX1_enterChild 1 = .ok (.getfield 15, 3) := bdX1_enterChild_0.2.1
theorem dX1_enterChild_4 : decode cX1_enterChild 4 = .ok (.iload_n 1, 1) := bdX1_enterChild_0.2.2.1
theorem dX1_enterChild_5 : decode cX1_enterChild 5 = .ok (.iaload, 1) := bdX1_enterChild_0.2.2.2.1
theorem dX1_enterChild_6 : decode cX1_enterChild 6 = .ok (.istore 4, 2) := bdX1_enterChild_0.2.2.2.2.1
theorem dX1_enterChild_8 : decode cX1_enterChild 8 = .ok (.iload 4, 2) := bdX1_enterChild_0.2.2.2.2.2.1
theorem dX1_enterChild_10 : decode cX1_enterChild 10 = .ok (.iconst 4, 1) := bdX1_enterChild_0.2.2.2.2.2.2.1
theorem dX1_enterChild_11 : decode cX1_enterChild 11 = .ok (.if_icmp .lt 6, 3) := bdX1_enterChild_0.2.2.2.2.2.2.2.1
theorem dX1_enterChild_14 : decode cX1_enterChild 14 = .ok (.bipush (-2), 2) := bdX1_enterChild_0.2.2.2.2.2.2.2.2.1
theorem dX1_enterChild_16 : decode cX1_enterChild 16 = .ok (.ireturn, 1) := bdX1_enterChild_0.2.2.2.2.2.2.2.2.2.1
theorem dX1_enterChild_17 : decode cX1_enterChild 17 = .ok (.iconst 0, 1) := bdX1_enterChild_0.2.2.2.2.2.2.2.2.2.2.1
theorem dX1_enterChild_18 : decode cX1_enterChild 18 = .ok (.istore 5, 2) := bdX1_enterChild_0.2.2.2.2.2.2.2.2.2.2.2
set_option maxRecDepth 20000 in
theorem bdX1_enterChild_20 : (decode cX1_enterChild 20 = .ok (.iload 5, 2)) ∧ (decode cX1_enterChild 22 = .ok (.iload 4, 2)) ∧ (decode cX1_enterChild 24 = .ok (.if_icmp .ge 27, 3)) ∧ (decode cX1_enterChild 27 = .ok (.aload_n 0, 1)) ∧ (decode cX1_enterChild 28 = .ok (.getfield 22, 3)) ∧ (decode cX1_enterChild 31 = .ok (.iload 5, 2)) ∧ (decode cX1_enterChild 33 = .ok (.aload_n 0, 1)) ∧ (decode cX1_enterChild 34 = .ok (.getfield 9, 3)) ∧ (decode cX1_enterChild 37 = .ok (.iload_n 1, 1)) ∧ (decode cX1_enterChild 38 = .ok (.iconst 4, 1)) ∧ (decode cX1_enterChild 39 = .ok (.imul, 1)) ∧ (decode cX1_enterChild 40 = .ok (.iload 5, 2)) := by decide +kernel
theorem dX1_enterChild_20 : decode cX1_enterChild 20 = .ok (.iload 5, 2) := bdX1_enterChild_20.1
theorem dX1_enterChild_22 : decode cX1_enterChild 22 = .ok (.iload 4, 2) := bdX1_enterChild_20.2.1
theorem dX1_enterChild_24 : decode cX1_enterChild 24 = .ok (.if_icmp .ge 27, 3) := bdX1_enterChild_20.2.2.1
theorem dX1_enterChild_27 : decode cX1_enterChild 27 = .ok (.aload_n 0, 1) := bdX1_enterChild_20.2.2.2.1
theorem dX1_enterChild_28 : decode cX1_enterChild 28 = .ok (.getfield 22, 3) := bdX1_enterChild_20.2.2.2.2.1
theorem dX1_enterChild_31 : decode cX1_enterChild 31 = .ok (.iload 5, 2) := bdX1_enterChild_20.2.2.2.2.2.1
theorem dX1_enterChild_33 : decode cX1_enterChild 33 = .ok (.aload_n 0, 1) := bdX1_enterChild_20.2.2.2.2.2.2.1
theorem dX1_enterChild_34 : decode cX1_enterChild 34 = .ok (.getfield 9, 3) := bdX1_enterChild_20.2.2.2.2.2.2.2.1
theorem dX1_enterChild_37 : decode cX1_enterChild 37 = .ok (.iload_n 1, 1) := bdX1_enterChild_20.2.2.2.2.2.2.2.2.1
theorem dX1_enterChild_38 : decode cX1_enterChild 38 = .ok (.iconst 4, 1) := bdX1_enterChild_20.2.2.2.2.2.2.2.2.2.1
theorem dX1_enterChild_39 : decode cX1_enterChild 39 = .ok (.imul, 1) := bdX1_enterChild_20.2.2.2.2.2.2.2.2.2.2.1
theorem dX1_enterChild_40 : decode cX1_enterChild 40 = .ok (.iload 5, 2) := bdX1_enterChild_20.2.2.2.2.2.2.2.2.2.2.2
set_option maxRecDepth 20000 in
theorem bdX1_enterChild_42 : (decode cX1_enterChild 42 = .ok (.iadd, 1)) ∧ (decode cX1_enterChild 43 = .ok (.laload, 1)) ∧ (decode cX1_enterChild 44 = .ok (.lastore, 1)) ∧ (decode cX1_enterChild 45 = .ok (.iinc 5 1, 3)) ∧ (decode cX1_enterChild 48 = .ok (.goto (-28), 3)) ∧ (decode cX1_enterChild 51 = .ok (.aload_n 0, 1)) ∧ (decode cX1_enterChild 52 = .ok (.getfield 22, 3)) ∧ (decode cX1_enterChild 55 = .ok (.iload 4, 2)) ∧ (decode cX1_enterChild 57 = .ok (.lload_n 2, 1)) ∧ (decode cX1_enterChild 58 = .ok (.lastore, 1)) ∧ (decode cX1_enterChild 59 = .ok (.aload_n 0, 1)) ∧ (decode cX1_enterChild 60 = .ok (.aload_n 0, 1)) := by decide +kernel
theorem dX1_enterChild_42 : decode cX1_enterChild 42 = .ok (.iadd, 1) := bdX1_enterChild_42.1
theorem dX1_enterChild_43 : decode cX1_enterChild 43 = .ok (.laload, 1) := bdX1_enterChild_42.2.1
theorem dX1_enterChild_44 : decode cX1_enterChild 44 = .ok (.lastore, 1) := bdX1_enterChild_42.2.2.1
theorem dX1_enterChild_45 : decode cX1_enterChild 45 = .ok (.iinc 5 1, 3) := bdX1_enterChild_42.2.2.2.1
theorem dX1_enterChild_48 : decode cX1_enterChild 48 = .ok (.goto (-28), 3) := bdX1_enterChild_42.2.2.2.2.1
theorem dX1_enterChild_51 : decode cX1_enterChild 51 = .ok (.aload_n 0, 1) := bdX1_enterChild_42.2.2.2.2.2.1
theorem dX1_enterChild_52 : decode cX1_enterChild 52 = .ok (.getfield 22, 3) := bdX1_enterChild_42.2.2.2.2.2.2.1
theorem dX1_enterChild_55 : decode cX1_enterChild 55 = .ok (.iload 4, 2) := bdX1_enterChild_42.2.2.2.2.2.2.2.1
theorem dX1_enterChild_57 : decode cX1_enterChild 57 = .ok (.lload_n 2, 1) := bdX1_enterChild_42.2.2.2.2.2.2.2.2.1
theorem dX1_enterChild_58 : decode cX1_enterChild 58 = .ok (.lastore, 1) := bdX1_enterChild_42.2.2.2.2.2.2.2.2.2.1
theorem dX1_enterChild_59 : decode cX1_enterChild 59 = .ok (.aload_n 0, 1) := bdX1_enterChild_42.2.2.2.2.2.2.2.2.2.2.1
theorem dX1_enterChild_60 : decode cX1_enterChild 60 = .ok (.aload_n 0, 1) := bdX1_enterChild_42.2.2.2.2.2.2.2.2.2.2.2
set_option maxRecDepth 20000 in
theorem bdX1_enterChild_61 : (decode cX1_enterChild 61 = .ok (.getfield 22, 3)) ∧ (decode cX1_enterChild 64 = .ok (.iload 4, 2)) ∧ (decode cX1_enterChild 66 = .ok (.iconst 1, 1)) ∧ (decode cX1_enterChild 67 = .ok (.iadd, 1)) ∧ (decode cX1_enterChild 68 = .ok (.invokevirtual 37, 3)) ∧ (decode cX1_enterChild 71 = .ok (.ireturn, 1)) := by decide +kernel
theorem dX1_enterChild_61 : decode cX1_enterChild 61 = .ok (.getfield 22, 3) := bdX1_enterChild_61.1
theorem dX1_enterChild_64 : decode cX1_enterChild 64 = .ok (.iload 4, 2) := bdX1_enterChild_61.2.1
theorem dX1_enterChild_66 : decode cX1_enterChild 66 = .ok (.iconst 1, 1) := bdX1_enterChild_61.2.2.1
theorem dX1_enterChild_67 : decode cX1_enterChild 67 = .ok (.iadd, 1) := bdX1_enterChild_61.2.2.2.1
theorem dX1_enterChild_68 : decode cX1_enterChild 68 = .ok (.invokevirtual 37, 3) := bdX1_enterChild_61.2.2.2.2.1
theorem dX1_enterChild_71 : decode cX1_enterChild 71 = .ok (.ireturn, 1) := bdX1_enterChild_61.2.2.2.2.2
set_option maxRecDepth 20000 in
theorem bdX1_isLike_0 : (decode cX1_isLike 0 = .ok (.aload_n 0, 1)) ∧ (decode cX1_isLike 1 = .ok (.getfield 15, 3)) ∧ (decode cX1_isLike 4 = .ok (.iload_n 1, 1)) ∧ (decode cX1_isLike 5 = .ok (.iaload, 1)) ∧ (decode cX1_isLike 6 = .ok (.iload_n 3, 1)) ∧ (decode cX1_isLike 7 = .ok (.if_icmp .eq 5, 3)) ∧ (decode cX1_isLike 10 = .ok (.iconst 0, 1)) ∧ (decode cX1_isLike 11 = .ok (.ireturn, 1)) ∧ (decode cX1_isLike 12 = .ok (.iconst 0, 1)) ∧ (decode cX1_isLike 13 = .ok (.istore 4, 2)) ∧ (decode cX1_isLike 15 = .ok (.iload 4, 2)) ∧ (decode cX1_isLike 17 = .ok (.iload_n 3, 1)) := by decide +kernel
theorem dX1_isLike_0 : decode cX1_isLike 0 = .ok (.aload_n 0, 1) := bdX1_isLike_0.1
theorem dX1_isLike_1 : decode cX1_isLike 1 = .ok (.getfield 15, 3) := bdX1_isLike_0.2.1
theorem dX1_isLike_4 : decode cX1_isLike 4 = .ok (.iload_n 1, 1) := bdX1_isLike_0.2.2.1
theorem dX1_isLike_5 : decode cX1_isLike 5 = .ok (.iaload, 1) := bdX1_isLike_0.2.2.2.1
theorem dX1_isLike_6 : decode cX1_isLike 6 = .ok (.iload_n 3, 1) := bdX1_isLike_0.2.2.2.2.1
theorem dX1_isLike_7 : decode cX1_isLike 7 = .ok (.if_icmp .eq 5, 3) := bdX1_isLike_0.2.2.2.2.2.1
theorem dX1_isLike_10 : decode cX1_isLike 10 = .ok (.iconst 0, 1) := bdX1_isLike_0.2.2.2.2.2.2.1
theorem dX1_isLike_11 : decode cX1_isLike 11 = .ok (.ireturn, 1) := bdX1_isLike_0.2.2.2.2.2.2.2.1
theorem dX1_isLike_12 : decode cX1_isLike 12 = .ok (.iconst 0, 1) := bdX1_isLike_0.2.2.2.2.2.2.2.2.1
theorem dX1_isLike_13 : decode cX1_isLike 13 = .ok (.istore 4, 2) := bdX1_isLike_0.2.2.2.2.2.2.2.2.2.1
theorem dX1_isLike_15 : decode cX1_isLike 15 = .ok (.iload 4, 2) := bdX1_isLike_0.2.2.2.2.2.2.2.2.2.2.1
theorem dX1_isLike_17 : decode cX1_isLike 17 = .ok (.iload_n 3, 1) := bdX1_isLike_0.2.2.2.2.2.2.2.2.2.2.2
set_option maxRecDepth 20000 in
theorem bdX1_isLike_18 : (decode cX1_isLike 18 = .ok (.if_icmp .ge 30, 3)) ∧ (decode cX1_isLike 21 = .ok (.aload_n 0, 1)) ∧ (decode cX1_isLike 22 = .ok (.getfield 9, 3)) ∧ (decode cX1_isLike 25 = .ok (.iload_n 1, 1)) ∧ (decode cX1_isLike 26 = .ok (.iconst 4, 1)) ∧ (decode cX1_isLike 27 = .ok (.imul, 1)) ∧ (decode cX1_isLike 28 = .ok (.iload 4, 2)) ∧ (decode cX1_isLike 30 = .ok (.iadd, 1)) ∧ (decode cX1_isLike 31 = .ok (.laload, 1)) ∧ (decode cX1_isLike 32 = .ok (.aload_n 2, 1)) ∧ (decode cX1_isLike 33 = .ok (.iload 4, 2)) ∧ (decode cX1_isLike 35 = .ok (.laload, 1)) := by decide +kernel
theorem dX1_isLike_18 : decode cX1_isLike 18 = .ok (.if_icmp .ge 30, 3) := bdX1_isLike_18.1
theorem dX1_isLike_21 : decode cX1_isLike 21 = .ok (.aload_n 0, 1) := bdX1_isLike_18.2.1
theorem dX1_isLike_22 : decode cX1_isLike 22 = .ok (.getfield 9, 3) := bdX1_isLike_18.2.2.1
theorem dX1_isLike_25 : decode cX1_isLike 25 = .ok (.iload_n 1, 1) := bdX1_isLike_18.2.2.2.1
theorem dX1_isLike_26 : decode cX1_isLike 26 = .ok (.iconst 4, 1) := bdX1_isLike_18.2.2.2.2.1
theorem dX1_isLike_27 : decode cX1_isLike 27 = .ok (.imul, 1) := bdX1_isLike_18.2.2.2.2.2.1
theorem dX1_isLike_28 : decode cX1_isLike 28 = .ok (.iload 4, 2) := bdX1_isLike_18.2.2.2.2.2.2.1
theorem dX1_isLike_30 : decode cX1_isLike 30 = .ok (.iadd, 1) := bdX1_isLike_18.2.2.2.2.2.2.2.1
theorem dX1_isLike_31 : decode cX1_isLike 31 = .ok (.laload, 1) := bdX1_isLike_18.2.2.2.2.2.2.2.2.1
theorem dX1_isLike_32 : decode cX1_isLike 32 = .ok (.aload_n 2, 1) := bdX1_isLike_18.2.2.2.2.2.2.2.2.2.1
theorem dX1_isLike_33 : decode cX1_isLike 33 = .ok (.iload 4, 2) := bdX1_isLike_18.2.2.2.2.2.2.2.2.2.2.1
theorem dX1_isLike_35 : decode cX1_isLike 35 = .ok (.laload, 1) := bdX1_isLike_18.2.2.2.2.2.2.2.2.2.2.2
set_option maxRecDepth 20000 in
theorem bdX1_isLike_36 : (decode cX1_isLike 36 = .ok (.lcmp, 1)) ∧ (decode cX1_isLike 37 = .ok (.ifCond .eq 5, 3)) ∧ (decode cX1_isLike 40 = .ok (.iconst 0, 1)) ∧ (decode cX1_isLike 41 = .ok (.ireturn, 1)) ∧ (decode cX1_isLike 42 = .ok (.iinc 4 1, 3)) ∧ (decode cX1_isLike 45 = .ok (.goto (-30), 3)) ∧ (decode cX1_isLike 48 = .ok (.iconst 1, 1)) ∧ (decode cX1_isLike 49 = .ok (.ireturn, 1)) := by decide +kernel
theorem dX1_isLike_36 : decode cX1_isLike 36 = .ok (.lcmp, 1) := bdX1_isLike_36.1
theorem dX1_isLike_37 : decode cX1_isLike 37 = .ok (.ifCond .eq 5, 3) := bdX1_isLike_36.2.1
theorem dX1_isLike_40 : decode cX1_isLike 40 = .ok (.iconst 0, 1) := bdX1_isLike_36.2.2.1
theorem dX1_isLike_41 : decode cX1_isLike 41 = .ok (.ireturn, 1) := bdX1_isLike_36.2.2.2.1
theorem dX1_isLike_42 : decode cX1_isLike 42 = .ok (.iinc 4 1, 3) := bdX1_isLike_36.2.2.2.2.1
theorem dX1_isLike_45 : decode cX1_isLike 45 = .ok (.goto (-30), 3) := bdX1_isLike_36.2.2.2.2.2.1
theorem dX1_isLike_48 : decode cX1_isLike 48 = .ok (.iconst 1, 1) := bdX1_isLike_36.2.2.2.2.2.2.1
theorem dX1_isLike_49 : decode cX1_isLike 49 = .ok (.ireturn, 1) := bdX1_isLike_36.2.2.2.2.2.2.2
set_option maxRecDepth 20000 in
theorem ggX1_add_X3_mix : GoodIn wsX1_add wsX3_mix := goodIn_r _ [8, 9, 10] (by decide +kernel) (by decide +kernel)
set_option maxRecDepth 20000 in
theorem gX1_add_X3_mix_n42 : GoodIn wsX1_add (wsX3_mix) := ggX1_add_X3_mix
set_option maxRecDepth 20000 in
theorem bdX1_add_0 : (decode cX1_add 0 = .ok (.aload_n 0, 1)) ∧ (decode cX1_add 1 = .ok (.getfield 25, 3)) ∧ (decode cX1_add 4 = .ok (.istore_n 3, 1)) ∧ (decode cX1_add 5 = .ok (.lconst 0, 1)) ∧ (decode cX1_add 6 = .ok (.lstore 4, 2)) ∧ (decode cX1_add 8 = .ok (.iconst 0, 1)) ∧ (decode cX1_add 9 = .ok (.istore 6, 2)) ∧ (decode cX1_add 11 = .ok (.iload 6, 2)) ∧ (decode cX1_add 13 = .ok (.iload_n 2, 1)) ∧ (decode cX1_add 14 = .ok (.if_icmp .ge 40, 3)) ∧ (decode cX1_add 17 = .ok (.aload_n 0, 1)) ∧ (decode cX1_add 18 = .ok (.getfield 9, 3)) := by decide +kernel
theorem dX1_add_0 : decode cX1_add 0 = .ok (.aload_n 0, 1) := bdX1_add_0.1
theorem dX1_add_1 : decode cX1_add 1 = .ok (.getfield 25, 3) := bdX1_add_0.2.1
theorem dX1_add_4 : decode cX1_add 4 = .ok (.istore_n 3, 1) := bdX1_add_0.2.2.1
theorem dX1_add_5 : decode cX1_add 5 = .ok (.lconst 0, 1) := bdX1_add_0.2.2.2.1
theorem dX1_add_6 : decode cX1_add 6 = .ok (.lstore 4, 2) := bdX1_add_0.2.2.2.2.1
theorem dX1_add_8 : decode cX1_add 8 = .ok (.iconst 0, 1) := bdX1_add_0.2.2.2.2.2.1
theorem dX1_add_9 : decode cX1_add 9 = .ok (.istore 6, 2) := bdX1_add_0.2.2.2.2.2.2.1
theorem dX1_add_11 : decode cX1_add 11 = .ok (.iload 6, 2) := bdX1_add_0.2.2.2.2.2.2.2.1
theorem dX1_add_13 : decode cX1_add 13 = .ok (.iload_n 2, 1) := bdX1_add_0.2.2.2.2.2.2.2.2.1
theorem dX1_add_14 : decode cX1_add 14 = .ok (.if_icmp .ge 40, 3) := bdX1_add_0.2.2.2.2.2.2.2.2.2.1
theorem dX1_add_17 : decode cX1_add 17 = .ok (.aload_n 0, 1) := bdX1_add_0.2.2.2.2.2.2.2.2.2.2.1
theorem dX1_add_18 : decode cX1_add 18 = .ok (.getfield 9, 3) := bdX1_add_0.2.2.2.2.2.2.2.2.2.2.2
set_option maxRecDepth 20000 in
theorem bdX1_add_21 : (decode cX1_add 21 = .ok (.iload_n 3, 1)) ∧ (decode cX1_add 22 = .ok (.iconst 4, 1)) ∧ (decode cX1_add 23 = .ok (.imul, 1)) ∧ (decode cX1_add 24 = .ok (.iload 6, 2)) ∧ (decode cX1_add 26 = .ok (.iadd, 1)) ∧ (decode cX1_add 27 = .ok (.aload_n 1, 1)) ∧ (decode cX1_add 28 = .ok (.iload 6, 2)) ∧ (decode cX1_add 30 = .ok (.laload, 1)) ∧ (decode cX1_add 31 = .ok (.lastore, 1)) ∧ (decode cX1_add 32 = .ok (.lload 4, 2)) ∧ (decode cX1_add 34 = .ok (.ldc2_w 40, 3)) ∧ (decode cX1_add 37 = .ok (.ladd, 1)) := by decide +kernel
theorem dX1_add_21 : decode cX1_add 21 = .ok (.iload_n 3, 1) := bdX1_add_21.1
theorem dX1_add_22 : decode cX1_add 22 = .ok (.iconst 4, 1) := bdX1_add_21.2.1
theorem dX1_add_23 : decode cX1_add 23 = .ok (.imul, 1) := bdX1_add_21.2.2.1
theorem dX1_add_24 : decode cX1_add 24 = .ok (.iload 6, 2) := bdX1_add_21.2.2.2.1
theorem dX1_add_26 : decode cX1_add 26 = .ok (.iadd, 1) := bdX1_add_21.2.2.2.2.1
theorem dX1_add_27 : decode cX1_add 27 = .ok (.aload_n 1, 1) := bdX1_add_21.2.2.2.2.2.1
theorem dX1_add_28 : decode cX1_add 28 = .ok (.iload 6, 2) := bdX1_add_21.2.2.2.2.2.2.1
theorem dX1_add_30 : decode cX1_add 30 = .ok (.laload, 1) := bdX1_add_21.2.2.2.2.2.2.2.1
theorem dX1_add_31 : decode cX1_add 31 = .ok (.lastore, 1) := bdX1_add_21.2.2.2.2.2.2.2.2.1
theorem dX1_add_32 : decode cX1_add 32 = .ok (.lload 4, 2) := bdX1_add_21.2.2.2.2.2.2.2.2.2.1
theorem dX1_add_34 : decode cX1_add 34 = .ok (.ldc2_w 40, 3) := bdX1_add_21.2.2.2.2.2.2.2.2.2.2.1
theorem dX1_add_37 : decode cX1_add 37 = .ok (.ladd, 1) := bdX1_add_21.2.2.2.2.2.2.2.2.2.2.2
set_option maxRecDepth 20000 in
theorem bdX1_add_38 : (decode cX1_add 38 = .ok (.aload_n 1, 1)) ∧ (decode cX1_add 39 = .ok (.iload 6, 2)) ∧ (decode cX1_add 41 = .ok (.laload, 1)) ∧ (decode cX1_add 42 = .ok (.lxor, 1)) ∧ (decode cX1_add 43 = .ok (.invokestatic 42, 3)) ∧ (decode cX1_add 46 = .ok (.lstore 4, 2)) ∧ (decode cX1_add 48 = .ok (.iinc 6 1, 3)) ∧ (decode cX1_add 51 = .ok (.goto (-40), 3)) ∧ (decode cX1_add 54 = .ok (.aload_n 0, 1)) ∧ (decode cX1_add 55 = .ok (.getfield 15, 3)) ∧ (decode cX1_add 58 = .ok (.iload_n 3, 1)) ∧ (decode cX1_add 59 = .ok (.iload_n 2, 1)) := by decide +kernel
theorem dX1_add_38 : decode cX1_add 38 = .ok (.aload_n 1, 1) := bdX1_add_38.1
theorem dX1_add_39 : decode cX1_add 39 = .ok (.iload 6, 2) := bdX1_add_38.2.1
theorem dX1_add_41 : decode cX1_add 41 = .ok (.laload, 1) := bdX1_add_38.2.2.1
theorem dX1_add_42 : decode cX1_add 42 = .ok (.lxor, 1) := bdX1_add_38.2.2.2.1
theorem dX1_add_43 : decode cX1_add 43 = .ok (.invokestatic 42, 3) := bdX1_add_38.2.2.2.2.1
theorem dX1_add_46 : decode cX1_add 46 = .ok (.lstore 4, 2) := bdX1_add_38.2.2.2.2.2.1
theorem dX1_add_48 : decode cX1_add 48 = .ok (.iinc 6 1, 3) := bdX1_add_38.2.2.2.2.2.2.1
theorem dX1_add_51 : decode cX1_add 51 = .ok (.goto (-40), 3) := bdX1_add_38.2.2.2.2.2.2.2.1
theorem dX1_add_54 : decode cX1_add 54 = .ok (.aload_n 0, 1) := bdX1_add_38.2.2.2.2.2.2.2.2.1
theorem dX1_add_55 : decode cX1_add 55 = .ok (.getfield 15, 3) := bdX1_add_38.2.2.2.2.2.2.2.2.2.1
theorem dX1_add_58 : decode cX1_add 58 = .ok (.iload_n 3, 1) := bdX1_add_38.2.2.2.2.2.2.2.2.2.2.1
theorem dX1_add_59 : decode cX1_add 59 = .ok (.iload_n 2, 1) := bdX1_add_38.2.2.2.2.2.2.2.2.2.2.2
set_option maxRecDepth 20000 in
theorem bdX1_add_60 : (decode cX1_add 60 = .ok (.iastore, 1)) ∧ (decode cX1_add 61 = .ok (.aload_n 0, 1)) ∧ (decode cX1_add 62 = .ok (.getfield 19, 3)) ∧ (decode cX1_add 65 = .ok (.iload_n 3, 1)) ∧ (decode cX1_add 66 = .ok (.lload 4, 2)) ∧ (decode cX1_add 68 = .ok (.lastore, 1)) ∧ (decode cX1_add 69 = .ok (.aload_n 0, 1)) ∧ (decode cX1_add 70 = .ok (.dup, 1)) ∧ (decode cX1_add 71 = .ok (.getfield 25, 3)) ∧ (decode cX1_add 74 = .ok (.iconst 1, 1)) ∧ (decode cX1_add 75 = .ok (.iadd, 1)) ∧ (decode cX1_add 76 = .ok (.putfield 25, 3)) := by decide +kernel
theorem dX1_add_60 : decode cX1_add 60 = .ok (.iastore, 1) := bdX1_add_60.1
theorem dX1_add_61 : decode cX1_add 61 = .ok (.aload_n 0, 1) := bdX1_add_60.2.1
theorem dX1_add_62 : decode cX1_add 62 = .ok (.getfield 19, 3) := bdX1_add_60.2.2.1
theorem dX1_add_65 : decode cX1_add 65 = .ok (.iload_n 3, 1) := bdX1_add_60.2.2.2.1
theorem dX1_add_66 : decode cX1_add 66 = .ok (.lload 4, 2) := bdX1_add_60.2.2.2.2.1
theorem dX1_add_68 : decode cX1_add 68 = .ok (.lastore, 1) := bdX1_add_60.2.2.2.2.2.1
theorem dX1_add_69 : decode cX1_add 69 = .ok (.aload_n 0, 1) := bdX1_add_60.2.2.2.2.2.2.1
theorem dX1_add_70 : decode cX1_add 70 = .ok (.dup, 1) := bdX1_add_60.2.2.2.2.2.2.2.1
theorem dX1_add_71 : decode cX1_add 71 = .ok (.getfield 25, 3) := bdX1_add_60.2.2.2.2.2.2.2.2.1
theorem dX1_add_74 : decode cX1_add 74 = .ok (.iconst 1, 1) := bdX1_add_60.2.2.2.2.2.2.2.2.2.1
theorem dX1_add_75 : decode cX1_add 75 = .ok (.iadd, 1) := bdX1_add_60.2.2.2.2.2.2.2.2.2.2.1
theorem dX1_add_76 : decode cX1_add 76 = .ok (.putfield 25, 3) := bdX1_add_60.2.2.2.2.2.2.2.2.2.2.2
set_option maxRecDepth 20000 in
theorem bdX1_add_79 : (decode cX1_add 79 = .ok (.iload_n 3, 1)) ∧ (decode cX1_add 80 = .ok (.ireturn, 1)) := by decide +kernel
theorem dX1_add_79 : decode cX1_add 79 = .ok (.iload_n 3, 1) := bdX1_add_79.1
theorem dX1_add_80 : decode cX1_add 80 = .ok (.ireturn, 1) := bdX1_add_79.2
set_option maxRecDepth 20000 in
theorem bdX2_init_0 : (decode cX2_init 0 = .ok (.aload_n 0, 1)) ∧ (decode cX2_init 1 = .ok (.invokespecial 1, 3)) ∧ (decode cX2_init 4 = .ok (.aload_n 0, 1)) ∧ (decode cX2_init 5 = .ok (.iconst 0, 1)) ∧ (decode cX2_init 6 = .ok (.putfield 7, 3)) ∧ (decode cX2_init 9 = .ok (.aload_n 0, 1)) ∧ (decode cX2_init 10 = .ok (.iconst 0, 1)) ∧ (decode cX2_init 11 = .ok (.putfield 13, 3)) ∧ (decode cX2_init 14 = .ok (.aload_n 0, 1)) ∧ (decode cX2_init 15 = .ok (.lload_n 1, 1)) ∧ (decode cX2_init 16 = .ok (.putfield 16, 3)) ∧ (decode cX2_init 19 = .ok (.aload_n 0, 1)) := by decide +kernel
theorem dX2_init_0 : decode cX2_init 0 = .ok (.aload_n 0, 1) := bdX2_init_0.1
theorem dX2_init_1 : decode cX2_init 1 = .ok (.invokespecial 1, 3) := bdX2_init_0.2.1
theorem dX2_init_4 : decode cX2_init 4 = .ok (.aload_n 0, 1) := bdX2_init_0.2.2.1
theorem dX2_init_5 : decode cX2_init 5 = .ok (.iconst 0, 1) := bdX2_init_0.2.2.2.1
theorem dX2_init_6 : decode cX2_init 6 = .ok (.putfield 7, 3) := bdX2_init_0.2.2.2.2.1
theorem dX2_init_9 : decode cX2_init 9 = .ok (.aload_n 0, 1) := bdX2_init_0.2.2.2.2.2.1
theorem dX2_init_10 : decode cX2_init 10 = .ok (.iconst 0, 1) := bdX2_init_0.2.2.2.2.2.2.1
theorem dX2_init_11 : decode cX2_init 11 = .ok (.putfield 13, 3) := bdX2_init_0.2.2.2.2.2.2.2.1
theorem dX2_init_14 : decode cX2_init 14 = .ok (.aload_n 0, 1) := bdX2_init_0.2.2.2.2.2.2.2.2.1
theorem dX2_init_15 : decode cX2_init 15 = .ok (.lload_n 1, 1) := bdX2_init_0.2.2.2.2.2.2.2.2.2.1
theorem dX2_init_16 : decode cX2_init 16 = .ok (.putfield 16, 3) := bdX2_init_0.2.2.2.2.2.2.2.2.2.2.1
theorem dX2_init_19 : decode cX2_init 19 = .ok (.aload_n 0, 1) := bdX2_init_0.2.2.2.2.2.2.2.2.2.2.2
set_option maxRecDepth 20000 in
theorem bdX2_init_20 : (decode cX2_init 20 = .ok (.iload_n 3, 1)) ∧ (decode cX2_init 21 = .ok (.putfield 20, 3)) ∧ (decode cX2_init 24 = .ok (.return_, 1)) := by decide +kernel
theorem dX2_init_20 : decode cX2_init 20 = .ok (.iload_n 3, 1) := bdX2_init_20.1
theorem dX2_init_21 : decode cX2_init 21 = .ok (.putfield 20, 3) := bdX2_init_20.2.1
theorem dX2_init_24 : decode cX2_init 24 = .ok (.return_, 1) := bdX2_init_20.2.2
set_option maxRecDepth 20000 in
theorem ggX3_init_X1_init : GoodIn wsX3_init wsX1_init := goodIn_r _ [23, 24, 2, 3, 4, 25, 12, 26, 27, 28, 29, 41, 42, 43, 44, 45] (by decide +kernel) (by decide +kernel)
set_option maxRecDepth 20000 in
theorem gX3_init_X1_init_n19 : GoodIn wsX3_init (wsX1_init) := ggX3_init_X1_init
set_option maxRecDepth 20000 in
theorem bdX3_init_0 : (decode cX3_init 0 = .ok (.aload_n 0, 1)) ∧ (decode cX3_init 1 = .ok (.invokespecial 1, 3)) ∧ (decode cX3_init 4 = .ok (.aload_n 0, 1)) ∧ (decode cX3_init 5 = .ok (.iconst 4, 1)) ∧ (decode cX3_init 6 = .ok (.newarray .long, 2)) ∧ (decode cX3_init 8 = .ok (.putfield 9, 3)) ∧ (decode cX3_init 11 = .ok (.aload_n 0, 1)) ∧ (decode cX3_init 12 = .ok (.iconst 0, 1)) ∧ (decode cX3_init 13 = .ok (.putfield 13, 3)) ∧ (decode cX3_init 16 = .ok (.aload_n 0, 1)) ∧ (decode cX3_init 17 = .ok (.new 17, 3)) ∧ (decode cX3_init 20 = .ok (.dup, 1)) := by decide +kernel
theorem dX3_init_0 : decode cX3_init 0 = .ok (.aload_n 0, 1) := bdX3_init_0.1
theorem dX3_init_1 : decode cX3_init 1 = .ok (.invokespecial 1, 3) := bdX3_init_0.2.1
theorem dX3_init_4 : decode cX3_init 4 = .ok (.aload_n 0, 1) := bdX3_init_0.2.2.1
theorem dX3_init_5 : decode cX3_init 5 = .ok (.iconst 4, 1) := bdX3_init_0.2.2.2.1
theorem dX3_init_6 : decode cX3_init 6 = .ok (.newarray .long, 2) := bdX3_init_0.2.2.2.2.1
theorem dX3_init_8 : decode cX3_init 8 = .ok (.putfield 9, 3) := bdX3_init_0.2.2.2.2.2.1
theorem dX3_init_11 : decode cX3_init 11 = .ok (.aload_n 0, 1) := bdX3_init_0.2.2.2.2.2.2.1
theorem dX3_init_12 : decode cX3_init 12 = .ok (.iconst 0, 1) := bdX3_init_0.2.2.2.2.2.2.2.1
theorem dX3_init_13 : decode cX3_init 13 = .ok (.putfield 13, 3) := bdX3_init_0.2.2.2.2.2.2.2.2.1
theorem dX3_init_16 : decode cX3_init 16 = .ok (.aload_n 0, 1) := bdX3_init_0.2.2.2.2.2.2.2.2.2.1
theorem dX3_init_17 : decode cX3_init 17 = .ok (.new 17, 3) := bdX3_init_0.2.2.2.2.2.2.2.2.2.2.1
theorem dX3_init_20 : decode cX3_init 20 = .ok (.dup, 1) := bdX3_init_0.2.2.2.2.2.2.2.2.2.2.2
set_option maxRecDepth 20000 in
theorem bdX3_init_21 : (decode cX3_init 21 = .ok (.invokespecial 19, 3)) ∧ (decode cX3_init 24 = .ok (.putfield 20, 3)) ∧ (decode cX3_init 27 = .ok (.aload_n 0, 1)) ∧ (decode cX3_init 28 = .ok (.bipush 10, 2)) ∧ (decode cX3_init 30 = .ok (.newarray .long, 2)) ∧ (decode cX3_init 32 = .ok (.putfield 24, 3)) ∧ (decode cX3_init 35 = .ok (.aload_n 0, 1)) ∧ (decode cX3_init 36 = .ok (.bipush 40, 2)) ∧ (decode cX3_init 38 = .ok (.newarray .int, 2)) ∧ (decode cX3_init 40 = .ok (.putfield 27, 3)) ∧ (decode cX3_init 43 = .ok (.aload_n 0, 1)) ∧ (decode cX3_init 44 = .ok (.bipush 8, 2)) := by decide +kernel
theorem dX3_init_21 : decode cX3_init 21 = .ok (.invokespecial 19, 3) := bdX3_init_21.1
theorem dX3_init_24 : decode cX3_init 24 = .ok (.putfield 20, 3) := bdX3_init_21.2.1
theorem dX3_init_27 : decode cX3_init 27 = .ok (.aload_n 0, 1) := bdX3_init_21.2.2.1
theorem dX3_init_28 : decode cX3_init 28 = .ok (.bipush 10, 2) := bdX3_init_21.2.2.2.1
theorem dX3_init_30 : decode cX3_init 30 = .ok (.newarray .long, 2) := bdX3_init_21.2.2.2.2.1
theorem dX3_init_32 : decode cX3_init 32 = .ok (.putfield 24, 3) := bdX3_init_21.2.2.2.2.2.1
theorem dX3_init_35 : decode cX3_init 35 = .ok (.aload_n 0, 1) := bdX3_init_21.2.2.2.2.2.2.1
theorem dX3_init_36 : decode cX3_init 36 = .ok (.bipush 40, 2) := bdX3_init_21.2.2.2.2.2.2.2.1
theorem dX3_init_38 : decode cX3_init 38 = .ok (.newarray .int, 2) := bdX3_init_21.2.2.2.2.2.2.2.2.1
theorem dX3_init_40 : decode cX3_init 40 = .ok (.putfield 27, 3) := bdX3_init_21.2.2.2.2.2.2.2.2.2.1
theorem dX3_init_43 : decode cX3_init 43 = .ok (.aload_n 0, 1) := bdX3_init_21.2.2.2.2.2.2.2.2.2.2.1
theorem dX3_init_44 : decode cX3_init 44 = .ok (.bipush 8, 2) := bdX3_init_21.2.2.2.2.2.2.2.2.2.2.2
set_option maxRecDepth 20000 in
theorem bdX3_init_46 : (decode cX3_init 46 = .ok (.anewarray 31, 3)) ∧ (decode cX3_init 49 = .ok (.putfield 33, 3)) ∧ (decode cX3_init 52 = .ok (.aload_n 0, 1)) ∧ (decode cX3_init 53 = .ok (.iconst 0, 1)) ∧ (decode cX3_init 54 = .ok (.putfield 37, 3)) ∧ (decode cX3_init 57 = .ok (.aload_n 0, 1)) ∧ (decode cX3_init 58 = .ok (.iconst 4, 1)) ∧ (decode cX3_init 59 = .ok (.anewarray 40, 3)) ∧ (decode cX3_init 62 = .ok (.putfield 42, 3)) ∧ (decode cX3_init 65 = .ok (.aload_n 0, 1)) ∧ (decode cX3_init 66 = .ok (.iconst 0, 1)) ∧ (decode cX3_init 67 = .ok (.putfield 46, 3)) := by decide +kernel
theorem dX3_init_46 : decode cX3_init 46 = .ok (.anewarray 31, 3) := bdX3_init_46.1
theorem dX3_init_49 : decode cX3_init 49 = .ok (.putfield 33, 3) := bdX3_init_46.2.1
theorem dX3_init_52 : decode cX3_init 52 = .ok (.aload_n 0, 1) := bdX3_init_46.2.2.1
theorem dX3_init_53 : decode cX3_init 53 = .ok (.iconst 0, 1) := bdX3_init_46.2.2.2.1
theorem dX3_init_54 : decode cX3_init 54 = .ok (.putfield 37, 3) := bdX3_init_46.2.2.2.2.1
theorem dX3_init_57 : decode cX3_init 57 = .ok (.aload_n 0, 1) := bdX3_init_46.2.2.2.2.2.1
theorem dX3_init_58 : decode cX3_init 58 = .ok (.iconst 4, 1) := bdX3_init_46.2.2.2.2.2.2.1
theorem dX3_init_59 : decode cX3_init 59 = .ok (.anewarray 40, 3) := bdX3_init_46.2.2.2.2.2.2.2.1
theorem dX3_init_62 : decode cX3_init 62 = .ok (.putfield 42, 3) := bdX3_init_46.2.2.2.2.2.2.2.2.1
theorem dX3_init_65 : decode cX3_init 65 = .ok (.aload_n 0, 1) := bdX3_init_46.2.2.2.2.2.2.2.2.2.1
theorem dX3_init_66 : decode cX3_init 66 = .ok (.iconst 0, 1) := bdX3_init_46.2.2.2.2.2.2.2.2.2.2.1
theorem dX3_init_67 : decode cX3_init 67 = .ok (.putfield 46, 3) := bdX3_init_46.2.2.2.2.2.2.2.2.2.2.2
set_option maxRecDepth 20000 in
theorem bdX3_init_70 : (decode cX3_init 70 = .ok (.aload_n 0, 1)) ∧ (decode cX3_init 71 = .ok (.iconst 0, 1)) ∧ (decode cX3_init 72 = .ok (.putfield 49, 3)) ∧ (decode cX3_init 75 = .ok (.aload_n 0, 1)) ∧ (decode cX3_init 76 = .ok (.lload_n 1, 1)) ∧ (decode cX3_init 77 = .ok (.putfield 52, 3)) ∧ (decode cX3_init 80 = .ok (.return_, 1)) := by decide +kernel
theorem dX3_init_70 : decode cX3_init 70 = .ok (.aload_n 0, 1) := bdX3_init_70.1
theorem dX3_init_71 : decode cX3_init 71 = .ok (.iconst 0, 1) := bdX3_init_70.2.1
theorem dX3_init_72 : decode cX3_init 72 = .ok (.putfield 49, 3) := bdX3_init_70.2.2.1
theorem dX3_init_75 : decode cX3_init 75 = .ok (.aload_n 0, 1) := bdX3_init_70.2.2.2.1
theorem dX3_init_76 : decode cX3_init 76 = .ok (.lload_n 1, 1) := bdX3_init_70.2.2.2.2.1
theorem dX3_init_77 : decode cX3_init 77 = .ok (.putfield 52, 3) := bdX3_init_70.2.2.2.2.2.1
theorem dX3_init_80 : decode cX3_init 80 = .ok (.return_, 1) := bdX3_init_70.2.2.2.2.2.2
set_option maxRecDepth 20000 in
theorem bdX3_part_0 : (decode cX3_part 0 = .ok (.aload_n 0, 1)) ∧ (decode cX3_part 1 = .ok (.getfield 13, 3)) ∧ (decode cX3_part 4 = .ok (.iconst 4, 1)) ∧ (decode cX3_part 5 = .ok (.if_icmp .lt 6, 3)) ∧ (decode cX3_part 8 = .ok (.bipush (-2), 2)) ∧ (decode cX3_part 10 = .ok (.ireturn, 1)) ∧ (decode cX3_part 11 = .ok (.aload_n 0, 1)) ∧ (decode cX3_part 12 = .ok (.getfield 9, 3)) ∧ (decode cX3_part 15 = .ok (.aload_n 0, 1)) ∧ (decode cX3_part 16 = .ok (.getfield 13, 3)) ∧ (decode cX3_part 19 = .ok (.lload_n 1, 1)) ∧ (decode cX3_part 20 = .ok (.lastore, 1)) := by decide +kernel
theorem dX3_part_0 : decode cX3_part 0 = .ok (.aload_n 0, 1) := bdX3_part_0.1
theorem dX3_part_1 : decode cX3_part 1 = .ok (.getfield 13, 3) := bdX3_part_0.2.1
theorem dX3_part_4 : decode cX3_part 4 = .ok (.iconst 4, 1) := bdX3_part_0.2.2.1
theorem dX3_part_5 : decode cX3_part 5 = .ok (.if_icmp .lt 6, 3) := bdX3_part_0.2.2.2.1
theorem dX3_part_8 : decode cX3_part 8 = .ok (.bipush (-2), 2) := bdX3_part_0.2.2.2.2.1
theorem dX3_part_10 : decode cX3_part 10 = .ok (.ireturn, 1) := bdX3_part_0.2.2.2.2.2.1
theorem dX3_part_11 : decode cX3_part 11 = .ok (.aload_n 0, 1) := bdX3_part_0.2.2.2.2.2.2.1
theorem dX3_part_12 : decode cX3_part 12 = .ok (.getfield 9, 3) := bdX3_part_0.2.2.2.2.2.2.2.1
theorem dX3_part_15 : decode cX3_part 15 = .ok (.aload_n 0, 1) := bdX3_part_0.2.2.2.2.2.2.2.2.1
theorem dX3_part_16 : decode cX3_part 16 = .ok (.getfield 13, 3) := bdX3_part_0.2.2.2.2.2.2.2.2.2.1
theorem dX3_part_19 : decode cX3_part 19 = .ok (.lload_n 1, 1) := bdX3_part_0.2.2.2.2.2.2.2.2.2.2.1
theorem dX3_part_20 : decode cX3_part 20 = .ok (.lastore, 1) := bdX3_part_0.2.2.2.2.2.2.2.2.2.2.2
set_option maxRecDepth 20000 in
theorem bdX3_part_21 : (decode cX3_part 21 = .ok (.aload_n 0, 1)) ∧ (decode cX3_part 22 = .ok (.dup, 1)) ∧ (decode cX3_part 23 = .ok (.getfield 13, 3)) ∧ (decode cX3_part 26 = .ok (.iconst 1, 1)) ∧ (decode cX3_part 27 = .ok (.iadd, 1)) ∧ (decode cX3_part 28 = .ok (.putfield 13, 3)) ∧ (decode cX3_part 31 = .ok (.aload_n 0, 1)) ∧ (decode cX3_part 32 = .ok (.getfield 13, 3)) ∧ (decode cX3_part 35 = .ok (.ireturn, 1)) := by decide +kernel
theorem dX3_part_21 : decode cX3_part 21 = .ok (.aload_n 0, 1) := bdX3_part_21.1
theorem dX3_part_22 : decode cX3_part 22 = .ok (.dup, 1) := bdX3_part_21.2.1
theorem dX3_part_23 : decode cX3_part 23 = .ok (.getfield 13, 3) := bdX3_part_21.2.2.1
theorem dX3_part_26 : decode cX3_part 26 = .ok (.iconst 1, 1) := bdX3_part_21.2.2.2.1
theorem dX3_part_27 : decode cX3_part 27 = .ok (.iadd, 1) := bdX3_part_21.2.2.2.2.1
theorem dX3_part_28 : decode cX3_part 28 = .ok (.putfield 13, 3) := bdX3_part_21.2.2.2.2.2.1
theorem dX3_part_31 : decode cX3_part 31 = .ok (.aload_n 0, 1) := bdX3_part_21.2.2.2.2.2.2.1
theorem dX3_part_32 : decode cX3_part 32 = .ok (.getfield 13, 3) := bdX3_part_21.2.2.2.2.2.2.2.1
theorem dX3_part_35 : decode cX3_part 35 = .ok (.ireturn, 1) := bdX3_part_21.2.2.2.2.2.2.2.2
set_option maxRecDepth 20000 in
theorem ggX3_path_X1_enter : GoodIn wsX3_path wsX1_enter := goodIn_r _ [8, 9, 10, 11, 12, 7, 13, 14, 15, 16, 17, 18, 19, 20, 21, 22, 23, 24, 25, 26, 38, 39, 40, 41, 42] (by decide +kernel) (by decide +kernel)
set_option maxRecDepth 20000 in
theorem gX3_path_X1_enter : GoodIn wsX3_path (wsV RX3 56 RX1 yX1_enter wsX1_enter) := goodIn_app (goodIn_of _ (by decide +kernel)) ggX3_path_X1_enter
set_option maxRecDepth 20000 in
theorem bdX3_path_0 : (decode cX3_path 0 = .ok (.aload_n 0, 1)) ∧ (decode cX3_path 1 = .ok (.getfield 13, 3)) ∧ (decode cX3_path 4 = .ok (.ifCond .ne 5, 3)) ∧ (decode cX3_path 7 = .ok (.iconst (-1), 1)) ∧ (decode cX3_path 8 = .ok (.ireturn, 1)) ∧ (decode cX3_path 9 = .ok (.aload_n 0, 1)) ∧ (decode cX3_path 10 = .ok (.getfield 20, 3)) ∧ (decode cX3_path 13 = .ok (.aload_n 0, 1)) ∧ (decode cX3_path 14 = .ok (.getfield 9, 3)) ∧ (decode cX3_path 17 = .ok (.aload_n 0, 1)) ∧ (decode cX3_path 18 = .ok (.getfield 13, 3)) ∧ (decode cX3_path 21 = .ok (.invokevirtual 56, 3)) := by decide +kernel
theorem dX3_path_0 : decode cX3_path 0 = .ok (.aload_n 0, 1) := bdX3_path_0.1
theorem dX3_path_1 : decode cX3_path 1 = .ok (.getfield 13, 3) := bdX3_path_0.2.1
theorem dX3_path_4 : decode cX3_path 4 = .ok (.ifCond .ne 5, 3) := bdX3_path_0.2.2.1
theorem dX3_path_7 : decode cX3_path 7 = .ok (.iconst (-1), 1) := bdX3_path_0.2.2.2.1
theorem dX3_path_8 : decode cX3_path 8 = .ok (.ireturn, 1) := bdX3_path_0.2.2.2.2.1
theorem dX3_path_9 : decode cX3_path 9 = .ok (.aload_n 0, 1) := bdX3_path_0.2.2.2.2.2.1
theorem dX3_path_10 : decode cX3_path 10 = .ok (.getfield 20, 3) := bdX3_path_0.2.2.2.2.2.2.1
theorem dX3_path_13 : decode cX3_path 13 = .ok (.aload_n 0, 1) := bdX3_path_0.2.2.2.2.2.2.2.1
theorem dX3_path_14 : decode cX3_path 14 = .ok (.getfield 9, 3) := bdX3_path_0.2.2.2.2.2.2.2.2.1
theorem dX3_path_17 : decode cX3_path 17 = .ok (.aload_n 0, 1) := bdX3_path_0.2.2.2.2.2.2.2.2.2.1
theorem dX3_path_18 : decode cX3_path 18 = .ok (.getfield 13, 3) := bdX3_path_0.2.2.2.2.2.2.2.2.2.2.1
theorem dX3_path_21 : decode cX3_path 21 = .ok (.invokevirtual 56, 3) := bdX3_path_0.2.2.2.2.2.2.2.2.2.2.2
set_option maxRecDepth 20000 in
theorem bdX3_path_24 : (decode cX3_path 24 = .ok (.istore_n 1, 1)) ∧ (decode cX3_path 25 = .ok (.iload_n 1, 1)) ∧ (decode cX3_path 26 = .ok (.bipush (-2), 2)) ∧ (decode cX3_path 28 = .ok (.if_icmp .eq 8, 3)) ∧ (decode cX3_path 31 = .ok (.aload_n 0, 1)) ∧ (decode cX3_path 32 = .ok (.iconst 0, 1)) ∧ (decode cX3_path 33 = .ok (.putfield 13, 3)) ∧ (decode cX3_path 36 = .ok (.iload_n 1, 1)) ∧ (decode cX3_path 37 = .ok (.ireturn, 1)) := by decide +kernel
theorem dX3_path_24 : decode cX3_path 24 = .ok (.istore_n 1, 1) := bdX3_path_24.1
theorem dX3_path_25 : decode cX3_path 25 = .ok (.iload_n 1, 1) := bdX3_path_24.2.1
theorem dX3_path_26 : decode cX3_path 26 = .ok (.bipush (-2), 2) := bdX3_path_24.2.2.1
theorem dX3_path_28 : decode cX3_path 28 = .ok (.if_icmp .eq 8, 3) := bdX3_path_24.2.2.2.1
theorem dX3_path_31 : decode cX3_path 31 = .ok (.aload_n 0, 1) := bdX3_path_24.2.2.2.2.1
theorem dX3_path_32 : decode cX3_path 32 = .ok (.iconst 0, 1) := bdX3_path_24.2.2.2.2.2.1
theorem dX3_path_33 : decode cX3_path 33 = .ok (.putfield 13, 3) := bdX3_path_24.2.2.2.2.2.2.1
theorem dX3_path_36 : decode cX3_path 36 = .ok (.iload_n 1, 1) := bdX3_path_24.2.2.2.2.2.2.2.1
theorem dX3_path_37 : decode cX3_path 37 = .ok (.ireturn, 1) := bdX3_path_24.2.2.2.2.2.2.2.2
set_option maxRecDepth 20000 in
theorem ggX3_key_X1_has : GoodIn wsX3_key wsX1_has := goodIn_r _ [8, 9, 21, 22, 23, 24, 25] (by decide +kernel) (by decide +kernel)
set_option maxRecDepth 20000 in
theorem gX3_key_X1_has : GoodIn wsX3_key (wsV RX3 60 RX1 yX1_has wsX1_has) := goodIn_app (goodIn_of _ (by decide +kernel)) ggX3_key_X1_has
set_option maxRecDepth 20000 in
theorem bdX3_key_0 : (decode cX3_key 0 = .ok (.aload_n 0, 1)) ∧ (decode cX3_key 1 = .ok (.getfield 20, 3)) ∧ (decode cX3_key 4 = .ok (.iload_n 1, 1)) ∧ (decode cX3_key 5 = .ok (.invokevirtual 60, 3)) ∧ (decode cX3_key 8 = .ok (.ifCond .ne 10, 3)) ∧ (decode cX3_key 11 = .ok (.aload_n 0, 1)) ∧ (decode cX3_key 12 = .ok (.iconst (-1), 1)) ∧ (decode cX3_key 13 = .ok (.putfield 49, 3)) ∧ (decode cX3_key 16 = .ok (.lconst 0, 1)) ∧ (decode cX3_key 17 = .ok (.lreturn, 1)) ∧ (decode cX3_key 18 = .ok (.aload_n 0, 1)) ∧ (decode cX3_key 19 = .ok (.iconst 0, 1)) := by decide +kernel
theorem dX3_key_0 : decode cX3_key 0 = .ok (.aload_n 0, 1) := bdX3_key_0.1
theorem dX3_key_1 : decode cX3_key 1 = .ok (.getfield 20, 3) := bdX3_key_0.2.1
theorem dX3_key_4 : decode cX3_key 4 = .ok (.iload_n 1, 1) := bdX3_key_0.2.2.1
theorem dX3_key_5 : decode cX3_key 5 = .ok (.invokevirtual 60, 3) := bdX3_key_0.2.2.2.1
theorem dX3_key_8 : decode cX3_key 8 = .ok (.ifCond .ne 10, 3) := bdX3_key_0.2.2.2.2.1
theorem dX3_key_11 : decode cX3_key 11 = .ok (.aload_n 0, 1) := bdX3_key_0.2.2.2.2.2.1
theorem dX3_key_12 : decode cX3_key 12 = .ok (.iconst (-1), 1) := bdX3_key_0.2.2.2.2.2.2.1
theorem dX3_key_13 : decode cX3_key 13 = .ok (.putfield 49, 3) := bdX3_key_0.2.2.2.2.2.2.2.1
theorem dX3_key_16 : decode cX3_key 16 = .ok (.lconst 0, 1) := bdX3_key_0.2.2.2.2.2.2.2.2.1
theorem dX3_key_17 : decode cX3_key 17 = .ok (.lreturn, 1) := bdX3_key_0.2.2.2.2.2.2.2.2.2.1
theorem dX3_key_18 : decode cX3_key 18 = .ok (.aload_n 0, 1) := bdX3_key_0.2.2.2.2.2.2.2.2.2.2.1
theorem dX3_key_19 : decode cX3_key 19 = .ok (.iconst 0, 1) := bdX3_key_0.2.2.2.2.2.2.2.2.2.2.2
set_option maxRecDepth 20000 in
theorem bdX3_key_20 : (decode cX3_key 20 = .ok (.putfield 49, 3)) ∧ (decode cX3_key 23 = .ok (.aload_n 0, 1)) ∧ (decode cX3_key 24 = .ok (.getfield 20, 3)) ∧ (decode cX3_key 27 = .ok (.getfield 64, 3)) ∧ (decode cX3_key 30 = .ok (.iload_n 1, 1)) ∧ (decode cX3_key 31 = .ok (.laload, 1)) ∧ (decode cX3_key 32 = .ok (.lreturn, 1)) := by decide +kernel
theorem dX3_key_20 : decode cX3_key 20 = .ok (.putfield 49, 3) := bdX3_key_20.1
theorem dX3_key_23 : decode cX3_key 23 = .ok (.aload_n 0, 1) := bdX3_key_20.2.1
theorem dX3_key_24 : decode cX3_key 24 = .ok (.getfield 20, 3) := bdX3_key_20.2.2.1
theorem dX3_key_27 : decode cX3_key 27 = .ok (.getfield 64, 3) := bdX3_key_20.2.2.2.1
theorem dX3_key_30 : decode cX3_key 30 = .ok (.iload_n 1, 1) := bdX3_key_20.2.2.2.2.1
theorem dX3_key_31 : decode cX3_key 31 = .ok (.laload, 1) := bdX3_key_20.2.2.2.2.2.1
theorem dX3_key_32 : decode cX3_key 32 = .ok (.lreturn, 1) := bdX3_key_20.2.2.2.2.2.2
set_option maxRecDepth 20000 in
theorem ggX3_word_X1_has : GoodIn wsX3_word wsX1_has := goodIn_r _ [7, 8, 36, 37, 38, 39, 40] (by decide +kernel) (by decide +kernel)
set_option maxRecDepth 20000 in
theorem gX3_word_X1_has : GoodIn wsX3_word (wsV RX3 60 RX1 yX1_has wsX1_has) := goodIn_app (goodIn_of _ (by decide +kernel)) ggX3_word_X1_has
set_option maxRecDepth 20000 in
theorem ggX3_word_X3_baseOf : GoodIn wsX3_word wsX3_baseOf := goodIn_r _ [13, 14, 15, 1, 16, 17, 18, 12, 19, 20, 21, 25, 26, 27, 28, 29, 30, 31, 32, 33, 34, 35, 36, 37, 38, 39, 40] (by decide +kernel) (by decide +kernel)
set_option maxRecDepth 20000 in
theorem gX3_word_X3_baseOf : GoodIn wsX3_word (wsV RX3 67 RX3 yX3_baseOf wsX3_baseOf) := goodIn_app (goodIn_of _ (by decide +kernel)) ggX3_word_X3_baseOf
set_option maxRecDepth 20000 in
theorem ggX3_word_X3_wordAt : GoodIn wsX3_word wsX3_wordAt := goodIn_r _ [24, 15, 17, 18, 12, 19, 20, 21] (by decide +kernel) (by decide +kernel)
set_option maxRecDepth 20000 in
theorem gX3_word_X3_wordAt : GoodIn wsX3_word (va_wsS RX3 71 yX3_wordAt wsX3_wordAt) := goodIn_app (goodIn_of _ (by decide +kernel)) ggX3_word_X3_wordAt
set_option maxRecDepth 20000 in
theorem bdX3_word_0 : (decode cX3_word 0 = .ok (.aload_n 0, 1)) ∧ (decode cX3_word 1 = .ok (.getfield 20, 3)) ∧ (decode cX3_word 4 = .ok (.iload_n 3, 1)) ∧ (decode cX3_word 5 = .ok (.invokevirtual 60, 3)) ∧ (decode cX3_word 8 = .ok (.ifCond .ne 10, 3)) ∧ (decode cX3_word 11 = .ok (.aload_n 0, 1)) ∧ (decode cX3_word 12 = .ok (.iconst (-1), 1)) ∧ (decode cX3_word 13 = .ok (.putfield 49, 3)) ∧ (decode cX3_word 16 = .ok (.lconst 0, 1)) ∧ (decode cX3_word 17 = .ok (.lreturn, 1)) ∧ (decode cX3_word 18 = .ok (.aload_n 0, 1)) ∧ (decode cX3_word 19 = .ok (.iconst 0, 1)) := by decide +kernel
theorem dX3_word_0 : decode cX3_word 0 = .ok (.aload_n 0, 1) := bdX3_word_0.1
theorem dX3_word_1 : decode cX3_word 1 = .ok (.getfield 20, 3) := bdX3_word_0.2.1
theorem dX3_word_4 : decode cX3_word 4 = .ok (.iload_n 3, 1) := bdX3_word_0.2.2.1
theorem dX3_word_5 : decode cX3_word 5 = .ok (.invokevirtual 60, 3) := bdX3_word_0.2.2.2.1
theorem dX3_word_8 : decode cX3_word 8 = .ok (.ifCond .ne 10, 3) := bdX3_word_0.2.2.2.2.1
theorem dX3_word_11 : decode cX3_word 11 = .ok (.aload_n 0, 1) := bdX3_word_0.2.2.2.2.2.1
theorem dX3_word_12 : decode cX3_word 12 = .ok (.iconst (-1), 1) := bdX3_word_0.2.2.2.2.2.2.1
theorem dX3_word_13 : decode cX3_word 13 = .ok (.putfield 49, 3) := bdX3_word_0.2.2.2.2.2.2.2.1
theorem dX3_word_16 : decode cX3_word 16 = .ok (.lconst 0, 1) := bdX3_word_0.2.2.2.2.2.2.2.2.1
theorem dX3_word_17 : decode cX3_word 17 = .ok (.lreturn, 1) := bdX3_word_0.2.2.2.2.2.2.2.2.2.1
theorem dX3_word_18 : decode cX3_word 18 = .ok (.aload_n 0, 1) := bdX3_word_0.2.2.2.2.2.2.2.2.2.2.1
theorem dX3_word_19 : decode cX3_word 19 = .ok (.iconst 0, 1) := bdX3_word_0.2.2.2.2.2.2.2.2.2.2.2
set_option maxRecDepth 20000 in
theorem bdX3_word_20 : (decode cX3_word 20 = .ok (.putfield 49, 3)) ∧ (decode cX3_word 23 = .ok (.aload_n 0, 1)) ∧ (decode cX3_word 24 = .ok (.lload_n 1, 1)) ∧ (decode cX3_word 25 = .ok (.iload_n 3, 1)) ∧ (decode cX3_word 26 = .ok (.invokevirtual 67, 3)) ∧ (decode cX3_word 29 = .ok (.lload 4, 2)) ∧ (decode cX3_word 31 = .ok (.invokestatic 71, 3)) ∧ (decode cX3_word 34 = .ok (.lreturn, 1)) := by decide +kernel
theorem dX3_word_20 : decode cX3_word 20 = .ok (.putfield 49, 3) := bdX3_word_20.1
theorem dX3_word_23 : decode cX3_word 23 = .ok (.aload_n 0, 1) := bdX3_word_20.2.1
theorem dX3_word_24 : decode cX3_word 24 = .ok (.lload_n 1, 1) := bdX3_word_20.2.2.1
theorem dX3_word_25 : decode cX3_word 25 = .ok (.iload_n 3, 1) := bdX3_word_20.2.2.2.1
theorem dX3_word_26 : decode cX3_word 26 = .ok (.invokevirtual 67, 3) := bdX3_word_20.2.2.2.2.1
theorem dX3_word_29 : decode cX3_word 29 = .ok (.lload 4, 2) := bdX3_word_20.2.2.2.2.2.1
theorem dX3_word_31 : decode cX3_word 31 = .ok (.invokestatic 71, 3) := bdX3_word_20.2.2.2.2.2.2.1
theorem dX3_word_34 : decode cX3_word 34 = .ok (.lreturn, 1) := bdX3_word_20.2.2.2.2.2.2.2
set_option maxRecDepth 20000 in
theorem ggX3_span_X1_has : GoodIn wsX3_span wsX1_has := goodIn_r _ [8, 9, 54, 55, 56, 57, 58] (by decide +kernel) (by decide +kernel)
set_option maxRecDepth 20000 in
theorem gX3_span_X1_has : GoodIn wsX3_span (wsV RX3 60 RX1 yX1_has wsX1_has) := goodIn_app (goodIn_of _ (by decide +kernel)) ggX3_span_X1_has
set_option maxRecDepth 20000 in
theorem ggX3_span_X3_drawSpan : GoodIn wsX3_span wsX3_drawSpan := goodIn_r _ [14, 15, 16, 17, 18, 19, 13, 20, 21, 22, 2, 23, 24, 25, 26, 27, 28, 29, 30, 31, 32, 33, 34, 35, 36, 37, 38, 39, 40, 41, 42, 43, 44, 45, 46, 47, 48, 49, 50, 51, 52, 53, 54, 55, 56, 57, 58] (by decide +kernel) (by decide +kernel)
set_option maxRecDepth 20000 in
theorem gX3_span_X3_drawSpan : GoodIn wsX3_span (wsV RX3 79 RX3 yX3_drawSpan wsX3_drawSpan) := goodIn_app (goodIn_of _ (by decide +kernel)) ggX3_span_X3_drawSpan
set_option maxRecDepth 20000 in
theorem bdX3_span_0 : (decode cX3_span 0 = .ok (.lload 5, 2)) ∧ (decode cX3_span 2 = .ok (.lconst 0, 1)) ∧ (decode cX3_span 3 = .ok (.lcmp, 1)) ∧ (decode cX3_span 4 = .ok (.ifCond .ne 7, 3)) ∧ (decode cX3_span 7 = .ok (.ldc2_w 75, 3)) ∧ (decode cX3_span 10 = .ok (.lreturn, 1)) ∧ (decode cX3_span 11 = .ok (.aload_n 0, 1)) ∧ (decode cX3_span 12 = .ok (.getfield 20, 3)) ∧ (decode cX3_span 15 = .ok (.iload_n 3, 1)) ∧ (decode cX3_span 16 = .ok (.invokevirtual 60, 3)) ∧ (decode cX3_span 19 = .ok (.ifCond .eq 15, 3)) ∧ (decode cX3_span 22 = .ok (.iload 4, 2)) := by decide +kernel
theorem dX3_span_0 : decode cX3_span 0 = .ok (.lload 5, 2) := bdX3_span_0.1
theorem dX3_span_2 : decode cX3_span 2 = .ok (.lconst 0, 1) := bdX3_span_0.2.1
theorem dX3_span_3 : decode cX3_span 3 = .ok (.lcmp, 1) := bdX3_span_0.2.2.1
theorem dX3_span_4 : decode cX3_span 4 = .ok (.ifCond .ne 7, 3) := bdX3_span_0.2.2.2.1
theorem dX3_span_7 : decode cX3_span 7 = .ok (.ldc2_w 75, 3) := bdX3_span_0.2.2.2.2.1
theorem dX3_span_10 : decode cX3_span 10 = .ok (.lreturn, 1) := bdX3_span_0.2.2.2.2.2.1
theorem dX3_span_11 : decode cX3_span 11 = .ok (.aload_n 0, 1) := bdX3_span_0.2.2.2.2.2.2.1
theorem dX3_span_12 : decode cX3_span 12 = .ok (.getfield 20, 3) := bdX3_span_0.2.2.2.2.2.2.2.1
theorem dX3_span_15 : decode cX3_span 15 = .ok (.iload_n 3, 1) := bdX3_span_0.2.2.2.2.2.2.2.2.1
theorem dX3_span_16 : decode cX3_span 16 = .ok (.invokevirtual 60, 3) := bdX3_span_0.2.2.2.2.2.2.2.2.2.1
theorem dX3_span_19 : decode cX3_span 19 = .ok (.ifCond .eq 15, 3) := bdX3_span_0.2.2.2.2.2.2.2.2.2.2.1
theorem dX3_span_22 : decode cX3_span 22 = .ok (.iload 4, 2) := bdX3_span_0.2.2.2.2.2.2.2.2.2.2.2
set_option maxRecDepth 20000 in
theorem bdX3_span_24 : (decode cX3_span 24 = .ok (.ifCond .lt 10, 3)) ∧ (decode cX3_span 27 = .ok (.lload 5, 2)) ∧ (decode cX3_span 29 = .ok (.lconst 0, 1)) ∧ (decode cX3_span 30 = .ok (.lcmp, 1)) ∧ (decode cX3_span 31 = .ok (.ifCond .ge 7, 3)) ∧ (decode cX3_span 34 = .ok (.ldc2_w 77, 3)) ∧ (decode cX3_span 37 = .ok (.lreturn, 1)) ∧ (decode cX3_span 38 = .ok (.aload_n 0, 1)) ∧ (decode cX3_span 39 = .ok (.lload_n 1, 1)) ∧ (decode cX3_span 40 = .ok (.iload_n 3, 1)) ∧ (decode cX3_span 41 = .ok (.iload 4, 2)) ∧ (decode cX3_span 43 = .ok (.lload 5, 2)) := by decide +kernel
theorem dX3_span_24 : decode cX3_span 24 = .ok (.ifCond .lt 10, 3) := bdX3_span_24.1
theorem dX3_span_27 : decode cX3_span 27 = .ok (.lload 5, 2) := bdX3_span_24.2.1
theorem dX3_span_29 : decode cX3_span 29 = .ok (.lconst 0, 1) := bdX3_span_24.2.2.1
theorem dX3_span_30 : decode cX3_span 30 = .ok (.lcmp, 1) := bdX3_span_24.2.2.2.1
theorem dX3_span_31 : decode cX3_span 31 = .ok (.ifCond .ge 7, 3) := bdX3_span_24.2.2.2.2.1
theorem dX3_span_34 : decode cX3_span 34 = .ok (.ldc2_w 77, 3) := bdX3_span_24.2.2.2.2.2.1
theorem dX3_span_37 : decode cX3_span 37 = .ok (.lreturn, 1) := bdX3_span_24.2.2.2.2.2.2.1
theorem dX3_span_38 : decode cX3_span 38 = .ok (.aload_n 0, 1) := bdX3_span_24.2.2.2.2.2.2.2.1
theorem dX3_span_39 : decode cX3_span 39 = .ok (.lload_n 1, 1) := bdX3_span_24.2.2.2.2.2.2.2.2.1
theorem dX3_span_40 : decode cX3_span 40 = .ok (.iload_n 3, 1) := bdX3_span_24.2.2.2.2.2.2.2.2.2.1
theorem dX3_span_41 : decode cX3_span 41 = .ok (.iload 4, 2) := bdX3_span_24.2.2.2.2.2.2.2.2.2.2.1
theorem dX3_span_43 : decode cX3_span 43 = .ok (.lload 5, 2) := bdX3_span_24.2.2.2.2.2.2.2.2.2.2.2
set_option maxRecDepth 20000 in
theorem bdX3_span_45 : (decode cX3_span 45 = .ok (.invokevirtual 79, 3)) ∧ (decode cX3_span 48 = .ok (.lreturn, 1)) := by decide +kernel
theorem dX3_span_45 : decode cX3_span 45 = .ok (.invokevirtual 79, 3) := bdX3_span_45.1
theorem dX3_span_48 : decode cX3_span 48 = .ok (.lreturn, 1) := bdX3_span_45.2
set_option maxRecDepth 20000 in
theorem ggX3_fraction_X1_has : GoodIn wsX3_fraction wsX1_has := goodIn_r _ [6, 7, 44, 45, 46, 47, 48] (by decide +kernel) (by decide +kernel)
set_option maxRecDepth 20000 in
theorem gX3_fraction_X1_has : GoodIn wsX3_fraction (wsV RX3 60 RX1 yX1_has wsX1_has) := goodIn_app (goodIn_of _ (by decide +kernel)) ggX3_fraction_X1_has
set_option maxRecDepth 20000 in
theorem ggX3_fraction_X3_drawFraction : GoodIn wsX3_fraction wsX3_drawFraction := goodIn_r _ [12, 13, 14, 15, 16, 11, 17, 18, 19, 1, 20, 21, 22, 23, 24, 25, 26, 27, 28, 29, 30, 31, 32, 33, 34, 35, 36, 37, 38, 39, 40, 41, 42, 43, 44, 45, 46, 47, 48] (by decide +kernel) (by decide +kernel)
set_option maxRecDepth 20000 in
theorem gX3_fraction_X3_drawFraction : GoodIn wsX3_fraction (wsV RX3 83 RX3 yX3_drawFraction wsX3_drawFraction) := goodIn_app (goodIn_of _ (by decide +kernel)) ggX3_fraction_X3_drawFraction
set_option maxRecDepth 20000 in
theorem bdX3_fraction_0 : (decode cX3_fraction 0 = .ok (.aload_n 0, 1)) ∧ (decode cX3_fraction 1 = .ok (.getfield 20, 3)) ∧ (decode cX3_fraction 4 = .ok (.iload_n 3, 1)) ∧ (decode cX3_fraction 5 = .ok (.invokevirtual 60, 3)) ∧ (decode cX3_fraction 8 = .ok (.ifCond .eq 30, 3)) ∧ (decode cX3_fraction 11 = .ok (.iload 4, 2)) ∧ (decode cX3_fraction 13 = .ok (.ifCond .lt 25, 3)) ∧ (decode cX3_fraction 16 = .ok (.lload 7, 2)) ∧ (decode cX3_fraction 18 = .ok (.lconst 0, 1)) ∧ (decode cX3_fraction 19 = .ok (.lcmp, 1)) ∧ (decode cX3_fraction 20 = .ok (.ifCond .lt 18, 3)) ∧ (decode cX3_fraction 23 = .ok (.lload 5, 2)) := by decide +kernel
theorem dX3_fraction_0 : decode cX3_fraction 0 = .ok (.aload_n 0, 1) := bdX3_fraction_0.1
theorem dX3_fraction_1 : decode cX3_fraction 1 = .ok (.getfield 20, 3) := bdX3_fraction_0.2.1
theorem dX3_fraction_4 : decode cX3_fraction 4 = .ok (.iload_n 3, 1) := bdX3_fraction_0.2.2.1
theorem dX3_fraction_5 : decode cX3_fraction 5 = .ok (.invokevirtual 60, 3) := bdX3_fraction_0.2.2.2.1
theorem dX3_fraction_8 : decode cX3_fraction 8 = .ok (.ifCond .eq 30, 3) := bdX3_fraction_0.2.2.2.2.1
theorem dX3_fraction_11 : decode cX3_fraction 11 = .ok (.iload 4, 2) := bdX3_fraction_0.2.2.2.2.2.1
theorem dX3_fraction_13 : decode cX3_fraction 13 = .ok (.ifCond .lt 25, 3) := bdX3_fraction_0.2.2.2.2.2.2.1
theorem dX3_fraction_16 : decode cX3_fraction 16 = .ok (.lload 7, 2) := bdX3_fraction_0.2.2.2.2.2.2.2.1
theorem dX3_fraction_18 : decode cX3_fraction 18 = .ok (.lconst 0, 1) := bdX3_fraction_0.2.2.2.2.2.2.2.2.1
theorem dX3_fraction_19 : decode cX3_fraction 19 = .ok (.lcmp, 1) := bdX3_fraction_0.2.2.2.2.2.2.2.2.2.1
theorem dX3_fraction_20 : decode cX3_fraction 20 = .ok (.ifCond .lt 18, 3) := bdX3_fraction_0.2.2.2.2.2.2.2.2.2.2.1
theorem dX3_fraction_23 : decode cX3_fraction 23 = .ok (.lload 5, 2) := bdX3_fraction_0.2.2.2.2.2.2.2.2.2.2.2
set_option maxRecDepth 20000 in
theorem bdX3_fraction_25 : (decode cX3_fraction 25 = .ok (.lconst 0, 1)) ∧ (decode cX3_fraction 26 = .ok (.lcmp, 1)) ∧ (decode cX3_fraction 27 = .ok (.ifCond .lt 11, 3)) ∧ (decode cX3_fraction 30 = .ok (.lload 5, 2)) ∧ (decode cX3_fraction 32 = .ok (.lload 7, 2)) ∧ (decode cX3_fraction 34 = .ok (.lcmp, 1)) ∧ (decode cX3_fraction 35 = .ok (.ifCond .le 5, 3)) ∧ (decode cX3_fraction 38 = .ok (.iconst (-1), 1)) ∧ (decode cX3_fraction 39 = .ok (.ireturn, 1)) ∧ (decode cX3_fraction 40 = .ok (.lload 7, 2)) ∧ (decode cX3_fraction 42 = .ok (.lconst 0, 1)) ∧ (decode cX3_fraction 43 = .ok (.lcmp, 1)) := by decide +kernel
theorem dX3_fraction_25 : decode cX3_fraction 25 = .ok (.lconst 0, 1) := bdX3_fraction_25.1
theorem dX3_fraction_26 : decode cX3_fraction 26 = .ok (.lcmp, 1) := bdX3_fraction_25.2.1
theorem dX3_fraction_27 : decode cX3_fraction 27 = .ok (.ifCond .lt 11, 3) := bdX3_fraction_25.2.2.1
theorem dX3_fraction_30 : decode cX3_fraction 30 = .ok (.lload 5, 2) := bdX3_fraction_25.2.2.2.1
theorem dX3_fraction_32 : decode cX3_fraction 32 = .ok (.lload 7, 2) := bdX3_fraction_25.2.2.2.2.1
theorem dX3_fraction_34 : decode cX3_fraction 34 = .ok (.lcmp, 1) := bdX3_fraction_25.2.2.2.2.2.1
theorem dX3_fraction_35 : decode cX3_fraction 35 = .ok (.ifCond .le 5, 3) := bdX3_fraction_25.2.2.2.2.2.2.1
theorem dX3_fraction_38 : decode cX3_fraction 38 = .ok (.iconst (-1), 1) := bdX3_fraction_25.2.2.2.2.2.2.2.1
theorem dX3_fraction_39 : decode cX3_fraction 39 = .ok (.ireturn, 1) := bdX3_fraction_25.2.2.2.2.2.2.2.2.1
theorem dX3_fraction_40 : decode cX3_fraction 40 = .ok (.lload 7, 2) := bdX3_fraction_25.2.2.2.2.2.2.2.2.2.1
theorem dX3_fraction_42 : decode cX3_fraction 42 = .ok (.lconst 0, 1) := bdX3_fraction_25.2.2.2.2.2.2.2.2.2.2.1
theorem dX3_fraction_43 : decode cX3_fraction 43 = .ok (.lcmp, 1) := bdX3_fraction_25.2.2.2.2.2.2.2.2.2.2.2
set_option maxRecDepth 20000 in
theorem bdX3_fraction_44 : (decode cX3_fraction 44 = .ok (.ifCond .ne 6, 3)) ∧ (decode cX3_fraction 47 = .ok (.bipush (-4), 2)) ∧ (decode cX3_fraction 49 = .ok (.ireturn, 1)) ∧ (decode cX3_fraction 50 = .ok (.aload_n 0, 1)) ∧ (decode cX3_fraction 51 = .ok (.lload_n 1, 1)) ∧ (decode cX3_fraction 52 = .ok (.iload_n 3, 1)) ∧ (decode cX3_fraction 53 = .ok (.iload 4, 2)) ∧ (decode cX3_fraction 55 = .ok (.lload 5, 2)) ∧ (decode cX3_fraction 57 = .ok (.lload 7, 2)) ∧ (decode cX3_fraction 59 = .ok (.invokevirtual 83, 3)) ∧ (decode cX3_fraction 62 = .ok (.ireturn, 1)) := by decide +kernel
theorem dX3_fraction_44 : decode cX3_fraction 44 = .ok (.ifCond .ne 6, 3) := bdX3_fraction_44.1
theorem dX3_fraction_47 : decode cX3_fraction 47 = .ok (.bipush (-4), 2) := bdX3_fraction_44.2.1
theorem dX3_fraction_49 : decode cX3_fraction 49 = .ok (.ireturn, 1) := bdX3_fraction_44.2.2.1
theorem dX3_fraction_50 : decode cX3_fraction 50 = .ok (.aload_n 0, 1) := bdX3_fraction_44.2.2.2.1
theorem dX3_fraction_51 : decode cX3_fraction 51 = .ok (.lload_n 1, 1) := bdX3_fraction_44.2.2.2.2.1
theorem dX3_fraction_52 : decode cX3_fraction 52 = .ok (.iload_n 3, 1) := bdX3_fraction_44.2.2.2.2.2.1
theorem dX3_fraction_53 : decode cX3_fraction 53 = .ok (.iload 4, 2) := bdX3_fraction_44.2.2.2.2.2.2.1
theorem dX3_fraction_55 : decode cX3_fraction 55 = .ok (.lload 5, 2) := bdX3_fraction_44.2.2.2.2.2.2.2.1
theorem dX3_fraction_57 : decode cX3_fraction 57 = .ok (.lload 7, 2) := bdX3_fraction_44.2.2.2.2.2.2.2.2.1
theorem dX3_fraction_59 : decode cX3_fraction 59 = .ok (.invokevirtual 83, 3) := bdX3_fraction_44.2.2.2.2.2.2.2.2.2.1
theorem dX3_fraction_62 : decode cX3_fraction 62 = .ok (.ireturn, 1) := bdX3_fraction_44.2.2.2.2.2.2.2.2.2.2
set_option maxRecDepth 20000 in
theorem bdX3_weight_0 : (decode cX3_weight 0 = .ok (.iload_n 1, 1)) ∧ (decode cX3_weight 1 = .ok (.ifCond .lt 15, 3)) ∧ (decode cX3_weight 4 = .ok (.iload_n 1, 1)) ∧ (decode cX3_weight 5 = .ok (.bipush 10, 2)) ∧ (decode cX3_weight 7 = .ok (.if_icmp .ge 9, 3)) ∧ (decode cX3_weight 10 = .ok (.lload_n 2, 1)) ∧ (decode cX3_weight 11 = .ok (.lconst 0, 1)) ∧ (decode cX3_weight 12 = .ok (.lcmp, 1)) ∧ (decode cX3_weight 13 = .ok (.ifCond .ge 5, 3)) ∧ (decode cX3_weight 16 = .ok (.iconst (-1), 1)) ∧ (decode cX3_weight 17 = .ok (.ireturn, 1)) ∧ (decode cX3_weight 18 = .ok (.aload_n 0, 1)) := by decide +kernel
theorem dX3_weight_0 : decode cX3_weight 0 = .ok (.iload_n 1, 1) := bdX3_weight_0.1
theorem dX3_weight_1 : decode cX3_weight 1 = .ok (.ifCond .lt 15, 3) := bdX3_weight_0.2.1
theorem dX3_weight_4 : decode cX3_weight 4 = .ok (.iload_n 1, 1) := bdX3_weight_0.2.2.1
theorem dX3_weight_5 : decode cX3_weight 5 = .ok (.bipush 10, 2) := bdX3_weight_0.2.2.2.1
theorem dX3_weight_7 : decode cX3_weight 7 = .ok (.if_icmp .ge 9, 3) := bdX3_weight_0.2.2.2.2.1
theorem dX3_weight_10 : decode cX3_weight 10 = .ok (.lload_n 2, 1) := bdX3_weight_0.2.2.2.2.2.1
theorem dX3_weight_11 : decode cX3_weight 11 = .ok (.lconst 0, 1) := bdX3_weight_0.2.2.2.2.2.2.1
theorem dX3_weight_12 : decode cX3_weight 12 = .ok (.lcmp, 1) := bdX3_weight_0.2.2.2.2.2.2.2.1
theorem dX3_weight_13 : decode cX3_weight 13 = .ok (.ifCond .ge 5, 3) := bdX3_weight_0.2.2.2.2.2.2.2.2.1
theorem dX3_weight_16 : decode cX3_weight 16 = .ok (.iconst (-1), 1) := bdX3_weight_0.2.2.2.2.2.2.2.2.2.1
theorem dX3_weight_17 : decode cX3_weight 17 = .ok (.ireturn, 1) := bdX3_weight_0.2.2.2.2.2.2.2.2.2.2.1
theorem dX3_weight_18 : decode cX3_weight 18 = .ok (.aload_n 0, 1) := bdX3_weight_0.2.2.2.2.2.2.2.2.2.2.2
set_option maxRecDepth 20000 in
theorem bdX3_weight_19 : (decode cX3_weight 19 = .ok (.getfield 24, 3)) ∧ (decode cX3_weight 22 = .ok (.iload_n 1, 1)) ∧ (decode cX3_weight 23 = .ok (.lload_n 2, 1)) ∧ (decode cX3_weight 24 = .ok (.lastore, 1)) ∧ (decode cX3_weight 25 = .ok (.iconst 1, 1)) ∧ (decode cX3_weight 26 = .ok (.ireturn, 1)) := by decide +kernel
theorem dX3_weight_19 : decode cX3_weight 19 = .ok (.getfield 24, 3) := bdX3_weight_19.1
theorem dX3_weight_22 : decode cX3_weight 22 = .ok (.iload_n 1, 1) := bdX3_weight_19.2.1
theorem dX3_weight_23 : decode cX3_weight 23 = .ok (.lload_n 2, 1) := bdX3_weight_19.2.2.1
theorem dX3_weight_24 : decode cX3_weight 24 = .ok (.lastore, 1) := bdX3_weight_19.2.2.2.1
theorem dX3_weight_25 : decode cX3_weight 25 = .ok (.iconst 1, 1) := bdX3_weight_19.2.2.2.2.1
theorem dX3_weight_26 : decode cX3_weight 26 = .ok (.ireturn, 1) := bdX3_weight_19.2.2.2.2.2
set_option maxRecDepth 20000 in
theorem ggX3_pick_X1_has : GoodIn wsX3_pick wsX1_has := goodIn_r _ [6, 7, 66, 67, 68, 69, 70] (by decide +kernel) (by decide +kernel)
set_option maxRecDepth 20000 in
theorem gX3_pick_X1_has : GoodIn wsX3_pick (wsV RX3 60 RX1 yX1_has wsX1_has) := goodIn_app (goodIn_of _ (by decide +kernel)) ggX3_pick_X1_has
set_option maxRecDepth 20000 in
theorem ggX3_pick_X3_drawPick : GoodIn wsX3_pick wsX3_drawPick := goodIn_r _ [12, 13, 14, 15, 11, 16, 17, 18, 19, 20, 21, 22, 23, 24, 25, 26, 27, 28, 29, 30, 1, 31, 32, 33, 34, 35, 36, 37, 38, 39, 40, 41, 42, 43, 44, 45, 46, 47, 48, 49, 50, 51, 52, 53, 54, 55, 56, 57, 58, 59, 60, 61, 62, 63, 64, 65, 66, 67, 68, 69, 70] (by decide +kernel) (by decide +kernel)
set_option maxRecDepth 20000 in
theorem gX3_pick_X3_drawPick : GoodIn wsX3_pick (wsV RX3 87 RX3 yX3_drawPick wsX3_drawPick) := goodIn_app (goodIn_of _ (by decide +kernel)) ggX3_pick_X3_drawPick
set_option maxRecDepth 20000 in
theorem bdX3_pick_0 : (decode cX3_pick 0 = .ok (.aload_n 0, 1)) ∧ (decode cX3_pick 1 = .ok (.getfield 20, 3)) ∧ (decode cX3_pick 4 = .ok (.iload_n 3, 1)) ∧ (decode cX3_pick 5 = .ok (.invokevirtual 60, 3)) ∧ (decode cX3_pick 8 = .ok (.ifCond .eq 8, 3)) ∧ (decode cX3_pick 11 = .ok (.iload 4, 2)) ∧ (decode cX3_pick 13 = .ok (.ifCond .ge 5, 3)) ∧ (decode cX3_pick 16 = .ok (.iconst (-1), 1)) ∧ (decode cX3_pick 17 = .ok (.ireturn, 1)) ∧ (decode cX3_pick 18 = .ok (.aload_n 0, 1)) ∧ (decode cX3_pick 19 = .ok (.lload_n 1, 1)) ∧ (decode cX3_pick 20 = .ok (.iload_n 3, 1)) := by decide +kernel
theorem dX3_pick_0 : decode cX3_pick 0 = .ok (.aload_n 0, 1) := bdX3_pick_0.1
theorem dX3_pick_1 : decode cX3_pick 1 = .ok (.getfield 20, 3) := bdX3_pick_0.2.1
theorem dX3_pick_4 : decode cX3_pick 4 = .ok (.iload_n 3, 1) := bdX3_pick_0.2.2.1
theorem dX3_pick_5 : decode cX3_pick 5 = .ok (.invokevirtual 60, 3) := bdX3_pick_0.2.2.2.1
theorem dX3_pick_8 : decode cX3_pick 8 = .ok (.ifCond .eq 8, 3) := bdX3_pick_0.2.2.2.2.1
theorem dX3_pick_11 : decode cX3_pick 11 = .ok (.iload 4, 2) := bdX3_pick_0.2.2.2.2.2.1
theorem dX3_pick_13 : decode cX3_pick 13 = .ok (.ifCond .ge 5, 3) := bdX3_pick_0.2.2.2.2.2.2.1
theorem dX3_pick_16 : decode cX3_pick 16 = .ok (.iconst (-1), 1) := bdX3_pick_0.2.2.2.2.2.2.2.1
theorem dX3_pick_17 : decode cX3_pick 17 = .ok (.ireturn, 1) := bdX3_pick_0.2.2.2.2.2.2.2.2.1
theorem dX3_pick_18 : decode cX3_pick 18 = .ok (.aload_n 0, 1) := bdX3_pick_0.2.2.2.2.2.2.2.2.2.1
theorem dX3_pick_19 : decode cX3_pick 19 = .ok (.lload_n 1, 1) := bdX3_pick_0.2.2.2.2.2.2.2.2.2.2.1
theorem dX3_pick_20 : decode cX3_pick 20 = .ok (.iload_n 3, 1) := bdX3_pick_0.2.2.2.2.2.2.2.2.2.2.2
set_option maxRecDepth 20000 in
theorem bdX3_pick_21 : (decode cX3_pick 21 = .ok (.iload 4, 2)) ∧ (decode cX3_pick 23 = .ok (.invokevirtual 87, 3)) ∧ (decode cX3_pick 26 = .ok (.ireturn, 1)) := by decide +kernel
theorem dX3_pick_21 : decode cX3_pick 21 = .ok (.iload 4, 2) := bdX3_pick_21.1
theorem dX3_pick_23 : decode cX3_pick 23 = .ok (.invokevirtual 87, 3) := bdX3_pick_21.2.1
theorem dX3_pick_26 : decode cX3_pick 26 = .ok (.ireturn, 1) := bdX3_pick_21.2.2
set_option maxRecDepth 20000 in
theorem ggX3_permuted_X1_has : GoodIn wsX3_permuted wsX1_has := goodIn_r _ [8, 9, 58, 59, 60, 61, 62] (by decide +kernel) (by decide +kernel)
set_option maxRecDepth 20000 in
theorem gX3_permuted_X1_has : GoodIn wsX3_permuted (wsV RX3 60 RX1 yX1_has wsX1_has) := goodIn_app (goodIn_of _ (by decide +kernel)) ggX3_permuted_X1_has
set_option maxRecDepth 20000 in
theorem ggX3_permuted_X3_drawPermutation : GoodIn wsX3_permuted wsX3_drawPermutation := goodIn_r _ [14, 3, 15, 16, 17, 13, 18, 19, 20, 21, 22, 23, 24, 25, 26, 1, 27, 28, 29, 30, 31, 32, 33, 34, 35, 36, 37, 38, 39, 40, 41, 42, 43, 44, 45, 46, 47, 48, 49, 50, 51, 52, 53, 54, 55, 56, 57, 58, 59, 60, 61, 62] (by decide +kernel) (by decide +kernel)
set_option maxRecDepth 20000 in
theorem gX3_permuted_X3_drawPermutation : GoodIn wsX3_permuted (wsV RX3 92 RX3 yX3_drawPermutation wsX3_drawPermutation) := goodIn_app (goodIn_of _ (by decide +kernel)) ggX3_permuted_X3_drawPermutation
set_option maxRecDepth 20000 in
theorem bdX3_permuted_0 : (decode cX3_permuted 0 = .ok (.aload_n 0, 1)) ∧ (decode cX3_permuted 1 = .ok (.getfield 20, 3)) ∧ (decode cX3_permuted 4 = .ok (.iload_n 3, 1)) ∧ (decode cX3_permuted 5 = .ok (.invokevirtual 60, 3)) ∧ (decode cX3_permuted 8 = .ok (.ifCond .eq 32, 3)) ∧ (decode cX3_permuted 11 = .ok (.iload 4, 2)) ∧ (decode cX3_permuted 13 = .ok (.ifCond .lt 27, 3)) ∧ (decode cX3_permuted 16 = .ok (.iload 5, 2)) ∧ (decode cX3_permuted 18 = .ok (.ifCond .lt 22, 3)) ∧ (decode cX3_permuted 21 = .ok (.iload 5, 2)) ∧ (decode cX3_permuted 23 = .ok (.bipush 40, 2)) ∧ (decode cX3_permuted 25 = .ok (.if_icmp .gt 15, 3)) := by decide +kernel
theorem dX3_permuted_0 : decode cX3_permuted 0 = .ok (.aload_n 0, 1) := bdX3_permuted_0.1
theorem dX3_permuted_1 : decode cX3_permuted 1 = .ok (.getfield 20, 3) := bdX3_permuted_0.2.1
theorem dX3_permuted_4 : decode cX3_permuted 4 = .ok (.iload_n 3, 1) := bdX3_permuted_0.2.2.1
theorem dX3_permuted_5 : decode cX3_permuted 5 = .ok (.invokevirtual 60, 3) := bdX3_permuted_0.2.2.2.1
theorem dX3_permuted_8 : decode cX3_permuted 8 = .ok (.ifCond .eq 32, 3) := bdX3_permuted_0.2.2.2.2.1
theorem dX3_permuted_11 : decode cX3_permuted 11 = .ok (.iload 4, 2) := bdX3_permuted_0.2.2.2.2.2.1
theorem dX3_permuted_13 : decode cX3_permuted 13 = .ok (.ifCond .lt 27, 3) := bdX3_permuted_0.2.2.2.2.2.2.1
theorem dX3_permuted_16 : decode cX3_permuted 16 = .ok (.iload 5, 2) := bdX3_permuted_0.2.2.2.2.2.2.2.1
theorem dX3_permuted_18 : decode cX3_permuted 18 = .ok (.ifCond .lt 22, 3) := bdX3_permuted_0.2.2.2.2.2.2.2.2.1
theorem dX3_permuted_21 : decode cX3_permuted 21 = .ok (.iload 5, 2) := bdX3_permuted_0.2.2.2.2.2.2.2.2.2.1
theorem dX3_permuted_23 : decode cX3_permuted 23 = .ok (.bipush 40, 2) := bdX3_permuted_0.2.2.2.2.2.2.2.2.2.2.1
theorem dX3_permuted_25 : decode cX3_permuted 25 = .ok (.if_icmp .gt 15, 3) := bdX3_permuted_0.2.2.2.2.2.2.2.2.2.2.2
set_option maxRecDepth 20000 in
theorem bdX3_permuted_28 : (decode cX3_permuted 28 = .ok (.iload 6, 2)) ∧ (decode cX3_permuted 30 = .ok (.ifCond .lt 10, 3)) ∧ (decode cX3_permuted 33 = .ok (.iload 6, 2)) ∧ (decode cX3_permuted 35 = .ok (.iload 5, 2)) ∧ (decode cX3_permuted 37 = .ok (.if_icmp .lt 5, 3)) ∧ (decode cX3_permuted 40 = .ok (.iconst (-1), 1)) ∧ (decode cX3_permuted 41 = .ok (.ireturn, 1)) ∧ (decode cX3_permuted 42 = .ok (.iload 4, 2)) ∧ (decode cX3_permuted 44 = .ok (.ldc 91, 2)) ∧ (decode cX3_permuted 46 = .ok (.iload 5, 2)) ∧ (decode cX3_permuted 48 = .ok (.isub, 1)) ∧ (decode cX3_permuted 49 = .ok (.if_icmp .le 5, 3)) := by decide +kernel
theorem dX3_permuted_28 : decode cX3_permuted 28 = .ok (.iload 6, 2) := bdX3_permuted_28.1
theorem dX3_permuted_30 : decode cX3_permuted 30 = .ok (.ifCond .lt 10, 3) := bdX3_permuted_28.2.1
theorem dX3_permuted_33 : decode cX3_permuted 33 = .ok (.iload 6, 2) := bdX3_permuted_28.2.2.1
theorem dX3_permuted_35 : decode cX3_permuted 35 = .ok (.iload 5, 2) := bdX3_permuted_28.2.2.2.1
theorem dX3_permuted_37 : decode cX3_permuted 37 = .ok (.if_icmp .lt 5, 3) := bdX3_permuted_28.2.2.2.2.1
theorem dX3_permuted_40 : decode cX3_permuted 40 = .ok (.iconst (-1), 1) := bdX3_permuted_28.2.2.2.2.2.1
theorem dX3_permuted_41 : decode cX3_permuted 41 = .ok (.ireturn, 1) := bdX3_permuted_28.2.2.2.2.2.2.1
theorem dX3_permuted_42 : decode cX3_permuted 42 = .ok (.iload 4, 2) := bdX3_permuted_28.2.2.2.2.2.2.2.1
theorem dX3_permuted_44 : decode cX3_permuted 44 = .ok (.ldc 91, 2) := bdX3_permuted_28.2.2.2.2.2.2.2.2.1
theorem dX3_permuted_46 : decode cX3_permuted 46 = .ok (.iload 5, 2) := bdX3_permuted_28.2.2.2.2.2.2.2.2.2.1
theorem dX3_permuted_48 : decode cX3_permuted 48 = .ok (.isub, 1) := bdX3_permuted_28.2.2.2.2.2.2.2.2.2.2.1
theorem dX3_permuted_49 : decode cX3_permuted 49 = .ok (.if_icmp .le 5, 3) := bdX3_permuted_28.2.2.2.2.2.2.2.2.2.2.2
set_option maxRecDepth 20000 in
theorem bdX3_permuted_52 : (decode cX3_permuted 52 = .ok (.iconst (-1), 1)) ∧ (decode cX3_permuted 53 = .ok (.ireturn, 1)) ∧ (decode cX3_permuted 54 = .ok (.aload_n 0, 1)) ∧ (decode cX3_permuted 55 = .ok (.lload_n 1, 1)) ∧ (decode cX3_permuted 56 = .ok (.iload_n 3, 1)) ∧ (decode cX3_permuted 57 = .ok (.iload 4, 2)) ∧ (decode cX3_permuted 59 = .ok (.iload 5, 2)) ∧ (decode cX3_permuted 61 = .ok (.invokevirtual 92, 3)) ∧ (decode cX3_permuted 64 = .ok (.ifCond .eq 13, 3)) ∧ (decode cX3_permuted 67 = .ok (.aload_n 0, 1)) ∧ (decode cX3_permuted 68 = .ok (.getfield 27, 3)) ∧ (decode cX3_permuted 71 = .ok (.iload 6, 2)) := by decide +kernel
theorem dX3_permuted_52 : decode cX3_permuted 52 = .ok (.iconst (-1), 1) := bdX3_permuted_52.1
theorem dX3_permuted_53 : decode cX3_permuted 53 = .ok (.ireturn, 1) := bdX3_permuted_52.2.1
theorem dX3_permuted_54 : decode cX3_permuted 54 = .ok (.aload_n 0, 1) := bdX3_permuted_52.2.2.1
theorem dX3_permuted_55 : decode cX3_permuted 55 = .ok (.lload_n 1, 1) := bdX3_permuted_52.2.2.2.1
theorem dX3_permuted_56 : decode cX3_permuted 56 = .ok (.iload_n 3, 1) := bdX3_permuted_52.2.2.2.2.1
theorem dX3_permuted_57 : decode cX3_permuted 57 = .ok (.iload 4, 2) := bdX3_permuted_52.2.2.2.2.2.1
theorem dX3_permuted_59 : decode cX3_permuted 59 = .ok (.iload 5, 2) := bdX3_permuted_52.2.2.2.2.2.2.1
theorem dX3_permuted_61 : decode cX3_permuted 61 = .ok (.invokevirtual 92, 3) := bdX3_permuted_52.2.2.2.2.2.2.2.1
theorem dX3_permuted_64 : decode cX3_permuted 64 = .ok (.ifCond .eq 13, 3) := bdX3_permuted_52.2.2.2.2.2.2.2.2.1
theorem dX3_permuted_67 : decode cX3_permuted 67 = .ok (.aload_n 0, 1) := bdX3_permuted_52.2.2.2.2.2.2.2.2.2.1
theorem dX3_permuted_68 : decode cX3_permuted 68 = .ok (.getfield 27, 3) := bdX3_permuted_52.2.2.2.2.2.2.2.2.2.2.1
theorem dX3_permuted_71 : decode cX3_permuted 71 = .ok (.iload 6, 2) := bdX3_permuted_52.2.2.2.2.2.2.2.2.2.2.2
set_option maxRecDepth 20000 in
theorem bdX3_permuted_73 : (decode cX3_permuted 73 = .ok (.iaload, 1)) ∧ (decode cX3_permuted 74 = .ok (.goto 5, 3)) ∧ (decode cX3_permuted 77 = .ok (.bipush (-3), 2)) ∧ (decode cX3_permuted 79 = .ok (.ireturn, 1)) := by decide +kernel
theorem dX3_permuted_73 : decode cX3_permuted 73 = .ok (.iaload, 1) := bdX3_permuted_73.1
theorem dX3_permuted_74 : decode cX3_permuted 74 = .ok (.goto 5, 3) := bdX3_permuted_73.2.1
theorem dX3_permuted_77 : decode cX3_permuted 77 = .ok (.bipush (-3), 2) := bdX3_permuted_73.2.2.1
theorem dX3_permuted_79 : decode cX3_permuted 79 = .ok (.ireturn, 1) := bdX3_permuted_73.2.2.2
set_option maxRecDepth 20000 in
theorem bdX3_tries_0 : (decode cX3_tries 0 = .ok (.aload_n 0, 1)) ∧ (decode cX3_tries 1 = .ok (.getfield 46, 3)) ∧ (decode cX3_tries 4 = .ok (.ireturn, 1)) := by decide +kernel
theorem dX3_tries_0 : decode cX3_tries 0 = .ok (.aload_n 0, 1) := bdX3_tries_0.1
theorem dX3_tries_1 : decode cX3_tries 1 = .ok (.getfield 46, 3) := bdX3_tries_0.2.1
theorem dX3_tries_4 : decode cX3_tries 4 = .ok (.ireturn, 1) := bdX3_tries_0.2.2
set_option maxRecDepth 20000 in
theorem bdX3_status_0 : (decode cX3_status 0 = .ok (.aload_n 0, 1)) ∧ (decode cX3_status 1 = .ok (.getfield 49, 3)) ∧ (decode cX3_status 4 = .ok (.ireturn, 1)) := by decide +kernel
theorem dX3_status_0 : decode cX3_status 0 = .ok (.aload_n 0, 1) := bdX3_status_0.1
theorem dX3_status_1 : decode cX3_status 1 = .ok (.getfield 49, 3) := bdX3_status_0.2.1
theorem dX3_status_4 : decode cX3_status 4 = .ok (.ireturn, 1) := bdX3_status_0.2.2
set_option maxRecDepth 20000 in
theorem ggX3_open_X1_has : GoodIn wsX3_open wsX1_has := goodIn_r _ [7, 8, 39, 40, 41, 42, 43] (by decide +kernel) (by decide +kernel)
