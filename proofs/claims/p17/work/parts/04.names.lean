set_option maxRecDepth 20000 in
theorem ggX8_ring_X8_cells : GoodIn wsX8_ring wsX8_cells := goodIn_r _ [9, 1, 10, 11, 12, 13, 14, 15, 16, 17, 18, 19, 20, 21, 22, 23] (by decide +kernel) (by decide +kernel)
set_option maxRecDepth 20000 in
theorem gX8_ring_X8_cells : GoodIn wsX8_ring (wsV RX8 45 RX8 yX8_cells wsX8_cells) := goodIn_app (goodIn_of _ (by decide +kernel)) ggX8_ring_X8_cells
theorem dX8_ring_0 : decode cX8_ring 0 = .ok (.iload_n 1, 1) := by decide +kernel
theorem dX8_ring_1 : decode cX8_ring 1 = .ok (.iconst 3, 1) := by decide +kernel
theorem dX8_ring_2 : decode cX8_ring 2 = .ok (.bipush 10, 2) := by decide +kernel
theorem dX8_ring_4 : decode cX8_ring 4 = .ok (.invokestatic 49, 3) := by decide +kernel
theorem dX8_ring_7 : decode cX8_ring 7 = .ok (.ifCond .ne 6, 3) := by decide +kernel
theorem dX8_ring_10 : decode cX8_ring 10 = .ok (.bipush (-2), 2) := by decide +kernel
theorem dX8_ring_12 : decode cX8_ring 12 = .ok (.ireturn, 1) := by decide +kernel
theorem dX8_ring_13 : decode cX8_ring 13 = .ok (.aload_n 0, 1) := by decide +kernel
theorem dX8_ring_14 : decode cX8_ring 14 = .ok (.invokevirtual 45, 3) := by decide +kernel
theorem dX8_ring_17 : decode cX8_ring 17 = .ok (.istore_n 2, 1) := by decide +kernel
theorem dX8_ring_18 : decode cX8_ring 18 = .ok (.aload_n 0, 1) := by decide +kernel
theorem dX8_ring_19 : decode cX8_ring 19 = .ok (.getfield 7, 3) := by decide +kernel
theorem dX8_ring_22 : decode cX8_ring 22 = .ok (.iconst 0, 1) := by decide +kernel
theorem dX8_ring_23 : decode cX8_ring 23 = .ok (.iload_n 1, 1) := by decide +kernel
theorem dX8_ring_24 : decode cX8_ring 24 = .ok (.iastore, 1) := by decide +kernel
theorem dX8_ring_25 : decode cX8_ring 25 = .ok (.iconst 0, 1) := by decide +kernel
theorem dX8_ring_26 : decode cX8_ring 26 = .ok (.istore_n 3, 1) := by decide +kernel
theorem dX8_ring_27 : decode cX8_ring 27 = .ok (.iload_n 3, 1) := by decide +kernel
theorem dX8_ring_28 : decode cX8_ring 28 = .ok (.bipush 10, 2) := by decide +kernel
theorem dX8_ring_30 : decode cX8_ring 30 = .ok (.if_icmp .ge 18, 3) := by decide +kernel
theorem dX8_ring_33 : decode cX8_ring 33 = .ok (.aload_n 0, 1) := by decide +kernel
theorem dX8_ring_34 : decode cX8_ring 34 = .ok (.getfield 7, 3) := by decide +kernel
theorem dX8_ring_37 : decode cX8_ring 37 = .ok (.iconst 1, 1) := by decide +kernel
theorem dX8_ring_38 : decode cX8_ring 38 = .ok (.iload_n 3, 1) := by decide +kernel
theorem dX8_ring_39 : decode cX8_ring 39 = .ok (.iadd, 1) := by decide +kernel
theorem dX8_ring_40 : decode cX8_ring 40 = .ok (.iconst 0, 1) := by decide +kernel
theorem dX8_ring_41 : decode cX8_ring 41 = .ok (.iastore, 1) := by decide +kernel
theorem dX8_ring_42 : decode cX8_ring 42 = .ok (.iinc 3 1, 3) := by decide +kernel
theorem dX8_ring_45 : decode cX8_ring 45 = .ok (.goto (-18), 3) := by decide +kernel
theorem dX8_ring_48 : decode cX8_ring 48 = .ok (.iload_n 2, 1) := by decide +kernel
theorem dX8_ring_49 : decode cX8_ring 49 = .ok (.ireturn, 1) := by decide +kernel
set_option maxRecDepth 20000 in
theorem ggX8_stand_X8_isCell : GoodIn wsX8_stand wsX8_isCell := goodIn_r _ [6, 7, 8, 9, 5, 10, 1, 11, 12, 13, 18, 19, 20, 21, 22, 23, 24, 25, 26, 27, 28, 29, 30, 31] (by decide +kernel) (by decide +kernel)
set_option maxRecDepth 20000 in
theorem gX8_stand_X8_isCell : GoodIn wsX8_stand (wsV RX8 53 RX8 yX8_isCell wsX8_isCell) := goodIn_app (goodIn_of _ (by decide +kernel)) ggX8_stand_X8_isCell
set_option maxRecDepth 20000 in
theorem ggX8_stand_X8_in : GoodIn wsX8_stand wsX8_in := goodIn_r _ [13] (by decide +kernel) (by decide +kernel)
set_option maxRecDepth 20000 in
theorem gX8_stand_X8_in : GoodIn wsX8_stand (va_wsS RX8 49 yX8_in wsX8_in) := goodIn_app (goodIn_of _ (by decide +kernel)) ggX8_stand_X8_in
set_option maxRecDepth 20000 in
theorem ggX8_stand_X8_walkers : GoodIn wsX8_stand wsX8_walkers := goodIn_r _ [17, 1, 18, 19, 20, 21, 22, 23, 24, 25, 26, 27, 28, 29, 30, 31] (by decide +kernel) (by decide +kernel)
set_option maxRecDepth 20000 in
theorem gX8_stand_X8_walkers : GoodIn wsX8_stand (wsV RX8 57 RX8 yX8_walkers wsX8_walkers) := goodIn_app (goodIn_of _ (by decide +kernel)) ggX8_stand_X8_walkers
theorem dX8_stand_0 : decode cX8_stand 0 = .ok (.aload_n 0, 1) := by decide +kernel
theorem dX8_stand_1 : decode cX8_stand 1 = .ok (.iload_n 1, 1) := by decide +kernel
theorem dX8_stand_2 : decode cX8_stand 2 = .ok (.invokevirtual 53, 3) := by decide +kernel
theorem dX8_stand_5 : decode cX8_stand 5 = .ok (.ifCond .ne 5, 3) := by decide +kernel
theorem dX8_stand_8 : decode cX8_stand 8 = .ok (.iconst (-1), 1) := by decide +kernel
theorem dX8_stand_9 : decode cX8_stand 9 = .ok (.ireturn, 1) := by decide +kernel
theorem dX8_stand_10 : decode cX8_stand 10 = .ok (.iload_n 2, 1) := by decide +kernel
theorem dX8_stand_11 : decode cX8_stand 11 = .ok (.iconst 0, 1) := by decide +kernel
theorem dX8_stand_12 : decode cX8_stand 12 = .ok (.iconst 5, 1) := by decide +kernel
theorem dX8_stand_13 : decode cX8_stand 13 = .ok (.invokestatic 49, 3) := by decide +kernel
theorem dX8_stand_16 : decode cX8_stand 16 = .ok (.ifCond .ne 6, 3) := by decide +kernel
theorem dX8_stand_19 : decode cX8_stand 19 = .ok (.bipush (-2), 2) := by decide +kernel
theorem dX8_stand_21 : decode cX8_stand 21 = .ok (.ireturn, 1) := by decide +kernel
theorem dX8_stand_22 : decode cX8_stand 22 = .ok (.aload_n 0, 1) := by decide +kernel
theorem dX8_stand_23 : decode cX8_stand 23 = .ok (.getfield 7, 3) := by decide +kernel
theorem dX8_stand_26 : decode cX8_stand 26 = .ok (.iconst 1, 1) := by decide +kernel
theorem dX8_stand_27 : decode cX8_stand 27 = .ok (.iload_n 1, 1) := by decide +kernel
theorem dX8_stand_28 : decode cX8_stand 28 = .ok (.iadd, 1) := by decide +kernel
theorem dX8_stand_29 : decode cX8_stand 29 = .ok (.iaload, 1) := by decide +kernel
theorem dX8_stand_30 : decode cX8_stand 30 = .ok (.istore_n 3, 1) := by decide +kernel
theorem dX8_stand_31 : decode cX8_stand 31 = .ok (.aload_n 0, 1) := by decide +kernel
theorem dX8_stand_32 : decode cX8_stand 32 = .ok (.invokevirtual 57, 3) := by decide +kernel
theorem dX8_stand_35 : decode cX8_stand 35 = .ok (.iload_n 3, 1) := by decide +kernel
theorem dX8_stand_36 : decode cX8_stand 36 = .ok (.isub, 1) := by decide +kernel
theorem dX8_stand_37 : decode cX8_stand 37 = .ok (.iload_n 2, 1) := by decide +kernel
theorem dX8_stand_38 : decode cX8_stand 38 = .ok (.iadd, 1) := by decide +kernel
theorem dX8_stand_39 : decode cX8_stand 39 = .ok (.iconst 5, 1) := by decide +kernel
theorem dX8_stand_40 : decode cX8_stand 40 = .ok (.if_icmp .le 6, 3) := by decide +kernel
theorem dX8_stand_43 : decode cX8_stand 43 = .ok (.bipush (-4), 2) := by decide +kernel
theorem dX8_stand_45 : decode cX8_stand 45 = .ok (.ireturn, 1) := by decide +kernel
theorem dX8_stand_46 : decode cX8_stand 46 = .ok (.aload_n 0, 1) := by decide +kernel
theorem dX8_stand_47 : decode cX8_stand 47 = .ok (.getfield 7, 3) := by decide +kernel
theorem dX8_stand_50 : decode cX8_stand 50 = .ok (.iconst 1, 1) := by decide +kernel
theorem dX8_stand_51 : decode cX8_stand 51 = .ok (.iload_n 1, 1) := by decide +kernel
theorem dX8_stand_52 : decode cX8_stand 52 = .ok (.iadd, 1) := by decide +kernel
theorem dX8_stand_53 : decode cX8_stand 53 = .ok (.iload_n 2, 1) := by decide +kernel
theorem dX8_stand_54 : decode cX8_stand 54 = .ok (.iastore, 1) := by decide +kernel
theorem dX8_stand_55 : decode cX8_stand 55 = .ok (.iload_n 3, 1) := by decide +kernel
theorem dX8_stand_56 : decode cX8_stand 56 = .ok (.ireturn, 1) := by decide +kernel
set_option maxRecDepth 20000 in
theorem ggX8_beside_X8_cells : GoodIn wsX8_beside wsX8_cells := goodIn_r _ [5, 6, 7, 8, 9, 10, 11, 12, 13, 14, 15, 16, 17, 18, 19, 20] (by decide +kernel) (by decide +kernel)
set_option maxRecDepth 20000 in
theorem gX8_beside_X8_cells : GoodIn wsX8_beside (wsV RX8 45 RX8 yX8_cells wsX8_cells) := goodIn_app (goodIn_of _ (by decide +kernel)) ggX8_beside_X8_cells
theorem dX8_beside_0 : decode cX8_beside 0 = .ok (.iload_n 1, 1) := by decide +kernel
theorem dX8_beside_1 : decode cX8_beside 1 = .ok (.iload_n 2, 1) := by decide +kernel
theorem dX8_beside_2 : decode cX8_beside 2 = .ok (.iadd, 1) := by decide +kernel
theorem dX8_beside_3 : decode cX8_beside 3 = .ok (.aload_n 0, 1) := by decide +kernel
theorem dX8_beside_4 : decode cX8_beside 4 = .ok (.invokevirtual 45, 3) := by decide +kernel
theorem dX8_beside_7 : decode cX8_beside 7 = .ok (.iadd, 1) := by decide +kernel
theorem dX8_beside_8 : decode cX8_beside 8 = .ok (.aload_n 0, 1) := by decide +kernel
theorem dX8_beside_9 : decode cX8_beside 9 = .ok (.invokevirtual 45, 3) := by decide +kernel
theorem dX8_beside_12 : decode cX8_beside 12 = .ok (.irem, 1) := by decide +kernel
theorem dX8_beside_13 : decode cX8_beside 13 = .ok (.ireturn, 1) := by decide +kernel
set_option maxRecDepth 20000 in
theorem ggX8_far_X8_beside : GoodIn wsX8_far wsX8_beside := goodIn_r _ [5, 6, 7, 8, 4, 9, 10, 11, 12, 13, 14, 15, 16, 17, 18, 19, 20, 21, 22, 23, 24] (by decide +kernel) (by decide +kernel)
set_option maxRecDepth 20000 in
theorem gX8_far_X8_beside : GoodIn wsX8_far (wsV RX8 60 RX8 yX8_beside wsX8_beside) := goodIn_app (goodIn_of _ (by decide +kernel)) ggX8_far_X8_beside
theorem dX8_far_0 : decode cX8_far 0 = .ok (.iconst 1, 1) := by decide +kernel
theorem dX8_far_1 : decode cX8_far 1 = .ok (.istore 4, 2) := by decide +kernel
theorem dX8_far_3 : decode cX8_far 3 = .ok (.aload_n 0, 1) := by decide +kernel
theorem dX8_far_4 : decode cX8_far 4 = .ok (.iload_n 2, 1) := by decide +kernel
theorem dX8_far_5 : decode cX8_far 5 = .ok (.iload_n 3, 1) := by decide +kernel
theorem dX8_far_6 : decode cX8_far 6 = .ok (.invokevirtual 60, 3) := by decide +kernel
theorem dX8_far_9 : decode cX8_far 9 = .ok (.istore 5, 2) := by decide +kernel
theorem dX8_far_11 : decode cX8_far 11 = .ok (.iload_n 1, 1) := by decide +kernel
theorem dX8_far_12 : decode cX8_far 12 = .ok (.iload 5, 2) := by decide +kernel
theorem dX8_far_14 : decode cX8_far 14 = .ok (.ishr, 1) := by decide +kernel
theorem dX8_far_15 : decode cX8_far 15 = .ok (.iconst 1, 1) := by decide +kernel
theorem dX8_far_16 : decode cX8_far 16 = .ok (.iand, 1) := by decide +kernel
theorem dX8_far_17 : decode cX8_far 17 = .ok (.ifCond .ne 18, 3) := by decide +kernel
theorem dX8_far_20 : decode cX8_far 20 = .ok (.aload_n 0, 1) := by decide +kernel
theorem dX8_far_21 : decode cX8_far 21 = .ok (.iload 5, 2) := by decide +kernel
theorem dX8_far_23 : decode cX8_far 23 = .ok (.iload_n 3, 1) := by decide +kernel
theorem dX8_far_24 : decode cX8_far 24 = .ok (.invokevirtual 60, 3) := by decide +kernel
theorem dX8_far_27 : decode cX8_far 27 = .ok (.istore 5, 2) := by decide +kernel
theorem dX8_far_29 : decode cX8_far 29 = .ok (.iinc 4 1, 3) := by decide +kernel
theorem dX8_far_32 : decode cX8_far 32 = .ok (.goto (-21), 3) := by decide +kernel
theorem dX8_far_35 : decode cX8_far 35 = .ok (.iload 4, 2) := by decide +kernel
theorem dX8_far_37 : decode cX8_far 37 = .ok (.ireturn, 1) := by decide +kernel
set_option maxRecDepth 20000 in
theorem ggX8_gapAt_X8_far : GoodIn wsX8_gapAt wsX8_far := goodIn_r _ [5, 6, 7, 8, 4, 9, 10, 11, 12, 13, 14, 15, 16, 17, 18, 19, 20, 21, 22, 23, 24, 25, 26, 27, 28] (by decide +kernel) (by decide +kernel)
set_option maxRecDepth 20000 in
theorem gX8_gapAt_X8_far : GoodIn wsX8_gapAt (wsV RX8 64 RX8 yX8_far wsX8_far) := goodIn_app (goodIn_of _ (by decide +kernel)) ggX8_gapAt_X8_far
set_option maxRecDepth 20000 in
theorem ggX8_gapAt_X8_beside : GoodIn wsX8_gapAt wsX8_beside := goodIn_r _ [9, 10, 11, 12, 4, 13, 14, 15, 16, 17, 18, 19, 20, 21, 22, 23, 24, 25, 26, 27, 28] (by decide +kernel) (by decide +kernel)
set_option maxRecDepth 20000 in
theorem gX8_gapAt_X8_beside : GoodIn wsX8_gapAt (wsV RX8 60 RX8 yX8_beside wsX8_beside) := goodIn_app (goodIn_of _ (by decide +kernel)) ggX8_gapAt_X8_beside
theorem dX8_gapAt_0 : decode cX8_gapAt 0 = .ok (.iload_n 2, 1) := by decide +kernel
theorem dX8_gapAt_1 : decode cX8_gapAt 1 = .ok (.istore 5, 2) := by decide +kernel
theorem dX8_gapAt_3 : decode cX8_gapAt 3 = .ok (.iconst 0, 1) := by decide +kernel
theorem dX8_gapAt_4 : decode cX8_gapAt 4 = .ok (.istore 6, 2) := by decide +kernel
theorem dX8_gapAt_6 : decode cX8_gapAt 6 = .ok (.iload 6, 2) := by decide +kernel
theorem dX8_gapAt_8 : decode cX8_gapAt 8 = .ok (.iload 4, 2) := by decide +kernel
theorem dX8_gapAt_10 : decode cX8_gapAt 10 = .ok (.if_icmp .ge 27, 3) := by decide +kernel
theorem dX8_gapAt_13 : decode cX8_gapAt 13 = .ok (.aload_n 0, 1) := by decide +kernel
theorem dX8_gapAt_14 : decode cX8_gapAt 14 = .ok (.iload 5, 2) := by decide +kernel
theorem dX8_gapAt_16 : decode cX8_gapAt 16 = .ok (.iload_n 3, 1) := by decide +kernel
theorem dX8_gapAt_17 : decode cX8_gapAt 17 = .ok (.aload_n 0, 1) := by decide +kernel
theorem dX8_gapAt_18 : decode cX8_gapAt 18 = .ok (.iload_n 1, 1) := by decide +kernel
theorem dX8_gapAt_19 : decode cX8_gapAt 19 = .ok (.iload 5, 2) := by decide +kernel
theorem dX8_gapAt_21 : decode cX8_gapAt 21 = .ok (.iload_n 3, 1) := by decide +kernel
theorem dX8_gapAt_22 : decode cX8_gapAt 22 = .ok (.invokevirtual 64, 3) := by decide +kernel
theorem dX8_gapAt_25 : decode cX8_gapAt 25 = .ok (.imul, 1) := by decide +kernel
theorem dX8_gapAt_26 : decode cX8_gapAt 26 = .ok (.invokevirtual 60, 3) := by decide +kernel
theorem dX8_gapAt_29 : decode cX8_gapAt 29 = .ok (.istore 5, 2) := by decide +kernel
theorem dX8_gapAt_31 : decode cX8_gapAt 31 = .ok (.iinc 6 1, 3) := by decide +kernel
theorem dX8_gapAt_34 : decode cX8_gapAt 34 = .ok (.goto (-28), 3) := by decide +kernel
theorem dX8_gapAt_37 : decode cX8_gapAt 37 = .ok (.aload_n 0, 1) := by decide +kernel
theorem dX8_gapAt_38 : decode cX8_gapAt 38 = .ok (.iload_n 1, 1) := by decide +kernel
theorem dX8_gapAt_39 : decode cX8_gapAt 39 = .ok (.iload 5, 2) := by decide +kernel
theorem dX8_gapAt_41 : decode cX8_gapAt 41 = .ok (.iload_n 3, 1) := by decide +kernel
theorem dX8_gapAt_42 : decode cX8_gapAt 42 = .ok (.invokevirtual 64, 3) := by decide +kernel
theorem dX8_gapAt_45 : decode cX8_gapAt 45 = .ok (.ireturn, 1) := by decide +kernel
set_option maxRecDepth 20000 in
theorem ggX8_held_X8_size : GoodIn wsX8_held wsX8_size := goodIn_r _ [4] (by decide +kernel) (by decide +kernel)
set_option maxRecDepth 20000 in
theorem gX8_held_X8_size : GoodIn wsX8_held (va_wsS RX8 68 yX8_size wsX8_size) := goodIn_app (goodIn_of _ (by decide +kernel)) ggX8_held_X8_size
set_option maxRecDepth 20000 in
theorem ggX8_held_X8_gapAt : GoodIn wsX8_held wsX8_gapAt := goodIn_r _ [8, 9, 10, 11, 3, 12, 13, 14, 15, 16, 17, 18, 19, 20, 21, 22, 23, 24, 25, 26, 27, 28, 29, 30, 31, 32, 33, 34, 35] (by decide +kernel) (by decide +kernel)
set_option maxRecDepth 20000 in
theorem gX8_held_X8_gapAt : GoodIn wsX8_held (wsV RX8 72 RX8 yX8_gapAt wsX8_gapAt) := goodIn_app (goodIn_of _ (by decide +kernel)) ggX8_held_X8_gapAt
theorem dX8_held_0 : decode cX8_held 0 = .ok (.iload_n 1, 1) := by decide +kernel
theorem dX8_held_1 : decode cX8_held 1 = .ok (.invokestatic 68, 3) := by decide +kernel
theorem dX8_held_4 : decode cX8_held 4 = .ok (.istore 6, 2) := by decide +kernel
theorem dX8_held_6 : decode cX8_held 6 = .ok (.iconst 0, 1) := by decide +kernel
theorem dX8_held_7 : decode cX8_held 7 = .ok (.istore 7, 2) := by decide +kernel
theorem dX8_held_9 : decode cX8_held 9 = .ok (.iload 7, 2) := by decide +kernel
theorem dX8_held_11 : decode cX8_held 11 = .ok (.iload 6, 2) := by decide +kernel
theorem dX8_held_13 : decode cX8_held 13 = .ok (.if_icmp .ge 40, 3) := by decide +kernel
theorem dX8_held_16 : decode cX8_held 16 = .ok (.aload_n 0, 1) := by decide +kernel
theorem dX8_held_17 : decode cX8_held 17 = .ok (.iload_n 1, 1) := by decide +kernel
theorem dX8_held_18 : decode cX8_held 18 = .ok (.iload_n 2, 1) := by decide +kernel
theorem dX8_held_19 : decode cX8_held 19 = .ok (.iload_n 3, 1) := by decide +kernel
theorem dX8_held_20 : decode cX8_held 20 = .ok (.iload 7, 2) := by decide +kernel
theorem dX8_held_22 : decode cX8_held 22 = .ok (.invokevirtual 72, 3) := by decide +kernel
theorem dX8_held_25 : decode cX8_held 25 = .ok (.aload_n 0, 1) := by decide +kernel
theorem dX8_held_26 : decode cX8_held 26 = .ok (.iload_n 1, 1) := by decide +kernel
theorem dX8_held_27 : decode cX8_held 27 = .ok (.iload 4, 2) := by decide +kernel
theorem dX8_held_29 : decode cX8_held 29 = .ok (.iload 5, 2) := by decide +kernel
theorem dX8_held_31 : decode cX8_held 31 = .ok (.iload 7, 2) := by decide +kernel
theorem dX8_held_33 : decode cX8_held 33 = .ok (.invokevirtual 72, 3) := by decide +kernel
theorem dX8_held_36 : decode cX8_held 36 = .ok (.isub, 1) := by decide +kernel
theorem dX8_held_37 : decode cX8_held 37 = .ok (.istore 8, 2) := by decide +kernel
theorem dX8_held_39 : decode cX8_held 39 = .ok (.iload 8, 2) := by decide +kernel
theorem dX8_held_41 : decode cX8_held 41 = .ok (.ifCond .eq 6, 3) := by decide +kernel
theorem dX8_held_44 : decode cX8_held 44 = .ok (.iload 8, 2) := by decide +kernel
theorem dX8_held_46 : decode cX8_held 46 = .ok (.ireturn, 1) := by decide +kernel
theorem dX8_held_47 : decode cX8_held 47 = .ok (.iinc 7 1, 3) := by decide +kernel
theorem dX8_held_50 : decode cX8_held 50 = .ok (.goto (-41), 3) := by decide +kernel
theorem dX8_held_53 : decode cX8_held 53 = .ok (.iconst 0, 1) := by decide +kernel
theorem dX8_held_54 : decode cX8_held 54 = .ok (.ireturn, 1) := by decide +kernel
set_option maxRecDepth 20000 in
theorem ggX8_viewWay_X8_held : GoodIn wsX8_viewWay wsX8_held := goodIn_r _ [5, 6, 7, 4, 8, 9, 10, 11, 12, 13, 14, 15, 16, 17, 18, 19, 20, 21, 22, 23, 24, 25, 26, 27, 28, 29, 30, 31, 32, 33, 34, 35, 36, 37, 38, 39] (by decide +kernel) (by decide +kernel)
set_option maxRecDepth 20000 in
theorem gX8_viewWay_X8_held : GoodIn wsX8_viewWay (wsV RX8 76 RX8 yX8_held wsX8_held) := goodIn_app (goodIn_of _ (by decide +kernel)) ggX8_viewWay_X8_held
theorem dX8_viewWay_0 : decode cX8_viewWay 0 = .ok (.aload_n 0, 1) := by decide +kernel
theorem dX8_viewWay_1 : decode cX8_viewWay 1 = .ok (.iload_n 1, 1) := by decide +kernel
theorem dX8_viewWay_2 : decode cX8_viewWay 2 = .ok (.iload_n 2, 1) := by decide +kernel
theorem dX8_viewWay_3 : decode cX8_viewWay 3 = .ok (.iconst 1, 1) := by decide +kernel
theorem dX8_viewWay_4 : decode cX8_viewWay 4 = .ok (.iload_n 2, 1) := by decide +kernel
theorem dX8_viewWay_5 : decode cX8_viewWay 5 = .ok (.iconst (-1), 1) := by decide +kernel
theorem dX8_viewWay_6 : decode cX8_viewWay 6 = .ok (.invokevirtual 76, 3) := by decide +kernel
theorem dX8_viewWay_9 : decode cX8_viewWay 9 = .ok (.ifCond .gt 7, 3) := by decide +kernel
theorem dX8_viewWay_12 : decode cX8_viewWay 12 = .ok (.iconst 1, 1) := by decide +kernel
theorem dX8_viewWay_13 : decode cX8_viewWay 13 = .ok (.goto 4, 3) := by decide +kernel
theorem dX8_viewWay_16 : decode cX8_viewWay 16 = .ok (.iconst (-1), 1) := by decide +kernel
theorem dX8_viewWay_17 : decode cX8_viewWay 17 = .ok (.ireturn, 1) := by decide +kernel
set_option maxRecDepth 20000 in
theorem ggX8_gap_X8_isStand : GoodIn wsX8_gap wsX8_isStand := goodIn_r _ [5, 6, 7, 8, 9, 4, 10, 11, 12, 13, 14, 15, 16, 17, 50, 51, 52, 53, 54, 55, 56, 57, 58, 59, 60, 61, 62, 63] (by decide +kernel) (by decide +kernel)
set_option maxRecDepth 20000 in
theorem gX8_gap_X8_isStand : GoodIn wsX8_gap (wsV RX8 80 RX8 yX8_isStand wsX8_isStand) := goodIn_app (goodIn_of _ (by decide +kernel)) ggX8_gap_X8_isStand
set_option maxRecDepth 20000 in
theorem ggX8_gap_X8_in : GoodIn wsX8_gap wsX8_in := goodIn_r _ [17] (by decide +kernel) (by decide +kernel)
set_option maxRecDepth 20000 in
theorem gX8_gap_X8_in : GoodIn wsX8_gap (va_wsS RX8 49 yX8_in wsX8_in) := goodIn_app (goodIn_of _ (by decide +kernel)) ggX8_gap_X8_in
set_option maxRecDepth 20000 in
theorem ggX8_gap_X8_now : GoodIn wsX8_gap wsX8_now := goodIn_r _ [21, 6, 22, 11, 12, 13, 4, 14, 50, 51, 52, 53, 54, 55, 56, 57, 58, 59, 60, 61, 62, 63] (by decide +kernel) (by decide +kernel)
set_option maxRecDepth 20000 in
theorem gX8_gap_X8_now : GoodIn wsX8_gap (wsV RX8 83 RX8 yX8_now wsX8_now) := goodIn_app (goodIn_of _ (by decide +kernel)) ggX8_gap_X8_now
set_option maxRecDepth 20000 in
theorem ggX8_gap_X8_standsOf : GoodIn wsX8_gap wsX8_standsOf := goodIn_r _ [26, 22, 11, 12, 13, 4, 14, 6, 50, 51, 52, 53, 54, 55, 56, 57, 58, 59, 60, 61, 62, 63] (by decide +kernel) (by decide +kernel)
set_option maxRecDepth 20000 in
theorem gX8_gap_X8_standsOf : GoodIn wsX8_gap (wsV RX8 86 RX8 yX8_standsOf wsX8_standsOf) := goodIn_app (goodIn_of _ (by decide +kernel)) ggX8_gap_X8_standsOf
set_option maxRecDepth 20000 in
theorem ggX8_gap_X8_size : GoodIn wsX8_gap wsX8_size := goodIn_r _ [29] (by decide +kernel) (by decide +kernel)
set_option maxRecDepth 20000 in
theorem gX8_gap_X8_size : GoodIn wsX8_gap (va_wsS RX8 68 yX8_size wsX8_size) := goodIn_app (goodIn_of _ (by decide +kernel)) ggX8_gap_X8_size
set_option maxRecDepth 20000 in
theorem ggX8_gap_X8_viewWay : GoodIn wsX8_gap wsX8_viewWay := goodIn_r _ [33, 34, 35, 36, 4, 37, 27, 28, 29, 38, 39, 40, 41, 42, 43, 44, 45, 46, 47, 48, 49, 11, 12, 13, 14, 6, 50, 51, 52, 53, 54, 55, 56, 57, 58, 59, 60, 61, 62, 63] (by decide +kernel) (by decide +kernel)
set_option maxRecDepth 20000 in
theorem gX8_gap_X8_viewWay : GoodIn wsX8_gap (wsV RX8 89 RX8 yX8_viewWay wsX8_viewWay) := goodIn_app (goodIn_of _ (by decide +kernel)) ggX8_gap_X8_viewWay
set_option maxRecDepth 20000 in
theorem ggX8_gap_X8_gapAt : GoodIn wsX8_gap wsX8_gapAt := goodIn_r _ [41, 42, 43, 44, 4, 45, 46, 47, 48, 49, 11, 12, 13, 14, 6, 50, 51, 52, 53, 54, 55, 56, 57, 58, 59, 60, 61, 62, 63] (by decide +kernel) (by decide +kernel)
set_option maxRecDepth 20000 in
theorem gX8_gap_X8_gapAt : GoodIn wsX8_gap (wsV RX8 72 RX8 yX8_gapAt wsX8_gapAt) := goodIn_app (goodIn_of _ (by decide +kernel)) ggX8_gap_X8_gapAt
theorem dX8_gap_0 : decode cX8_gap 0 = .ok (.aload_n 0, 1) := by decide +kernel
theorem dX8_gap_1 : decode cX8_gap 1 = .ok (.iload_n 1, 1) := by decide +kernel
theorem dX8_gap_2 : decode cX8_gap 2 = .ok (.invokevirtual 80, 3) := by decide +kernel
theorem dX8_gap_5 : decode cX8_gap 5 = .ok (.ifCond .ne 5, 3) := by decide +kernel
theorem dX8_gap_8 : decode cX8_gap 8 = .ok (.iconst (-1), 1) := by decide +kernel
theorem dX8_gap_9 : decode cX8_gap 9 = .ok (.ireturn, 1) := by decide +kernel
theorem dX8_gap_10 : decode cX8_gap 10 = .ok (.iload_n 2, 1) := by decide +kernel
theorem dX8_gap_11 : decode cX8_gap 11 = .ok (.iconst 0, 1) := by decide +kernel
theorem dX8_gap_12 : decode cX8_gap 12 = .ok (.iconst 2, 1) := by decide +kernel
theorem dX8_gap_13 : decode cX8_gap 13 = .ok (.invokestatic 49, 3) := by decide +kernel
theorem dX8_gap_16 : decode cX8_gap 16 = .ok (.ifCond .ne 6, 3) := by decide +kernel
theorem dX8_gap_19 : decode cX8_gap 19 = .ok (.bipush (-2), 2) := by decide +kernel
theorem dX8_gap_21 : decode cX8_gap 21 = .ok (.ireturn, 1) := by decide +kernel
theorem dX8_gap_22 : decode cX8_gap 22 = .ok (.aload_n 0, 1) := by decide +kernel
theorem dX8_gap_23 : decode cX8_gap 23 = .ok (.aload_n 0, 1) := by decide +kernel
theorem dX8_gap_24 : decode cX8_gap 24 = .ok (.invokevirtual 83, 3) := by decide +kernel
theorem dX8_gap_27 : decode cX8_gap 27 = .ok (.invokevirtual 86, 3) := by decide +kernel
theorem dX8_gap_30 : decode cX8_gap 30 = .ok (.istore 4, 2) := by decide +kernel
theorem dX8_gap_32 : decode cX8_gap 32 = .ok (.iload 4, 2) := by decide +kernel
theorem dX8_gap_34 : decode cX8_gap 34 = .ok (.invokestatic 68, 3) := by decide +kernel
theorem dX8_gap_37 : decode cX8_gap 37 = .ok (.istore 5, 2) := by decide +kernel
theorem dX8_gap_39 : decode cX8_gap 39 = .ok (.iload_n 3, 1) := by decide +kernel
theorem dX8_gap_40 : decode cX8_gap 40 = .ok (.iconst (-1), 1) := by decide +kernel
theorem dX8_gap_41 : decode cX8_gap 41 = .ok (.if_icmp .ne 6, 3) := by decide +kernel
theorem dX8_gap_44 : decode cX8_gap 44 = .ok (.iload 5, 2) := by decide +kernel
theorem dX8_gap_46 : decode cX8_gap 46 = .ok (.ireturn, 1) := by decide +kernel
theorem dX8_gap_47 : decode cX8_gap 47 = .ok (.iload_n 2, 1) := by decide +kernel
theorem dX8_gap_48 : decode cX8_gap 48 = .ok (.ifCond .ne 7, 3) := by decide +kernel
theorem dX8_gap_51 : decode cX8_gap 51 = .ok (.iconst 1, 1) := by decide +kernel
theorem dX8_gap_52 : decode cX8_gap 52 = .ok (.goto 19, 3) := by decide +kernel
theorem dX8_gap_55 : decode cX8_gap 55 = .ok (.iload_n 2, 1) := by decide +kernel
theorem dX8_gap_56 : decode cX8_gap 56 = .ok (.iconst 1, 1) := by decide +kernel
theorem dX8_gap_57 : decode cX8_gap 57 = .ok (.if_icmp .ne 7, 3) := by decide +kernel
theorem dX8_gap_60 : decode cX8_gap 60 = .ok (.iconst (-1), 1) := by decide +kernel
theorem dX8_gap_61 : decode cX8_gap 61 = .ok (.goto 10, 3) := by decide +kernel
theorem dX8_gap_64 : decode cX8_gap 64 = .ok (.aload_n 0, 1) := by decide +kernel
theorem dX8_gap_65 : decode cX8_gap 65 = .ok (.iload 4, 2) := by decide +kernel
theorem dX8_gap_67 : decode cX8_gap 67 = .ok (.iload_n 1, 1) := by decide +kernel
theorem dX8_gap_68 : decode cX8_gap 68 = .ok (.invokevirtual 89, 3) := by decide +kernel
theorem dX8_gap_71 : decode cX8_gap 71 = .ok (.istore 6, 2) := by decide +kernel
theorem dX8_gap_73 : decode cX8_gap 73 = .ok (.iload_n 3, 1) := by decide +kernel
theorem dX8_gap_74 : decode cX8_gap 74 = .ok (.iconst 0, 1) := by decide +kernel
theorem dX8_gap_75 : decode cX8_gap 75 = .ok (.iload 5, 2) := by decide +kernel
theorem dX8_gap_77 : decode cX8_gap 77 = .ok (.iconst 1, 1) := by decide +kernel
theorem dX8_gap_78 : decode cX8_gap 78 = .ok (.isub, 1) := by decide +kernel
theorem dX8_gap_79 : decode cX8_gap 79 = .ok (.invokestatic 49, 3) := by decide +kernel
theorem dX8_gap_82 : decode cX8_gap 82 = .ok (.ifCond .eq 16, 3) := by decide +kernel
theorem dX8_gap_85 : decode cX8_gap 85 = .ok (.aload_n 0, 1) := by decide +kernel
theorem dX8_gap_86 : decode cX8_gap 86 = .ok (.iload 4, 2) := by decide +kernel
theorem dX8_gap_88 : decode cX8_gap 88 = .ok (.iload_n 1, 1) := by decide +kernel
theorem dX8_gap_89 : decode cX8_gap 89 = .ok (.iload 6, 2) := by decide +kernel
theorem dX8_gap_91 : decode cX8_gap 91 = .ok (.iload_n 3, 1) := by decide +kernel
theorem dX8_gap_92 : decode cX8_gap 92 = .ok (.invokevirtual 72, 3) := by decide +kernel
theorem dX8_gap_95 : decode cX8_gap 95 = .ok (.goto 5, 3) := by decide +kernel
theorem dX8_gap_98 : decode cX8_gap 98 = .ok (.bipush (-6), 2) := by decide +kernel
theorem dX8_gap_100 : decode cX8_gap 100 = .ok (.ireturn, 1) := by decide +kernel
theorem dX8_has_0 : decode cX8_has 0 = .ok (.iload_n 0, 1) := by decide +kernel
theorem dX8_has_1 : decode cX8_has 1 = .ok (.iload_n 1, 1) := by decide +kernel
theorem dX8_has_2 : decode cX8_has 2 = .ok (.ishr, 1) := by decide +kernel
theorem dX8_has_3 : decode cX8_has 3 = .ok (.iconst 1, 1) := by decide +kernel
theorem dX8_has_4 : decode cX8_has 4 = .ok (.iand, 1) := by decide +kernel
theorem dX8_has_5 : decode cX8_has 5 = .ok (.iconst 1, 1) := by decide +kernel
theorem dX8_has_6 : decode cX8_has 6 = .ok (.if_icmp .ne 7, 3) := by decide +kernel
theorem dX8_has_9 : decode cX8_has 9 = .ok (.iconst 1, 1) := by decide +kernel
theorem dX8_has_10 : decode cX8_has 10 = .ok (.goto 4, 3) := by decide +kernel
theorem dX8_has_13 : decode cX8_has 13 = .ok (.iconst 0, 1) := by decide +kernel
theorem dX8_has_14 : decode cX8_has 14 = .ok (.ireturn, 1) := by decide +kernel
set_option maxRecDepth 20000 in
theorem ggX8_isTurned_X8_cells : GoodIn wsX8_isTurned wsX8_cells := goodIn_r _ [5, 6, 29, 30, 31, 32, 33, 34, 35, 36, 37, 38, 39, 40, 41, 42] (by decide +kernel) (by decide +kernel)
set_option maxRecDepth 20000 in
theorem gX8_isTurned_X8_cells : GoodIn wsX8_isTurned (wsV RX8 45 RX8 yX8_cells wsX8_cells) := goodIn_app (goodIn_of _ (by decide +kernel)) ggX8_isTurned_X8_cells
set_option maxRecDepth 20000 in
theorem ggX8_isTurned_X8_has : GoodIn wsX8_isTurned wsX8_has := goodIn_r _ [9] (by decide +kernel) (by decide +kernel)
set_option maxRecDepth 20000 in
theorem gX8_isTurned_X8_has : GoodIn wsX8_isTurned (va_wsS RX8 92 yX8_has wsX8_has) := goodIn_app (goodIn_of _ (by decide +kernel)) ggX8_isTurned_X8_has
set_option maxRecDepth 20000 in
theorem ggX8_isTurned_X8_held : GoodIn wsX8_isTurned wsX8_held := goodIn_r _ [13, 14, 15, 4, 16, 17, 18, 19, 20, 21, 22, 23, 24, 25, 26, 27, 28, 1, 2, 3, 5, 6, 29, 30, 31, 32, 33, 34, 35, 36, 37, 38, 39, 40, 41, 42] (by decide +kernel) (by decide +kernel)
set_option maxRecDepth 20000 in
theorem gX8_isTurned_X8_held : GoodIn wsX8_isTurned (wsV RX8 76 RX8 yX8_held wsX8_held) := goodIn_app (goodIn_of _ (by decide +kernel)) ggX8_isTurned_X8_held
theorem dX8_isTurned_0 : decode cX8_isTurned 0 = .ok (.iconst 0, 1) := by decide +kernel
theorem dX8_isTurned_1 : decode cX8_isTurned 1 = .ok (.istore_n 2, 1) := by decide +kernel
theorem dX8_isTurned_2 : decode cX8_isTurned 2 = .ok (.iconst 0, 1) := by decide +kernel
theorem dX8_isTurned_3 : decode cX8_isTurned 3 = .ok (.istore_n 3, 1) := by decide +kernel
theorem dX8_isTurned_4 : decode cX8_isTurned 4 = .ok (.iload_n 3, 1) := by decide +kernel
theorem dX8_isTurned_5 : decode cX8_isTurned 5 = .ok (.aload_n 0, 1) := by decide +kernel
theorem dX8_isTurned_6 : decode cX8_isTurned 6 = .ok (.invokevirtual 45, 3) := by decide +kernel
theorem dX8_isTurned_9 : decode cX8_isTurned 9 = .ok (.if_icmp .ge 64, 3) := by decide +kernel
theorem dX8_isTurned_12 : decode cX8_isTurned 12 = .ok (.iconst 0, 1) := by decide +kernel
theorem dX8_isTurned_13 : decode cX8_isTurned 13 = .ok (.istore 4, 2) := by decide +kernel
theorem dX8_isTurned_15 : decode cX8_isTurned 15 = .ok (.iload 4, 2) := by decide +kernel
theorem dX8_isTurned_17 : decode cX8_isTurned 17 = .ok (.iload_n 3, 1) := by decide +kernel
theorem dX8_isTurned_18 : decode cX8_isTurned 18 = .ok (.if_icmp .ge 49, 3) := by decide +kernel
theorem dX8_isTurned_21 : decode cX8_isTurned 21 = .ok (.iload_n 2, 1) := by decide +kernel
theorem dX8_isTurned_22 : decode cX8_isTurned 22 = .ok (.ifCond .ne 33, 3) := by decide +kernel
theorem dX8_isTurned_25 : decode cX8_isTurned 25 = .ok (.iload_n 1, 1) := by decide +kernel
theorem dX8_isTurned_26 : decode cX8_isTurned 26 = .ok (.iload_n 3, 1) := by decide +kernel
theorem dX8_isTurned_27 : decode cX8_isTurned 27 = .ok (.invokestatic 92, 3) := by decide +kernel
theorem dX8_isTurned_30 : decode cX8_isTurned 30 = .ok (.ifCond .eq 29, 3) := by decide +kernel
theorem dX8_isTurned_33 : decode cX8_isTurned 33 = .ok (.iload_n 1, 1) := by decide +kernel
theorem dX8_isTurned_34 : decode cX8_isTurned 34 = .ok (.iload 4, 2) := by decide +kernel
theorem dX8_isTurned_36 : decode cX8_isTurned 36 = .ok (.invokestatic 92, 3) := by decide +kernel
theorem dX8_isTurned_39 : decode cX8_isTurned 39 = .ok (.ifCond .eq 20, 3) := by decide +kernel
theorem dX8_isTurned_42 : decode cX8_isTurned 42 = .ok (.aload_n 0, 1) := by decide +kernel
theorem dX8_isTurned_43 : decode cX8_isTurned 43 = .ok (.iload_n 1, 1) := by decide +kernel
theorem dX8_isTurned_44 : decode cX8_isTurned 44 = .ok (.iload_n 3, 1) := by decide +kernel
theorem dX8_isTurned_45 : decode cX8_isTurned 45 = .ok (.iconst 1, 1) := by decide +kernel
theorem dX8_isTurned_46 : decode cX8_isTurned 46 = .ok (.iload 4, 2) := by decide +kernel
theorem dX8_isTurned_48 : decode cX8_isTurned 48 = .ok (.iconst 1, 1) := by decide +kernel
theorem dX8_isTurned_49 : decode cX8_isTurned 49 = .ok (.invokevirtual 76, 3) := by decide +kernel
theorem dX8_isTurned_52 : decode cX8_isTurned 52 = .ok (.ifCond .ne 7, 3) := by decide +kernel
theorem dX8_isTurned_55 : decode cX8_isTurned 55 = .ok (.iconst 1, 1) := by decide +kernel
theorem dX8_isTurned_56 : decode cX8_isTurned 56 = .ok (.goto 4, 3) := by decide +kernel
theorem dX8_isTurned_59 : decode cX8_isTurned 59 = .ok (.iconst 0, 1) := by decide +kernel
theorem dX8_isTurned_60 : decode cX8_isTurned 60 = .ok (.istore_n 2, 1) := by decide +kernel
theorem dX8_isTurned_61 : decode cX8_isTurned 61 = .ok (.iinc 4 1, 3) := by decide +kernel
theorem dX8_isTurned_64 : decode cX8_isTurned 64 = .ok (.goto (-49), 3) := by decide +kernel
theorem dX8_isTurned_67 : decode cX8_isTurned 67 = .ok (.iinc 3 1, 3) := by decide +kernel
theorem dX8_isTurned_70 : decode cX8_isTurned 70 = .ok (.goto (-66), 3) := by decide +kernel
theorem dX8_isTurned_73 : decode cX8_isTurned 73 = .ok (.iload_n 2, 1) := by decide +kernel
theorem dX8_isTurned_74 : decode cX8_isTurned 74 = .ok (.ireturn, 1) := by decide +kernel
set_option maxRecDepth 20000 in
theorem ggX8_isMirrored_X8_cells : GoodIn wsX8_isMirrored wsX8_cells := goodIn_r _ [5, 6, 29, 30, 31, 32, 33, 34, 35, 36, 37, 38, 39, 40, 41, 42] (by decide +kernel) (by decide +kernel)
set_option maxRecDepth 20000 in
theorem gX8_isMirrored_X8_cells : GoodIn wsX8_isMirrored (wsV RX8 45 RX8 yX8_cells wsX8_cells) := goodIn_app (goodIn_of _ (by decide +kernel)) ggX8_isMirrored_X8_cells
set_option maxRecDepth 20000 in
theorem ggX8_isMirrored_X8_has : GoodIn wsX8_isMirrored wsX8_has := goodIn_r _ [9] (by decide +kernel) (by decide +kernel)
set_option maxRecDepth 20000 in
theorem gX8_isMirrored_X8_has : GoodIn wsX8_isMirrored (va_wsS RX8 92 yX8_has wsX8_has) := goodIn_app (goodIn_of _ (by decide +kernel)) ggX8_isMirrored_X8_has
set_option maxRecDepth 20000 in
theorem ggX8_isMirrored_X8_held : GoodIn wsX8_isMirrored wsX8_held := goodIn_r _ [13, 14, 15, 4, 16, 17, 18, 19, 20, 21, 22, 23, 24, 25, 26, 27, 28, 1, 2, 3, 5, 6, 29, 30, 31, 32, 33, 34, 35, 36, 37, 38, 39, 40, 41, 42] (by decide +kernel) (by decide +kernel)
set_option maxRecDepth 20000 in
theorem gX8_isMirrored_X8_held : GoodIn wsX8_isMirrored (wsV RX8 76 RX8 yX8_held wsX8_held) := goodIn_app (goodIn_of _ (by decide +kernel)) ggX8_isMirrored_X8_held
theorem dX8_isMirrored_0 : decode cX8_isMirrored 0 = .ok (.iconst 0, 1) := by decide +kernel
theorem dX8_isMirrored_1 : decode cX8_isMirrored 1 = .ok (.istore_n 2, 1) := by decide +kernel
theorem dX8_isMirrored_2 : decode cX8_isMirrored 2 = .ok (.iconst 0, 1) := by decide +kernel
theorem dX8_isMirrored_3 : decode cX8_isMirrored 3 = .ok (.istore_n 3, 1) := by decide +kernel
theorem dX8_isMirrored_4 : decode cX8_isMirrored 4 = .ok (.iload_n 3, 1) := by decide +kernel
theorem dX8_isMirrored_5 : decode cX8_isMirrored 5 = .ok (.aload_n 0, 1) := by decide +kernel
theorem dX8_isMirrored_6 : decode cX8_isMirrored 6 = .ok (.invokevirtual 45, 3) := by decide +kernel
theorem dX8_isMirrored_9 : decode cX8_isMirrored 9 = .ok (.if_icmp .ge 67, 3) := by decide +kernel
theorem dX8_isMirrored_12 : decode cX8_isMirrored 12 = .ok (.iconst 0, 1) := by decide +kernel
theorem dX8_isMirrored_13 : decode cX8_isMirrored 13 = .ok (.istore 4, 2) := by decide +kernel
theorem dX8_isMirrored_15 : decode cX8_isMirrored 15 = .ok (.iload 4, 2) := by decide +kernel
theorem dX8_isMirrored_17 : decode cX8_isMirrored 17 = .ok (.aload_n 0, 1) := by decide +kernel
theorem dX8_isMirrored_18 : decode cX8_isMirrored 18 = .ok (.invokevirtual 45, 3) := by decide +kernel
theorem dX8_isMirrored_21 : decode cX8_isMirrored 21 = .ok (.if_icmp .ge 49, 3) := by decide +kernel
theorem dX8_isMirrored_24 : decode cX8_isMirrored 24 = .ok (.iload_n 2, 1) := by decide +kernel
theorem dX8_isMirrored_25 : decode cX8_isMirrored 25 = .ok (.ifCond .ne 33, 3) := by decide +kernel
theorem dX8_isMirrored_28 : decode cX8_isMirrored 28 = .ok (.iload_n 1, 1) := by decide +kernel
theorem dX8_isMirrored_29 : decode cX8_isMirrored 29 = .ok (.iload_n 3, 1) := by decide +kernel
theorem dX8_isMirrored_30 : decode cX8_isMirrored 30 = .ok (.invokestatic 92, 3) := by decide +kernel
theorem dX8_isMirrored_33 : decode cX8_isMirrored 33 = .ok (.ifCond .eq 29, 3) := by decide +kernel
theorem dX8_isMirrored_36 : decode cX8_isMirrored 36 = .ok (.iload_n 1, 1) := by decide +kernel
theorem dX8_isMirrored_37 : decode cX8_isMirrored 37 = .ok (.iload 4, 2) := by decide +kernel
theorem dX8_isMirrored_39 : decode cX8_isMirrored 39 = .ok (.invokestatic 92, 3) := by decide +kernel
theorem dX8_isMirrored_42 : decode cX8_isMirrored 42 = .ok (.ifCond .eq 20, 3) := by decide +kernel
theorem dX8_isMirrored_45 : decode cX8_isMirrored 45 = .ok (.aload_n 0, 1) := by decide +kernel
theorem dX8_isMirrored_46 : decode cX8_isMirrored 46 = .ok (.iload_n 1, 1) := by decide +kernel
theorem dX8_isMirrored_47 : decode cX8_isMirrored 47 = .ok (.iload_n 3, 1) := by decide +kernel
theorem dX8_isMirrored_48 : decode cX8_isMirrored 48 = .ok (.iconst 1, 1) := by decide +kernel
theorem dX8_isMirrored_49 : decode cX8_isMirrored 49 = .ok (.iload 4, 2) := by decide +kernel
theorem dX8_isMirrored_51 : decode cX8_isMirrored 51 = .ok (.iconst (-1), 1) := by decide +kernel
theorem dX8_isMirrored_52 : decode cX8_isMirrored 52 = .ok (.invokevirtual 76, 3) := by decide +kernel
theorem dX8_isMirrored_55 : decode cX8_isMirrored 55 = .ok (.ifCond .ne 7, 3) := by decide +kernel
theorem dX8_isMirrored_58 : decode cX8_isMirrored 58 = .ok (.iconst 1, 1) := by decide +kernel
theorem dX8_isMirrored_59 : decode cX8_isMirrored 59 = .ok (.goto 4, 3) := by decide +kernel
theorem dX8_isMirrored_62 : decode cX8_isMirrored 62 = .ok (.iconst 0, 1) := by decide +kernel
theorem dX8_isMirrored_63 : decode cX8_isMirrored 63 = .ok (.istore_n 2, 1) := by decide +kernel
theorem dX8_isMirrored_64 : decode cX8_isMirrored 64 = .ok (.iinc 4 1, 3) := by decide +kernel
theorem dX8_isMirrored_67 : decode cX8_isMirrored 67 = .ok (.goto (-52), 3) := by decide +kernel
theorem dX8_isMirrored_70 : decode cX8_isMirrored 70 = .ok (.iinc 3 1, 3) := by decide +kernel
theorem dX8_isMirrored_73 : decode cX8_isMirrored 73 = .ok (.goto (-69), 3) := by decide +kernel
theorem dX8_isMirrored_76 : decode cX8_isMirrored 76 = .ok (.iload_n 2, 1) := by decide +kernel
theorem dX8_isMirrored_77 : decode cX8_isMirrored 77 = .ok (.ireturn, 1) := by decide +kernel
set_option maxRecDepth 20000 in
theorem ggX8_even_X8_cells : GoodIn wsX8_even wsX8_cells := goodIn_r _ [5, 6, 29, 30, 31, 32, 33, 34, 35, 36, 37, 38, 39, 40, 41, 42] (by decide +kernel) (by decide +kernel)
set_option maxRecDepth 20000 in
theorem gX8_even_X8_cells : GoodIn wsX8_even (wsV RX8 45 RX8 yX8_cells wsX8_cells) := goodIn_app (goodIn_of _ (by decide +kernel)) ggX8_even_X8_cells
set_option maxRecDepth 20000 in
theorem ggX8_even_X8_has : GoodIn wsX8_even wsX8_has := goodIn_r _ [9] (by decide +kernel) (by decide +kernel)
set_option maxRecDepth 20000 in
theorem gX8_even_X8_has : GoodIn wsX8_even (va_wsS RX8 92 yX8_has wsX8_has) := goodIn_app (goodIn_of _ (by decide +kernel)) ggX8_even_X8_has
set_option maxRecDepth 20000 in
theorem ggX8_even_X8_held : GoodIn wsX8_even wsX8_held := goodIn_r _ [13, 14, 15, 4, 16, 17, 18, 19, 20, 21, 22, 23, 24, 25, 26, 27, 28, 1, 2, 3, 5, 6, 29, 30, 31, 32, 33, 34, 35, 36, 37, 38, 39, 40, 41, 42] (by decide +kernel) (by decide +kernel)
set_option maxRecDepth 20000 in
theorem gX8_even_X8_held : GoodIn wsX8_even (wsV RX8 76 RX8 yX8_held wsX8_held) := goodIn_app (goodIn_of _ (by decide +kernel)) ggX8_even_X8_held
theorem dX8_even_0 : decode cX8_even 0 = .ok (.iconst 0, 1) := by decide +kernel
theorem dX8_even_1 : decode cX8_even 1 = .ok (.istore_n 2, 1) := by decide +kernel
theorem dX8_even_2 : decode cX8_even 2 = .ok (.iconst 0, 1) := by decide +kernel
theorem dX8_even_3 : decode cX8_even 3 = .ok (.istore_n 3, 1) := by decide +kernel
theorem dX8_even_4 : decode cX8_even 4 = .ok (.iload_n 3, 1) := by decide +kernel
theorem dX8_even_5 : decode cX8_even 5 = .ok (.aload_n 0, 1) := by decide +kernel
theorem dX8_even_6 : decode cX8_even 6 = .ok (.invokevirtual 45, 3) := by decide +kernel
theorem dX8_even_9 : decode cX8_even 9 = .ok (.if_icmp .ge 37, 3) := by decide +kernel
theorem dX8_even_12 : decode cX8_even 12 = .ok (.iload_n 2, 1) := by decide +kernel
theorem dX8_even_13 : decode cX8_even 13 = .ok (.iload_n 1, 1) := by decide +kernel
theorem dX8_even_14 : decode cX8_even 14 = .ok (.iload_n 3, 1) := by decide +kernel
theorem dX8_even_15 : decode cX8_even 15 = .ok (.invokestatic 92, 3) := by decide +kernel
theorem dX8_even_18 : decode cX8_even 18 = .ok (.ifCond .eq 19, 3) := by decide +kernel
theorem dX8_even_21 : decode cX8_even 21 = .ok (.aload_n 0, 1) := by decide +kernel
theorem dX8_even_22 : decode cX8_even 22 = .ok (.iload_n 1, 1) := by decide +kernel
theorem dX8_even_23 : decode cX8_even 23 = .ok (.iload_n 3, 1) := by decide +kernel
theorem dX8_even_24 : decode cX8_even 24 = .ok (.iconst 1, 1) := by decide +kernel
theorem dX8_even_25 : decode cX8_even 25 = .ok (.iload_n 3, 1) := by decide +kernel
theorem dX8_even_26 : decode cX8_even 26 = .ok (.iconst (-1), 1) := by decide +kernel
theorem dX8_even_27 : decode cX8_even 27 = .ok (.invokevirtual 76, 3) := by decide +kernel
theorem dX8_even_30 : decode cX8_even 30 = .ok (.ifCond .ne 7, 3) := by decide +kernel
theorem dX8_even_33 : decode cX8_even 33 = .ok (.iconst 1, 1) := by decide +kernel
theorem dX8_even_34 : decode cX8_even 34 = .ok (.goto 4, 3) := by decide +kernel
theorem dX8_even_37 : decode cX8_even 37 = .ok (.iconst 0, 1) := by decide +kernel
theorem dX8_even_38 : decode cX8_even 38 = .ok (.iadd, 1) := by decide +kernel
theorem dX8_even_39 : decode cX8_even 39 = .ok (.istore_n 2, 1) := by decide +kernel
theorem dX8_even_40 : decode cX8_even 40 = .ok (.iinc 3 1, 3) := by decide +kernel
theorem dX8_even_43 : decode cX8_even 43 = .ok (.goto (-39), 3) := by decide +kernel
theorem dX8_even_46 : decode cX8_even 46 = .ok (.iload_n 2, 1) := by decide +kernel
theorem dX8_even_47 : decode cX8_even 47 = .ok (.ireturn, 1) := by decide +kernel
set_option maxRecDepth 20000 in
theorem ggX8_views_X8_cells : GoodIn wsX8_views wsX8_cells := goodIn_r _ [5, 6, 33, 34, 35, 36, 37, 38, 39, 40, 41, 42, 43, 44, 45, 46] (by decide +kernel) (by decide +kernel)
set_option maxRecDepth 20000 in
theorem gX8_views_X8_cells : GoodIn wsX8_views (wsV RX8 45 RX8 yX8_cells wsX8_cells) := goodIn_app (goodIn_of _ (by decide +kernel)) ggX8_views_X8_cells
set_option maxRecDepth 20000 in
theorem ggX8_views_X8_has : GoodIn wsX8_views wsX8_has := goodIn_r _ [9] (by decide +kernel) (by decide +kernel)
set_option maxRecDepth 20000 in
theorem gX8_views_X8_has : GoodIn wsX8_views (va_wsS RX8 92 yX8_has wsX8_has) := goodIn_app (goodIn_of _ (by decide +kernel)) ggX8_views_X8_has
set_option maxRecDepth 20000 in
theorem ggX8_views_X8_viewWay : GoodIn wsX8_views wsX8_viewWay := goodIn_r _ [13, 14, 15, 16, 4, 17, 18, 19, 20, 21, 22, 23, 24, 25, 26, 27, 28, 29, 30, 31, 32, 1, 2, 3, 5, 6, 33, 34, 35, 36, 37, 38, 39, 40, 41, 42, 43, 44, 45, 46] (by decide +kernel) (by decide +kernel)
set_option maxRecDepth 20000 in
theorem gX8_views_X8_viewWay : GoodIn wsX8_views (wsV RX8 89 RX8 yX8_viewWay wsX8_viewWay) := goodIn_app (goodIn_of _ (by decide +kernel)) ggX8_views_X8_viewWay
set_option maxRecDepth 20000 in
theorem ggX8_views_X8_held : GoodIn wsX8_views wsX8_held := goodIn_r _ [17, 18, 19, 4, 20, 21, 22, 23, 24, 25, 26, 27, 28, 29, 30, 31, 32, 1, 2, 3, 5, 6, 33, 34, 35, 36, 37, 38, 39, 40, 41, 42, 43, 44, 45, 46] (by decide +kernel) (by decide +kernel)
set_option maxRecDepth 20000 in
theorem gX8_views_X8_held : GoodIn wsX8_views (wsV RX8 76 RX8 yX8_held wsX8_held) := goodIn_app (goodIn_of _ (by decide +kernel)) ggX8_views_X8_held
theorem dX8_views_0 : decode cX8_views 0 = .ok (.iconst 0, 1) := by decide +kernel
theorem dX8_views_1 : decode cX8_views 1 = .ok (.istore_n 2, 1) := by decide +kernel
theorem dX8_views_2 : decode cX8_views 2 = .ok (.iconst 0, 1) := by decide +kernel
theorem dX8_views_3 : decode cX8_views 3 = .ok (.istore_n 3, 1) := by decide +kernel
theorem dX8_views_4 : decode cX8_views 4 = .ok (.iload_n 3, 1) := by decide +kernel
theorem dX8_views_5 : decode cX8_views 5 = .ok (.aload_n 0, 1) := by decide +kernel
theorem dX8_views_6 : decode cX8_views 6 = .ok (.invokevirtual 45, 3) := by decide +kernel
theorem dX8_views_9 : decode cX8_views 9 = .ok (.if_icmp .ge 89, 3) := by decide +kernel
theorem dX8_views_12 : decode cX8_views 12 = .ok (.iload_n 1, 1) := by decide +kernel
theorem dX8_views_13 : decode cX8_views 13 = .ok (.iload_n 3, 1) := by decide +kernel
theorem dX8_views_14 : decode cX8_views 14 = .ok (.invokestatic 92, 3) := by decide +kernel
theorem dX8_views_17 : decode cX8_views 17 = .ok (.istore 4, 2) := by decide +kernel
theorem dX8_views_19 : decode cX8_views 19 = .ok (.iconst 0, 1) := by decide +kernel
theorem dX8_views_20 : decode cX8_views 20 = .ok (.istore 5, 2) := by decide +kernel
theorem dX8_views_22 : decode cX8_views 22 = .ok (.iload 5, 2) := by decide +kernel
theorem dX8_views_24 : decode cX8_views 24 = .ok (.iload_n 3, 1) := by decide +kernel
theorem dX8_views_25 : decode cX8_views 25 = .ok (.if_icmp .ge 54, 3) := by decide +kernel
theorem dX8_views_28 : decode cX8_views 28 = .ok (.iload 4, 2) := by decide +kernel
theorem dX8_views_30 : decode cX8_views 30 = .ok (.ifCond .eq 49, 3) := by decide +kernel
theorem dX8_views_33 : decode cX8_views 33 = .ok (.iload_n 1, 1) := by decide +kernel
theorem dX8_views_34 : decode cX8_views 34 = .ok (.iload 5, 2) := by decide +kernel
theorem dX8_views_36 : decode cX8_views 36 = .ok (.invokestatic 92, 3) := by decide +kernel
theorem dX8_views_39 : decode cX8_views 39 = .ok (.ifCond .eq 27, 3) := by decide +kernel
theorem dX8_views_42 : decode cX8_views 42 = .ok (.aload_n 0, 1) := by decide +kernel
theorem dX8_views_43 : decode cX8_views 43 = .ok (.iload_n 1, 1) := by decide +kernel
theorem dX8_views_44 : decode cX8_views 44 = .ok (.iload_n 3, 1) := by decide +kernel
theorem dX8_views_45 : decode cX8_views 45 = .ok (.aload_n 0, 1) := by decide +kernel
theorem dX8_views_46 : decode cX8_views 46 = .ok (.iload_n 1, 1) := by decide +kernel
theorem dX8_views_47 : decode cX8_views 47 = .ok (.iload_n 3, 1) := by decide +kernel
theorem dX8_views_48 : decode cX8_views 48 = .ok (.invokevirtual 89, 3) := by decide +kernel
theorem dX8_views_51 : decode cX8_views 51 = .ok (.iload 5, 2) := by decide +kernel
theorem dX8_views_53 : decode cX8_views 53 = .ok (.aload_n 0, 1) := by decide +kernel
theorem dX8_views_54 : decode cX8_views 54 = .ok (.iload_n 1, 1) := by decide +kernel
theorem dX8_views_55 : decode cX8_views 55 = .ok (.iload 5, 2) := by decide +kernel
theorem dX8_views_57 : decode cX8_views 57 = .ok (.invokevirtual 89, 3) := by decide +kernel
theorem dX8_views_60 : decode cX8_views 60 = .ok (.invokevirtual 76, 3) := by decide +kernel
theorem dX8_views_63 : decode cX8_views 63 = .ok (.ifCond .eq 7, 3) := by decide +kernel
theorem dX8_views_66 : decode cX8_views 66 = .ok (.iconst 1, 1) := by decide +kernel
theorem dX8_views_67 : decode cX8_views 67 = .ok (.goto 4, 3) := by decide +kernel
theorem dX8_views_70 : decode cX8_views 70 = .ok (.iconst 0, 1) := by decide +kernel
theorem dX8_views_71 : decode cX8_views 71 = .ok (.istore 4, 2) := by decide +kernel
theorem dX8_views_73 : decode cX8_views 73 = .ok (.iinc 5 1, 3) := by decide +kernel
theorem dX8_views_76 : decode cX8_views 76 = .ok (.goto (-54), 3) := by decide +kernel
theorem dX8_views_79 : decode cX8_views 79 = .ok (.iload_n 2, 1) := by decide +kernel
theorem dX8_views_80 : decode cX8_views 80 = .ok (.iload 4, 2) := by decide +kernel
theorem dX8_views_82 : decode cX8_views 82 = .ok (.ifCond .eq 7, 3) := by decide +kernel
theorem dX8_views_85 : decode cX8_views 85 = .ok (.iconst 1, 1) := by decide +kernel
theorem dX8_views_86 : decode cX8_views 86 = .ok (.goto 4, 3) := by decide +kernel
theorem dX8_views_89 : decode cX8_views 89 = .ok (.iconst 0, 1) := by decide +kernel
theorem dX8_views_90 : decode cX8_views 90 = .ok (.iadd, 1) := by decide +kernel
theorem dX8_views_91 : decode cX8_views 91 = .ok (.istore_n 2, 1) := by decide +kernel
theorem dX8_views_92 : decode cX8_views 92 = .ok (.iinc 3 1, 3) := by decide +kernel
theorem dX8_views_95 : decode cX8_views 95 = .ok (.goto (-91), 3) := by decide +kernel
theorem dX8_views_98 : decode cX8_views 98 = .ok (.iload_n 2, 1) := by decide +kernel
theorem dX8_views_99 : decode cX8_views 99 = .ok (.ireturn, 1) := by decide +kernel
set_option maxRecDepth 20000 in
theorem ggX8_turnedBy_X8_cells : GoodIn wsX8_turnedBy wsX8_cells := goodIn_r _ [5, 6, 10, 11, 12, 13, 14, 15, 16, 17, 18, 19, 20, 21, 22, 23] (by decide +kernel) (by decide +kernel)
set_option maxRecDepth 20000 in
theorem gX8_turnedBy_X8_cells : GoodIn wsX8_turnedBy (wsV RX8 45 RX8 yX8_cells wsX8_cells) := goodIn_app (goodIn_of _ (by decide +kernel)) ggX8_turnedBy_X8_cells
set_option maxRecDepth 20000 in
theorem ggX8_turnedBy_X8_has : GoodIn wsX8_turnedBy wsX8_has := goodIn_r _ [9] (by decide +kernel) (by decide +kernel)
set_option maxRecDepth 20000 in
theorem gX8_turnedBy_X8_has : GoodIn wsX8_turnedBy (va_wsS RX8 92 yX8_has wsX8_has) := goodIn_app (goodIn_of _ (by decide +kernel)) ggX8_turnedBy_X8_has
theorem dX8_turnedBy_0 : decode cX8_turnedBy 0 = .ok (.iload_n 1, 1) := by decide +kernel
theorem dX8_turnedBy_1 : decode cX8_turnedBy 1 = .ok (.ifCond .ne 6, 3) := by decide +kernel
theorem dX8_turnedBy_4 : decode cX8_turnedBy 4 = .ok (.bipush (-6), 2) := by decide +kernel
theorem dX8_turnedBy_6 : decode cX8_turnedBy 6 = .ok (.ireturn, 1) := by decide +kernel
theorem dX8_turnedBy_7 : decode cX8_turnedBy 7 = .ok (.iconst 1, 1) := by decide +kernel
theorem dX8_turnedBy_8 : decode cX8_turnedBy 8 = .ok (.istore_n 2, 1) := by decide +kernel
theorem dX8_turnedBy_9 : decode cX8_turnedBy 9 = .ok (.iload_n 2, 1) := by decide +kernel
theorem dX8_turnedBy_10 : decode cX8_turnedBy 10 = .ok (.aload_n 0, 1) := by decide +kernel
theorem dX8_turnedBy_11 : decode cX8_turnedBy 11 = .ok (.invokevirtual 45, 3) := by decide +kernel
theorem dX8_turnedBy_14 : decode cX8_turnedBy 14 = .ok (.if_icmp .ge 67, 3) := by decide +kernel
theorem dX8_turnedBy_17 : decode cX8_turnedBy 17 = .ok (.iconst 1, 1) := by decide +kernel
theorem dX8_turnedBy_18 : decode cX8_turnedBy 18 = .ok (.istore_n 3, 1) := by decide +kernel
theorem dX8_turnedBy_19 : decode cX8_turnedBy 19 = .ok (.iconst 0, 1) := by decide +kernel
theorem dX8_turnedBy_20 : decode cX8_turnedBy 20 = .ok (.istore 4, 2) := by decide +kernel
theorem dX8_turnedBy_22 : decode cX8_turnedBy 22 = .ok (.iload 4, 2) := by decide +kernel
theorem dX8_turnedBy_24 : decode cX8_turnedBy 24 = .ok (.aload_n 0, 1) := by decide +kernel
theorem dX8_turnedBy_25 : decode cX8_turnedBy 25 = .ok (.invokevirtual 45, 3) := by decide +kernel
theorem dX8_turnedBy_28 : decode cX8_turnedBy 28 = .ok (.if_icmp .ge 41, 3) := by decide +kernel
theorem dX8_turnedBy_31 : decode cX8_turnedBy 31 = .ok (.iload_n 3, 1) := by decide +kernel
theorem dX8_turnedBy_32 : decode cX8_turnedBy 32 = .ok (.ifCond .eq 29, 3) := by decide +kernel
theorem dX8_turnedBy_35 : decode cX8_turnedBy 35 = .ok (.iload_n 1, 1) := by decide +kernel
theorem dX8_turnedBy_36 : decode cX8_turnedBy 36 = .ok (.iload 4, 2) := by decide +kernel
theorem dX8_turnedBy_38 : decode cX8_turnedBy 38 = .ok (.invokestatic 92, 3) := by decide +kernel
theorem dX8_turnedBy_41 : decode cX8_turnedBy 41 = .ok (.iload_n 1, 1) := by decide +kernel
theorem dX8_turnedBy_42 : decode cX8_turnedBy 42 = .ok (.iload 4, 2) := by decide +kernel
theorem dX8_turnedBy_44 : decode cX8_turnedBy 44 = .ok (.iload_n 2, 1) := by decide +kernel
theorem dX8_turnedBy_45 : decode cX8_turnedBy 45 = .ok (.iadd, 1) := by decide +kernel
theorem dX8_turnedBy_46 : decode cX8_turnedBy 46 = .ok (.aload_n 0, 1) := by decide +kernel
theorem dX8_turnedBy_47 : decode cX8_turnedBy 47 = .ok (.invokevirtual 45, 3) := by decide +kernel
theorem dX8_turnedBy_50 : decode cX8_turnedBy 50 = .ok (.irem, 1) := by decide +kernel
theorem dX8_turnedBy_51 : decode cX8_turnedBy 51 = .ok (.invokestatic 92, 3) := by decide +kernel
theorem dX8_turnedBy_54 : decode cX8_turnedBy 54 = .ok (.if_icmp .ne 7, 3) := by decide +kernel
theorem dX8_turnedBy_57 : decode cX8_turnedBy 57 = .ok (.iconst 1, 1) := by decide +kernel
theorem dX8_turnedBy_58 : decode cX8_turnedBy 58 = .ok (.goto 4, 3) := by decide +kernel
theorem dX8_turnedBy_61 : decode cX8_turnedBy 61 = .ok (.iconst 0, 1) := by decide +kernel
theorem dX8_turnedBy_62 : decode cX8_turnedBy 62 = .ok (.istore_n 3, 1) := by decide +kernel
theorem dX8_turnedBy_63 : decode cX8_turnedBy 63 = .ok (.iinc 4 1, 3) := by decide +kernel
theorem dX8_turnedBy_66 : decode cX8_turnedBy 66 = .ok (.goto (-44), 3) := by decide +kernel
theorem dX8_turnedBy_69 : decode cX8_turnedBy 69 = .ok (.iload_n 3, 1) := by decide +kernel
theorem dX8_turnedBy_70 : decode cX8_turnedBy 70 = .ok (.ifCond .eq 5, 3) := by decide +kernel
theorem dX8_turnedBy_73 : decode cX8_turnedBy 73 = .ok (.iload_n 2, 1) := by decide +kernel
theorem dX8_turnedBy_74 : decode cX8_turnedBy 74 = .ok (.ireturn, 1) := by decide +kernel
theorem dX8_turnedBy_75 : decode cX8_turnedBy 75 = .ok (.iinc 2 1, 3) := by decide +kernel
theorem dX8_turnedBy_78 : decode cX8_turnedBy 78 = .ok (.goto (-69), 3) := by decide +kernel
theorem dX8_turnedBy_81 : decode cX8_turnedBy 81 = .ok (.aload_n 0, 1) := by decide +kernel
theorem dX8_turnedBy_82 : decode cX8_turnedBy 82 = .ok (.invokevirtual 45, 3) := by decide +kernel
theorem dX8_turnedBy_85 : decode cX8_turnedBy 85 = .ok (.ireturn, 1) := by decide +kernel
set_option maxRecDepth 20000 in
theorem ggX8_shape_X8_now : GoodIn wsX8_shape wsX8_now := goodIn_r _ [5, 6, 7, 8, 9, 10, 4, 11, 62, 63, 64, 65, 66, 67, 68, 69, 70, 71, 72, 73, 74, 75] (by decide +kernel) (by decide +kernel)
set_option maxRecDepth 20000 in
theorem gX8_shape_X8_now : GoodIn wsX8_shape (wsV RX8 83 RX8 yX8_now wsX8_now) := goodIn_app (goodIn_of _ (by decide +kernel)) ggX8_shape_X8_now
set_option maxRecDepth 20000 in
theorem ggX8_shape_X8_standsOf : GoodIn wsX8_shape wsX8_standsOf := goodIn_r _ [15, 7, 8, 9, 10, 4, 11, 6, 62, 63, 64, 65, 66, 67, 68, 69, 70, 71, 72, 73, 74, 75] (by decide +kernel) (by decide +kernel)
set_option maxRecDepth 20000 in
theorem gX8_shape_X8_standsOf : GoodIn wsX8_shape (wsV RX8 86 RX8 yX8_standsOf wsX8_standsOf) := goodIn_app (goodIn_of _ (by decide +kernel)) ggX8_shape_X8_standsOf
set_option maxRecDepth 20000 in
theorem ggX8_shape_X8_isTurned : GoodIn wsX8_shape wsX8_isTurned := goodIn_r _ [19, 8, 9, 10, 4, 11, 6, 20, 21, 22, 23, 24, 25, 26, 27, 28, 29, 30, 31, 32, 33, 34, 35, 36, 37, 38, 39, 40, 41, 62, 63, 64, 65, 66, 67, 68, 69, 70, 71, 72, 73, 74, 75] (by decide +kernel) (by decide +kernel)
set_option maxRecDepth 20000 in
theorem gX8_shape_X8_isTurned : GoodIn wsX8_shape (wsV RX8 96 RX8 yX8_isTurned wsX8_isTurned) := goodIn_app (goodIn_of _ (by decide +kernel)) ggX8_shape_X8_isTurned
set_option maxRecDepth 20000 in
theorem ggX8_shape_X8_isMirrored : GoodIn wsX8_shape wsX8_isMirrored := goodIn_r _ [45, 8, 9, 10, 4, 11, 6, 20, 21, 22, 23, 24, 25, 26, 27, 28, 29, 30, 31, 32, 33, 34, 35, 36, 37, 38, 39, 40, 41, 62, 63, 64, 65, 66, 67, 68, 69, 70, 71, 72, 73, 74, 75] (by decide +kernel) (by decide +kernel)
set_option maxRecDepth 20000 in
theorem gX8_shape_X8_isMirrored : GoodIn wsX8_shape (wsV RX8 99 RX8 yX8_isMirrored wsX8_isMirrored) := goodIn_app (goodIn_of _ (by decide +kernel)) ggX8_shape_X8_isMirrored
set_option maxRecDepth 20000 in
theorem ggX8_shape_X8_even : GoodIn wsX8_shape wsX8_even := goodIn_r _ [49, 8, 9, 10, 4, 11, 6, 20, 21, 22, 23, 24, 25, 26, 27, 28, 29, 30, 31, 32, 33, 34, 35, 36, 37, 38, 39, 40, 41, 62, 63, 64, 65, 66, 67, 68, 69, 70, 71, 72, 73, 74, 75] (by decide +kernel) (by decide +kernel)
set_option maxRecDepth 20000 in
theorem gX8_shape_X8_even : GoodIn wsX8_shape (wsV RX8 102 RX8 yX8_even wsX8_even) := goodIn_app (goodIn_of _ (by decide +kernel)) ggX8_shape_X8_even
set_option maxRecDepth 20000 in
theorem ggX8_shape_X8_views : GoodIn wsX8_shape wsX8_views := goodIn_r _ [53, 8, 9, 10, 4, 11, 6, 20, 21, 22, 54, 55, 56, 57, 23, 24, 25, 26, 27, 28, 29, 30, 31, 32, 33, 34, 35, 36, 37, 38, 39, 40, 41, 62, 63, 64, 65, 66, 67, 68, 69, 70, 71, 72, 73, 74, 75] (by decide +kernel) (by decide +kernel)
set_option maxRecDepth 20000 in
theorem gX8_shape_X8_views : GoodIn wsX8_shape (wsV RX8 105 RX8 yX8_views wsX8_views) := goodIn_app (goodIn_of _ (by decide +kernel)) ggX8_shape_X8_views
set_option maxRecDepth 20000 in
theorem ggX8_shape_X8_turnedBy : GoodIn wsX8_shape wsX8_turnedBy := goodIn_r _ [61, 8, 9, 10, 4, 11, 6, 20, 21, 22, 62, 63, 64, 65, 66, 67, 68, 69, 70, 71, 72, 73, 74, 75] (by decide +kernel) (by decide +kernel)
set_option maxRecDepth 20000 in
theorem gX8_shape_X8_turnedBy : GoodIn wsX8_shape (wsV RX8 108 RX8 yX8_turnedBy wsX8_turnedBy) := goodIn_app (goodIn_of _ (by decide +kernel)) ggX8_shape_X8_turnedBy
theorem dX8_shape_0 : decode cX8_shape 0 = .ok (.aload_n 0, 1) := by decide +kernel
theorem dX8_shape_1 : decode cX8_shape 1 = .ok (.aload_n 0, 1) := by decide +kernel
theorem dX8_shape_2 : decode cX8_shape 2 = .ok (.invokevirtual 83, 3) := by decide +kernel
theorem dX8_shape_5 : decode cX8_shape 5 = .ok (.invokevirtual 86, 3) := by decide +kernel
theorem dX8_shape_8 : decode cX8_shape 8 = .ok (.istore_n 2, 1) := by decide +kernel
theorem dX8_shape_9 : decode cX8_shape 9 = .ok (.iload_n 1, 1) := by decide +kernel
theorem dX8_shape_10 : decode cX8_shape 10 = .ok (.tableswitch 110 0 5 #[38, 52, 66, 92, 98, 104], 38) := by decide +kernel
theorem dX8_shape_48 : decode cX8_shape 48 = .ok (.aload_n 0, 1) := by decide +kernel
theorem dX8_shape_49 : decode cX8_shape 49 = .ok (.iload_n 2, 1) := by decide +kernel
theorem dX8_shape_50 : decode cX8_shape 50 = .ok (.invokevirtual 96, 3) := by decide +kernel
theorem dX8_shape_53 : decode cX8_shape 53 = .ok (.ifCond .eq 7, 3) := by decide +kernel
theorem dX8_shape_56 : decode cX8_shape 56 = .ok (.iconst 1, 1) := by decide +kernel
theorem dX8_shape_57 : decode cX8_shape 57 = .ok (.goto 4, 3) := by decide +kernel
theorem dX8_shape_60 : decode cX8_shape 60 = .ok (.iconst 0, 1) := by decide +kernel
theorem dX8_shape_61 : decode cX8_shape 61 = .ok (.ireturn, 1) := by decide +kernel
theorem dX8_shape_62 : decode cX8_shape 62 = .ok (.aload_n 0, 1) := by decide +kernel
theorem dX8_shape_63 : decode cX8_shape 63 = .ok (.iload_n 2, 1) := by decide +kernel
theorem dX8_shape_64 : decode cX8_shape 64 = .ok (.invokevirtual 99, 3) := by decide +kernel
theorem dX8_shape_67 : decode cX8_shape 67 = .ok (.ifCond .eq 7, 3) := by decide +kernel
theorem dX8_shape_70 : decode cX8_shape 70 = .ok (.iconst 1, 1) := by decide +kernel
theorem dX8_shape_71 : decode cX8_shape 71 = .ok (.goto 4, 3) := by decide +kernel
theorem dX8_shape_74 : decode cX8_shape 74 = .ok (.iconst 0, 1) := by decide +kernel
theorem dX8_shape_75 : decode cX8_shape 75 = .ok (.ireturn, 1) := by decide +kernel
theorem dX8_shape_76 : decode cX8_shape 76 = .ok (.iload_n 2, 1) := by decide +kernel
theorem dX8_shape_77 : decode cX8_shape 77 = .ok (.ifCond .eq 23, 3) := by decide +kernel
theorem dX8_shape_80 : decode cX8_shape 80 = .ok (.aload_n 0, 1) := by decide +kernel
theorem dX8_shape_81 : decode cX8_shape 81 = .ok (.iload_n 2, 1) := by decide +kernel
theorem dX8_shape_82 : decode cX8_shape 82 = .ok (.invokevirtual 96, 3) := by decide +kernel
theorem dX8_shape_85 : decode cX8_shape 85 = .ok (.ifCond .ne 15, 3) := by decide +kernel
theorem dX8_shape_88 : decode cX8_shape 88 = .ok (.aload_n 0, 1) := by decide +kernel
theorem dX8_shape_89 : decode cX8_shape 89 = .ok (.iload_n 2, 1) := by decide +kernel
theorem dX8_shape_90 : decode cX8_shape 90 = .ok (.invokevirtual 99, 3) := by decide +kernel
theorem dX8_shape_93 : decode cX8_shape 93 = .ok (.ifCond .ne 7, 3) := by decide +kernel
theorem dX8_shape_96 : decode cX8_shape 96 = .ok (.iconst 1, 1) := by decide +kernel
theorem dX8_shape_97 : decode cX8_shape 97 = .ok (.goto 4, 3) := by decide +kernel
theorem dX8_shape_100 : decode cX8_shape 100 = .ok (.iconst 0, 1) := by decide +kernel
theorem dX8_shape_101 : decode cX8_shape 101 = .ok (.ireturn, 1) := by decide +kernel
theorem dX8_shape_102 : decode cX8_shape 102 = .ok (.aload_n 0, 1) := by decide +kernel
theorem dX8_shape_103 : decode cX8_shape 103 = .ok (.iload_n 2, 1) := by decide +kernel
theorem dX8_shape_104 : decode cX8_shape 104 = .ok (.invokevirtual 102, 3) := by decide +kernel
theorem dX8_shape_107 : decode cX8_shape 107 = .ok (.ireturn, 1) := by decide +kernel
theorem dX8_shape_108 : decode cX8_shape 108 = .ok (.aload_n 0, 1) := by decide +kernel
theorem dX8_shape_109 : decode cX8_shape 109 = .ok (.iload_n 2, 1) := by decide +kernel
theorem dX8_shape_110 : decode cX8_shape 110 = .ok (.invokevirtual 105, 3) := by decide +kernel
theorem dX8_shape_113 : decode cX8_shape 113 = .ok (.ireturn, 1) := by decide +kernel
theorem dX8_shape_114 : decode cX8_shape 114 = .ok (.aload_n 0, 1) := by decide +kernel
theorem dX8_shape_115 : decode cX8_shape 115 = .ok (.iload_n 2, 1) := by decide +kernel
theorem dX8_shape_116 : decode cX8_shape 116 = .ok (.invokevirtual 108, 3) := by decide +kernel
theorem dX8_shape_119 : decode cX8_shape 119 = .ok (.ireturn, 1) := by decide +kernel
theorem dX8_shape_120 : decode cX8_shape 120 = .ok (.bipush (-2), 2) := by decide +kernel
theorem dX8_shape_122 : decode cX8_shape 122 = .ok (.ireturn, 1) := by decide +kernel
set_option maxRecDepth 20000 in
theorem ggX8_rule_X8_in : GoodIn wsX8_rule wsX8_in := goodIn_r _ [5] (by decide +kernel) (by decide +kernel)
set_option maxRecDepth 20000 in
theorem gX8_rule_X8_in : GoodIn wsX8_rule (va_wsS RX8 49 yX8_in wsX8_in) := goodIn_app (goodIn_of _ (by decide +kernel)) ggX8_rule_X8_in
theorem dX8_rule_0 : decode cX8_rule 0 = .ok (.iload_n 1, 1) := by decide +kernel
theorem dX8_rule_1 : decode cX8_rule 1 = .ok (.iconst 0, 1) := by decide +kernel
theorem dX8_rule_2 : decode cX8_rule 2 = .ok (.iconst 5, 1) := by decide +kernel
theorem dX8_rule_3 : decode cX8_rule 3 = .ok (.invokestatic 49, 3) := by decide +kernel
theorem dX8_rule_6 : decode cX8_rule 6 = .ok (.ifCond .eq 42, 3) := by decide +kernel
theorem dX8_rule_9 : decode cX8_rule 9 = .ok (.iload_n 2, 1) := by decide +kernel
theorem dX8_rule_10 : decode cX8_rule 10 = .ok (.iconst 0, 1) := by decide +kernel
theorem dX8_rule_11 : decode cX8_rule 11 = .ok (.iconst 4, 1) := by decide +kernel
theorem dX8_rule_12 : decode cX8_rule 12 = .ok (.invokestatic 49, 3) := by decide +kernel
theorem dX8_rule_15 : decode cX8_rule 15 = .ok (.ifCond .eq 33, 3) := by decide +kernel
theorem dX8_rule_18 : decode cX8_rule 18 = .ok (.iload_n 3, 1) := by decide +kernel
theorem dX8_rule_19 : decode cX8_rule 19 = .ok (.iconst 0, 1) := by decide +kernel
theorem dX8_rule_20 : decode cX8_rule 20 = .ok (.iconst 2, 1) := by decide +kernel
theorem dX8_rule_21 : decode cX8_rule 21 = .ok (.invokestatic 49, 3) := by decide +kernel
theorem dX8_rule_24 : decode cX8_rule 24 = .ok (.ifCond .eq 24, 3) := by decide +kernel
theorem dX8_rule_27 : decode cX8_rule 27 = .ok (.iload 4, 2) := by decide +kernel
theorem dX8_rule_29 : decode cX8_rule 29 = .ok (.iconst 1, 1) := by decide +kernel
theorem dX8_rule_30 : decode cX8_rule 30 = .ok (.bipush 10, 2) := by decide +kernel
theorem dX8_rule_32 : decode cX8_rule 32 = .ok (.invokestatic 49, 3) := by decide +kernel
theorem dX8_rule_35 : decode cX8_rule 35 = .ok (.ifCond .eq 13, 3) := by decide +kernel
theorem dX8_rule_38 : decode cX8_rule 38 = .ok (.iload 5, 2) := by decide +kernel
theorem dX8_rule_40 : decode cX8_rule 40 = .ok (.iconst 0, 1) := by decide +kernel
theorem dX8_rule_41 : decode cX8_rule 41 = .ok (.iconst 2, 1) := by decide +kernel
theorem dX8_rule_42 : decode cX8_rule 42 = .ok (.invokestatic 49, 3) := by decide +kernel
theorem dX8_rule_45 : decode cX8_rule 45 = .ok (.ifCond .ne 6, 3) := by decide +kernel
theorem dX8_rule_48 : decode cX8_rule 48 = .ok (.bipush (-2), 2) := by decide +kernel
theorem dX8_rule_50 : decode cX8_rule 50 = .ok (.ireturn, 1) := by decide +kernel
theorem dX8_rule_51 : decode cX8_rule 51 = .ok (.aload_n 0, 1) := by decide +kernel
theorem dX8_rule_52 : decode cX8_rule 52 = .ok (.getfield 7, 3) := by decide +kernel
theorem dX8_rule_55 : decode cX8_rule 55 = .ok (.bipush 11, 2) := by decide +kernel
theorem dX8_rule_57 : decode cX8_rule 57 = .ok (.iaload, 1) := by decide +kernel
theorem dX8_rule_58 : decode cX8_rule 58 = .ok (.bipush 10, 2) := by decide +kernel
theorem dX8_rule_60 : decode cX8_rule 60 = .ok (.if_icmp .ne 6, 3) := by decide +kernel
theorem dX8_rule_63 : decode cX8_rule 63 = .ok (.bipush (-4), 2) := by decide +kernel
theorem dX8_rule_65 : decode cX8_rule 65 = .ok (.ireturn, 1) := by decide +kernel
theorem dX8_rule_66 : decode cX8_rule 66 = .ok (.bipush 12, 2) := by decide +kernel
theorem dX8_rule_68 : decode cX8_rule 68 = .ok (.bipush 6, 2) := by decide +kernel
theorem dX8_rule_70 : decode cX8_rule 70 = .ok (.aload_n 0, 1) := by decide +kernel
theorem dX8_rule_71 : decode cX8_rule 71 = .ok (.getfield 7, 3) := by decide +kernel
theorem dX8_rule_74 : decode cX8_rule 74 = .ok (.bipush 11, 2) := by decide +kernel
theorem dX8_rule_76 : decode cX8_rule 76 = .ok (.iaload, 1) := by decide +kernel
theorem dX8_rule_77 : decode cX8_rule 77 = .ok (.imul, 1) := by decide +kernel
theorem dX8_rule_78 : decode cX8_rule 78 = .ok (.iadd, 1) := by decide +kernel
theorem dX8_rule_79 : decode cX8_rule 79 = .ok (.istore 6, 2) := by decide +kernel
theorem dX8_rule_81 : decode cX8_rule 81 = .ok (.aload_n 0, 1) := by decide +kernel
theorem dX8_rule_82 : decode cX8_rule 82 = .ok (.getfield 7, 3) := by decide +kernel
theorem dX8_rule_85 : decode cX8_rule 85 = .ok (.iload 6, 2) := by decide +kernel
theorem dX8_rule_87 : decode cX8_rule 87 = .ok (.iload_n 1, 1) := by decide +kernel
theorem dX8_rule_88 : decode cX8_rule 88 = .ok (.iastore, 1) := by decide +kernel
theorem dX8_rule_89 : decode cX8_rule 89 = .ok (.aload_n 0, 1) := by decide +kernel
theorem dX8_rule_90 : decode cX8_rule 90 = .ok (.getfield 7, 3) := by decide +kernel
theorem dX8_rule_93 : decode cX8_rule 93 = .ok (.iload 6, 2) := by decide +kernel
theorem dX8_rule_95 : decode cX8_rule 95 = .ok (.iconst 1, 1) := by decide +kernel
theorem dX8_rule_96 : decode cX8_rule 96 = .ok (.iadd, 1) := by decide +kernel
theorem dX8_rule_97 : decode cX8_rule 97 = .ok (.iload_n 2, 1) := by decide +kernel
theorem dX8_rule_98 : decode cX8_rule 98 = .ok (.iastore, 1) := by decide +kernel
theorem dX8_rule_99 : decode cX8_rule 99 = .ok (.aload_n 0, 1) := by decide +kernel
theorem dX8_rule_100 : decode cX8_rule 100 = .ok (.getfield 7, 3) := by decide +kernel
theorem dX8_rule_103 : decode cX8_rule 103 = .ok (.iload 6, 2) := by decide +kernel
theorem dX8_rule_105 : decode cX8_rule 105 = .ok (.iconst 2, 1) := by decide +kernel
theorem dX8_rule_106 : decode cX8_rule 106 = .ok (.iadd, 1) := by decide +kernel
theorem dX8_rule_107 : decode cX8_rule 107 = .ok (.iload_n 3, 1) := by decide +kernel
theorem dX8_rule_108 : decode cX8_rule 108 = .ok (.iastore, 1) := by decide +kernel
theorem dX8_rule_109 : decode cX8_rule 109 = .ok (.aload_n 0, 1) := by decide +kernel
theorem dX8_rule_110 : decode cX8_rule 110 = .ok (.getfield 7, 3) := by decide +kernel
theorem dX8_rule_113 : decode cX8_rule 113 = .ok (.iload 6, 2) := by decide +kernel
theorem dX8_rule_115 : decode cX8_rule 115 = .ok (.iconst 3, 1) := by decide +kernel
theorem dX8_rule_116 : decode cX8_rule 116 = .ok (.iadd, 1) := by decide +kernel
theorem dX8_rule_117 : decode cX8_rule 117 = .ok (.iload 4, 2) := by decide +kernel
theorem dX8_rule_119 : decode cX8_rule 119 = .ok (.iastore, 1) := by decide +kernel
theorem dX8_rule_120 : decode cX8_rule 120 = .ok (.aload_n 0, 1) := by decide +kernel
theorem dX8_rule_121 : decode cX8_rule 121 = .ok (.getfield 7, 3) := by decide +kernel
theorem dX8_rule_124 : decode cX8_rule 124 = .ok (.iload 6, 2) := by decide +kernel
theorem dX8_rule_126 : decode cX8_rule 126 = .ok (.iconst 4, 1) := by decide +kernel
theorem dX8_rule_127 : decode cX8_rule 127 = .ok (.iadd, 1) := by decide +kernel
theorem dX8_rule_128 : decode cX8_rule 128 = .ok (.iload 5, 2) := by decide +kernel
theorem dX8_rule_130 : decode cX8_rule 130 = .ok (.iastore, 1) := by decide +kernel
theorem dX8_rule_131 : decode cX8_rule 131 = .ok (.aload_n 0, 1) := by decide +kernel
theorem dX8_rule_132 : decode cX8_rule 132 = .ok (.getfield 7, 3) := by decide +kernel
theorem dX8_rule_135 : decode cX8_rule 135 = .ok (.iload 6, 2) := by decide +kernel
theorem dX8_rule_137 : decode cX8_rule 137 = .ok (.iconst 5, 1) := by decide +kernel
theorem dX8_rule_138 : decode cX8_rule 138 = .ok (.iadd, 1) := by decide +kernel
theorem dX8_rule_139 : decode cX8_rule 139 = .ok (.iconst 2, 1) := by decide +kernel
theorem dX8_rule_140 : decode cX8_rule 140 = .ok (.iastore, 1) := by decide +kernel
theorem dX8_rule_141 : decode cX8_rule 141 = .ok (.aload_n 0, 1) := by decide +kernel
theorem dX8_rule_142 : decode cX8_rule 142 = .ok (.getfield 7, 3) := by decide +kernel
theorem dX8_rule_145 : decode cX8_rule 145 = .ok (.bipush 11, 2) := by decide +kernel
theorem dX8_rule_147 : decode cX8_rule 147 = .ok (.dup2, 1) := by decide +kernel
theorem dX8_rule_148 : decode cX8_rule 148 = .ok (.iaload, 1) := by decide +kernel
theorem dX8_rule_149 : decode cX8_rule 149 = .ok (.iconst 1, 1) := by decide +kernel
theorem dX8_rule_150 : decode cX8_rule 150 = .ok (.iadd, 1) := by decide +kernel
theorem dX8_rule_151 : decode cX8_rule 151 = .ok (.iastore, 1) := by decide +kernel
theorem dX8_rule_152 : decode cX8_rule 152 = .ok (.aload_n 0, 1) := by decide +kernel
theorem dX8_rule_153 : decode cX8_rule 153 = .ok (.getfield 7, 3) := by decide +kernel
theorem dX8_rule_156 : decode cX8_rule 156 = .ok (.bipush 11, 2) := by decide +kernel
theorem dX8_rule_158 : decode cX8_rule 158 = .ok (.iaload, 1) := by decide +kernel
theorem dX8_rule_159 : decode cX8_rule 159 = .ok (.iconst 1, 1) := by decide +kernel
theorem dX8_rule_160 : decode cX8_rule 160 = .ok (.isub, 1) := by decide +kernel
theorem dX8_rule_161 : decode cX8_rule 161 = .ok (.ireturn, 1) := by decide +kernel
set_option maxRecDepth 20000 in
theorem ggX8_whom_X8_isRule : GoodIn wsX8_whom wsX8_isRule := goodIn_r _ [6, 1, 7, 8, 5, 9, 10, 11, 12, 13, 14, 15, 16, 17, 18, 19, 20, 21, 22, 23] (by decide +kernel) (by decide +kernel)
set_option maxRecDepth 20000 in
theorem gX8_whom_X8_isRule : GoodIn wsX8_whom (wsV RX8 111 RX8 yX8_isRule wsX8_isRule) := goodIn_app (goodIn_of _ (by decide +kernel)) ggX8_whom_X8_isRule
set_option maxRecDepth 20000 in
theorem ggX8_whom_X8_in : GoodIn wsX8_whom wsX8_in := goodIn_r _ [9] (by decide +kernel) (by decide +kernel)
set_option maxRecDepth 20000 in
theorem gX8_whom_X8_in : GoodIn wsX8_whom (va_wsS RX8 49 yX8_in wsX8_in) := goodIn_app (goodIn_of _ (by decide +kernel)) ggX8_whom_X8_in
theorem dX8_whom_0 : decode cX8_whom 0 = .ok (.aload_n 0, 1) := by decide +kernel
theorem dX8_whom_1 : decode cX8_whom 1 = .ok (.iload_n 1, 1) := by decide +kernel
theorem dX8_whom_2 : decode cX8_whom 2 = .ok (.invokevirtual 111, 3) := by decide +kernel
theorem dX8_whom_5 : decode cX8_whom 5 = .ok (.ifCond .ne 5, 3) := by decide +kernel
theorem dX8_whom_8 : decode cX8_whom 8 = .ok (.iconst (-1), 1) := by decide +kernel
theorem dX8_whom_9 : decode cX8_whom 9 = .ok (.ireturn, 1) := by decide +kernel
theorem dX8_whom_10 : decode cX8_whom 10 = .ok (.iload_n 2, 1) := by decide +kernel
theorem dX8_whom_11 : decode cX8_whom 11 = .ok (.iconst 0, 1) := by decide +kernel
theorem dX8_whom_12 : decode cX8_whom 12 = .ok (.iconst 2, 1) := by decide +kernel
theorem dX8_whom_13 : decode cX8_whom 13 = .ok (.invokestatic 49, 3) := by decide +kernel
theorem dX8_whom_16 : decode cX8_whom 16 = .ok (.ifCond .ne 6, 3) := by decide +kernel
theorem dX8_whom_19 : decode cX8_whom 19 = .ok (.bipush (-2), 2) := by decide +kernel
theorem dX8_whom_21 : decode cX8_whom 21 = .ok (.ireturn, 1) := by decide +kernel
theorem dX8_whom_22 : decode cX8_whom 22 = .ok (.aload_n 0, 1) := by decide +kernel
theorem dX8_whom_23 : decode cX8_whom 23 = .ok (.getfield 7, 3) := by decide +kernel
theorem dX8_whom_26 : decode cX8_whom 26 = .ok (.bipush 12, 2) := by decide +kernel
theorem dX8_whom_28 : decode cX8_whom 28 = .ok (.bipush 6, 2) := by decide +kernel
theorem dX8_whom_30 : decode cX8_whom 30 = .ok (.iload_n 1, 1) := by decide +kernel
theorem dX8_whom_31 : decode cX8_whom 31 = .ok (.imul, 1) := by decide +kernel
theorem dX8_whom_32 : decode cX8_whom 32 = .ok (.iadd, 1) := by decide +kernel
theorem dX8_whom_33 : decode cX8_whom 33 = .ok (.iconst 5, 1) := by decide +kernel
theorem dX8_whom_34 : decode cX8_whom 34 = .ok (.iadd, 1) := by decide +kernel
theorem dX8_whom_35 : decode cX8_whom 35 = .ok (.iaload, 1) := by decide +kernel
theorem dX8_whom_36 : decode cX8_whom 36 = .ok (.istore_n 3, 1) := by decide +kernel
theorem dX8_whom_37 : decode cX8_whom 37 = .ok (.aload_n 0, 1) := by decide +kernel
theorem dX8_whom_38 : decode cX8_whom 38 = .ok (.getfield 7, 3) := by decide +kernel
theorem dX8_whom_41 : decode cX8_whom 41 = .ok (.bipush 12, 2) := by decide +kernel
theorem dX8_whom_43 : decode cX8_whom 43 = .ok (.bipush 6, 2) := by decide +kernel
theorem dX8_whom_45 : decode cX8_whom 45 = .ok (.iload_n 1, 1) := by decide +kernel
theorem dX8_whom_46 : decode cX8_whom 46 = .ok (.imul, 1) := by decide +kernel
theorem dX8_whom_47 : decode cX8_whom 47 = .ok (.iadd, 1) := by decide +kernel
theorem dX8_whom_48 : decode cX8_whom 48 = .ok (.iconst 5, 1) := by decide +kernel
theorem dX8_whom_49 : decode cX8_whom 49 = .ok (.iadd, 1) := by decide +kernel
theorem dX8_whom_50 : decode cX8_whom 50 = .ok (.iload_n 2, 1) := by decide +kernel
theorem dX8_whom_51 : decode cX8_whom 51 = .ok (.iastore, 1) := by decide +kernel
theorem dX8_whom_52 : decode cX8_whom 52 = .ok (.iload_n 3, 1) := by decide +kernel
theorem dX8_whom_53 : decode cX8_whom 53 = .ok (.ireturn, 1) := by decide +kernel
set_option maxRecDepth 20000 in
theorem ggX8_drop_X8_isRule : GoodIn wsX8_drop wsX8_isRule := goodIn_r _ [6, 1, 7, 8, 5, 9, 10, 11, 12, 13, 14, 15, 16, 17, 18, 19, 20, 21, 22, 23] (by decide +kernel) (by decide +kernel)
set_option maxRecDepth 20000 in
theorem gX8_drop_X8_isRule : GoodIn wsX8_drop (wsV RX8 111 RX8 yX8_isRule wsX8_isRule) := goodIn_app (goodIn_of _ (by decide +kernel)) ggX8_drop_X8_isRule
theorem dX8_drop_0 : decode cX8_drop 0 = .ok (.aload_n 0, 1) := by decide +kernel
theorem dX8_drop_1 : decode cX8_drop 1 = .ok (.iload_n 1, 1) := by decide +kernel
theorem dX8_drop_2 : decode cX8_drop 2 = .ok (.invokevirtual 111, 3) := by decide +kernel
theorem dX8_drop_5 : decode cX8_drop 5 = .ok (.ifCond .ne 5, 3) := by decide +kernel
theorem dX8_drop_8 : decode cX8_drop 8 = .ok (.iconst (-1), 1) := by decide +kernel
theorem dX8_drop_9 : decode cX8_drop 9 = .ok (.ireturn, 1) := by decide +kernel
theorem dX8_drop_10 : decode cX8_drop 10 = .ok (.bipush 12, 2) := by decide +kernel
theorem dX8_drop_12 : decode cX8_drop 12 = .ok (.bipush 6, 2) := by decide +kernel
theorem dX8_drop_14 : decode cX8_drop 14 = .ok (.iload_n 1, 1) := by decide +kernel
theorem dX8_drop_15 : decode cX8_drop 15 = .ok (.imul, 1) := by decide +kernel
theorem dX8_drop_16 : decode cX8_drop 16 = .ok (.iadd, 1) := by decide +kernel
theorem dX8_drop_17 : decode cX8_drop 17 = .ok (.istore_n 2, 1) := by decide +kernel
theorem dX8_drop_18 : decode cX8_drop 18 = .ok (.iload_n 2, 1) := by decide +kernel
theorem dX8_drop_19 : decode cX8_drop 19 = .ok (.bipush 6, 2) := by decide +kernel
theorem dX8_drop_21 : decode cX8_drop 21 = .ok (.iadd, 1) := by decide +kernel
theorem dX8_drop_22 : decode cX8_drop 22 = .ok (.bipush 72, 2) := by decide +kernel
theorem dX8_drop_24 : decode cX8_drop 24 = .ok (.if_icmp .ge 24, 3) := by decide +kernel
theorem dX8_drop_27 : decode cX8_drop 27 = .ok (.aload_n 0, 1) := by decide +kernel
theorem dX8_drop_28 : decode cX8_drop 28 = .ok (.getfield 7, 3) := by decide +kernel
theorem dX8_drop_31 : decode cX8_drop 31 = .ok (.iload_n 2, 1) := by decide +kernel
theorem dX8_drop_32 : decode cX8_drop 32 = .ok (.aload_n 0, 1) := by decide +kernel
theorem dX8_drop_33 : decode cX8_drop 33 = .ok (.getfield 7, 3) := by decide +kernel
theorem dX8_drop_36 : decode cX8_drop 36 = .ok (.iload_n 2, 1) := by decide +kernel
theorem dX8_drop_37 : decode cX8_drop 37 = .ok (.bipush 6, 2) := by decide +kernel
theorem dX8_drop_39 : decode cX8_drop 39 = .ok (.iadd, 1) := by decide +kernel
theorem dX8_drop_40 : decode cX8_drop 40 = .ok (.iaload, 1) := by decide +kernel
theorem dX8_drop_41 : decode cX8_drop 41 = .ok (.iastore, 1) := by decide +kernel
theorem dX8_drop_42 : decode cX8_drop 42 = .ok (.iinc 2 1, 3) := by decide +kernel
theorem dX8_drop_45 : decode cX8_drop 45 = .ok (.goto (-27), 3) := by decide +kernel
theorem dX8_drop_48 : decode cX8_drop 48 = .ok (.aload_n 0, 1) := by decide +kernel
theorem dX8_drop_49 : decode cX8_drop 49 = .ok (.getfield 7, 3) := by decide +kernel
theorem dX8_drop_52 : decode cX8_drop 52 = .ok (.bipush 11, 2) := by decide +kernel
theorem dX8_drop_54 : decode cX8_drop 54 = .ok (.dup2, 1) := by decide +kernel
theorem dX8_drop_55 : decode cX8_drop 55 = .ok (.iaload, 1) := by decide +kernel
theorem dX8_drop_56 : decode cX8_drop 56 = .ok (.iconst 1, 1) := by decide +kernel
theorem dX8_drop_57 : decode cX8_drop 57 = .ok (.isub, 1) := by decide +kernel
theorem dX8_drop_58 : decode cX8_drop 58 = .ok (.iastore, 1) := by decide +kernel
theorem dX8_drop_59 : decode cX8_drop 59 = .ok (.aload_n 0, 1) := by decide +kernel
theorem dX8_drop_60 : decode cX8_drop 60 = .ok (.getfield 7, 3) := by decide +kernel
theorem dX8_drop_63 : decode cX8_drop 63 = .ok (.bipush 11, 2) := by decide +kernel
theorem dX8_drop_65 : decode cX8_drop 65 = .ok (.iaload, 1) := by decide +kernel
theorem dX8_drop_66 : decode cX8_drop 66 = .ok (.ireturn, 1) := by decide +kernel
set_option maxRecDepth 20000 in
theorem ggX8_of_X8_isRule : GoodIn wsX8_of wsX8_isRule := goodIn_r _ [6, 1, 7, 8, 5, 9, 10, 11, 12, 13, 14, 15, 16, 17, 18, 19, 20, 21, 22, 23] (by decide +kernel) (by decide +kernel)
set_option maxRecDepth 20000 in
theorem gX8_of_X8_isRule : GoodIn wsX8_of (wsV RX8 111 RX8 yX8_isRule wsX8_isRule) := goodIn_app (goodIn_of _ (by decide +kernel)) ggX8_of_X8_isRule
set_option maxRecDepth 20000 in
theorem ggX8_of_X8_in : GoodIn wsX8_of wsX8_in := goodIn_r _ [9] (by decide +kernel) (by decide +kernel)
set_option maxRecDepth 20000 in
theorem gX8_of_X8_in : GoodIn wsX8_of (va_wsS RX8 49 yX8_in wsX8_in) := goodIn_app (goodIn_of _ (by decide +kernel)) ggX8_of_X8_in
theorem dX8_of_0 : decode cX8_of 0 = .ok (.aload_n 0, 1) := by decide +kernel
theorem dX8_of_1 : decode cX8_of 1 = .ok (.iload_n 1, 1) := by decide +kernel
theorem dX8_of_2 : decode cX8_of 2 = .ok (.invokevirtual 111, 3) := by decide +kernel
theorem dX8_of_5 : decode cX8_of 5 = .ok (.ifCond .ne 5, 3) := by decide +kernel
theorem dX8_of_8 : decode cX8_of 8 = .ok (.iconst (-1), 1) := by decide +kernel
theorem dX8_of_9 : decode cX8_of 9 = .ok (.ireturn, 1) := by decide +kernel
theorem dX8_of_10 : decode cX8_of 10 = .ok (.iload_n 2, 1) := by decide +kernel
theorem dX8_of_11 : decode cX8_of 11 = .ok (.iconst 0, 1) := by decide +kernel
theorem dX8_of_12 : decode cX8_of 12 = .ok (.iconst 5, 1) := by decide +kernel
theorem dX8_of_13 : decode cX8_of 13 = .ok (.invokestatic 49, 3) := by decide +kernel
theorem dX8_of_16 : decode cX8_of 16 = .ok (.ifCond .eq 20, 3) := by decide +kernel
theorem dX8_of_19 : decode cX8_of 19 = .ok (.aload_n 0, 1) := by decide +kernel
theorem dX8_of_20 : decode cX8_of 20 = .ok (.getfield 7, 3) := by decide +kernel
theorem dX8_of_23 : decode cX8_of 23 = .ok (.bipush 12, 2) := by decide +kernel
theorem dX8_of_25 : decode cX8_of 25 = .ok (.bipush 6, 2) := by decide +kernel
theorem dX8_of_27 : decode cX8_of 27 = .ok (.iload_n 1, 1) := by decide +kernel
theorem dX8_of_28 : decode cX8_of 28 = .ok (.imul, 1) := by decide +kernel
theorem dX8_of_29 : decode cX8_of 29 = .ok (.iadd, 1) := by decide +kernel
theorem dX8_of_30 : decode cX8_of 30 = .ok (.iload_n 2, 1) := by decide +kernel
theorem dX8_of_31 : decode cX8_of 31 = .ok (.iadd, 1) := by decide +kernel
theorem dX8_of_32 : decode cX8_of 32 = .ok (.iaload, 1) := by decide +kernel
theorem dX8_of_33 : decode cX8_of 33 = .ok (.goto 5, 3) := by decide +kernel
theorem dX8_of_36 : decode cX8_of 36 = .ok (.bipush (-2), 2) := by decide +kernel
theorem dX8_of_38 : decode cX8_of 38 = .ok (.ireturn, 1) := by decide +kernel
set_option maxRecDepth 20000 in
theorem ggX8_fits_X8_size : GoodIn wsX8_fits wsX8_size := goodIn_r _ [5] (by decide +kernel) (by decide +kernel)
set_option maxRecDepth 20000 in
theorem gX8_fits_X8_size : GoodIn wsX8_fits (va_wsS RX8 68 yX8_size wsX8_size) := goodIn_app (goodIn_of _ (by decide +kernel)) ggX8_fits_X8_size
set_option maxRecDepth 20000 in
theorem ggX8_fits_X8_viewWay : GoodIn wsX8_fits wsX8_viewWay := goodIn_r _ [9, 10, 11, 12, 4, 13, 2, 3, 5, 14, 15, 16, 17, 18, 19, 20, 21, 22, 23, 24, 25, 26, 27, 28, 29, 1, 30, 31, 32, 33, 34, 35, 36, 37, 38, 39, 40, 41, 42, 43] (by decide +kernel) (by decide +kernel)
set_option maxRecDepth 20000 in
theorem gX8_fits_X8_viewWay : GoodIn wsX8_fits (wsV RX8 89 RX8 yX8_viewWay wsX8_viewWay) := goodIn_app (goodIn_of _ (by decide +kernel)) ggX8_fits_X8_viewWay
set_option maxRecDepth 20000 in
theorem ggX8_fits_X8_gapAt : GoodIn wsX8_fits wsX8_gapAt := goodIn_r _ [17, 18, 19, 20, 4, 21, 22, 23, 24, 25, 26, 27, 28, 29, 1, 30, 31, 32, 33, 34, 35, 36, 37, 38, 39, 40, 41, 42, 43] (by decide +kernel) (by decide +kernel)
set_option maxRecDepth 20000 in
theorem gX8_fits_X8_gapAt : GoodIn wsX8_fits (wsV RX8 72 RX8 yX8_gapAt wsX8_gapAt) := goodIn_app (goodIn_of _ (by decide +kernel)) ggX8_fits_X8_gapAt
theorem dX8_fits_0 : decode cX8_fits 0 = .ok (.bipush 12, 2) := by decide +kernel
theorem dX8_fits_2 : decode cX8_fits 2 = .ok (.bipush 6, 2) := by decide +kernel
theorem dX8_fits_4 : decode cX8_fits 4 = .ok (.iload_n 1, 1) := by decide +kernel
theorem dX8_fits_5 : decode cX8_fits 5 = .ok (.imul, 1) := by decide +kernel
theorem dX8_fits_6 : decode cX8_fits 6 = .ok (.iadd, 1) := by decide +kernel
theorem dX8_fits_7 : decode cX8_fits 7 = .ok (.istore 5, 2) := by decide +kernel
theorem dX8_fits_9 : decode cX8_fits 9 = .ok (.iload_n 2, 1) := by decide +kernel
theorem dX8_fits_10 : decode cX8_fits 10 = .ok (.invokestatic 68, 3) := by decide +kernel
theorem dX8_fits_13 : decode cX8_fits 13 = .ok (.istore 6, 2) := by decide +kernel
theorem dX8_fits_15 : decode cX8_fits 15 = .ok (.aload_n 0, 1) := by decide +kernel
theorem dX8_fits_16 : decode cX8_fits 16 = .ok (.getfield 7, 3) := by decide +kernel
theorem dX8_fits_19 : decode cX8_fits 19 = .ok (.iload 5, 2) := by decide +kernel
theorem dX8_fits_21 : decode cX8_fits 21 = .ok (.iaload, 1) := by decide +kernel
theorem dX8_fits_22 : decode cX8_fits 22 = .ok (.ifCond .le 15, 3) := by decide +kernel
theorem dX8_fits_25 : decode cX8_fits 25 = .ok (.aload_n 0, 1) := by decide +kernel
theorem dX8_fits_26 : decode cX8_fits 26 = .ok (.getfield 7, 3) := by decide +kernel
theorem dX8_fits_29 : decode cX8_fits 29 = .ok (.iload 5, 2) := by decide +kernel
theorem dX8_fits_31 : decode cX8_fits 31 = .ok (.iaload, 1) := by decide +kernel
theorem dX8_fits_32 : decode cX8_fits 32 = .ok (.iload 6, 2) := by decide +kernel
theorem dX8_fits_34 : decode cX8_fits 34 = .ok (.if_icmp .ne 39, 3) := by decide +kernel
theorem dX8_fits_37 : decode cX8_fits 37 = .ok (.aload_n 0, 1) := by decide +kernel
theorem dX8_fits_38 : decode cX8_fits 38 = .ok (.getfield 7, 3) := by decide +kernel
theorem dX8_fits_41 : decode cX8_fits 41 = .ok (.iload 5, 2) := by decide +kernel
theorem dX8_fits_43 : decode cX8_fits 43 = .ok (.iconst 1, 1) := by decide +kernel
theorem dX8_fits_44 : decode cX8_fits 44 = .ok (.iadd, 1) := by decide +kernel
theorem dX8_fits_45 : decode cX8_fits 45 = .ok (.iaload, 1) := by decide +kernel
theorem dX8_fits_46 : decode cX8_fits 46 = .ok (.iload 6, 2) := by decide +kernel
theorem dX8_fits_48 : decode cX8_fits 48 = .ok (.if_icmp .ge 25, 3) := by decide +kernel
theorem dX8_fits_51 : decode cX8_fits 51 = .ok (.aload_n 0, 1) := by decide +kernel
theorem dX8_fits_52 : decode cX8_fits 52 = .ok (.getfield 7, 3) := by decide +kernel
theorem dX8_fits_55 : decode cX8_fits 55 = .ok (.iload 5, 2) := by decide +kernel
theorem dX8_fits_57 : decode cX8_fits 57 = .ok (.iconst 5, 1) := by decide +kernel
theorem dX8_fits_58 : decode cX8_fits 58 = .ok (.iadd, 1) := by decide +kernel
theorem dX8_fits_59 : decode cX8_fits 59 = .ok (.iaload, 1) := by decide +kernel
theorem dX8_fits_60 : decode cX8_fits 60 = .ok (.iload 4, 2) := by decide +kernel
theorem dX8_fits_62 : decode cX8_fits 62 = .ok (.ifCond .eq 7, 3) := by decide +kernel
theorem dX8_fits_65 : decode cX8_fits 65 = .ok (.iconst 0, 1) := by decide +kernel
theorem dX8_fits_66 : decode cX8_fits 66 = .ok (.goto 4, 3) := by decide +kernel
theorem dX8_fits_69 : decode cX8_fits 69 = .ok (.iconst 1, 1) := by decide +kernel
theorem dX8_fits_70 : decode cX8_fits 70 = .ok (.if_icmp .ne 5, 3) := by decide +kernel
theorem dX8_fits_73 : decode cX8_fits 73 = .ok (.iconst 0, 1) := by decide +kernel
theorem dX8_fits_74 : decode cX8_fits 74 = .ok (.ireturn, 1) := by decide +kernel
theorem dX8_fits_75 : decode cX8_fits 75 = .ok (.aload_n 0, 1) := by decide +kernel
theorem dX8_fits_76 : decode cX8_fits 76 = .ok (.iload_n 2, 1) := by decide +kernel
theorem dX8_fits_77 : decode cX8_fits 77 = .ok (.iload_n 3, 1) := by decide +kernel
theorem dX8_fits_78 : decode cX8_fits 78 = .ok (.aload_n 0, 1) := by decide +kernel
theorem dX8_fits_79 : decode cX8_fits 79 = .ok (.iload_n 2, 1) := by decide +kernel
theorem dX8_fits_80 : decode cX8_fits 80 = .ok (.iload_n 3, 1) := by decide +kernel
theorem dX8_fits_81 : decode cX8_fits 81 = .ok (.invokevirtual 89, 3) := by decide +kernel
theorem dX8_fits_84 : decode cX8_fits 84 = .ok (.aload_n 0, 1) := by decide +kernel
theorem dX8_fits_85 : decode cX8_fits 85 = .ok (.getfield 7, 3) := by decide +kernel
theorem dX8_fits_88 : decode cX8_fits 88 = .ok (.iload 5, 2) := by decide +kernel
theorem dX8_fits_90 : decode cX8_fits 90 = .ok (.iconst 1, 1) := by decide +kernel
theorem dX8_fits_91 : decode cX8_fits 91 = .ok (.iadd, 1) := by decide +kernel
theorem dX8_fits_92 : decode cX8_fits 92 = .ok (.iaload, 1) := by decide +kernel
theorem dX8_fits_93 : decode cX8_fits 93 = .ok (.invokevirtual 72, 3) := by decide +kernel
theorem dX8_fits_96 : decode cX8_fits 96 = .ok (.istore 7, 2) := by decide +kernel
theorem dX8_fits_98 : decode cX8_fits 98 = .ok (.aload_n 0, 1) := by decide +kernel
theorem dX8_fits_99 : decode cX8_fits 99 = .ok (.getfield 7, 3) := by decide +kernel
theorem dX8_fits_102 : decode cX8_fits 102 = .ok (.iload 5, 2) := by decide +kernel
theorem dX8_fits_104 : decode cX8_fits 104 = .ok (.iconst 2, 1) := by decide +kernel
theorem dX8_fits_105 : decode cX8_fits 105 = .ok (.iadd, 1) := by decide +kernel
theorem dX8_fits_106 : decode cX8_fits 106 = .ok (.iaload, 1) := by decide +kernel
theorem dX8_fits_107 : decode cX8_fits 107 = .ok (.ifCond .ne 25, 3) := by decide +kernel
theorem dX8_fits_110 : decode cX8_fits 110 = .ok (.iload 7, 2) := by decide +kernel
theorem dX8_fits_112 : decode cX8_fits 112 = .ok (.aload_n 0, 1) := by decide +kernel
theorem dX8_fits_113 : decode cX8_fits 113 = .ok (.getfield 7, 3) := by decide +kernel
theorem dX8_fits_116 : decode cX8_fits 116 = .ok (.iload 5, 2) := by decide +kernel
theorem dX8_fits_118 : decode cX8_fits 118 = .ok (.iconst 3, 1) := by decide +kernel
theorem dX8_fits_119 : decode cX8_fits 119 = .ok (.iadd, 1) := by decide +kernel
theorem dX8_fits_120 : decode cX8_fits 120 = .ok (.iaload, 1) := by decide +kernel
theorem dX8_fits_121 : decode cX8_fits 121 = .ok (.if_icmp .ge 7, 3) := by decide +kernel
theorem dX8_fits_124 : decode cX8_fits 124 = .ok (.iconst 1, 1) := by decide +kernel
theorem dX8_fits_125 : decode cX8_fits 125 = .ok (.goto 61, 3) := by decide +kernel
theorem dX8_fits_128 : decode cX8_fits 128 = .ok (.iconst 0, 1) := by decide +kernel
theorem dX8_fits_129 : decode cX8_fits 129 = .ok (.goto 57, 3) := by decide +kernel
theorem dX8_fits_132 : decode cX8_fits 132 = .ok (.aload_n 0, 1) := by decide +kernel
theorem dX8_fits_133 : decode cX8_fits 133 = .ok (.getfield 7, 3) := by decide +kernel
theorem dX8_fits_136 : decode cX8_fits 136 = .ok (.iload 5, 2) := by decide +kernel
theorem dX8_fits_138 : decode cX8_fits 138 = .ok (.iconst 2, 1) := by decide +kernel
theorem dX8_fits_139 : decode cX8_fits 139 = .ok (.iadd, 1) := by decide +kernel
theorem dX8_fits_140 : decode cX8_fits 140 = .ok (.iaload, 1) := by decide +kernel
theorem dX8_fits_141 : decode cX8_fits 141 = .ok (.iconst 1, 1) := by decide +kernel
theorem dX8_fits_142 : decode cX8_fits 142 = .ok (.if_icmp .ne 25, 3) := by decide +kernel
theorem dX8_fits_145 : decode cX8_fits 145 = .ok (.iload 7, 2) := by decide +kernel
theorem dX8_fits_147 : decode cX8_fits 147 = .ok (.aload_n 0, 1) := by decide +kernel
theorem dX8_fits_148 : decode cX8_fits 148 = .ok (.getfield 7, 3) := by decide +kernel
theorem dX8_fits_151 : decode cX8_fits 151 = .ok (.iload 5, 2) := by decide +kernel
theorem dX8_fits_153 : decode cX8_fits 153 = .ok (.iconst 3, 1) := by decide +kernel
theorem dX8_fits_154 : decode cX8_fits 154 = .ok (.iadd, 1) := by decide +kernel
theorem dX8_fits_155 : decode cX8_fits 155 = .ok (.iaload, 1) := by decide +kernel
theorem dX8_fits_156 : decode cX8_fits 156 = .ok (.if_icmp .ne 7, 3) := by decide +kernel
theorem dX8_fits_159 : decode cX8_fits 159 = .ok (.iconst 1, 1) := by decide +kernel
theorem dX8_fits_160 : decode cX8_fits 160 = .ok (.goto 26, 3) := by decide +kernel
theorem dX8_fits_163 : decode cX8_fits 163 = .ok (.iconst 0, 1) := by decide +kernel
theorem dX8_fits_164 : decode cX8_fits 164 = .ok (.goto 22, 3) := by decide +kernel
theorem dX8_fits_167 : decode cX8_fits 167 = .ok (.iload 7, 2) := by decide +kernel
theorem dX8_fits_169 : decode cX8_fits 169 = .ok (.aload_n 0, 1) := by decide +kernel
theorem dX8_fits_170 : decode cX8_fits 170 = .ok (.getfield 7, 3) := by decide +kernel
theorem dX8_fits_173 : decode cX8_fits 173 = .ok (.iload 5, 2) := by decide +kernel
theorem dX8_fits_175 : decode cX8_fits 175 = .ok (.iconst 3, 1) := by decide +kernel
theorem dX8_fits_176 : decode cX8_fits 176 = .ok (.iadd, 1) := by decide +kernel
theorem dX8_fits_177 : decode cX8_fits 177 = .ok (.iaload, 1) := by decide +kernel
theorem dX8_fits_178 : decode cX8_fits 178 = .ok (.if_icmp .le 7, 3) := by decide +kernel
theorem dX8_fits_181 : decode cX8_fits 181 = .ok (.iconst 1, 1) := by decide +kernel
theorem dX8_fits_182 : decode cX8_fits 182 = .ok (.goto 4, 3) := by decide +kernel
theorem dX8_fits_185 : decode cX8_fits 185 = .ok (.iconst 0, 1) := by decide +kernel
theorem dX8_fits_186 : decode cX8_fits 186 = .ok (.ireturn, 1) := by decide +kernel
set_option maxRecDepth 20000 in
theorem ggX8_ruleOf_X8_fits : GoodIn wsX8_ruleOf wsX8_fits := goodIn_r _ [6, 1, 7, 8, 5, 9, 10, 11, 12, 13, 14, 15, 16, 17, 18, 19, 20, 21, 22, 23, 24, 25, 26, 27, 28, 29, 30, 31, 32, 33, 34, 35, 36, 37, 38, 39, 40, 41, 42, 43, 44, 45, 46, 47] (by decide +kernel) (by decide +kernel)
set_option maxRecDepth 20000 in
theorem gX8_ruleOf_X8_fits : GoodIn wsX8_ruleOf (wsV RX8 114 RX8 yX8_fits wsX8_fits) := goodIn_app (goodIn_of _ (by decide +kernel)) ggX8_ruleOf_X8_fits
theorem dX8_ruleOf_0 : decode cX8_ruleOf 0 = .ok (.iconst 0, 1) := by decide +kernel
theorem dX8_ruleOf_1 : decode cX8_ruleOf 1 = .ok (.istore 4, 2) := by decide +kernel
theorem dX8_ruleOf_3 : decode cX8_ruleOf 3 = .ok (.iload 4, 2) := by decide +kernel
theorem dX8_ruleOf_5 : decode cX8_ruleOf 5 = .ok (.aload_n 0, 1) := by decide +kernel
theorem dX8_ruleOf_6 : decode cX8_ruleOf 6 = .ok (.getfield 7, 3) := by decide +kernel
theorem dX8_ruleOf_9 : decode cX8_ruleOf 9 = .ok (.bipush 11, 2) := by decide +kernel
theorem dX8_ruleOf_11 : decode cX8_ruleOf 11 = .ok (.iaload, 1) := by decide +kernel
theorem dX8_ruleOf_12 : decode cX8_ruleOf 12 = .ok (.if_icmp .ge 24, 3) := by decide +kernel
theorem dX8_ruleOf_15 : decode cX8_ruleOf 15 = .ok (.aload_n 0, 1) := by decide +kernel
theorem dX8_ruleOf_16 : decode cX8_ruleOf 16 = .ok (.iload 4, 2) := by decide +kernel
theorem dX8_ruleOf_18 : decode cX8_ruleOf 18 = .ok (.iload_n 1, 1) := by decide +kernel
theorem dX8_ruleOf_19 : decode cX8_ruleOf 19 = .ok (.iload_n 2, 1) := by decide +kernel
theorem dX8_ruleOf_20 : decode cX8_ruleOf 20 = .ok (.iload_n 3, 1) := by decide +kernel
theorem dX8_ruleOf_21 : decode cX8_ruleOf 21 = .ok (.invokevirtual 114, 3) := by decide +kernel
theorem dX8_ruleOf_24 : decode cX8_ruleOf 24 = .ok (.ifCond .eq 6, 3) := by decide +kernel
theorem dX8_ruleOf_27 : decode cX8_ruleOf 27 = .ok (.iload 4, 2) := by decide +kernel
theorem dX8_ruleOf_29 : decode cX8_ruleOf 29 = .ok (.ireturn, 1) := by decide +kernel
theorem dX8_ruleOf_30 : decode cX8_ruleOf 30 = .ok (.iinc 4 1, 3) := by decide +kernel
theorem dX8_ruleOf_33 : decode cX8_ruleOf 33 = .ok (.goto (-30), 3) := by decide +kernel
theorem dX8_ruleOf_36 : decode cX8_ruleOf 36 = .ok (.bipush (-6), 2) := by decide +kernel
theorem dX8_ruleOf_38 : decode cX8_ruleOf 38 = .ok (.ireturn, 1) := by decide +kernel
theorem dX8_doneBy_0 : decode cX8_doneBy 0 = .ok (.iload_n 1, 1) := by decide +kernel
theorem dX8_doneBy_1 : decode cX8_doneBy 1 = .ok (.ifCond .ge 7, 3) := by decide +kernel
theorem dX8_doneBy_4 : decode cX8_doneBy 4 = .ok (.iconst 0, 1) := by decide +kernel
theorem dX8_doneBy_5 : decode cX8_doneBy 5 = .ok (.goto 17, 3) := by decide +kernel
theorem dX8_doneBy_8 : decode cX8_doneBy 8 = .ok (.aload_n 0, 1) := by decide +kernel
theorem dX8_doneBy_9 : decode cX8_doneBy 9 = .ok (.getfield 7, 3) := by decide +kernel
theorem dX8_doneBy_12 : decode cX8_doneBy 12 = .ok (.bipush 12, 2) := by decide +kernel
theorem dX8_doneBy_14 : decode cX8_doneBy 14 = .ok (.bipush 6, 2) := by decide +kernel
theorem dX8_doneBy_16 : decode cX8_doneBy 16 = .ok (.iload_n 1, 1) := by decide +kernel
theorem dX8_doneBy_17 : decode cX8_doneBy 17 = .ok (.imul, 1) := by decide +kernel
theorem dX8_doneBy_18 : decode cX8_doneBy 18 = .ok (.iadd, 1) := by decide +kernel
theorem dX8_doneBy_19 : decode cX8_doneBy 19 = .ok (.iconst 4, 1) := by decide +kernel
theorem dX8_doneBy_20 : decode cX8_doneBy 20 = .ok (.iadd, 1) := by decide +kernel
theorem dX8_doneBy_21 : decode cX8_doneBy 21 = .ok (.iaload, 1) := by decide +kernel
theorem dX8_doneBy_22 : decode cX8_doneBy 22 = .ok (.ireturn, 1) := by decide +kernel
set_option maxRecDepth 20000 in
theorem ggX8_behind_X8_viewWay : GoodIn wsX8_behind wsX8_viewWay := goodIn_r _ [5, 6, 7, 8, 4, 9, 10, 11, 12, 13, 14, 15, 16, 17, 18, 19, 20, 21, 22, 23, 24, 25, 26, 27, 28, 29, 30, 31, 32, 33, 34, 35, 36, 37, 38, 39, 40, 41, 42, 43] (by decide +kernel) (by decide +kernel)
set_option maxRecDepth 20000 in
theorem gX8_behind_X8_viewWay : GoodIn wsX8_behind (wsV RX8 89 RX8 yX8_viewWay wsX8_viewWay) := goodIn_app (goodIn_of _ (by decide +kernel)) ggX8_behind_X8_viewWay
set_option maxRecDepth 20000 in
theorem ggX8_behind_X8_beside : GoodIn wsX8_behind wsX8_beside := goodIn_r _ [24, 25, 26, 27, 4, 28, 29, 30, 31, 32, 33, 34, 35, 36, 37, 38, 39, 40, 41, 42, 43] (by decide +kernel) (by decide +kernel)
set_option maxRecDepth 20000 in
theorem gX8_behind_X8_beside : GoodIn wsX8_behind (wsV RX8 60 RX8 yX8_beside wsX8_beside) := goodIn_app (goodIn_of _ (by decide +kernel)) ggX8_behind_X8_beside
theorem dX8_behind_0 : decode cX8_behind 0 = .ok (.aload_n 0, 1) := by decide +kernel
theorem dX8_behind_1 : decode cX8_behind 1 = .ok (.iload_n 1, 1) := by decide +kernel
theorem dX8_behind_2 : decode cX8_behind 2 = .ok (.iload_n 2, 1) := by decide +kernel
theorem dX8_behind_3 : decode cX8_behind 3 = .ok (.invokevirtual 89, 3) := by decide +kernel
theorem dX8_behind_6 : decode cX8_behind 6 = .ok (.istore 4, 2) := by decide +kernel
theorem dX8_behind_8 : decode cX8_behind 8 = .ok (.iload_n 3, 1) := by decide +kernel
theorem dX8_behind_9 : decode cX8_behind 9 = .ok (.ifCond .ne 7, 3) := by decide +kernel
theorem dX8_behind_12 : decode cX8_behind 12 = .ok (.iload_n 2, 1) := by decide +kernel
theorem dX8_behind_13 : decode cX8_behind 13 = .ok (.goto 21, 3) := by decide +kernel
theorem dX8_behind_16 : decode cX8_behind 16 = .ok (.aload_n 0, 1) := by decide +kernel
theorem dX8_behind_17 : decode cX8_behind 17 = .ok (.iload_n 2, 1) := by decide +kernel
theorem dX8_behind_18 : decode cX8_behind 18 = .ok (.iload_n 3, 1) := by decide +kernel
theorem dX8_behind_19 : decode cX8_behind 19 = .ok (.iconst 1, 1) := by decide +kernel
theorem dX8_behind_20 : decode cX8_behind 20 = .ok (.if_icmp .ne 8, 3) := by decide +kernel
theorem dX8_behind_23 : decode cX8_behind 23 = .ok (.iload 4, 2) := by decide +kernel
theorem dX8_behind_25 : decode cX8_behind 25 = .ok (.goto 6, 3) := by decide +kernel
theorem dX8_behind_28 : decode cX8_behind 28 = .ok (.iload 4, 2) := by decide +kernel
theorem dX8_behind_30 : decode cX8_behind 30 = .ok (.ineg, 1) := by decide +kernel
theorem dX8_behind_31 : decode cX8_behind 31 = .ok (.invokevirtual 60, 3) := by decide +kernel
theorem dX8_behind_34 : decode cX8_behind 34 = .ok (.ireturn, 1) := by decide +kernel
set_option maxRecDepth 20000 in
theorem ggX8_does_X8_isStand : GoodIn wsX8_does wsX8_isStand := goodIn_r _ [6, 1, 7, 8, 9, 5, 10, 11, 12, 13, 14, 15, 16, 17, 66, 67, 68, 69, 70, 71, 72, 73, 74, 75, 76, 77, 78, 79] (by decide +kernel) (by decide +kernel)
set_option maxRecDepth 20000 in
theorem gX8_does_X8_isStand : GoodIn wsX8_does (wsV RX8 80 RX8 yX8_isStand wsX8_isStand) := goodIn_app (goodIn_of _ (by decide +kernel)) ggX8_does_X8_isStand
set_option maxRecDepth 20000 in
theorem ggX8_does_X8_now : GoodIn wsX8_does wsX8_now := goodIn_r _ [21, 1, 22, 11, 12, 13, 5, 14, 66, 67, 68, 69, 70, 71, 72, 73, 74, 75, 76, 77, 78, 79] (by decide +kernel) (by decide +kernel)
set_option maxRecDepth 20000 in
theorem gX8_does_X8_now : GoodIn wsX8_does (wsV RX8 83 RX8 yX8_now wsX8_now) := goodIn_app (goodIn_of _ (by decide +kernel)) ggX8_does_X8_now
set_option maxRecDepth 20000 in
theorem ggX8_does_X8_standsOf : GoodIn wsX8_does wsX8_standsOf := goodIn_r _ [26, 22, 11, 12, 13, 5, 14, 1, 66, 67, 68, 69, 70, 71, 72, 73, 74, 75, 76, 77, 78, 79] (by decide +kernel) (by decide +kernel)
set_option maxRecDepth 20000 in
theorem gX8_does_X8_standsOf : GoodIn wsX8_does (wsV RX8 86 RX8 yX8_standsOf wsX8_standsOf) := goodIn_app (goodIn_of _ (by decide +kernel)) ggX8_does_X8_standsOf
set_option maxRecDepth 20000 in
theorem ggX8_does_X8_ruleOf : GoodIn wsX8_does wsX8_ruleOf := goodIn_r _ [30, 1, 31, 32, 33, 5, 34, 35, 36, 37, 38, 39, 40, 41, 42, 43, 44, 45, 46, 47, 48, 49, 50, 51, 52, 53, 54, 55, 56, 57, 11, 12, 13, 14, 66, 67, 68, 69, 70, 71, 72, 73, 74, 75, 76, 77, 78, 79] (by decide +kernel) (by decide +kernel)
set_option maxRecDepth 20000 in
theorem gX8_does_X8_ruleOf : GoodIn wsX8_does (wsV RX8 118 RX8 yX8_ruleOf wsX8_ruleOf) := goodIn_app (goodIn_of _ (by decide +kernel)) ggX8_does_X8_ruleOf
set_option maxRecDepth 20000 in
theorem ggX8_does_X8_viewWay : GoodIn wsX8_does wsX8_viewWay := goodIn_r _ [41, 42, 43, 44, 5, 45, 35, 36, 37, 46, 47, 48, 49, 50, 51, 52, 53, 54, 55, 56, 57, 11, 12, 13, 14, 1, 66, 67, 68, 69, 70, 71, 72, 73, 74, 75, 76, 77, 78, 79] (by decide +kernel) (by decide +kernel)
set_option maxRecDepth 20000 in
theorem gX8_does_X8_viewWay : GoodIn wsX8_does (wsV RX8 89 RX8 yX8_viewWay wsX8_viewWay) := goodIn_app (goodIn_of _ (by decide +kernel)) ggX8_does_X8_viewWay
set_option maxRecDepth 20000 in
theorem ggX8_does_X8_held : GoodIn wsX8_does wsX8_held := goodIn_r _ [45, 35, 36, 5, 37, 46, 47, 48, 49, 50, 51, 52, 53, 54, 55, 56, 57, 11, 12, 13, 14, 1, 66, 67, 68, 69, 70, 71, 72, 73, 74, 75, 76, 77, 78, 79] (by decide +kernel) (by decide +kernel)
set_option maxRecDepth 20000 in
theorem gX8_does_X8_held : GoodIn wsX8_does (wsV RX8 76 RX8 yX8_held wsX8_held) := goodIn_app (goodIn_of _ (by decide +kernel)) ggX8_does_X8_held
set_option maxRecDepth 20000 in
theorem ggX8_does_X8_doneBy : GoodIn wsX8_does wsX8_doneBy := goodIn_r _ [61, 1, 66, 67, 68, 69, 70, 71, 72, 73, 74, 75, 76, 77, 78, 79] (by decide +kernel) (by decide +kernel)
set_option maxRecDepth 20000 in
theorem gX8_does_X8_doneBy : GoodIn wsX8_does (wsV RX8 122 RX8 yX8_doneBy wsX8_doneBy) := goodIn_app (goodIn_of _ (by decide +kernel)) ggX8_does_X8_doneBy
set_option maxRecDepth 20000 in
theorem ggX8_does_X8_behind : GoodIn wsX8_does wsX8_behind := goodIn_r _ [65, 38, 39, 40, 5, 41, 42, 43, 44, 45, 35, 36, 37, 46, 47, 48, 49, 50, 51, 52, 53, 54, 55, 56, 57, 11, 12, 13, 14, 1, 66, 67, 68, 69, 70, 71, 72, 73, 74, 75, 76, 77, 78, 79] (by decide +kernel) (by decide +kernel)
set_option maxRecDepth 20000 in
theorem gX8_does_X8_behind : GoodIn wsX8_does (wsV RX8 125 RX8 yX8_behind wsX8_behind) := goodIn_app (goodIn_of _ (by decide +kernel)) ggX8_does_X8_behind
theorem dX8_does_0 : decode cX8_does 0 = .ok (.aload_n 0, 1) := by decide +kernel
theorem dX8_does_1 : decode cX8_does 1 = .ok (.iload_n 1, 1) := by decide +kernel
theorem dX8_does_2 : decode cX8_does 2 = .ok (.invokevirtual 80, 3) := by decide +kernel
theorem dX8_does_5 : decode cX8_does 5 = .ok (.ifCond .ne 5, 3) := by decide +kernel
theorem dX8_does_8 : decode cX8_does 8 = .ok (.iconst (-1), 1) := by decide +kernel
theorem dX8_does_9 : decode cX8_does 9 = .ok (.ireturn, 1) := by decide +kernel
theorem dX8_does_10 : decode cX8_does 10 = .ok (.aload_n 0, 1) := by decide +kernel
theorem dX8_does_11 : decode cX8_does 11 = .ok (.aload_n 0, 1) := by decide +kernel
theorem dX8_does_12 : decode cX8_does 12 = .ok (.invokevirtual 83, 3) := by decide +kernel
theorem dX8_does_15 : decode cX8_does 15 = .ok (.invokevirtual 86, 3) := by decide +kernel
theorem dX8_does_18 : decode cX8_does 18 = .ok (.istore_n 3, 1) := by decide +kernel
theorem dX8_does_19 : decode cX8_does 19 = .ok (.aload_n 0, 1) := by decide +kernel
theorem dX8_does_20 : decode cX8_does 20 = .ok (.iload_n 3, 1) := by decide +kernel
theorem dX8_does_21 : decode cX8_does 21 = .ok (.iload_n 1, 1) := by decide +kernel
theorem dX8_does_22 : decode cX8_does 22 = .ok (.aload_n 0, 1) := by decide +kernel
theorem dX8_does_23 : decode cX8_does 23 = .ok (.getfield 7, 3) := by decide +kernel
theorem dX8_does_26 : decode cX8_does 26 = .ok (.iconst 1, 1) := by decide +kernel
theorem dX8_does_27 : decode cX8_does 27 = .ok (.iload_n 1, 1) := by decide +kernel
theorem dX8_does_28 : decode cX8_does 28 = .ok (.iadd, 1) := by decide +kernel
theorem dX8_does_29 : decode cX8_does 29 = .ok (.iaload, 1) := by decide +kernel
theorem dX8_does_30 : decode cX8_does 30 = .ok (.iconst 1, 1) := by decide +kernel
theorem dX8_does_31 : decode cX8_does 31 = .ok (.if_icmp .le 7, 3) := by decide +kernel
theorem dX8_does_34 : decode cX8_does 34 = .ok (.iconst 1, 1) := by decide +kernel
theorem dX8_does_35 : decode cX8_does 35 = .ok (.goto 4, 3) := by decide +kernel
theorem dX8_does_38 : decode cX8_does 38 = .ok (.iconst 0, 1) := by decide +kernel
theorem dX8_does_39 : decode cX8_does 39 = .ok (.invokevirtual 118, 3) := by decide +kernel
theorem dX8_does_42 : decode cX8_does 42 = .ok (.istore 4, 2) := by decide +kernel
theorem dX8_does_44 : decode cX8_does 44 = .ok (.iload_n 2, 1) := by decide +kernel
theorem dX8_does_45 : decode cX8_does 45 = .ok (.tableswitch 92 0 4 #[35, 51, 69, 72, 79], 35) := by decide +kernel
theorem dX8_does_80 : decode cX8_does 80 = .ok (.aload_n 0, 1) := by decide +kernel
theorem dX8_does_81 : decode cX8_does 81 = .ok (.iload_n 3, 1) := by decide +kernel
theorem dX8_does_82 : decode cX8_does 82 = .ok (.iload_n 1, 1) := by decide +kernel
theorem dX8_does_83 : decode cX8_does 83 = .ok (.invokevirtual 89, 3) := by decide +kernel
theorem dX8_does_86 : decode cX8_does 86 = .ok (.iconst 1, 1) := by decide +kernel
theorem dX8_does_87 : decode cX8_does 87 = .ok (.if_icmp .ne 7, 3) := by decide +kernel
theorem dX8_does_90 : decode cX8_does 90 = .ok (.iconst 1, 1) := by decide +kernel
theorem dX8_does_91 : decode cX8_does 91 = .ok (.goto 4, 3) := by decide +kernel
theorem dX8_does_94 : decode cX8_does 94 = .ok (.iconst 0, 1) := by decide +kernel
theorem dX8_does_95 : decode cX8_does 95 = .ok (.ireturn, 1) := by decide +kernel
theorem dX8_does_96 : decode cX8_does 96 = .ok (.aload_n 0, 1) := by decide +kernel
theorem dX8_does_97 : decode cX8_does 97 = .ok (.iload_n 3, 1) := by decide +kernel
theorem dX8_does_98 : decode cX8_does 98 = .ok (.iload_n 1, 1) := by decide +kernel
theorem dX8_does_99 : decode cX8_does 99 = .ok (.iconst 1, 1) := by decide +kernel
theorem dX8_does_100 : decode cX8_does 100 = .ok (.iload_n 1, 1) := by decide +kernel
theorem dX8_does_101 : decode cX8_does 101 = .ok (.iconst (-1), 1) := by decide +kernel
theorem dX8_does_102 : decode cX8_does 102 = .ok (.invokevirtual 76, 3) := by decide +kernel
theorem dX8_does_105 : decode cX8_does 105 = .ok (.ifCond .ne 7, 3) := by decide +kernel
theorem dX8_does_108 : decode cX8_does 108 = .ok (.iconst 1, 1) := by decide +kernel
theorem dX8_does_109 : decode cX8_does 109 = .ok (.goto 4, 3) := by decide +kernel
theorem dX8_does_112 : decode cX8_does 112 = .ok (.iconst 0, 1) := by decide +kernel
theorem dX8_does_113 : decode cX8_does 113 = .ok (.ireturn, 1) := by decide +kernel
theorem dX8_does_114 : decode cX8_does 114 = .ok (.iload 4, 2) := by decide +kernel
theorem dX8_does_116 : decode cX8_does 116 = .ok (.ireturn, 1) := by decide +kernel
theorem dX8_does_117 : decode cX8_does 117 = .ok (.aload_n 0, 1) := by decide +kernel
theorem dX8_does_118 : decode cX8_does 118 = .ok (.iload 4, 2) := by decide +kernel
theorem dX8_does_120 : decode cX8_does 120 = .ok (.invokevirtual 122, 3) := by decide +kernel
theorem dX8_does_123 : decode cX8_does 123 = .ok (.ireturn, 1) := by decide +kernel
theorem dX8_does_124 : decode cX8_does 124 = .ok (.aload_n 0, 1) := by decide +kernel
theorem dX8_does_125 : decode cX8_does 125 = .ok (.iload_n 3, 1) := by decide +kernel
theorem dX8_does_126 : decode cX8_does 126 = .ok (.iload_n 1, 1) := by decide +kernel
theorem dX8_does_127 : decode cX8_does 127 = .ok (.aload_n 0, 1) := by decide +kernel
theorem dX8_does_128 : decode cX8_does 128 = .ok (.iload 4, 2) := by decide +kernel
theorem dX8_does_130 : decode cX8_does 130 = .ok (.invokevirtual 122, 3) := by decide +kernel
theorem dX8_does_133 : decode cX8_does 133 = .ok (.invokevirtual 125, 3) := by decide +kernel
theorem dX8_does_136 : decode cX8_does 136 = .ok (.ireturn, 1) := by decide +kernel
theorem dX8_does_137 : decode cX8_does 137 = .ok (.bipush (-2), 2) := by decide +kernel
theorem dX8_does_139 : decode cX8_does 139 = .ok (.ireturn, 1) := by decide +kernel
set_option maxRecDepth 20000 in
theorem ggX8_step_X8_now : GoodIn wsX8_step wsX8_now := goodIn_r _ [7, 2, 8, 9, 10, 11, 6, 12, 59, 60, 61, 62, 63, 64, 65, 66, 67, 68, 69, 70, 71, 72] (by decide +kernel) (by decide +kernel)
set_option maxRecDepth 20000 in
theorem gX8_step_X8_now : GoodIn wsX8_step (wsV RX8 83 RX8 yX8_now wsX8_now) := goodIn_app (goodIn_of _ (by decide +kernel)) ggX8_step_X8_now
set_option maxRecDepth 20000 in
theorem ggX8_step_X8_standsOf : GoodIn wsX8_step wsX8_standsOf := goodIn_r _ [16, 8, 9, 10, 11, 6, 12, 2, 59, 60, 61, 62, 63, 64, 65, 66, 67, 68, 69, 70, 71, 72] (by decide +kernel) (by decide +kernel)
set_option maxRecDepth 20000 in
theorem gX8_step_X8_standsOf : GoodIn wsX8_step (wsV RX8 86 RX8 yX8_standsOf wsX8_standsOf) := goodIn_app (goodIn_of _ (by decide +kernel)) ggX8_step_X8_standsOf
set_option maxRecDepth 20000 in
theorem ggX8_step_X8_cells : GoodIn wsX8_step wsX8_cells := goodIn_r _ [12, 2, 59, 60, 61, 62, 63, 64, 65, 66, 67, 68, 69, 70, 71, 72] (by decide +kernel) (by decide +kernel)
set_option maxRecDepth 20000 in
theorem gX8_step_X8_cells : GoodIn wsX8_step (wsV RX8 45 RX8 yX8_cells wsX8_cells) := goodIn_app (goodIn_of _ (by decide +kernel)) ggX8_step_X8_cells
set_option maxRecDepth 20000 in
theorem ggX8_step_X8_has : GoodIn wsX8_step wsX8_has := goodIn_r _ [19] (by decide +kernel) (by decide +kernel)
set_option maxRecDepth 20000 in
theorem gX8_step_X8_has : GoodIn wsX8_step (va_wsS RX8 92 yX8_has wsX8_has) := goodIn_app (goodIn_of _ (by decide +kernel)) ggX8_step_X8_has
set_option maxRecDepth 20000 in
theorem ggX8_step_X8_ruleOf : GoodIn wsX8_step wsX8_ruleOf := goodIn_r _ [23, 2, 24, 25, 26, 6, 27, 28, 29, 30, 31, 32, 33, 34, 35, 36, 37, 38, 39, 40, 41, 42, 43, 44, 45, 46, 47, 48, 49, 50, 9, 10, 11, 12, 59, 60, 61, 62, 63, 64, 65, 66, 67, 68, 69, 70, 71, 72] (by decide +kernel) (by decide +kernel)
set_option maxRecDepth 20000 in
theorem gX8_step_X8_ruleOf : GoodIn wsX8_step (wsV RX8 118 RX8 yX8_ruleOf wsX8_ruleOf) := goodIn_app (goodIn_of _ (by decide +kernel)) ggX8_step_X8_ruleOf
set_option maxRecDepth 20000 in
theorem ggX8_step_X8_doneBy : GoodIn wsX8_step wsX8_doneBy := goodIn_r _ [54, 2, 59, 60, 61, 62, 63, 64, 65, 66, 67, 68, 69, 70, 71, 72] (by decide +kernel) (by decide +kernel)
set_option maxRecDepth 20000 in
theorem gX8_step_X8_doneBy : GoodIn wsX8_step (wsV RX8 122 RX8 yX8_doneBy wsX8_doneBy) := goodIn_app (goodIn_of _ (by decide +kernel)) ggX8_step_X8_doneBy
set_option maxRecDepth 20000 in
theorem ggX8_step_X8_behind : GoodIn wsX8_step wsX8_behind := goodIn_r _ [58, 31, 32, 33, 6, 34, 35, 36, 37, 38, 28, 29, 30, 39, 40, 41, 42, 43, 44, 45, 46, 47, 48, 49, 50, 9, 10, 11, 12, 2, 59, 60, 61, 62, 63, 64, 65, 66, 67, 68, 69, 70, 71, 72] (by decide +kernel) (by decide +kernel)
set_option maxRecDepth 20000 in
theorem gX8_step_X8_behind : GoodIn wsX8_step (wsV RX8 125 RX8 yX8_behind wsX8_behind) := goodIn_app (goodIn_of _ (by decide +kernel)) ggX8_step_X8_behind
set_option maxRecDepth 20000 in
theorem ggX8_step_X8_size : GoodIn wsX8_step wsX8_size := goodIn_r _ [30] (by decide +kernel) (by decide +kernel)
set_option maxRecDepth 20000 in
theorem gX8_step_X8_size : GoodIn wsX8_step (va_wsS RX8 68 yX8_size wsX8_size) := goodIn_app (goodIn_of _ (by decide +kernel)) ggX8_step_X8_size
theorem dX8_step_0 : decode cX8_step 0 = .ok (.aload_n 0, 1) := by decide +kernel
theorem dX8_step_1 : decode cX8_step 1 = .ok (.aload_n 0, 1) := by decide +kernel
theorem dX8_step_2 : decode cX8_step 2 = .ok (.invokevirtual 83, 3) := by decide +kernel
theorem dX8_step_5 : decode cX8_step 5 = .ok (.invokevirtual 86, 3) := by decide +kernel
theorem dX8_step_8 : decode cX8_step 8 = .ok (.istore_n 2, 1) := by decide +kernel
theorem dX8_step_9 : decode cX8_step 9 = .ok (.iload_n 1, 1) := by decide +kernel
theorem dX8_step_10 : decode cX8_step 10 = .ok (.ifCond .lt 11, 3) := by decide +kernel
theorem dX8_step_13 : decode cX8_step 13 = .ok (.iload_n 1, 1) := by decide +kernel
theorem dX8_step_14 : decode cX8_step 14 = .ok (.iload_n 2, 1) := by decide +kernel
theorem dX8_step_15 : decode cX8_step 15 = .ok (.iconst (-1), 1) := by decide +kernel
theorem dX8_step_16 : decode cX8_step 16 = .ok (.ixor, 1) := by decide +kernel
theorem dX8_step_17 : decode cX8_step 17 = .ok (.iand, 1) := by decide +kernel
theorem dX8_step_18 : decode cX8_step 18 = .ok (.ifCond .eq 6, 3) := by decide +kernel
theorem dX8_step_21 : decode cX8_step 21 = .ok (.bipush (-2), 2) := by decide +kernel
theorem dX8_step_23 : decode cX8_step 23 = .ok (.ireturn, 1) := by decide +kernel
theorem dX8_step_24 : decode cX8_step 24 = .ok (.iconst 0, 1) := by decide +kernel
theorem dX8_step_25 : decode cX8_step 25 = .ok (.istore_n 3, 1) := by decide +kernel
theorem dX8_step_26 : decode cX8_step 26 = .ok (.iload_n 3, 1) := by decide +kernel
theorem dX8_step_27 : decode cX8_step 27 = .ok (.bipush 10, 2) := by decide +kernel
theorem dX8_step_29 : decode cX8_step 29 = .ok (.if_icmp .ge 16, 3) := by decide +kernel
theorem dX8_step_32 : decode cX8_step 32 = .ok (.aload_n 0, 1) := by decide +kernel
theorem dX8_step_33 : decode cX8_step 33 = .ok (.getfield 23, 3) := by decide +kernel
theorem dX8_step_36 : decode cX8_step 36 = .ok (.iload_n 3, 1) := by decide +kernel
theorem dX8_step_37 : decode cX8_step 37 = .ok (.iconst 0, 1) := by decide +kernel
theorem dX8_step_38 : decode cX8_step 38 = .ok (.iastore, 1) := by decide +kernel
theorem dX8_step_39 : decode cX8_step 39 = .ok (.iinc 3 1, 3) := by decide +kernel
theorem dX8_step_42 : decode cX8_step 42 = .ok (.goto (-16), 3) := by decide +kernel
theorem dX8_step_45 : decode cX8_step 45 = .ok (.iconst 0, 1) := by decide +kernel
theorem dX8_step_46 : decode cX8_step 46 = .ok (.istore_n 3, 1) := by decide +kernel
theorem dX8_step_47 : decode cX8_step 47 = .ok (.iload_n 3, 1) := by decide +kernel
theorem dX8_step_48 : decode cX8_step 48 = .ok (.aload_n 0, 1) := by decide +kernel
theorem dX8_step_49 : decode cX8_step 49 = .ok (.invokevirtual 45, 3) := by decide +kernel
theorem dX8_step_52 : decode cX8_step 52 = .ok (.if_icmp .ge 82, 3) := by decide +kernel
theorem dX8_step_55 : decode cX8_step 55 = .ok (.iload_n 2, 1) := by decide +kernel
theorem dX8_step_56 : decode cX8_step 56 = .ok (.iload_n 3, 1) := by decide +kernel
theorem dX8_step_57 : decode cX8_step 57 = .ok (.invokestatic 92, 3) := by decide +kernel
theorem dX8_step_60 : decode cX8_step 60 = .ok (.ifCond .eq 68, 3) := by decide +kernel
theorem dX8_step_63 : decode cX8_step 63 = .ok (.iload_n 1, 1) := by decide +kernel
theorem dX8_step_64 : decode cX8_step 64 = .ok (.iload_n 3, 1) := by decide +kernel
theorem dX8_step_65 : decode cX8_step 65 = .ok (.invokestatic 92, 3) := by decide +kernel
theorem dX8_step_68 : decode cX8_step 68 = .ok (.ifCond .eq 33, 3) := by decide +kernel
theorem dX8_step_71 : decode cX8_step 71 = .ok (.aload_n 0, 1) := by decide +kernel
theorem dX8_step_72 : decode cX8_step 72 = .ok (.aload_n 0, 1) := by decide +kernel
theorem dX8_step_73 : decode cX8_step 73 = .ok (.iload_n 2, 1) := by decide +kernel
theorem dX8_step_74 : decode cX8_step 74 = .ok (.iload_n 3, 1) := by decide +kernel
theorem dX8_step_75 : decode cX8_step 75 = .ok (.aload_n 0, 1) := by decide +kernel
theorem dX8_step_76 : decode cX8_step 76 = .ok (.getfield 7, 3) := by decide +kernel
theorem dX8_step_79 : decode cX8_step 79 = .ok (.iconst 1, 1) := by decide +kernel
theorem dX8_step_80 : decode cX8_step 80 = .ok (.iload_n 3, 1) := by decide +kernel
theorem dX8_step_81 : decode cX8_step 81 = .ok (.iadd, 1) := by decide +kernel
theorem dX8_step_82 : decode cX8_step 82 = .ok (.iaload, 1) := by decide +kernel
theorem dX8_step_83 : decode cX8_step 83 = .ok (.iconst 1, 1) := by decide +kernel
theorem dX8_step_84 : decode cX8_step 84 = .ok (.if_icmp .le 7, 3) := by decide +kernel
theorem dX8_step_87 : decode cX8_step 87 = .ok (.iconst 1, 1) := by decide +kernel
theorem dX8_step_88 : decode cX8_step 88 = .ok (.goto 4, 3) := by decide +kernel
theorem dX8_step_91 : decode cX8_step 91 = .ok (.iconst 0, 1) := by decide +kernel
theorem dX8_step_92 : decode cX8_step 92 = .ok (.invokevirtual 118, 3) := by decide +kernel
theorem dX8_step_95 : decode cX8_step 95 = .ok (.invokevirtual 122, 3) := by decide +kernel
theorem dX8_step_98 : decode cX8_step 98 = .ok (.goto 4, 3) := by decide +kernel
theorem dX8_step_101 : decode cX8_step 101 = .ok (.iconst 0, 1) := by decide +kernel
theorem dX8_step_102 : decode cX8_step 102 = .ok (.istore 4, 2) := by decide +kernel
theorem dX8_step_104 : decode cX8_step 104 = .ok (.aload_n 0, 1) := by decide +kernel
theorem dX8_step_105 : decode cX8_step 105 = .ok (.getfield 23, 3) := by decide +kernel
theorem dX8_step_108 : decode cX8_step 108 = .ok (.aload_n 0, 1) := by decide +kernel
theorem dX8_step_109 : decode cX8_step 109 = .ok (.iload_n 2, 1) := by decide +kernel
theorem dX8_step_110 : decode cX8_step 110 = .ok (.iload_n 3, 1) := by decide +kernel
theorem dX8_step_111 : decode cX8_step 111 = .ok (.iload 4, 2) := by decide +kernel
theorem dX8_step_113 : decode cX8_step 113 = .ok (.invokevirtual 125, 3) := by decide +kernel
theorem dX8_step_116 : decode cX8_step 116 = .ok (.dup2, 1) := by decide +kernel
theorem dX8_step_117 : decode cX8_step 117 = .ok (.iaload, 1) := by decide +kernel
theorem dX8_step_118 : decode cX8_step 118 = .ok (.aload_n 0, 1) := by decide +kernel
theorem dX8_step_119 : decode cX8_step 119 = .ok (.getfield 7, 3) := by decide +kernel
theorem dX8_step_122 : decode cX8_step 122 = .ok (.iconst 1, 1) := by decide +kernel
theorem dX8_step_123 : decode cX8_step 123 = .ok (.iload_n 3, 1) := by decide +kernel
theorem dX8_step_124 : decode cX8_step 124 = .ok (.iadd, 1) := by decide +kernel
theorem dX8_step_125 : decode cX8_step 125 = .ok (.iaload, 1) := by decide +kernel
theorem dX8_step_126 : decode cX8_step 126 = .ok (.iadd, 1) := by decide +kernel
theorem dX8_step_127 : decode cX8_step 127 = .ok (.iastore, 1) := by decide +kernel
theorem dX8_step_128 : decode cX8_step 128 = .ok (.iinc 3 1, 3) := by decide +kernel
theorem dX8_step_131 : decode cX8_step 131 = .ok (.goto (-84), 3) := by decide +kernel
theorem dX8_step_134 : decode cX8_step 134 = .ok (.iconst 0, 1) := by decide +kernel
theorem dX8_step_135 : decode cX8_step 135 = .ok (.istore_n 3, 1) := by decide +kernel
theorem dX8_step_136 : decode cX8_step 136 = .ok (.iload_n 3, 1) := by decide +kernel
theorem dX8_step_137 : decode cX8_step 137 = .ok (.bipush 10, 2) := by decide +kernel
theorem dX8_step_139 : decode cX8_step 139 = .ok (.if_icmp .ge 23, 3) := by decide +kernel
theorem dX8_step_142 : decode cX8_step 142 = .ok (.aload_n 0, 1) := by decide +kernel
theorem dX8_step_143 : decode cX8_step 143 = .ok (.getfield 7, 3) := by decide +kernel
theorem dX8_step_146 : decode cX8_step 146 = .ok (.iconst 1, 1) := by decide +kernel
theorem dX8_step_147 : decode cX8_step 147 = .ok (.iload_n 3, 1) := by decide +kernel
theorem dX8_step_148 : decode cX8_step 148 = .ok (.iadd, 1) := by decide +kernel
theorem dX8_step_149 : decode cX8_step 149 = .ok (.aload_n 0, 1) := by decide +kernel
theorem dX8_step_150 : decode cX8_step 150 = .ok (.getfield 23, 3) := by decide +kernel
theorem dX8_step_153 : decode cX8_step 153 = .ok (.iload_n 3, 1) := by decide +kernel
theorem dX8_step_154 : decode cX8_step 154 = .ok (.iaload, 1) := by decide +kernel
theorem dX8_step_155 : decode cX8_step 155 = .ok (.iastore, 1) := by decide +kernel
theorem dX8_step_156 : decode cX8_step 156 = .ok (.iinc 3 1, 3) := by decide +kernel
theorem dX8_step_159 : decode cX8_step 159 = .ok (.goto (-23), 3) := by decide +kernel
theorem dX8_step_162 : decode cX8_step 162 = .ok (.aload_n 0, 1) := by decide +kernel
theorem dX8_step_163 : decode cX8_step 163 = .ok (.aload_n 0, 1) := by decide +kernel
theorem dX8_step_164 : decode cX8_step 164 = .ok (.invokevirtual 83, 3) := by decide +kernel
theorem dX8_step_167 : decode cX8_step 167 = .ok (.invokevirtual 86, 3) := by decide +kernel
theorem dX8_step_170 : decode cX8_step 170 = .ok (.invokestatic 68, 3) := by decide +kernel
theorem dX8_step_173 : decode cX8_step 173 = .ok (.ireturn, 1) := by decide +kernel
set_option maxRecDepth 20000 in
theorem ggX8_note_X8_standsOf : GoodIn wsX8_note wsX8_standsOf := goodIn_r _ [12, 5, 13, 14, 15, 11, 16, 17, 60, 61, 62, 63, 64, 65, 66, 67, 68, 69, 70, 71, 72, 73] (by decide +kernel) (by decide +kernel)
set_option maxRecDepth 20000 in
theorem gX8_note_X8_standsOf : GoodIn wsX8_note (wsV RX8 86 RX8 yX8_standsOf wsX8_standsOf) := goodIn_app (goodIn_of _ (by decide +kernel)) ggX8_note_X8_standsOf
set_option maxRecDepth 20000 in
theorem ggX8_note_X8_cells : GoodIn wsX8_note wsX8_cells := goodIn_r _ [16, 17, 60, 61, 62, 63, 64, 65, 66, 67, 68, 69, 70, 71, 72, 73] (by decide +kernel) (by decide +kernel)
set_option maxRecDepth 20000 in
theorem gX8_note_X8_cells : GoodIn wsX8_note (wsV RX8 45 RX8 yX8_cells wsX8_cells) := goodIn_app (goodIn_of _ (by decide +kernel)) ggX8_note_X8_cells
set_option maxRecDepth 20000 in
theorem ggX8_note_X8_has : GoodIn wsX8_note wsX8_has := goodIn_r _ [20] (by decide +kernel) (by decide +kernel)
set_option maxRecDepth 20000 in
theorem gX8_note_X8_has : GoodIn wsX8_note (va_wsS RX8 92 yX8_has wsX8_has) := goodIn_app (goodIn_of _ (by decide +kernel)) ggX8_note_X8_has
set_option maxRecDepth 20000 in
theorem ggX8_note_X8_ruleOf : GoodIn wsX8_note wsX8_ruleOf := goodIn_r _ [24, 17, 25, 26, 27, 11, 28, 29, 30, 31, 32, 33, 34, 35, 36, 37, 38, 39, 40, 41, 42, 43, 44, 45, 46, 47, 48, 49, 50, 51, 13, 14, 15, 16, 60, 61, 62, 63, 64, 65, 66, 67, 68, 69, 70, 71, 72, 73] (by decide +kernel) (by decide +kernel)
set_option maxRecDepth 20000 in
theorem gX8_note_X8_ruleOf : GoodIn wsX8_note (wsV RX8 118 RX8 yX8_ruleOf wsX8_ruleOf) := goodIn_app (goodIn_of _ (by decide +kernel)) ggX8_note_X8_ruleOf
set_option maxRecDepth 20000 in
theorem ggX8_note_X8_doneBy : GoodIn wsX8_note wsX8_doneBy := goodIn_r _ [55, 17, 60, 61, 62, 63, 64, 65, 66, 67, 68, 69, 70, 71, 72, 73] (by decide +kernel) (by decide +kernel)
set_option maxRecDepth 20000 in
theorem gX8_note_X8_doneBy : GoodIn wsX8_note (wsV RX8 122 RX8 yX8_doneBy wsX8_doneBy) := goodIn_app (goodIn_of _ (by decide +kernel)) ggX8_note_X8_doneBy
set_option maxRecDepth 20000 in
theorem ggX8_note_X8_behind : GoodIn wsX8_note wsX8_behind := goodIn_r _ [59, 32, 33, 34, 11, 35, 36, 37, 38, 39, 29, 30, 31, 40, 41, 42, 43, 44, 45, 46, 47, 48, 49, 50, 51, 13, 14, 15, 16, 17, 60, 61, 62, 63, 64, 65, 66, 67, 68, 69, 70, 71, 72, 73] (by decide +kernel) (by decide +kernel)
set_option maxRecDepth 20000 in
theorem gX8_note_X8_behind : GoodIn wsX8_note (wsV RX8 125 RX8 yX8_behind wsX8_behind) := goodIn_app (goodIn_of _ (by decide +kernel)) ggX8_note_X8_behind
set_option maxRecDepth 20000 in
theorem ggX8_note_X8_beside : GoodIn wsX8_note wsX8_beside := goodIn_r _ [51, 13, 14, 15, 11, 16, 17, 60, 61, 62, 63, 64, 65, 66, 67, 68, 69, 70, 71, 72, 73] (by decide +kernel) (by decide +kernel)
set_option maxRecDepth 20000 in
theorem gX8_note_X8_beside : GoodIn wsX8_note (wsV RX8 60 RX8 yX8_beside wsX8_beside) := goodIn_app (goodIn_of _ (by decide +kernel)) ggX8_note_X8_beside
set_option maxRecDepth 20000 in
theorem ggX8_note_X8_size : GoodIn wsX8_note wsX8_size := goodIn_r _ [31] (by decide +kernel) (by decide +kernel)
set_option maxRecDepth 20000 in
theorem gX8_note_X8_size : GoodIn wsX8_note (va_wsS RX8 68 yX8_size wsX8_size) := goodIn_app (goodIn_of _ (by decide +kernel)) ggX8_note_X8_size
theorem dX8_note_0 : decode cX8_note 0 = .ok (.aload_n 0, 1) := by decide +kernel
theorem dX8_note_1 : decode cX8_note 1 = .ok (.getfield 30, 3) := by decide +kernel
theorem dX8_note_4 : decode cX8_note 4 = .ok (.iload_n 1, 1) := by decide +kernel
theorem dX8_note_5 : decode cX8_note 5 = .ok (.baload, 1) := by decide +kernel
theorem dX8_note_6 : decode cX8_note 6 = .ok (.ifCond .eq 4, 3) := by decide +kernel
theorem dX8_note_9 : decode cX8_note 9 = .ok (.return_, 1) := by decide +kernel
theorem dX8_note_10 : decode cX8_note 10 = .ok (.aload_n 0, 1) := by decide +kernel
theorem dX8_note_11 : decode cX8_note 11 = .ok (.getfield 30, 3) := by decide +kernel
theorem dX8_note_14 : decode cX8_note 14 = .ok (.iload_n 1, 1) := by decide +kernel
theorem dX8_note_15 : decode cX8_note 15 = .ok (.iconst 1, 1) := by decide +kernel
theorem dX8_note_16 : decode cX8_note 16 = .ok (.bastore, 1) := by decide +kernel
theorem dX8_note_17 : decode cX8_note 17 = .ok (.aload_n 0, 1) := by decide +kernel
theorem dX8_note_18 : decode cX8_note 18 = .ok (.getfield 27, 3) := by decide +kernel
theorem dX8_note_21 : decode cX8_note 21 = .ok (.aload_n 0, 1) := by decide +kernel
theorem dX8_note_22 : decode cX8_note 22 = .ok (.getfield 128, 3) := by decide +kernel
theorem dX8_note_25 : decode cX8_note 25 = .ok (.iload_n 1, 1) := by decide +kernel
theorem dX8_note_26 : decode cX8_note 26 = .ok (.iastore, 1) := by decide +kernel
theorem dX8_note_27 : decode cX8_note 27 = .ok (.aload_n 0, 1) := by decide +kernel
theorem dX8_note_28 : decode cX8_note 28 = .ok (.dup, 1) := by decide +kernel
theorem dX8_note_29 : decode cX8_note 29 = .ok (.getfield 128, 3) := by decide +kernel
theorem dX8_note_32 : decode cX8_note 32 = .ok (.iconst 1, 1) := by decide +kernel
theorem dX8_note_33 : decode cX8_note 33 = .ok (.iadd, 1) := by decide +kernel
theorem dX8_note_34 : decode cX8_note 34 = .ok (.putfield 128, 3) := by decide +kernel
theorem dX8_note_37 : decode cX8_note 37 = .ok (.aload_n 0, 1) := by decide +kernel
theorem dX8_note_38 : decode cX8_note 38 = .ok (.iload_n 1, 1) := by decide +kernel
theorem dX8_note_39 : decode cX8_note 39 = .ok (.invokevirtual 86, 3) := by decide +kernel
theorem dX8_note_42 : decode cX8_note 42 = .ok (.istore_n 2, 1) := by decide +kernel
theorem dX8_note_43 : decode cX8_note 43 = .ok (.iconst 0, 1) := by decide +kernel
theorem dX8_note_44 : decode cX8_note 44 = .ok (.istore_n 3, 1) := by decide +kernel
theorem dX8_note_45 : decode cX8_note 45 = .ok (.iconst 0, 1) := by decide +kernel
theorem dX8_note_46 : decode cX8_note 46 = .ok (.istore 4, 2) := by decide +kernel
theorem dX8_note_48 : decode cX8_note 48 = .ok (.iload 4, 2) := by decide +kernel
theorem dX8_note_50 : decode cX8_note 50 = .ok (.aload_n 0, 1) := by decide +kernel
theorem dX8_note_51 : decode cX8_note 51 = .ok (.invokevirtual 45, 3) := by decide +kernel
theorem dX8_note_54 : decode cX8_note 54 = .ok (.if_icmp .ge 138, 3) := by decide +kernel
theorem dX8_note_57 : decode cX8_note 57 = .ok (.iload_n 2, 1) := by decide +kernel
theorem dX8_note_58 : decode cX8_note 58 = .ok (.iload 4, 2) := by decide +kernel
theorem dX8_note_60 : decode cX8_note 60 = .ok (.invokestatic 92, 3) := by decide +kernel
theorem dX8_note_63 : decode cX8_note 63 = .ok (.ifCond .eq 123, 3) := by decide +kernel
theorem dX8_note_66 : decode cX8_note 66 = .ok (.aload_n 0, 1) := by decide +kernel
theorem dX8_note_67 : decode cX8_note 67 = .ok (.iload_n 2, 1) := by decide +kernel
theorem dX8_note_68 : decode cX8_note 68 = .ok (.iload 4, 2) := by decide +kernel
theorem dX8_note_70 : decode cX8_note 70 = .ok (.aload_n 0, 1) := by decide +kernel
theorem dX8_note_71 : decode cX8_note 71 = .ok (.getfield 132, 3) := by decide +kernel
theorem dX8_note_74 : decode cX8_note 74 = .ok (.ifCond .ne 22, 3) := by decide +kernel
theorem dX8_note_77 : decode cX8_note 77 = .ok (.iload_n 1, 1) := by decide +kernel
theorem dX8_note_78 : decode cX8_note 78 = .ok (.aload_n 0, 1) := by decide +kernel
theorem dX8_note_79 : decode cX8_note 79 = .ok (.getfield 20, 3) := by decide +kernel
theorem dX8_note_82 : decode cX8_note 82 = .ok (.iload 4, 2) := by decide +kernel
theorem dX8_note_84 : decode cX8_note 84 = .ok (.iaload, 1) := by decide +kernel
theorem dX8_note_85 : decode cX8_note 85 = .ok (.idiv, 1) := by decide +kernel
theorem dX8_note_86 : decode cX8_note 86 = .ok (.iconst 3, 1) := by decide +kernel
theorem dX8_note_87 : decode cX8_note 87 = .ok (.irem, 1) := by decide +kernel
theorem dX8_note_88 : decode cX8_note 88 = .ok (.iconst 2, 1) := by decide +kernel
theorem dX8_note_89 : decode cX8_note 89 = .ok (.if_icmp .ne 7, 3) := by decide +kernel
theorem dX8_note_92 : decode cX8_note 92 = .ok (.iconst 1, 1) := by decide +kernel
theorem dX8_note_93 : decode cX8_note 93 = .ok (.goto 4, 3) := by decide +kernel
theorem dX8_note_96 : decode cX8_note 96 = .ok (.iconst 0, 1) := by decide +kernel
theorem dX8_note_97 : decode cX8_note 97 = .ok (.invokevirtual 118, 3) := by decide +kernel
theorem dX8_note_100 : decode cX8_note 100 = .ok (.istore 5, 2) := by decide +kernel
theorem dX8_note_102 : decode cX8_note 102 = .ok (.aload_n 0, 1) := by decide +kernel
theorem dX8_note_103 : decode cX8_note 103 = .ok (.iload_n 2, 1) := by decide +kernel
theorem dX8_note_104 : decode cX8_note 104 = .ok (.iload 4, 2) := by decide +kernel
theorem dX8_note_106 : decode cX8_note 106 = .ok (.aload_n 0, 1) := by decide +kernel
theorem dX8_note_107 : decode cX8_note 107 = .ok (.iload 5, 2) := by decide +kernel
theorem dX8_note_109 : decode cX8_note 109 = .ok (.invokevirtual 122, 3) := by decide +kernel
theorem dX8_note_112 : decode cX8_note 112 = .ok (.invokevirtual 125, 3) := by decide +kernel
theorem dX8_note_115 : decode cX8_note 115 = .ok (.istore 6, 2) := by decide +kernel
theorem dX8_note_117 : decode cX8_note 117 = .ok (.iload_n 3, 1) := by decide +kernel
theorem dX8_note_118 : decode cX8_note 118 = .ok (.aload_n 0, 1) := by decide +kernel
theorem dX8_note_119 : decode cX8_note 119 = .ok (.getfield 20, 3) := by decide +kernel
theorem dX8_note_122 : decode cX8_note 122 = .ok (.iload 4, 2) := by decide +kernel
theorem dX8_note_124 : decode cX8_note 124 = .ok (.iaload, 1) := by decide +kernel
theorem dX8_note_125 : decode cX8_note 125 = .ok (.iload 6, 2) := by decide +kernel
theorem dX8_note_127 : decode cX8_note 127 = .ok (.iload 4, 2) := by decide +kernel
theorem dX8_note_129 : decode cX8_note 129 = .ok (.if_icmp .ne 7, 3) := by decide +kernel
theorem dX8_note_132 : decode cX8_note 132 = .ok (.iconst 0, 1) := by decide +kernel
theorem dX8_note_133 : decode cX8_note 133 = .ok (.goto 20, 3) := by decide +kernel
theorem dX8_note_136 : decode cX8_note 136 = .ok (.iload 6, 2) := by decide +kernel
theorem dX8_note_138 : decode cX8_note 138 = .ok (.aload_n 0, 1) := by decide +kernel
theorem dX8_note_139 : decode cX8_note 139 = .ok (.iload 4, 2) := by decide +kernel
theorem dX8_note_141 : decode cX8_note 141 = .ok (.iconst 1, 1) := by decide +kernel
theorem dX8_note_142 : decode cX8_note 142 = .ok (.invokevirtual 60, 3) := by decide +kernel
theorem dX8_note_145 : decode cX8_note 145 = .ok (.if_icmp .ne 7, 3) := by decide +kernel
theorem dX8_note_148 : decode cX8_note 148 = .ok (.iconst 1, 1) := by decide +kernel
theorem dX8_note_149 : decode cX8_note 149 = .ok (.goto 4, 3) := by decide +kernel
theorem dX8_note_152 : decode cX8_note 152 = .ok (.iconst 2, 1) := by decide +kernel
theorem dX8_note_153 : decode cX8_note 153 = .ok (.imul, 1) := by decide +kernel
theorem dX8_note_154 : decode cX8_note 154 = .ok (.iadd, 1) := by decide +kernel
theorem dX8_note_155 : decode cX8_note 155 = .ok (.istore_n 3, 1) := by decide +kernel
theorem dX8_note_156 : decode cX8_note 156 = .ok (.aload_n 0, 1) := by decide +kernel
theorem dX8_note_157 : decode cX8_note 157 = .ok (.dup, 1) := by decide +kernel
theorem dX8_note_158 : decode cX8_note 158 = .ok (.getfield 136, 3) := by decide +kernel
theorem dX8_note_161 : decode cX8_note 161 = .ok (.iload 5, 2) := by decide +kernel
theorem dX8_note_163 : decode cX8_note 163 = .ok (.ifCond .lt 18, 3) := by decide +kernel
theorem dX8_note_166 : decode cX8_note 166 = .ok (.iload_n 2, 1) := by decide +kernel
theorem dX8_note_167 : decode cX8_note 167 = .ok (.invokestatic 68, 3) := by decide +kernel
theorem dX8_note_170 : decode cX8_note 170 = .ok (.iconst 1, 1) := by decide +kernel
theorem dX8_note_171 : decode cX8_note 171 = .ok (.if_icmp .le 10, 3) := by decide +kernel
theorem dX8_note_174 : decode cX8_note 174 = .ok (.iconst 1, 1) := by decide +kernel
theorem dX8_note_175 : decode cX8_note 175 = .ok (.iload 5, 2) := by decide +kernel
theorem dX8_note_177 : decode cX8_note 177 = .ok (.ishl, 1) := by decide +kernel
theorem dX8_note_178 : decode cX8_note 178 = .ok (.goto 4, 3) := by decide +kernel
theorem dX8_note_181 : decode cX8_note 181 = .ok (.iconst 0, 1) := by decide +kernel
theorem dX8_note_182 : decode cX8_note 182 = .ok (.ior, 1) := by decide +kernel
theorem dX8_note_183 : decode cX8_note 183 = .ok (.putfield 136, 3) := by decide +kernel
theorem dX8_note_186 : decode cX8_note 186 = .ok (.iinc 4 1, 3) := by decide +kernel
theorem dX8_note_189 : decode cX8_note 189 = .ok (.goto (-141), 3) := by decide +kernel
theorem dX8_note_192 : decode cX8_note 192 = .ok (.aload_n 0, 1) := by decide +kernel
theorem dX8_note_193 : decode cX8_note 193 = .ok (.getfield 33, 3) := by decide +kernel
theorem dX8_note_196 : decode cX8_note 196 = .ok (.iload_n 1, 1) := by decide +kernel
theorem dX8_note_197 : decode cX8_note 197 = .ok (.iload_n 2, 1) := by decide +kernel
theorem dX8_note_198 : decode cX8_note 198 = .ok (.invokestatic 68, 3) := by decide +kernel
theorem dX8_note_201 : decode cX8_note 201 = .ok (.iconst 2, 1) := by decide +kernel
theorem dX8_note_202 : decode cX8_note 202 = .ok (.if_icmp .ge 7, 3) := by decide +kernel
theorem dX8_note_205 : decode cX8_note 205 = .ok (.iconst 0, 1) := by decide +kernel
theorem dX8_note_206 : decode cX8_note 206 = .ok (.goto 4, 3) := by decide +kernel
theorem dX8_note_209 : decode cX8_note 209 = .ok (.iload_n 3, 1) := by decide +kernel
theorem dX8_note_210 : decode cX8_note 210 = .ok (.iastore, 1) := by decide +kernel
theorem dX8_note_211 : decode cX8_note 211 = .ok (.return_, 1) := by decide +kernel
set_option maxRecDepth 20000 in
theorem ggX8_movers_X8_standsOf : GoodIn wsX8_movers wsX8_standsOf := goodIn_r _ [6, 7, 8, 9, 10, 5, 11, 12, 13, 14, 15, 16, 17, 18, 19, 20, 21, 22, 23, 24, 25, 26] (by decide +kernel) (by decide +kernel)
set_option maxRecDepth 20000 in
theorem gX8_movers_X8_standsOf : GoodIn wsX8_movers (wsV RX8 86 RX8 yX8_standsOf wsX8_standsOf) := goodIn_app (goodIn_of _ (by decide +kernel)) ggX8_movers_X8_standsOf
theorem dX8_movers_0 : decode cX8_movers 0 = .ok (.aload_n 0, 1) := by decide +kernel
theorem dX8_movers_1 : decode cX8_movers 1 = .ok (.aload_n 0, 1) := by decide +kernel
theorem dX8_movers_2 : decode cX8_movers 2 = .ok (.getfield 33, 3) := by decide +kernel
theorem dX8_movers_5 : decode cX8_movers 5 = .ok (.iload_n 1, 1) := by decide +kernel
theorem dX8_movers_6 : decode cX8_movers 6 = .ok (.iaload, 1) := by decide +kernel
theorem dX8_movers_7 : decode cX8_movers 7 = .ok (.invokevirtual 86, 3) := by decide +kernel
theorem dX8_movers_10 : decode cX8_movers 10 = .ok (.ireturn, 1) := by decide +kernel
set_option maxRecDepth 20000 in
theorem ggX8_behindStep_X8_cells : GoodIn wsX8_behindStep wsX8_cells := goodIn_r _ [8, 9, 17, 18, 19, 20, 21, 22, 23, 24, 25, 26, 27, 28, 29, 30] (by decide +kernel) (by decide +kernel)
set_option maxRecDepth 20000 in
theorem gX8_behindStep_X8_cells : GoodIn wsX8_behindStep (wsV RX8 45 RX8 yX8_cells wsX8_cells) := goodIn_app (goodIn_of _ (by decide +kernel)) ggX8_behindStep_X8_cells
set_option maxRecDepth 20000 in
theorem ggX8_behindStep_X8_has : GoodIn wsX8_behindStep wsX8_has := goodIn_r _ [12] (by decide +kernel) (by decide +kernel)
set_option maxRecDepth 20000 in
theorem gX8_behindStep_X8_has : GoodIn wsX8_behindStep (va_wsS RX8 92 yX8_has wsX8_has) := goodIn_app (goodIn_of _ (by decide +kernel)) ggX8_behindStep_X8_has
set_option maxRecDepth 20000 in
theorem ggX8_behindStep_X8_beside : GoodIn wsX8_behindStep wsX8_beside := goodIn_r _ [16, 4, 5, 6, 7, 8, 9, 17, 18, 19, 20, 21, 22, 23, 24, 25, 26, 27, 28, 29, 30] (by decide +kernel) (by decide +kernel)
set_option maxRecDepth 20000 in
theorem gX8_behindStep_X8_beside : GoodIn wsX8_behindStep (wsV RX8 60 RX8 yX8_beside wsX8_beside) := goodIn_app (goodIn_of _ (by decide +kernel)) ggX8_behindStep_X8_beside
theorem dX8_behindStep_0 : decode cX8_behindStep 0 = .ok (.iconst 0, 1) := by decide +kernel
theorem dX8_behindStep_1 : decode cX8_behindStep 1 = .ok (.istore_n 3, 1) := by decide +kernel
theorem dX8_behindStep_2 : decode cX8_behindStep 2 = .ok (.iload_n 3, 1) := by decide +kernel
theorem dX8_behindStep_3 : decode cX8_behindStep 3 = .ok (.aload_n 0, 1) := by decide +kernel
theorem dX8_behindStep_4 : decode cX8_behindStep 4 = .ok (.invokevirtual 45, 3) := by decide +kernel
theorem dX8_behindStep_7 : decode cX8_behindStep 7 = .ok (.if_icmp .ge 16, 3) := by decide +kernel
theorem dX8_behindStep_10 : decode cX8_behindStep 10 = .ok (.aload_n 0, 1) := by decide +kernel
theorem dX8_behindStep_11 : decode cX8_behindStep 11 = .ok (.getfield 42, 3) := by decide +kernel
theorem dX8_behindStep_14 : decode cX8_behindStep 14 = .ok (.iload_n 3, 1) := by decide +kernel
theorem dX8_behindStep_15 : decode cX8_behindStep 15 = .ok (.iconst 0, 1) := by decide +kernel
theorem dX8_behindStep_16 : decode cX8_behindStep 16 = .ok (.iastore, 1) := by decide +kernel
theorem dX8_behindStep_17 : decode cX8_behindStep 17 = .ok (.iinc 3 1, 3) := by decide +kernel
theorem dX8_behindStep_20 : decode cX8_behindStep 20 = .ok (.goto (-18), 3) := by decide +kernel
theorem dX8_behindStep_23 : decode cX8_behindStep 23 = .ok (.iconst 0, 1) := by decide +kernel
theorem dX8_behindStep_24 : decode cX8_behindStep 24 = .ok (.istore_n 3, 1) := by decide +kernel
theorem dX8_behindStep_25 : decode cX8_behindStep 25 = .ok (.iload_n 3, 1) := by decide +kernel
theorem dX8_behindStep_26 : decode cX8_behindStep 26 = .ok (.aload_n 0, 1) := by decide +kernel
theorem dX8_behindStep_27 : decode cX8_behindStep 27 = .ok (.invokevirtual 45, 3) := by decide +kernel
theorem dX8_behindStep_30 : decode cX8_behindStep 30 = .ok (.if_icmp .ge 105, 3) := by decide +kernel
theorem dX8_behindStep_33 : decode cX8_behindStep 33 = .ok (.iload_n 1, 1) := by decide +kernel
theorem dX8_behindStep_34 : decode cX8_behindStep 34 = .ok (.aload_n 0, 1) := by decide +kernel
theorem dX8_behindStep_35 : decode cX8_behindStep 35 = .ok (.getfield 20, 3) := by decide +kernel
theorem dX8_behindStep_38 : decode cX8_behindStep 38 = .ok (.iload_n 3, 1) := by decide +kernel
theorem dX8_behindStep_39 : decode cX8_behindStep 39 = .ok (.iaload, 1) := by decide +kernel
theorem dX8_behindStep_40 : decode cX8_behindStep 40 = .ok (.idiv, 1) := by decide +kernel
theorem dX8_behindStep_41 : decode cX8_behindStep 41 = .ok (.iconst 3, 1) := by decide +kernel
theorem dX8_behindStep_42 : decode cX8_behindStep 42 = .ok (.irem, 1) := by decide +kernel
theorem dX8_behindStep_43 : decode cX8_behindStep 43 = .ok (.istore 4, 2) := by decide +kernel
theorem dX8_behindStep_45 : decode cX8_behindStep 45 = .ok (.iload 4, 2) := by decide +kernel
theorem dX8_behindStep_47 : decode cX8_behindStep 47 = .ok (.ifCond .le 82, 3) := by decide +kernel
theorem dX8_behindStep_50 : decode cX8_behindStep 50 = .ok (.iload_n 2, 1) := by decide +kernel
theorem dX8_behindStep_51 : decode cX8_behindStep 51 = .ok (.iload_n 3, 1) := by decide +kernel
theorem dX8_behindStep_52 : decode cX8_behindStep 52 = .ok (.invokestatic 92, 3) := by decide +kernel
theorem dX8_behindStep_55 : decode cX8_behindStep 55 = .ok (.ifCond .eq 21, 3) := by decide +kernel
theorem dX8_behindStep_58 : decode cX8_behindStep 58 = .ok (.aload_n 0, 1) := by decide +kernel
theorem dX8_behindStep_59 : decode cX8_behindStep 59 = .ok (.getfield 33, 3) := by decide +kernel
theorem dX8_behindStep_62 : decode cX8_behindStep 62 = .ok (.iload_n 1, 1) := by decide +kernel
theorem dX8_behindStep_63 : decode cX8_behindStep 63 = .ok (.iaload, 1) := by decide +kernel
theorem dX8_behindStep_64 : decode cX8_behindStep 64 = .ok (.aload_n 0, 1) := by decide +kernel
theorem dX8_behindStep_65 : decode cX8_behindStep 65 = .ok (.getfield 20, 3) := by decide +kernel
theorem dX8_behindStep_68 : decode cX8_behindStep 68 = .ok (.iload_n 3, 1) := by decide +kernel
theorem dX8_behindStep_69 : decode cX8_behindStep 69 = .ok (.iaload, 1) := by decide +kernel
theorem dX8_behindStep_70 : decode cX8_behindStep 70 = .ok (.idiv, 1) := by decide +kernel
theorem dX8_behindStep_71 : decode cX8_behindStep 71 = .ok (.iconst 3, 1) := by decide +kernel
theorem dX8_behindStep_72 : decode cX8_behindStep 72 = .ok (.irem, 1) := by decide +kernel
theorem dX8_behindStep_73 : decode cX8_behindStep 73 = .ok (.goto 4, 3) := by decide +kernel
theorem dX8_behindStep_76 : decode cX8_behindStep 76 = .ok (.iconst 0, 1) := by decide +kernel
theorem dX8_behindStep_77 : decode cX8_behindStep 77 = .ok (.istore 5, 2) := by decide +kernel
theorem dX8_behindStep_79 : decode cX8_behindStep 79 = .ok (.iload 5, 2) := by decide +kernel
theorem dX8_behindStep_81 : decode cX8_behindStep 81 = .ok (.ifCond .ne 7, 3) := by decide +kernel
theorem dX8_behindStep_84 : decode cX8_behindStep 84 = .ok (.iload_n 3, 1) := by decide +kernel
theorem dX8_behindStep_85 : decode cX8_behindStep 85 = .ok (.goto 19, 3) := by decide +kernel
theorem dX8_behindStep_88 : decode cX8_behindStep 88 = .ok (.aload_n 0, 1) := by decide +kernel
theorem dX8_behindStep_89 : decode cX8_behindStep 89 = .ok (.iload_n 3, 1) := by decide +kernel
theorem dX8_behindStep_90 : decode cX8_behindStep 90 = .ok (.iload 5, 2) := by decide +kernel
theorem dX8_behindStep_92 : decode cX8_behindStep 92 = .ok (.iconst 1, 1) := by decide +kernel
theorem dX8_behindStep_93 : decode cX8_behindStep 93 = .ok (.if_icmp .ne 7, 3) := by decide +kernel
theorem dX8_behindStep_96 : decode cX8_behindStep 96 = .ok (.iconst 1, 1) := by decide +kernel
theorem dX8_behindStep_97 : decode cX8_behindStep 97 = .ok (.goto 4, 3) := by decide +kernel
theorem dX8_behindStep_100 : decode cX8_behindStep 100 = .ok (.iconst (-1), 1) := by decide +kernel
theorem dX8_behindStep_101 : decode cX8_behindStep 101 = .ok (.invokevirtual 60, 3) := by decide +kernel
theorem dX8_behindStep_104 : decode cX8_behindStep 104 = .ok (.istore 6, 2) := by decide +kernel
theorem dX8_behindStep_106 : decode cX8_behindStep 106 = .ok (.aload_n 0, 1) := by decide +kernel
theorem dX8_behindStep_107 : decode cX8_behindStep 107 = .ok (.getfield 42, 3) := by decide +kernel
theorem dX8_behindStep_110 : decode cX8_behindStep 110 = .ok (.iload 6, 2) := by decide +kernel
theorem dX8_behindStep_112 : decode cX8_behindStep 112 = .ok (.aload_n 0, 1) := by decide +kernel
theorem dX8_behindStep_113 : decode cX8_behindStep 113 = .ok (.getfield 42, 3) := by decide +kernel
theorem dX8_behindStep_116 : decode cX8_behindStep 116 = .ok (.iload 6, 2) := by decide +kernel
theorem dX8_behindStep_118 : decode cX8_behindStep 118 = .ok (.iaload, 1) := by decide +kernel
theorem dX8_behindStep_119 : decode cX8_behindStep 119 = .ok (.ifCond .le 7, 3) := by decide +kernel
theorem dX8_behindStep_122 : decode cX8_behindStep 122 = .ok (.iconst 2, 1) := by decide +kernel
theorem dX8_behindStep_123 : decode cX8_behindStep 123 = .ok (.goto 5, 3) := by decide +kernel
theorem dX8_behindStep_126 : decode cX8_behindStep 126 = .ok (.iload 4, 2) := by decide +kernel
theorem dX8_behindStep_128 : decode cX8_behindStep 128 = .ok (.iastore, 1) := by decide +kernel
theorem dX8_behindStep_129 : decode cX8_behindStep 129 = .ok (.iinc 3 1, 3) := by decide +kernel
theorem dX8_behindStep_132 : decode cX8_behindStep 132 = .ok (.goto (-107), 3) := by decide +kernel
theorem dX8_behindStep_135 : decode cX8_behindStep 135 = .ok (.iconst 0, 1) := by decide +kernel
theorem dX8_behindStep_136 : decode cX8_behindStep 136 = .ok (.istore_n 3, 1) := by decide +kernel
theorem dX8_behindStep_137 : decode cX8_behindStep 137 = .ok (.iconst 0, 1) := by decide +kernel
theorem dX8_behindStep_138 : decode cX8_behindStep 138 = .ok (.istore 4, 2) := by decide +kernel
theorem dX8_behindStep_140 : decode cX8_behindStep 140 = .ok (.iload 4, 2) := by decide +kernel
theorem dX8_behindStep_142 : decode cX8_behindStep 142 = .ok (.aload_n 0, 1) := by decide +kernel
theorem dX8_behindStep_143 : decode cX8_behindStep 143 = .ok (.invokevirtual 45, 3) := by decide +kernel
theorem dX8_behindStep_146 : decode cX8_behindStep 146 = .ok (.if_icmp .ge 27, 3) := by decide +kernel
theorem dX8_behindStep_149 : decode cX8_behindStep 149 = .ok (.iload_n 3, 1) := by decide +kernel
theorem dX8_behindStep_150 : decode cX8_behindStep 150 = .ok (.aload_n 0, 1) := by decide +kernel
theorem dX8_behindStep_151 : decode cX8_behindStep 151 = .ok (.getfield 20, 3) := by decide +kernel
theorem dX8_behindStep_154 : decode cX8_behindStep 154 = .ok (.iload 4, 2) := by decide +kernel
theorem dX8_behindStep_156 : decode cX8_behindStep 156 = .ok (.iaload, 1) := by decide +kernel
theorem dX8_behindStep_157 : decode cX8_behindStep 157 = .ok (.aload_n 0, 1) := by decide +kernel
theorem dX8_behindStep_158 : decode cX8_behindStep 158 = .ok (.getfield 42, 3) := by decide +kernel
theorem dX8_behindStep_161 : decode cX8_behindStep 161 = .ok (.iload 4, 2) := by decide +kernel
theorem dX8_behindStep_163 : decode cX8_behindStep 163 = .ok (.iaload, 1) := by decide +kernel
theorem dX8_behindStep_164 : decode cX8_behindStep 164 = .ok (.imul, 1) := by decide +kernel
theorem dX8_behindStep_165 : decode cX8_behindStep 165 = .ok (.iadd, 1) := by decide +kernel
theorem dX8_behindStep_166 : decode cX8_behindStep 166 = .ok (.istore_n 3, 1) := by decide +kernel
theorem dX8_behindStep_167 : decode cX8_behindStep 167 = .ok (.iinc 4 1, 3) := by decide +kernel
theorem dX8_behindStep_170 : decode cX8_behindStep 170 = .ok (.goto (-30), 3) := by decide +kernel
theorem dX8_behindStep_173 : decode cX8_behindStep 173 = .ok (.iload_n 3, 1) := by decide +kernel
theorem dX8_behindStep_174 : decode cX8_behindStep 174 = .ok (.ireturn, 1) := by decide +kernel
theorem dX8_mayBe_0 : decode cX8_mayBe 0 = .ok (.iload_n 0, 1) := by decide +kernel
theorem dX8_mayBe_1 : decode cX8_mayBe 1 = .ok (.ifCond .ne 19, 3) := by decide +kernel
theorem dX8_mayBe_4 : decode cX8_mayBe 4 = .ok (.iload_n 1, 1) := by decide +kernel
theorem dX8_mayBe_5 : decode cX8_mayBe 5 = .ok (.iload_n 1, 1) := by decide +kernel
theorem dX8_mayBe_6 : decode cX8_mayBe 6 = .ok (.iconst 1, 1) := by decide +kernel
theorem dX8_mayBe_7 : decode cX8_mayBe 7 = .ok (.isub, 1) := by decide +kernel
theorem dX8_mayBe_8 : decode cX8_mayBe 8 = .ok (.iand, 1) := by decide +kernel
theorem dX8_mayBe_9 : decode cX8_mayBe 9 = .ok (.ifCond .ne 7, 3) := by decide +kernel
theorem dX8_mayBe_12 : decode cX8_mayBe 12 = .ok (.iconst 1, 1) := by decide +kernel
theorem dX8_mayBe_13 : decode cX8_mayBe 13 = .ok (.goto 22, 3) := by decide +kernel
theorem dX8_mayBe_16 : decode cX8_mayBe 16 = .ok (.iconst 0, 1) := by decide +kernel
theorem dX8_mayBe_17 : decode cX8_mayBe 17 = .ok (.goto 18, 3) := by decide +kernel
theorem dX8_mayBe_20 : decode cX8_mayBe 20 = .ok (.iload_n 0, 1) := by decide +kernel
theorem dX8_mayBe_21 : decode cX8_mayBe 21 = .ok (.iconst 2, 1) := by decide +kernel
theorem dX8_mayBe_22 : decode cX8_mayBe 22 = .ok (.if_icmp .eq 8, 3) := by decide +kernel
theorem dX8_mayBe_25 : decode cX8_mayBe 25 = .ok (.iload_n 1, 1) := by decide +kernel
theorem dX8_mayBe_26 : decode cX8_mayBe 26 = .ok (.iload_n 2, 1) := by decide +kernel
theorem dX8_mayBe_27 : decode cX8_mayBe 27 = .ok (.if_icmp .ne 7, 3) := by decide +kernel
theorem dX8_mayBe_30 : decode cX8_mayBe 30 = .ok (.iconst 1, 1) := by decide +kernel
theorem dX8_mayBe_31 : decode cX8_mayBe 31 = .ok (.goto 4, 3) := by decide +kernel
theorem dX8_mayBe_34 : decode cX8_mayBe 34 = .ok (.iconst 0, 1) := by decide +kernel
theorem dX8_mayBe_35 : decode cX8_mayBe 35 = .ok (.ireturn, 1) := by decide +kernel
set_option maxRecDepth 20000 in
theorem ggX8_isMet_X8_standsOf : GoodIn wsX8_isMet wsX8_standsOf := goodIn_r _ [5, 6, 7, 8, 9, 4, 10, 11, 15, 16, 17, 18, 19, 20, 21, 22, 23, 24, 25, 26, 27, 28] (by decide +kernel) (by decide +kernel)
set_option maxRecDepth 20000 in
theorem gX8_isMet_X8_standsOf : GoodIn wsX8_isMet (wsV RX8 86 RX8 yX8_standsOf wsX8_standsOf) := goodIn_app (goodIn_of _ (by decide +kernel)) ggX8_isMet_X8_standsOf
set_option maxRecDepth 20000 in
theorem ggX8_isMet_X8_size : GoodIn wsX8_isMet wsX8_size := goodIn_r _ [14] (by decide +kernel) (by decide +kernel)
set_option maxRecDepth 20000 in
theorem gX8_isMet_X8_size : GoodIn wsX8_isMet (va_wsS RX8 68 yX8_size wsX8_size) := goodIn_app (goodIn_of _ (by decide +kernel)) ggX8_isMet_X8_size
theorem dX8_isMet_0 : decode cX8_isMet 0 = .ok (.aload_n 0, 1) := by decide +kernel
theorem dX8_isMet_1 : decode cX8_isMet 1 = .ok (.iload_n 1, 1) := by decide +kernel
theorem dX8_isMet_2 : decode cX8_isMet 2 = .ok (.invokevirtual 86, 3) := by decide +kernel
theorem dX8_isMet_5 : decode cX8_isMet 5 = .ok (.invokestatic 68, 3) := by decide +kernel
theorem dX8_isMet_8 : decode cX8_isMet 8 = .ok (.iconst 1, 1) := by decide +kernel
theorem dX8_isMet_9 : decode cX8_isMet 9 = .ok (.if_icmp .ne 7, 3) := by decide +kernel
theorem dX8_isMet_12 : decode cX8_isMet 12 = .ok (.iconst 1, 1) := by decide +kernel
theorem dX8_isMet_13 : decode cX8_isMet 13 = .ok (.goto 4, 3) := by decide +kernel
theorem dX8_isMet_16 : decode cX8_isMet 16 = .ok (.iconst 0, 1) := by decide +kernel
theorem dX8_isMet_17 : decode cX8_isMet 17 = .ok (.ireturn, 1) := by decide +kernel
theorem dX8_begin_0 : decode cX8_begin 0 = .ok (.iconst 0, 1) := by decide +kernel
theorem dX8_begin_1 : decode cX8_begin 1 = .ok (.istore_n 2, 1) := by decide +kernel
theorem dX8_begin_2 : decode cX8_begin 2 = .ok (.iload_n 2, 1) := by decide +kernel
theorem dX8_begin_3 : decode cX8_begin 3 = .ok (.ldc 26, 2) := by decide +kernel
theorem dX8_begin_5 : decode cX8_begin 5 = .ok (.if_icmp .ge 16, 3) := by decide +kernel
theorem dX8_begin_8 : decode cX8_begin 8 = .ok (.aload_n 0, 1) := by decide +kernel
theorem dX8_begin_9 : decode cX8_begin 9 = .ok (.getfield 30, 3) := by decide +kernel
theorem dX8_begin_12 : decode cX8_begin 12 = .ok (.iload_n 2, 1) := by decide +kernel
theorem dX8_begin_13 : decode cX8_begin 13 = .ok (.iconst 0, 1) := by decide +kernel
theorem dX8_begin_14 : decode cX8_begin 14 = .ok (.bastore, 1) := by decide +kernel
theorem dX8_begin_15 : decode cX8_begin 15 = .ok (.iinc 2 1, 3) := by decide +kernel
theorem dX8_begin_18 : decode cX8_begin 18 = .ok (.goto (-16), 3) := by decide +kernel
theorem dX8_begin_21 : decode cX8_begin 21 = .ok (.aload_n 0, 1) := by decide +kernel
theorem dX8_begin_22 : decode cX8_begin 22 = .ok (.iconst 0, 1) := by decide +kernel
theorem dX8_begin_23 : decode cX8_begin 23 = .ok (.putfield 128, 3) := by decide +kernel
theorem dX8_begin_26 : decode cX8_begin 26 = .ok (.aload_n 0, 1) := by decide +kernel
theorem dX8_begin_27 : decode cX8_begin 27 = .ok (.iconst 0, 1) := by decide +kernel
theorem dX8_begin_28 : decode cX8_begin 28 = .ok (.putfield 136, 3) := by decide +kernel
theorem dX8_begin_31 : decode cX8_begin 31 = .ok (.aload_n 0, 1) := by decide +kernel
theorem dX8_begin_32 : decode cX8_begin 32 = .ok (.iload_n 1, 1) := by decide +kernel
theorem dX8_begin_33 : decode cX8_begin 33 = .ok (.putfield 132, 3) := by decide +kernel
theorem dX8_begin_36 : decode cX8_begin 36 = .ok (.return_, 1) := by decide +kernel
set_option maxRecDepth 20000 in
theorem ggX8_listAll_X8_movers : GoodIn wsX8_listAll wsX8_movers := goodIn_r _ [9, 10, 11, 12, 13, 8, 14, 15, 16, 17, 18, 19, 20, 93, 94, 95, 96, 97, 98, 99, 100, 101, 102, 103, 104, 105, 106] (by decide +kernel) (by decide +kernel)
set_option maxRecDepth 20000 in
theorem gX8_listAll_X8_movers : GoodIn wsX8_listAll (wsV RX8 139 RX8 yX8_movers wsX8_movers) := goodIn_app (goodIn_of _ (by decide +kernel)) ggX8_listAll_X8_movers
set_option maxRecDepth 20000 in
theorem ggX8_listAll_X8_mayBe : GoodIn wsX8_listAll wsX8_mayBe := goodIn_r _ [23] (by decide +kernel) (by decide +kernel)
set_option maxRecDepth 20000 in
theorem gX8_listAll_X8_mayBe : GoodIn wsX8_listAll (va_wsS RX8 142 yX8_mayBe wsX8_mayBe) := goodIn_app (goodIn_of _ (by decide +kernel)) ggX8_listAll_X8_mayBe
set_option maxRecDepth 20000 in
theorem ggX8_listAll_X8_behindStep : GoodIn wsX8_listAll wsX8_behindStep := goodIn_r _ [27, 28, 15, 10, 16, 17, 18, 8, 19, 20, 29, 30, 31, 32, 33, 34, 35, 93, 94, 95, 96, 97, 98, 99, 100, 101, 102, 103, 104, 105, 106] (by decide +kernel) (by decide +kernel)
set_option maxRecDepth 20000 in
theorem gX8_listAll_X8_behindStep : GoodIn wsX8_listAll (wsV RX8 145 RX8 yX8_behindStep wsX8_behindStep) := goodIn_app (goodIn_of _ (by decide +kernel)) ggX8_listAll_X8_behindStep
set_option maxRecDepth 20000 in
theorem ggX8_listAll_X8_note : GoodIn wsX8_listAll wsX8_note := goodIn_r _ [39, 40, 2, 1, 41, 15, 42, 10, 11, 12, 13, 8, 14, 16, 17, 18, 19, 20, 29, 30, 31, 43, 44, 45, 46, 47, 48, 49, 50, 51, 52, 53, 54, 55, 56, 57, 58, 59, 60, 61, 62, 63, 64, 65, 66, 67, 68, 69, 32, 33, 34, 35, 70, 71, 72, 73, 74, 75, 76, 77, 93, 94, 95, 96, 97, 98, 99, 100, 101, 102, 103, 104, 105, 106] (by decide +kernel) (by decide +kernel)
set_option maxRecDepth 20000 in
theorem gX8_listAll_X8_note : GoodIn wsX8_listAll (wsV RX8 148 RX8 yX8_note wsX8_note) := goodIn_app (goodIn_of _ (by decide +kernel)) ggX8_listAll_X8_note
set_option maxRecDepth 20000 in
theorem ggX8_listAll_X8_isMet : GoodIn wsX8_listAll wsX8_isMet := goodIn_r _ [81, 11, 12, 13, 8, 14, 15, 16, 17, 18, 19, 20, 51, 52, 53, 93, 94, 95, 96, 97, 98, 99, 100, 101, 102, 103, 104, 105, 106] (by decide +kernel) (by decide +kernel)
set_option maxRecDepth 20000 in
theorem gX8_listAll_X8_isMet : GoodIn wsX8_listAll (wsV RX8 152 RX8 yX8_isMet wsX8_isMet) := goodIn_app (goodIn_of _ (by decide +kernel)) ggX8_listAll_X8_isMet
set_option maxRecDepth 20000 in
theorem ggX8_listAll_X8_layRound : GoodIn wsX8_listAll wsX8_layRound := goodIn_r _ [85, 1, 2, 3, 4, 86, 87, 88, 8, 89, 5, 6, 7, 9, 10, 11, 12, 13, 14, 15, 16, 17, 18, 19, 20, 21, 22, 23, 24, 25, 26, 27, 28, 29, 30, 31, 32, 33, 34, 35, 90, 91, 92, 93, 94, 95, 96, 97, 98, 99, 100, 101, 102, 103, 104, 105, 106] (by decide +kernel) (by decide +kernel)
set_option maxRecDepth 20000 in
theorem gX8_listAll_X8_layRound : GoodIn wsX8_listAll (wsV RX8 155 RX8 yX8_layRound wsX8_layRound) := goodIn_app (goodIn_of _ (by decide +kernel)) ggX8_listAll_X8_layRound
theorem dX8_listAll_0 : decode cX8_listAll 0 = .ok (.iconst 0, 1) := by decide +kernel
theorem dX8_listAll_1 : decode cX8_listAll 1 = .ok (.istore_n 2, 1) := by decide +kernel
theorem dX8_listAll_2 : decode cX8_listAll 2 = .ok (.iload_n 2, 1) := by decide +kernel
theorem dX8_listAll_3 : decode cX8_listAll 3 = .ok (.aload_n 0, 1) := by decide +kernel
theorem dX8_listAll_4 : decode cX8_listAll 4 = .ok (.getfield 128, 3) := by decide +kernel
theorem dX8_listAll_7 : decode cX8_listAll 7 = .ok (.if_icmp .ge 103, 3) := by decide +kernel
theorem dX8_listAll_10 : decode cX8_listAll 10 = .ok (.aload_n 0, 1) := by decide +kernel
theorem dX8_listAll_11 : decode cX8_listAll 11 = .ok (.getfield 27, 3) := by decide +kernel
theorem dX8_listAll_14 : decode cX8_listAll 14 = .ok (.iload_n 2, 1) := by decide +kernel
theorem dX8_listAll_15 : decode cX8_listAll 15 = .ok (.iaload, 1) := by decide +kernel
theorem dX8_listAll_16 : decode cX8_listAll 16 = .ok (.istore_n 3, 1) := by decide +kernel
theorem dX8_listAll_17 : decode cX8_listAll 17 = .ok (.aload_n 0, 1) := by decide +kernel
theorem dX8_listAll_18 : decode cX8_listAll 18 = .ok (.iload_n 3, 1) := by decide +kernel
theorem dX8_listAll_19 : decode cX8_listAll 19 = .ok (.invokevirtual 139, 3) := by decide +kernel
theorem dX8_listAll_22 : decode cX8_listAll 22 = .ok (.istore 4, 2) := by decide +kernel
theorem dX8_listAll_24 : decode cX8_listAll 24 = .ok (.iload 4, 2) := by decide +kernel
theorem dX8_listAll_26 : decode cX8_listAll 26 = .ok (.ineg, 1) := by decide +kernel
theorem dX8_listAll_27 : decode cX8_listAll 27 = .ok (.iload 4, 2) := by decide +kernel
theorem dX8_listAll_29 : decode cX8_listAll 29 = .ok (.iand, 1) := by decide +kernel
theorem dX8_listAll_30 : decode cX8_listAll 30 = .ok (.istore 5, 2) := by decide +kernel
theorem dX8_listAll_32 : decode cX8_listAll 32 = .ok (.iload 5, 2) := by decide +kernel
theorem dX8_listAll_34 : decode cX8_listAll 34 = .ok (.ifCond .eq 38, 3) := by decide +kernel
theorem dX8_listAll_37 : decode cX8_listAll 37 = .ok (.iload_n 1, 1) := by decide +kernel
theorem dX8_listAll_38 : decode cX8_listAll 38 = .ok (.iload 5, 2) := by decide +kernel
theorem dX8_listAll_40 : decode cX8_listAll 40 = .ok (.iload 4, 2) := by decide +kernel
theorem dX8_listAll_42 : decode cX8_listAll 42 = .ok (.invokestatic 142, 3) := by decide +kernel
theorem dX8_listAll_45 : decode cX8_listAll 45 = .ok (.ifCond .eq 14, 3) := by decide +kernel
theorem dX8_listAll_48 : decode cX8_listAll 48 = .ok (.aload_n 0, 1) := by decide +kernel
