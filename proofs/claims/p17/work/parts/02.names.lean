set_option maxRecDepth 20000 in
theorem ggX0_row_X5_cellNextTo : GoodIn wsX0_row wsX5_cellNextTo := goodIn_r _ [4] (by decide +kernel) (by decide +kernel)
set_option maxRecDepth 20000 in
theorem gX0_row_X5_cellNextTo : GoodIn wsX0_row (va_wsS RX0 9 yX5_cellNextTo wsX5_cellNextTo) := goodIn_app (goodIn_of _ (by decide +kernel)) ggX0_row_X5_cellNextTo
set_option maxRecDepth 20000 in
theorem ggX0_row_X5_has : GoodIn wsX0_row wsX5_has := goodIn_r _ [7] (by decide +kernel) (by decide +kernel)
set_option maxRecDepth 20000 in
theorem gX0_row_X5_has : GoodIn wsX0_row (va_wsS RX0 15 yX5_has wsX5_has) := goodIn_app (goodIn_of _ (by decide +kernel)) ggX0_row_X5_has
theorem dX0_row_0 : decode cX0_row 0 = .ok (.iconst 0, 1) := by decide +kernel
theorem dX0_row_1 : decode cX0_row 1 = .ok (.istore 4, 2) := by decide +kernel
theorem dX0_row_3 : decode cX0_row 3 = .ok (.iconst 0, 1) := by decide +kernel
theorem dX0_row_4 : decode cX0_row 4 = .ok (.istore 5, 2) := by decide +kernel
theorem dX0_row_6 : decode cX0_row 6 = .ok (.iload_n 2, 1) := by decide +kernel
theorem dX0_row_7 : decode cX0_row 7 = .ok (.istore 6, 2) := by decide +kernel
theorem dX0_row_9 : decode cX0_row 9 = .ok (.iconst 0, 1) := by decide +kernel
theorem dX0_row_10 : decode cX0_row 10 = .ok (.istore 7, 2) := by decide +kernel
theorem dX0_row_12 : decode cX0_row 12 = .ok (.iload 7, 2) := by decide +kernel
theorem dX0_row_14 : decode cX0_row 14 = .ok (.iload_n 0, 1) := by decide +kernel
theorem dX0_row_15 : decode cX0_row 15 = .ok (.if_icmp .ge 42, 3) := by decide +kernel
theorem dX0_row_18 : decode cX0_row 18 = .ok (.iload_n 0, 1) := by decide +kernel
theorem dX0_row_19 : decode cX0_row 19 = .ok (.iload 6, 2) := by decide +kernel
theorem dX0_row_21 : decode cX0_row 21 = .ok (.iload_n 3, 1) := by decide +kernel
theorem dX0_row_22 : decode cX0_row 22 = .ok (.invokestatic 9, 3) := by decide +kernel
theorem dX0_row_25 : decode cX0_row 25 = .ok (.istore 6, 2) := by decide +kernel
theorem dX0_row_27 : decode cX0_row 27 = .ok (.iinc 5 1, 3) := by decide +kernel
theorem dX0_row_30 : decode cX0_row 30 = .ok (.iload_n 1, 1) := by decide +kernel
theorem dX0_row_31 : decode cX0_row 31 = .ok (.iload 6, 2) := by decide +kernel
theorem dX0_row_33 : decode cX0_row 33 = .ok (.invokestatic 15, 3) := by decide +kernel
theorem dX0_row_36 : decode cX0_row 36 = .ok (.ifCond .eq 15, 3) := by decide +kernel
theorem dX0_row_39 : decode cX0_row 39 = .ok (.iload 4, 2) := by decide +kernel
theorem dX0_row_41 : decode cX0_row 41 = .ok (.iconst 4, 1) := by decide +kernel
theorem dX0_row_42 : decode cX0_row 42 = .ok (.ishl, 1) := by decide +kernel
theorem dX0_row_43 : decode cX0_row 43 = .ok (.iload 5, 2) := by decide +kernel
theorem dX0_row_45 : decode cX0_row 45 = .ok (.ior, 1) := by decide +kernel
theorem dX0_row_46 : decode cX0_row 46 = .ok (.istore 4, 2) := by decide +kernel
theorem dX0_row_48 : decode cX0_row 48 = .ok (.iconst 0, 1) := by decide +kernel
theorem dX0_row_49 : decode cX0_row 49 = .ok (.istore 5, 2) := by decide +kernel
theorem dX0_row_51 : decode cX0_row 51 = .ok (.iinc 7 1, 3) := by decide +kernel
theorem dX0_row_54 : decode cX0_row 54 = .ok (.goto (-42), 3) := by decide +kernel
theorem dX0_row_57 : decode cX0_row 57 = .ok (.iload 4, 2) := by decide +kernel
theorem dX0_row_59 : decode cX0_row 59 = .ok (.ireturn, 1) := by decide +kernel
set_option maxRecDepth 20000 in
theorem ggX0_view_X0_row : GoodIn wsX0_view wsX0_row := goodIn_r _ [8, 9, 10, 11, 12, 13, 14, 15] (by decide +kernel) (by decide +kernel)
set_option maxRecDepth 20000 in
theorem gX0_view_X0_row : GoodIn wsX0_view (va_wsS RX0 21 yX0_row wsX0_row) := goodIn_app (goodIn_of _ (by decide +kernel)) ggX0_view_X0_row
theorem dX0_view_0 : decode cX0_view 0 = .ok (.iload_n 0, 1) := by decide +kernel
theorem dX0_view_1 : decode cX0_view 1 = .ok (.iload_n 1, 1) := by decide +kernel
theorem dX0_view_2 : decode cX0_view 2 = .ok (.iload_n 2, 1) := by decide +kernel
theorem dX0_view_3 : decode cX0_view 3 = .ok (.iconst 0, 1) := by decide +kernel
theorem dX0_view_4 : decode cX0_view 4 = .ok (.invokestatic 21, 3) := by decide +kernel
theorem dX0_view_7 : decode cX0_view 7 = .ok (.iload_n 0, 1) := by decide +kernel
theorem dX0_view_8 : decode cX0_view 8 = .ok (.iload_n 1, 1) := by decide +kernel
theorem dX0_view_9 : decode cX0_view 9 = .ok (.iload_n 2, 1) := by decide +kernel
theorem dX0_view_10 : decode cX0_view 10 = .ok (.iconst 1, 1) := by decide +kernel
theorem dX0_view_11 : decode cX0_view 11 = .ok (.invokestatic 21, 3) := by decide +kernel
theorem dX0_view_14 : decode cX0_view 14 = .ok (.invokestatic 25, 3) := by decide +kernel
theorem dX0_view_17 : decode cX0_view 17 = .ok (.ireturn, 1) := by decide +kernel
theorem dX0_at_0 : decode cX0_at 0 = .ok (.iload_n 0, 1) := by decide +kernel
theorem dX0_at_1 : decode cX0_at 1 = .ok (.iconst 4, 1) := by decide +kernel
theorem dX0_at_2 : decode cX0_at 2 = .ok (.iload_n 1, 1) := by decide +kernel
theorem dX0_at_3 : decode cX0_at 3 = .ok (.iconst 1, 1) := by decide +kernel
theorem dX0_at_4 : decode cX0_at 4 = .ok (.isub, 1) := by decide +kernel
theorem dX0_at_5 : decode cX0_at 5 = .ok (.iload_n 2, 1) := by decide +kernel
theorem dX0_at_6 : decode cX0_at 6 = .ok (.isub, 1) := by decide +kernel
theorem dX0_at_7 : decode cX0_at 7 = .ok (.imul, 1) := by decide +kernel
theorem dX0_at_8 : decode cX0_at 8 = .ok (.ishr, 1) := by decide +kernel
theorem dX0_at_9 : decode cX0_at 9 = .ok (.bipush 15, 2) := by decide +kernel
theorem dX0_at_11 : decode cX0_at 11 = .ok (.iand, 1) := by decide +kernel
theorem dX0_at_12 : decode cX0_at 12 = .ok (.ireturn, 1) := by decide +kernel
set_option maxRecDepth 20000 in
theorem ggX0_turned_X5_has : GoodIn wsX0_turned wsX5_has := goodIn_r _ [4] (by decide +kernel) (by decide +kernel)
set_option maxRecDepth 20000 in
theorem gX0_turned_X5_has : GoodIn wsX0_turned (va_wsS RX0 15 yX5_has wsX5_has) := goodIn_app (goodIn_of _ (by decide +kernel)) ggX0_turned_X5_has
set_option maxRecDepth 20000 in
theorem ggX0_turned_X0_row : GoodIn wsX0_turned wsX0_row := goodIn_r _ [8, 9, 10, 3, 11, 1, 2, 4] (by decide +kernel) (by decide +kernel)
set_option maxRecDepth 20000 in
theorem gX0_turned_X0_row : GoodIn wsX0_turned (va_wsS RX0 21 yX0_row wsX0_row) := goodIn_app (goodIn_of _ (by decide +kernel)) ggX0_turned_X0_row
theorem dX0_turned_0 : decode cX0_turned 0 = .ok (.iconst 0, 1) := by decide +kernel
theorem dX0_turned_1 : decode cX0_turned 1 = .ok (.istore_n 2, 1) := by decide +kernel
theorem dX0_turned_2 : decode cX0_turned 2 = .ok (.iload_n 2, 1) := by decide +kernel
theorem dX0_turned_3 : decode cX0_turned 3 = .ok (.iload_n 0, 1) := by decide +kernel
theorem dX0_turned_4 : decode cX0_turned 4 = .ok (.if_icmp .ge 57, 3) := by decide +kernel
theorem dX0_turned_7 : decode cX0_turned 7 = .ok (.iconst 0, 1) := by decide +kernel
theorem dX0_turned_8 : decode cX0_turned 8 = .ok (.istore_n 3, 1) := by decide +kernel
theorem dX0_turned_9 : decode cX0_turned 9 = .ok (.iload_n 3, 1) := by decide +kernel
theorem dX0_turned_10 : decode cX0_turned 10 = .ok (.iload_n 2, 1) := by decide +kernel
theorem dX0_turned_11 : decode cX0_turned 11 = .ok (.if_icmp .ge 44, 3) := by decide +kernel
theorem dX0_turned_14 : decode cX0_turned 14 = .ok (.iload_n 1, 1) := by decide +kernel
theorem dX0_turned_15 : decode cX0_turned 15 = .ok (.iload_n 2, 1) := by decide +kernel
theorem dX0_turned_16 : decode cX0_turned 16 = .ok (.invokestatic 15, 3) := by decide +kernel
theorem dX0_turned_19 : decode cX0_turned 19 = .ok (.ifCond .eq 30, 3) := by decide +kernel
theorem dX0_turned_22 : decode cX0_turned 22 = .ok (.iload_n 1, 1) := by decide +kernel
theorem dX0_turned_23 : decode cX0_turned 23 = .ok (.iload_n 3, 1) := by decide +kernel
theorem dX0_turned_24 : decode cX0_turned 24 = .ok (.invokestatic 15, 3) := by decide +kernel
theorem dX0_turned_27 : decode cX0_turned 27 = .ok (.ifCond .eq 22, 3) := by decide +kernel
theorem dX0_turned_30 : decode cX0_turned 30 = .ok (.iload_n 0, 1) := by decide +kernel
theorem dX0_turned_31 : decode cX0_turned 31 = .ok (.iload_n 1, 1) := by decide +kernel
theorem dX0_turned_32 : decode cX0_turned 32 = .ok (.iload_n 2, 1) := by decide +kernel
theorem dX0_turned_33 : decode cX0_turned 33 = .ok (.iconst 0, 1) := by decide +kernel
theorem dX0_turned_34 : decode cX0_turned 34 = .ok (.invokestatic 21, 3) := by decide +kernel
theorem dX0_turned_37 : decode cX0_turned 37 = .ok (.iload_n 0, 1) := by decide +kernel
theorem dX0_turned_38 : decode cX0_turned 38 = .ok (.iload_n 1, 1) := by decide +kernel
theorem dX0_turned_39 : decode cX0_turned 39 = .ok (.iload_n 3, 1) := by decide +kernel
theorem dX0_turned_40 : decode cX0_turned 40 = .ok (.iconst 0, 1) := by decide +kernel
theorem dX0_turned_41 : decode cX0_turned 41 = .ok (.invokestatic 21, 3) := by decide +kernel
theorem dX0_turned_44 : decode cX0_turned 44 = .ok (.if_icmp .ne 5, 3) := by decide +kernel
theorem dX0_turned_47 : decode cX0_turned 47 = .ok (.iconst 1, 1) := by decide +kernel
theorem dX0_turned_48 : decode cX0_turned 48 = .ok (.ireturn, 1) := by decide +kernel
theorem dX0_turned_49 : decode cX0_turned 49 = .ok (.iinc 3 1, 3) := by decide +kernel
theorem dX0_turned_52 : decode cX0_turned 52 = .ok (.goto (-43), 3) := by decide +kernel
theorem dX0_turned_55 : decode cX0_turned 55 = .ok (.iinc 2 1, 3) := by decide +kernel
theorem dX0_turned_58 : decode cX0_turned 58 = .ok (.goto (-56), 3) := by decide +kernel
theorem dX0_turned_61 : decode cX0_turned 61 = .ok (.iconst 0, 1) := by decide +kernel
theorem dX0_turned_62 : decode cX0_turned 62 = .ok (.ireturn, 1) := by decide +kernel
set_option maxRecDepth 20000 in
theorem ggX0_mirrored_X5_has : GoodIn wsX0_mirrored wsX5_has := goodIn_r _ [4] (by decide +kernel) (by decide +kernel)
set_option maxRecDepth 20000 in
theorem gX0_mirrored_X5_has : GoodIn wsX0_mirrored (va_wsS RX0 15 yX5_has wsX5_has) := goodIn_app (goodIn_of _ (by decide +kernel)) ggX0_mirrored_X5_has
set_option maxRecDepth 20000 in
theorem ggX0_mirrored_X0_row : GoodIn wsX0_mirrored wsX0_row := goodIn_r _ [8, 9, 10, 3, 11, 1, 2, 4] (by decide +kernel) (by decide +kernel)
set_option maxRecDepth 20000 in
theorem gX0_mirrored_X0_row : GoodIn wsX0_mirrored (va_wsS RX0 21 yX0_row wsX0_row) := goodIn_app (goodIn_of _ (by decide +kernel)) ggX0_mirrored_X0_row
theorem dX0_mirrored_0 : decode cX0_mirrored 0 = .ok (.iconst 0, 1) := by decide +kernel
theorem dX0_mirrored_1 : decode cX0_mirrored 1 = .ok (.istore_n 2, 1) := by decide +kernel
theorem dX0_mirrored_2 : decode cX0_mirrored 2 = .ok (.iload_n 2, 1) := by decide +kernel
theorem dX0_mirrored_3 : decode cX0_mirrored 3 = .ok (.iload_n 0, 1) := by decide +kernel
theorem dX0_mirrored_4 : decode cX0_mirrored 4 = .ok (.if_icmp .ge 57, 3) := by decide +kernel
theorem dX0_mirrored_7 : decode cX0_mirrored 7 = .ok (.iconst 0, 1) := by decide +kernel
theorem dX0_mirrored_8 : decode cX0_mirrored 8 = .ok (.istore_n 3, 1) := by decide +kernel
theorem dX0_mirrored_9 : decode cX0_mirrored 9 = .ok (.iload_n 3, 1) := by decide +kernel
theorem dX0_mirrored_10 : decode cX0_mirrored 10 = .ok (.iload_n 0, 1) := by decide +kernel
theorem dX0_mirrored_11 : decode cX0_mirrored 11 = .ok (.if_icmp .ge 44, 3) := by decide +kernel
theorem dX0_mirrored_14 : decode cX0_mirrored 14 = .ok (.iload_n 1, 1) := by decide +kernel
theorem dX0_mirrored_15 : decode cX0_mirrored 15 = .ok (.iload_n 2, 1) := by decide +kernel
theorem dX0_mirrored_16 : decode cX0_mirrored 16 = .ok (.invokestatic 15, 3) := by decide +kernel
theorem dX0_mirrored_19 : decode cX0_mirrored 19 = .ok (.ifCond .eq 30, 3) := by decide +kernel
theorem dX0_mirrored_22 : decode cX0_mirrored 22 = .ok (.iload_n 1, 1) := by decide +kernel
theorem dX0_mirrored_23 : decode cX0_mirrored 23 = .ok (.iload_n 3, 1) := by decide +kernel
theorem dX0_mirrored_24 : decode cX0_mirrored 24 = .ok (.invokestatic 15, 3) := by decide +kernel
theorem dX0_mirrored_27 : decode cX0_mirrored 27 = .ok (.ifCond .eq 22, 3) := by decide +kernel
theorem dX0_mirrored_30 : decode cX0_mirrored 30 = .ok (.iload_n 0, 1) := by decide +kernel
theorem dX0_mirrored_31 : decode cX0_mirrored 31 = .ok (.iload_n 1, 1) := by decide +kernel
theorem dX0_mirrored_32 : decode cX0_mirrored 32 = .ok (.iload_n 2, 1) := by decide +kernel
theorem dX0_mirrored_33 : decode cX0_mirrored 33 = .ok (.iconst 0, 1) := by decide +kernel
theorem dX0_mirrored_34 : decode cX0_mirrored 34 = .ok (.invokestatic 21, 3) := by decide +kernel
theorem dX0_mirrored_37 : decode cX0_mirrored 37 = .ok (.iload_n 0, 1) := by decide +kernel
theorem dX0_mirrored_38 : decode cX0_mirrored 38 = .ok (.iload_n 1, 1) := by decide +kernel
theorem dX0_mirrored_39 : decode cX0_mirrored 39 = .ok (.iload_n 3, 1) := by decide +kernel
theorem dX0_mirrored_40 : decode cX0_mirrored 40 = .ok (.iconst 1, 1) := by decide +kernel
theorem dX0_mirrored_41 : decode cX0_mirrored 41 = .ok (.invokestatic 21, 3) := by decide +kernel
theorem dX0_mirrored_44 : decode cX0_mirrored 44 = .ok (.if_icmp .ne 5, 3) := by decide +kernel
theorem dX0_mirrored_47 : decode cX0_mirrored 47 = .ok (.iconst 1, 1) := by decide +kernel
theorem dX0_mirrored_48 : decode cX0_mirrored 48 = .ok (.ireturn, 1) := by decide +kernel
theorem dX0_mirrored_49 : decode cX0_mirrored 49 = .ok (.iinc 3 1, 3) := by decide +kernel
theorem dX0_mirrored_52 : decode cX0_mirrored 52 = .ok (.goto (-43), 3) := by decide +kernel
theorem dX0_mirrored_55 : decode cX0_mirrored 55 = .ok (.iinc 2 1, 3) := by decide +kernel
theorem dX0_mirrored_58 : decode cX0_mirrored 58 = .ok (.goto (-56), 3) := by decide +kernel
theorem dX0_mirrored_61 : decode cX0_mirrored 61 = .ok (.iconst 0, 1) := by decide +kernel
theorem dX0_mirrored_62 : decode cX0_mirrored 62 = .ok (.ireturn, 1) := by decide +kernel
set_option maxRecDepth 20000 in
theorem ggX0_evens_X5_has : GoodIn wsX0_evens wsX5_has := goodIn_r _ [4] (by decide +kernel) (by decide +kernel)
set_option maxRecDepth 20000 in
theorem gX0_evens_X5_has : GoodIn wsX0_evens (va_wsS RX0 15 yX5_has wsX5_has) := goodIn_app (goodIn_of _ (by decide +kernel)) ggX0_evens_X5_has
set_option maxRecDepth 20000 in
theorem ggX0_evens_X0_row : GoodIn wsX0_evens wsX0_row := goodIn_r _ [8, 9, 10, 3, 11, 1, 2, 4] (by decide +kernel) (by decide +kernel)
set_option maxRecDepth 20000 in
theorem gX0_evens_X0_row : GoodIn wsX0_evens (va_wsS RX0 21 yX0_row wsX0_row) := goodIn_app (goodIn_of _ (by decide +kernel)) ggX0_evens_X0_row
theorem dX0_evens_0 : decode cX0_evens 0 = .ok (.iconst 0, 1) := by decide +kernel
theorem dX0_evens_1 : decode cX0_evens 1 = .ok (.istore_n 2, 1) := by decide +kernel
theorem dX0_evens_2 : decode cX0_evens 2 = .ok (.iconst 0, 1) := by decide +kernel
theorem dX0_evens_3 : decode cX0_evens 3 = .ok (.istore_n 3, 1) := by decide +kernel
theorem dX0_evens_4 : decode cX0_evens 4 = .ok (.iload_n 3, 1) := by decide +kernel
theorem dX0_evens_5 : decode cX0_evens 5 = .ok (.iload_n 0, 1) := by decide +kernel
theorem dX0_evens_6 : decode cX0_evens 6 = .ok (.if_icmp .ge 37, 3) := by decide +kernel
theorem dX0_evens_9 : decode cX0_evens 9 = .ok (.iload_n 1, 1) := by decide +kernel
theorem dX0_evens_10 : decode cX0_evens 10 = .ok (.iload_n 3, 1) := by decide +kernel
theorem dX0_evens_11 : decode cX0_evens 11 = .ok (.invokestatic 15, 3) := by decide +kernel
theorem dX0_evens_14 : decode cX0_evens 14 = .ok (.ifCond .eq 23, 3) := by decide +kernel
theorem dX0_evens_17 : decode cX0_evens 17 = .ok (.iload_n 0, 1) := by decide +kernel
theorem dX0_evens_18 : decode cX0_evens 18 = .ok (.iload_n 1, 1) := by decide +kernel
theorem dX0_evens_19 : decode cX0_evens 19 = .ok (.iload_n 3, 1) := by decide +kernel
theorem dX0_evens_20 : decode cX0_evens 20 = .ok (.iconst 0, 1) := by decide +kernel
theorem dX0_evens_21 : decode cX0_evens 21 = .ok (.invokestatic 21, 3) := by decide +kernel
theorem dX0_evens_24 : decode cX0_evens 24 = .ok (.iload_n 0, 1) := by decide +kernel
theorem dX0_evens_25 : decode cX0_evens 25 = .ok (.iload_n 1, 1) := by decide +kernel
theorem dX0_evens_26 : decode cX0_evens 26 = .ok (.iload_n 3, 1) := by decide +kernel
theorem dX0_evens_27 : decode cX0_evens 27 = .ok (.iconst 1, 1) := by decide +kernel
theorem dX0_evens_28 : decode cX0_evens 28 = .ok (.invokestatic 21, 3) := by decide +kernel
theorem dX0_evens_31 : decode cX0_evens 31 = .ok (.if_icmp .ne 6, 3) := by decide +kernel
theorem dX0_evens_34 : decode cX0_evens 34 = .ok (.iinc 2 1, 3) := by decide +kernel
theorem dX0_evens_37 : decode cX0_evens 37 = .ok (.iinc 3 1, 3) := by decide +kernel
theorem dX0_evens_40 : decode cX0_evens 40 = .ok (.goto (-36), 3) := by decide +kernel
theorem dX0_evens_43 : decode cX0_evens 43 = .ok (.iload_n 2, 1) := by decide +kernel
theorem dX0_evens_44 : decode cX0_evens 44 = .ok (.ireturn, 1) := by decide +kernel
set_option maxRecDepth 20000 in
theorem ggX0_views_X5_has : GoodIn wsX0_views wsX5_has := goodIn_r _ [4] (by decide +kernel) (by decide +kernel)
set_option maxRecDepth 20000 in
theorem gX0_views_X5_has : GoodIn wsX0_views (va_wsS RX0 15 yX5_has wsX5_has) := goodIn_app (goodIn_of _ (by decide +kernel)) ggX0_views_X5_has
set_option maxRecDepth 20000 in
theorem ggX0_views_X0_isSeenBelow : GoodIn wsX0_views wsX0_isSeenBelow := goodIn_r _ [8, 9, 10, 7, 11, 12, 13, 14, 15, 16, 17, 18, 19, 20, 3, 21, 1, 2, 4] (by decide +kernel) (by decide +kernel)
set_option maxRecDepth 20000 in
theorem gX0_views_X0_isSeenBelow : GoodIn wsX0_views (va_wsS RX0 31 yX0_isSeenBelow wsX0_isSeenBelow) := goodIn_app (goodIn_of _ (by decide +kernel)) ggX0_views_X0_isSeenBelow
theorem dX0_views_0 : decode cX0_views 0 = .ok (.iconst 0, 1) := by decide +kernel
theorem dX0_views_1 : decode cX0_views 1 = .ok (.istore_n 2, 1) := by decide +kernel
theorem dX0_views_2 : decode cX0_views 2 = .ok (.iconst 0, 1) := by decide +kernel
theorem dX0_views_3 : decode cX0_views 3 = .ok (.istore_n 3, 1) := by decide +kernel
theorem dX0_views_4 : decode cX0_views 4 = .ok (.iload_n 3, 1) := by decide +kernel
theorem dX0_views_5 : decode cX0_views 5 = .ok (.iload_n 0, 1) := by decide +kernel
theorem dX0_views_6 : decode cX0_views 6 = .ok (.if_icmp .ge 29, 3) := by decide +kernel
theorem dX0_views_9 : decode cX0_views 9 = .ok (.iload_n 1, 1) := by decide +kernel
theorem dX0_views_10 : decode cX0_views 10 = .ok (.iload_n 3, 1) := by decide +kernel
theorem dX0_views_11 : decode cX0_views 11 = .ok (.invokestatic 15, 3) := by decide +kernel
theorem dX0_views_14 : decode cX0_views 14 = .ok (.ifCond .eq 15, 3) := by decide +kernel
theorem dX0_views_17 : decode cX0_views 17 = .ok (.iload_n 0, 1) := by decide +kernel
theorem dX0_views_18 : decode cX0_views 18 = .ok (.iload_n 1, 1) := by decide +kernel
theorem dX0_views_19 : decode cX0_views 19 = .ok (.iload_n 3, 1) := by decide +kernel
theorem dX0_views_20 : decode cX0_views 20 = .ok (.invokestatic 31, 3) := by decide +kernel
theorem dX0_views_23 : decode cX0_views 23 = .ok (.ifCond .ne 6, 3) := by decide +kernel
theorem dX0_views_26 : decode cX0_views 26 = .ok (.iinc 2 1, 3) := by decide +kernel
theorem dX0_views_29 : decode cX0_views 29 = .ok (.iinc 3 1, 3) := by decide +kernel
theorem dX0_views_32 : decode cX0_views 32 = .ok (.goto (-28), 3) := by decide +kernel
theorem dX0_views_35 : decode cX0_views 35 = .ok (.iload_n 2, 1) := by decide +kernel
theorem dX0_views_36 : decode cX0_views 36 = .ok (.ireturn, 1) := by decide +kernel
set_option maxRecDepth 20000 in
theorem ggX0_isSeenBelow_X0_view : GoodIn wsX0_isSeenBelow wsX0_view := goodIn_r _ [4, 5, 6, 7, 8, 9, 10, 3, 11, 12, 13, 14, 15, 16, 17, 18] (by decide +kernel) (by decide +kernel)
set_option maxRecDepth 20000 in
theorem gX0_isSeenBelow_X0_view : GoodIn wsX0_isSeenBelow (va_wsS RX0 35 yX0_view wsX0_view) := goodIn_app (goodIn_of _ (by decide +kernel)) ggX0_isSeenBelow_X0_view
set_option maxRecDepth 20000 in
theorem ggX0_isSeenBelow_X5_has : GoodIn wsX0_isSeenBelow wsX5_has := goodIn_r _ [18] (by decide +kernel) (by decide +kernel)
set_option maxRecDepth 20000 in
theorem gX0_isSeenBelow_X5_has : GoodIn wsX0_isSeenBelow (va_wsS RX0 15 yX5_has wsX5_has) := goodIn_app (goodIn_of _ (by decide +kernel)) ggX0_isSeenBelow_X5_has
theorem dX0_isSeenBelow_0 : decode cX0_isSeenBelow 0 = .ok (.iload_n 0, 1) := by decide +kernel
theorem dX0_isSeenBelow_1 : decode cX0_isSeenBelow 1 = .ok (.iload_n 1, 1) := by decide +kernel
theorem dX0_isSeenBelow_2 : decode cX0_isSeenBelow 2 = .ok (.iload_n 2, 1) := by decide +kernel
theorem dX0_isSeenBelow_3 : decode cX0_isSeenBelow 3 = .ok (.invokestatic 35, 3) := by decide +kernel
theorem dX0_isSeenBelow_6 : decode cX0_isSeenBelow 6 = .ok (.istore_n 3, 1) := by decide +kernel
theorem dX0_isSeenBelow_7 : decode cX0_isSeenBelow 7 = .ok (.iconst 0, 1) := by decide +kernel
theorem dX0_isSeenBelow_8 : decode cX0_isSeenBelow 8 = .ok (.istore 4, 2) := by decide +kernel
theorem dX0_isSeenBelow_10 : decode cX0_isSeenBelow 10 = .ok (.iload 4, 2) := by decide +kernel
theorem dX0_isSeenBelow_12 : decode cX0_isSeenBelow 12 = .ok (.iload_n 2, 1) := by decide +kernel
theorem dX0_isSeenBelow_13 : decode cX0_isSeenBelow 13 = .ok (.if_icmp .ge 31, 3) := by decide +kernel
theorem dX0_isSeenBelow_16 : decode cX0_isSeenBelow 16 = .ok (.iload_n 1, 1) := by decide +kernel
theorem dX0_isSeenBelow_17 : decode cX0_isSeenBelow 17 = .ok (.iload 4, 2) := by decide +kernel
theorem dX0_isSeenBelow_19 : decode cX0_isSeenBelow 19 = .ok (.invokestatic 15, 3) := by decide +kernel
theorem dX0_isSeenBelow_22 : decode cX0_isSeenBelow 22 = .ok (.ifCond .eq 16, 3) := by decide +kernel
theorem dX0_isSeenBelow_25 : decode cX0_isSeenBelow 25 = .ok (.iload_n 0, 1) := by decide +kernel
theorem dX0_isSeenBelow_26 : decode cX0_isSeenBelow 26 = .ok (.iload_n 1, 1) := by decide +kernel
theorem dX0_isSeenBelow_27 : decode cX0_isSeenBelow 27 = .ok (.iload 4, 2) := by decide +kernel
theorem dX0_isSeenBelow_29 : decode cX0_isSeenBelow 29 = .ok (.invokestatic 35, 3) := by decide +kernel
theorem dX0_isSeenBelow_32 : decode cX0_isSeenBelow 32 = .ok (.iload_n 3, 1) := by decide +kernel
theorem dX0_isSeenBelow_33 : decode cX0_isSeenBelow 33 = .ok (.if_icmp .ne 5, 3) := by decide +kernel
theorem dX0_isSeenBelow_36 : decode cX0_isSeenBelow 36 = .ok (.iconst 1, 1) := by decide +kernel
theorem dX0_isSeenBelow_37 : decode cX0_isSeenBelow 37 = .ok (.ireturn, 1) := by decide +kernel
theorem dX0_isSeenBelow_38 : decode cX0_isSeenBelow 38 = .ok (.iinc 4 1, 3) := by decide +kernel
theorem dX0_isSeenBelow_41 : decode cX0_isSeenBelow 41 = .ok (.goto (-31), 3) := by decide +kernel
theorem dX0_isSeenBelow_44 : decode cX0_isSeenBelow 44 = .ok (.iconst 0, 1) := by decide +kernel
theorem dX0_isSeenBelow_45 : decode cX0_isSeenBelow 45 = .ok (.ireturn, 1) := by decide +kernel
set_option maxRecDepth 20000 in
theorem ggX0_leastTurn_X5_turnedUp : GoodIn wsX0_leastTurn wsX5_turnedUp := goodIn_r _ [4] (by decide +kernel) (by decide +kernel)
set_option maxRecDepth 20000 in
theorem gX0_leastTurn_X5_turnedUp : GoodIn wsX0_leastTurn (va_wsS RX0 38 yX5_turnedUp wsX5_turnedUp) := goodIn_app (goodIn_of _ (by decide +kernel)) ggX0_leastTurn_X5_turnedUp
theorem dX0_leastTurn_0 : decode cX0_leastTurn 0 = .ok (.iload_n 1, 1) := by decide +kernel
theorem dX0_leastTurn_1 : decode cX0_leastTurn 1 = .ok (.istore_n 2, 1) := by decide +kernel
theorem dX0_leastTurn_2 : decode cX0_leastTurn 2 = .ok (.iconst 1, 1) := by decide +kernel
theorem dX0_leastTurn_3 : decode cX0_leastTurn 3 = .ok (.istore_n 3, 1) := by decide +kernel
theorem dX0_leastTurn_4 : decode cX0_leastTurn 4 = .ok (.iload_n 1, 1) := by decide +kernel
theorem dX0_leastTurn_5 : decode cX0_leastTurn 5 = .ok (.ifCond .eq 27, 3) := by decide +kernel
theorem dX0_leastTurn_8 : decode cX0_leastTurn 8 = .ok (.iload_n 3, 1) := by decide +kernel
theorem dX0_leastTurn_9 : decode cX0_leastTurn 9 = .ok (.iload_n 0, 1) := by decide +kernel
theorem dX0_leastTurn_10 : decode cX0_leastTurn 10 = .ok (.if_icmp .gt 22, 3) := by decide +kernel
theorem dX0_leastTurn_13 : decode cX0_leastTurn 13 = .ok (.iload_n 0, 1) := by decide +kernel
theorem dX0_leastTurn_14 : decode cX0_leastTurn 14 = .ok (.iload_n 2, 1) := by decide +kernel
theorem dX0_leastTurn_15 : decode cX0_leastTurn 15 = .ok (.invokestatic 38, 3) := by decide +kernel
theorem dX0_leastTurn_18 : decode cX0_leastTurn 18 = .ok (.istore_n 2, 1) := by decide +kernel
theorem dX0_leastTurn_19 : decode cX0_leastTurn 19 = .ok (.iload_n 2, 1) := by decide +kernel
theorem dX0_leastTurn_20 : decode cX0_leastTurn 20 = .ok (.iload_n 1, 1) := by decide +kernel
theorem dX0_leastTurn_21 : decode cX0_leastTurn 21 = .ok (.if_icmp .ne 5, 3) := by decide +kernel
theorem dX0_leastTurn_24 : decode cX0_leastTurn 24 = .ok (.iload_n 3, 1) := by decide +kernel
theorem dX0_leastTurn_25 : decode cX0_leastTurn 25 = .ok (.ireturn, 1) := by decide +kernel
theorem dX0_leastTurn_26 : decode cX0_leastTurn 26 = .ok (.iinc 3 1, 3) := by decide +kernel
theorem dX0_leastTurn_29 : decode cX0_leastTurn 29 = .ok (.goto (-25), 3) := by decide +kernel
theorem dX0_leastTurn_32 : decode cX0_leastTurn 32 = .ok (.bipush (-6), 2) := by decide +kernel
theorem dX0_leastTurn_34 : decode cX0_leastTurn 34 = .ok (.ireturn, 1) := by decide +kernel
theorem dX1_init_0 : decode cX1_init 0 = .ok (.aload_n 0, 1) := by decide +kernel
theorem dX1_init_1 : decode cX1_init 1 = .ok (.invokespecial 3, 3) := by decide +kernel
theorem dX1_init_4 : decode cX1_init 4 = .ok (.return_, 1) := by decide +kernel
set_option maxRecDepth 20000 in
theorem ggX1_from_X0_row : GoodIn wsX1_from wsX0_row := goodIn_r _ [13, 14, 15, 16, 17, 18, 19, 20] (by decide +kernel) (by decide +kernel)
set_option maxRecDepth 20000 in
theorem gX1_from_X0_row : GoodIn wsX1_from (va_wsS RX1 9 yX0_row wsX0_row) := goodIn_app (goodIn_of _ (by decide +kernel)) ggX1_from_X0_row
set_option maxRecDepth 20000 in
theorem ggX1_from_X5_has : GoodIn wsX1_from wsX5_has := goodIn_r _ [20] (by decide +kernel) (by decide +kernel)
set_option maxRecDepth 20000 in
theorem gX1_from_X5_has : GoodIn wsX1_from (va_wsS RX1 25 yX5_has wsX5_has) := goodIn_app (goodIn_of _ (by decide +kernel)) ggX1_from_X5_has
set_option maxRecDepth 20000 in
theorem ggX1_from_J6_bitCount_0f7a4 : GoodIn wsX1_from wsJ6_bitCount_0f7a4 := goodIn_r _ [25, 26, 27, 28] (by decide +kernel) (by decide +kernel)
set_option maxRecDepth 20000 in
theorem gX1_from_J6_bitCount_0f7a4 : GoodIn wsX1_from (va_wsS RX1 31 yJ6_bitCount_0f7a4 wsJ6_bitCount_0f7a4) := goodIn_app (goodIn_of _ (by decide +kernel)) ggX1_from_J6_bitCount_0f7a4
set_option maxRecDepth 20000 in
theorem ggX1_from_X3_firstThatFits : GoodIn wsX1_from wsX3_firstThatFits := goodIn_r _ [33, 34, 35, 36, 37, 32, 38, 39, 40, 41, 12, 42, 43, 44, 45, 70, 71] (by decide +kernel) (by decide +kernel)
set_option maxRecDepth 20000 in
theorem gX1_from_X3_firstThatFits : GoodIn wsX1_from (wsV RX1 43 RX3 yX3_firstThatFits wsX3_firstThatFits) := goodIn_app (goodIn_of _ (by decide +kernel)) ggX1_from_X3_firstThatFits
set_option maxRecDepth 20000 in
theorem ggX1_from_X3_has : GoodIn wsX1_from wsX3_has := goodIn_r _ [49, 34, 70, 71] (by decide +kernel) (by decide +kernel)
set_option maxRecDepth 20000 in
theorem gX1_from_X3_has : GoodIn wsX1_from (wsV RX1 52 RX3 yX3_has wsX3_has) := goodIn_app (goodIn_of _ (by decide +kernel)) ggX1_from_X3_has
set_option maxRecDepth 20000 in
theorem ggX1_from_X3_part : GoodIn wsX1_from wsX3_part := goodIn_r _ [53, 39, 54, 47, 48, 32, 49, 34, 70, 71] (by decide +kernel) (by decide +kernel)
set_option maxRecDepth 20000 in
theorem gX1_from_X3_part : GoodIn wsX1_from (wsV RX1 55 RX3 yX3_part wsX3_part) := goodIn_app (goodIn_of _ (by decide +kernel)) ggX1_from_X3_part
set_option maxRecDepth 20000 in
theorem ggX1_from_X1_goalFrom : GoodIn wsX1_from wsX1_goalFrom := goodIn_r _ [59, 8, 60, 61, 62, 58, 63, 2, 64, 15, 16, 17, 65, 66, 67, 68, 69] (by decide +kernel) (by decide +kernel)
set_option maxRecDepth 20000 in
theorem gX1_from_X1_goalFrom : GoodIn wsX1_from (wsV RX1 61 RX1 yX1_goalFrom wsX1_goalFrom) := goodIn_app (goodIn_of _ (by decide +kernel)) ggX1_from_X1_goalFrom
theorem dX1_from_0 : decode cX1_from 0 = .ok (.iload_n 2, 1) := by decide +kernel
theorem dX1_from_1 : decode cX1_from 1 = .ok (.iload_n 3, 1) := by decide +kernel
theorem dX1_from_2 : decode cX1_from 2 = .ok (.iload 5, 2) := by decide +kernel
theorem dX1_from_4 : decode cX1_from 4 = .ok (.iconst 0, 1) := by decide +kernel
theorem dX1_from_5 : decode cX1_from 5 = .ok (.invokestatic 9, 3) := by decide +kernel
theorem dX1_from_8 : decode cX1_from 8 = .ok (.istore 6, 2) := by decide +kernel
theorem dX1_from_10 : decode cX1_from 10 = .ok (.iload_n 2, 1) := by decide +kernel
theorem dX1_from_11 : decode cX1_from 11 = .ok (.iload_n 3, 1) := by decide +kernel
theorem dX1_from_12 : decode cX1_from 12 = .ok (.iload 5, 2) := by decide +kernel
theorem dX1_from_14 : decode cX1_from 14 = .ok (.iconst 1, 1) := by decide +kernel
theorem dX1_from_15 : decode cX1_from 15 = .ok (.invokestatic 9, 3) := by decide +kernel
theorem dX1_from_18 : decode cX1_from 18 = .ok (.istore 7, 2) := by decide +kernel
theorem dX1_from_20 : decode cX1_from 20 = .ok (.aload_n 0, 1) := by decide +kernel
theorem dX1_from_21 : decode cX1_from 21 = .ok (.iload 6, 2) := by decide +kernel
theorem dX1_from_23 : decode cX1_from 23 = .ok (.iload 7, 2) := by decide +kernel
theorem dX1_from_25 : decode cX1_from 25 = .ok (.if_icmp .ne 7, 3) := by decide +kernel
theorem dX1_from_28 : decode cX1_from 28 = .ok (.iconst 1, 1) := by decide +kernel
theorem dX1_from_29 : decode cX1_from 29 = .ok (.goto 4, 3) := by decide +kernel
theorem dX1_from_32 : decode cX1_from 32 = .ok (.iconst 0, 1) := by decide +kernel
theorem dX1_from_33 : decode cX1_from 33 = .ok (.putfield 15, 3) := by decide +kernel
theorem dX1_from_36 : decode cX1_from 36 = .ok (.aload_n 0, 1) := by decide +kernel
theorem dX1_from_37 : decode cX1_from 37 = .ok (.iload 6, 2) := by decide +kernel
theorem dX1_from_39 : decode cX1_from 39 = .ok (.iload 7, 2) := by decide +kernel
theorem dX1_from_41 : decode cX1_from 41 = .ok (.if_icmp .gt 7, 3) := by decide +kernel
theorem dX1_from_44 : decode cX1_from 44 = .ok (.iconst 0, 1) := by decide +kernel
theorem dX1_from_45 : decode cX1_from 45 = .ok (.goto 4, 3) := by decide +kernel
theorem dX1_from_48 : decode cX1_from 48 = .ok (.iconst 1, 1) := by decide +kernel
theorem dX1_from_49 : decode cX1_from 49 = .ok (.putfield 21, 3) := by decide +kernel
theorem dX1_from_52 : decode cX1_from 52 = .ok (.iload 4, 2) := by decide +kernel
theorem dX1_from_54 : decode cX1_from 54 = .ok (.iload 5, 2) := by decide +kernel
theorem dX1_from_56 : decode cX1_from 56 = .ok (.invokestatic 25, 3) := by decide +kernel
theorem dX1_from_59 : decode cX1_from 59 = .ok (.ifCond .eq 7, 3) := by decide +kernel
theorem dX1_from_62 : decode cX1_from 62 = .ok (.iconst 1, 1) := by decide +kernel
theorem dX1_from_63 : decode cX1_from 63 = .ok (.goto 4, 3) := by decide +kernel
theorem dX1_from_66 : decode cX1_from 66 = .ok (.iconst 0, 1) := by decide +kernel
theorem dX1_from_67 : decode cX1_from 67 = .ok (.istore 8, 2) := by decide +kernel
theorem dX1_from_69 : decode cX1_from 69 = .ok (.aload_n 0, 1) := by decide +kernel
theorem dX1_from_70 : decode cX1_from 70 = .ok (.aload_n 1, 1) := by decide +kernel
theorem dX1_from_71 : decode cX1_from 71 = .ok (.iload_n 3, 1) := by decide +kernel
theorem dX1_from_72 : decode cX1_from 72 = .ok (.invokestatic 31, 3) := by decide +kernel
theorem dX1_from_75 : decode cX1_from 75 = .ok (.iload 6, 2) := by decide +kernel
theorem dX1_from_77 : decode cX1_from 77 = .ok (.iload 7, 2) := by decide +kernel
theorem dX1_from_79 : decode cX1_from 79 = .ok (.invokestatic 37, 3) := by decide +kernel
theorem dX1_from_82 : decode cX1_from 82 = .ok (.iload 8, 2) := by decide +kernel
theorem dX1_from_84 : decode cX1_from 84 = .ok (.invokevirtual 43, 3) := by decide +kernel
theorem dX1_from_87 : decode cX1_from 87 = .ok (.putfield 49, 3) := by decide +kernel
theorem dX1_from_90 : decode cX1_from 90 = .ok (.aload_n 0, 1) := by decide +kernel
theorem dX1_from_91 : decode cX1_from 91 = .ok (.aload_n 1, 1) := by decide +kernel
theorem dX1_from_92 : decode cX1_from 92 = .ok (.aload_n 0, 1) := by decide +kernel
theorem dX1_from_93 : decode cX1_from 93 = .ok (.getfield 49, 3) := by decide +kernel
theorem dX1_from_96 : decode cX1_from 96 = .ok (.invokevirtual 52, 3) := by decide +kernel
theorem dX1_from_99 : decode cX1_from 99 = .ok (.ifCond .eq 15, 3) := by decide +kernel
theorem dX1_from_102 : decode cX1_from 102 = .ok (.aload_n 1, 1) := by decide +kernel
theorem dX1_from_103 : decode cX1_from 103 = .ok (.aload_n 0, 1) := by decide +kernel
theorem dX1_from_104 : decode cX1_from 104 = .ok (.getfield 49, 3) := by decide +kernel
theorem dX1_from_107 : decode cX1_from 107 = .ok (.iconst 4, 1) := by decide +kernel
theorem dX1_from_108 : decode cX1_from 108 = .ok (.invokevirtual 55, 3) := by decide +kernel
theorem dX1_from_111 : decode cX1_from 111 = .ok (.goto 4, 3) := by decide +kernel
theorem dX1_from_114 : decode cX1_from 114 = .ok (.iconst 0, 1) := by decide +kernel
theorem dX1_from_115 : decode cX1_from 115 = .ok (.putfield 58, 3) := by decide +kernel
theorem dX1_from_118 : decode cX1_from 118 = .ok (.aload_n 0, 1) := by decide +kernel
theorem dX1_from_119 : decode cX1_from 119 = .ok (.aload_n 0, 1) := by decide +kernel
theorem dX1_from_120 : decode cX1_from 120 = .ok (.iload_n 2, 1) := by decide +kernel
theorem dX1_from_121 : decode cX1_from 121 = .ok (.iload 5, 2) := by decide +kernel
theorem dX1_from_123 : decode cX1_from 123 = .ok (.invokevirtual 61, 3) := by decide +kernel
theorem dX1_from_126 : decode cX1_from 126 = .ok (.putfield 64, 3) := by decide +kernel
theorem dX1_from_129 : decode cX1_from 129 = .ok (.return_, 1) := by decide +kernel
set_option maxRecDepth 20000 in
theorem ggX1_goalFrom_X1_sideOfMove : GoodIn wsX1_goalFrom wsX1_sideOfMove := goodIn_r _ [6, 1, 7, 12, 13, 14, 15, 16] (by decide +kernel) (by decide +kernel)
set_option maxRecDepth 20000 in
theorem gX1_goalFrom_X1_sideOfMove : GoodIn wsX1_goalFrom (wsV RX1 67 RX1 yX1_sideOfMove wsX1_sideOfMove) := goodIn_app (goodIn_of _ (by decide +kernel)) ggX1_goalFrom_X1_sideOfMove
set_option maxRecDepth 20000 in
theorem ggX1_goalFrom_X5_cellNextTo : GoodIn wsX1_goalFrom wsX5_cellNextTo := goodIn_r _ [11] (by decide +kernel) (by decide +kernel)
set_option maxRecDepth 20000 in
theorem gX1_goalFrom_X5_cellNextTo : GoodIn wsX1_goalFrom (va_wsS RX1 71 yX5_cellNextTo wsX5_cellNextTo) := goodIn_app (goodIn_of _ (by decide +kernel)) ggX1_goalFrom_X5_cellNextTo
theorem dX1_goalFrom_0 : decode cX1_goalFrom 0 = .ok (.aload_n 0, 1) := by decide +kernel
theorem dX1_goalFrom_1 : decode cX1_goalFrom 1 = .ok (.getfield 58, 3) := by decide +kernel
theorem dX1_goalFrom_4 : decode cX1_goalFrom 4 = .ok (.ifCond .ne 5, 3) := by decide +kernel
theorem dX1_goalFrom_7 : decode cX1_goalFrom 7 = .ok (.iload_n 2, 1) := by decide +kernel
theorem dX1_goalFrom_8 : decode cX1_goalFrom 8 = .ok (.ireturn, 1) := by decide +kernel
theorem dX1_goalFrom_9 : decode cX1_goalFrom 9 = .ok (.iload_n 1, 1) := by decide +kernel
theorem dX1_goalFrom_10 : decode cX1_goalFrom 10 = .ok (.iload_n 2, 1) := by decide +kernel
theorem dX1_goalFrom_11 : decode cX1_goalFrom 11 = .ok (.aload_n 0, 1) := by decide +kernel
theorem dX1_goalFrom_12 : decode cX1_goalFrom 12 = .ok (.invokevirtual 67, 3) := by decide +kernel
theorem dX1_goalFrom_15 : decode cX1_goalFrom 15 = .ok (.invokestatic 71, 3) := by decide +kernel
theorem dX1_goalFrom_18 : decode cX1_goalFrom 18 = .ok (.ireturn, 1) := by decide +kernel
theorem dX1_sideOfMove_0 : decode cX1_sideOfMove 0 = .ok (.aload_n 0, 1) := by decide +kernel
theorem dX1_sideOfMove_1 : decode cX1_sideOfMove 1 = .ok (.getfield 58, 3) := by decide +kernel
theorem dX1_sideOfMove_4 : decode cX1_sideOfMove 4 = .ok (.iconst 1, 1) := by decide +kernel
theorem dX1_sideOfMove_5 : decode cX1_sideOfMove 5 = .ok (.if_icmp .ne 8, 3) := by decide +kernel
theorem dX1_sideOfMove_8 : decode cX1_sideOfMove 8 = .ok (.aload_n 0, 1) := by decide +kernel
theorem dX1_sideOfMove_9 : decode cX1_sideOfMove 9 = .ok (.getfield 21, 3) := by decide +kernel
theorem dX1_sideOfMove_12 : decode cX1_sideOfMove 12 = .ok (.ireturn, 1) := by decide +kernel
theorem dX1_sideOfMove_13 : decode cX1_sideOfMove 13 = .ok (.aload_n 0, 1) := by decide +kernel
theorem dX1_sideOfMove_14 : decode cX1_sideOfMove 14 = .ok (.getfield 21, 3) := by decide +kernel
theorem dX1_sideOfMove_17 : decode cX1_sideOfMove 17 = .ok (.ifCond .ne 7, 3) := by decide +kernel
theorem dX1_sideOfMove_20 : decode cX1_sideOfMove 20 = .ok (.iconst 1, 1) := by decide +kernel
theorem dX1_sideOfMove_21 : decode cX1_sideOfMove 21 = .ok (.goto 4, 3) := by decide +kernel
theorem dX1_sideOfMove_24 : decode cX1_sideOfMove 24 = .ok (.iconst 0, 1) := by decide +kernel
theorem dX1_sideOfMove_25 : decode cX1_sideOfMove 25 = .ok (.ireturn, 1) := by decide +kernel
set_option maxRecDepth 20000 in
theorem ggX2_init_X1_init : GoodIn wsX2_init wsX1_init := goodIn_r _ [9, 10, 2, 3] (by decide +kernel) (by decide +kernel)
set_option maxRecDepth 20000 in
theorem gX2_init_X1_init_n11 : GoodIn wsX2_init (wsX1_init) := ggX2_init_X1_init
theorem dX2_init_0 : decode cX2_init 0 = .ok (.aload_n 0, 1) := by decide +kernel
theorem dX2_init_1 : decode cX2_init 1 = .ok (.invokespecial 3, 3) := by decide +kernel
theorem dX2_init_4 : decode cX2_init 4 = .ok (.aload_n 0, 1) := by decide +kernel
theorem dX2_init_5 : decode cX2_init 5 = .ok (.new 9, 3) := by decide +kernel
theorem dX2_init_8 : decode cX2_init 8 = .ok (.dup, 1) := by decide +kernel
theorem dX2_init_9 : decode cX2_init 9 = .ok (.invokespecial 11, 3) := by decide +kernel
theorem dX2_init_12 : decode cX2_init 12 = .ok (.putfield 12, 3) := by decide +kernel
theorem dX2_init_15 : decode cX2_init 15 = .ok (.return_, 1) := by decide +kernel
set_option maxRecDepth 20000 in
theorem ggX2_from_X5_has : GoodIn wsX2_from wsX5_has := goodIn_r _ [8] (by decide +kernel) (by decide +kernel)
set_option maxRecDepth 20000 in
theorem gX2_from_X5_has : GoodIn wsX2_from (va_wsS RX2 28 yX5_has wsX5_has) := goodIn_app (goodIn_of _ (by decide +kernel)) ggX2_from_X5_has
set_option maxRecDepth 20000 in
theorem ggX2_from_X1_from : GoodIn wsX2_from wsX1_from := goodIn_r _ [13, 14, 15, 16, 17, 18, 19, 20, 21, 22, 23, 24, 25, 26, 27, 28, 7, 29, 30, 6, 8, 31, 32, 33, 34, 35, 36, 37, 38, 39, 40, 41, 42, 43, 44, 45, 46, 47, 48, 49, 50, 51, 52, 53, 54, 55, 56, 57, 58, 59, 60, 61, 62, 63, 64, 65, 66, 67, 12, 68, 69, 70, 71, 72, 73, 84, 85, 86, 87, 88, 89, 90] (by decide +kernel) (by decide +kernel)
set_option maxRecDepth 20000 in
theorem gX2_from_X1_from : GoodIn wsX2_from (wsV RX2 34 RX1 yX1_from wsX1_from) := goodIn_app (goodIn_of _ (by decide +kernel)) ggX2_from_X1_from
set_option maxRecDepth 20000 in
theorem ggX2_from_X2_enter : GoodIn wsX2_from wsX2_enter := goodIn_r _ [78, 4, 3, 1, 2, 79, 70, 71, 12, 72, 21, 15, 80, 81, 82, 83, 84, 85, 86, 87, 88] (by decide +kernel) (by decide +kernel)
set_option maxRecDepth 20000 in
theorem gX2_from_X2_enter : GoodIn wsX2_from (wsV RX2 38 RX2 yX2_enter wsX2_enter) := goodIn_app (goodIn_of _ (by decide +kernel)) ggX2_from_X2_enter
theorem dX2_from_0 : decode cX2_from 0 = .ok (.aload_n 0, 1) := by decide +kernel
theorem dX2_from_1 : decode cX2_from 1 = .ok (.iconst 0, 1) := by decide +kernel
theorem dX2_from_2 : decode cX2_from 2 = .ok (.putfield 18, 3) := by decide +kernel
theorem dX2_from_5 : decode cX2_from 5 = .ok (.aload_n 0, 1) := by decide +kernel
theorem dX2_from_6 : decode cX2_from 6 = .ok (.iconst 0, 1) := by decide +kernel
theorem dX2_from_7 : decode cX2_from 7 = .ok (.putfield 22, 3) := by decide +kernel
theorem dX2_from_10 : decode cX2_from 10 = .ok (.aload_n 0, 1) := by decide +kernel
theorem dX2_from_11 : decode cX2_from 11 = .ok (.iconst 0, 1) := by decide +kernel
theorem dX2_from_12 : decode cX2_from 12 = .ok (.putfield 25, 3) := by decide +kernel
theorem dX2_from_15 : decode cX2_from 15 = .ok (.iconst 0, 1) := by decide +kernel
theorem dX2_from_16 : decode cX2_from 16 = .ok (.istore 5, 2) := by decide +kernel
theorem dX2_from_18 : decode cX2_from 18 = .ok (.iload 5, 2) := by decide +kernel
theorem dX2_from_20 : decode cX2_from 20 = .ok (.iload_n 2, 1) := by decide +kernel
theorem dX2_from_21 : decode cX2_from 21 = .ok (.if_icmp .ge 38, 3) := by decide +kernel
theorem dX2_from_24 : decode cX2_from 24 = .ok (.iload_n 3, 1) := by decide +kernel
theorem dX2_from_25 : decode cX2_from 25 = .ok (.iload 5, 2) := by decide +kernel
theorem dX2_from_27 : decode cX2_from 27 = .ok (.invokestatic 28, 3) := by decide +kernel
theorem dX2_from_30 : decode cX2_from 30 = .ok (.ifCond .eq 23, 3) := by decide +kernel
theorem dX2_from_33 : decode cX2_from 33 = .ok (.aload_n 0, 1) := by decide +kernel
theorem dX2_from_34 : decode cX2_from 34 = .ok (.getfield 12, 3) := by decide +kernel
theorem dX2_from_37 : decode cX2_from 37 = .ok (.aload_n 1, 1) := by decide +kernel
theorem dX2_from_38 : decode cX2_from 38 = .ok (.iload_n 2, 1) := by decide +kernel
theorem dX2_from_39 : decode cX2_from 39 = .ok (.iload_n 3, 1) := by decide +kernel
theorem dX2_from_40 : decode cX2_from 40 = .ok (.iload 4, 2) := by decide +kernel
theorem dX2_from_42 : decode cX2_from 42 = .ok (.iload 5, 2) := by decide +kernel
theorem dX2_from_44 : decode cX2_from 44 = .ok (.invokevirtual 34, 3) := by decide +kernel
theorem dX2_from_47 : decode cX2_from 47 = .ok (.aload_n 0, 1) := by decide +kernel
theorem dX2_from_48 : decode cX2_from 48 = .ok (.iload 5, 2) := by decide +kernel
theorem dX2_from_50 : decode cX2_from 50 = .ok (.invokevirtual 38, 3) := by decide +kernel
theorem dX2_from_53 : decode cX2_from 53 = .ok (.iinc 5 1, 3) := by decide +kernel
theorem dX2_from_56 : decode cX2_from 56 = .ok (.goto (-38), 3) := by decide +kernel
theorem dX2_from_59 : decode cX2_from 59 = .ok (.return_, 1) := by decide +kernel
set_option maxRecDepth 20000 in
theorem ggX2_enter_X1_sideOfMove : GoodIn wsX2_enter wsX1_sideOfMove := goodIn_r _ [9, 10, 11, 16, 17, 18, 19, 20] (by decide +kernel) (by decide +kernel)
set_option maxRecDepth 20000 in
theorem gX2_enter_X1_sideOfMove : GoodIn wsX2_enter (wsV RX2 48 RX1 yX1_sideOfMove wsX1_sideOfMove) := goodIn_app (goodIn_of _ (by decide +kernel)) ggX2_enter_X1_sideOfMove
theorem dX2_enter_0 : decode cX2_enter 0 = .ok (.aload_n 0, 1) := by decide +kernel
theorem dX2_enter_1 : decode cX2_enter 1 = .ok (.getfield 12, 3) := by decide +kernel
theorem dX2_enter_4 : decode cX2_enter 4 = .ok (.getfield 42, 3) := by decide +kernel
theorem dX2_enter_7 : decode cX2_enter 7 = .ok (.ifCond .lt 21, 3) := by decide +kernel
theorem dX2_enter_10 : decode cX2_enter 10 = .ok (.aload_n 0, 1) := by decide +kernel
theorem dX2_enter_11 : decode cX2_enter 11 = .ok (.dup, 1) := by decide +kernel
theorem dX2_enter_12 : decode cX2_enter 12 = .ok (.getfield 25, 3) := by decide +kernel
theorem dX2_enter_15 : decode cX2_enter 15 = .ok (.iconst 1, 1) := by decide +kernel
theorem dX2_enter_16 : decode cX2_enter 16 = .ok (.aload_n 0, 1) := by decide +kernel
theorem dX2_enter_17 : decode cX2_enter 17 = .ok (.getfield 12, 3) := by decide +kernel
theorem dX2_enter_20 : decode cX2_enter 20 = .ok (.getfield 42, 3) := by decide +kernel
theorem dX2_enter_23 : decode cX2_enter 23 = .ok (.ishl, 1) := by decide +kernel
theorem dX2_enter_24 : decode cX2_enter 24 = .ok (.ior, 1) := by decide +kernel
theorem dX2_enter_25 : decode cX2_enter 25 = .ok (.putfield 25, 3) := by decide +kernel
theorem dX2_enter_28 : decode cX2_enter 28 = .ok (.aload_n 0, 1) := by decide +kernel
theorem dX2_enter_29 : decode cX2_enter 29 = .ok (.getfield 12, 3) := by decide +kernel
theorem dX2_enter_32 : decode cX2_enter 32 = .ok (.getfield 45, 3) := by decide +kernel
theorem dX2_enter_35 : decode cX2_enter 35 = .ok (.ifCond .ne 4, 3) := by decide +kernel
theorem dX2_enter_38 : decode cX2_enter 38 = .ok (.return_, 1) := by decide +kernel
theorem dX2_enter_39 : decode cX2_enter 39 = .ok (.aload_n 0, 1) := by decide +kernel
theorem dX2_enter_40 : decode cX2_enter 40 = .ok (.getfield 12, 3) := by decide +kernel
theorem dX2_enter_43 : decode cX2_enter 43 = .ok (.invokevirtual 48, 3) := by decide +kernel
theorem dX2_enter_46 : decode cX2_enter 46 = .ok (.ifCond .ne 18, 3) := by decide +kernel
theorem dX2_enter_49 : decode cX2_enter 49 = .ok (.aload_n 0, 1) := by decide +kernel
theorem dX2_enter_50 : decode cX2_enter 50 = .ok (.dup, 1) := by decide +kernel
theorem dX2_enter_51 : decode cX2_enter 51 = .ok (.getfield 18, 3) := by decide +kernel
theorem dX2_enter_54 : decode cX2_enter 54 = .ok (.iconst 1, 1) := by decide +kernel
theorem dX2_enter_55 : decode cX2_enter 55 = .ok (.iload_n 1, 1) := by decide +kernel
theorem dX2_enter_56 : decode cX2_enter 56 = .ok (.ishl, 1) := by decide +kernel
theorem dX2_enter_57 : decode cX2_enter 57 = .ok (.ior, 1) := by decide +kernel
theorem dX2_enter_58 : decode cX2_enter 58 = .ok (.putfield 18, 3) := by decide +kernel
theorem dX2_enter_61 : decode cX2_enter 61 = .ok (.goto 15, 3) := by decide +kernel
theorem dX2_enter_64 : decode cX2_enter 64 = .ok (.aload_n 0, 1) := by decide +kernel
theorem dX2_enter_65 : decode cX2_enter 65 = .ok (.dup, 1) := by decide +kernel
theorem dX2_enter_66 : decode cX2_enter 66 = .ok (.getfield 22, 3) := by decide +kernel
theorem dX2_enter_69 : decode cX2_enter 69 = .ok (.iconst 1, 1) := by decide +kernel
theorem dX2_enter_70 : decode cX2_enter 70 = .ok (.iload_n 1, 1) := by decide +kernel
theorem dX2_enter_71 : decode cX2_enter 71 = .ok (.ishl, 1) := by decide +kernel
theorem dX2_enter_72 : decode cX2_enter 72 = .ok (.ior, 1) := by decide +kernel
theorem dX2_enter_73 : decode cX2_enter 73 = .ok (.putfield 22, 3) := by decide +kernel
theorem dX2_enter_76 : decode cX2_enter 76 = .ok (.return_, 1) := by decide +kernel
theorem dX2_movers_0 : decode cX2_movers 0 = .ok (.aload_n 0, 1) := by decide +kernel
theorem dX2_movers_1 : decode cX2_movers 1 = .ok (.getfield 18, 3) := by decide +kernel
theorem dX2_movers_4 : decode cX2_movers 4 = .ok (.aload_n 0, 1) := by decide +kernel
theorem dX2_movers_5 : decode cX2_movers 5 = .ok (.getfield 22, 3) := by decide +kernel
theorem dX2_movers_8 : decode cX2_movers 8 = .ok (.ior, 1) := by decide +kernel
theorem dX2_movers_9 : decode cX2_movers 9 = .ok (.ireturn, 1) := by decide +kernel
set_option maxRecDepth 20000 in
theorem ggX2_wayBehind_X5_standsOf : GoodIn wsX2_wayBehind wsX5_standsOf := goodIn_r _ [6] (by decide +kernel) (by decide +kernel)
set_option maxRecDepth 20000 in
theorem gX2_wayBehind_X5_standsOf : GoodIn wsX2_wayBehind (va_wsS RX2 52 yX5_standsOf wsX5_standsOf) := goodIn_app (goodIn_of _ (by decide +kernel)) ggX2_wayBehind_X5_standsOf
set_option maxRecDepth 20000 in
theorem ggX2_wayBehind_X5_towersOf : GoodIn wsX2_wayBehind wsX5_towersOf := goodIn_r _ [9] (by decide +kernel) (by decide +kernel)
set_option maxRecDepth 20000 in
theorem gX2_wayBehind_X5_towersOf : GoodIn wsX2_wayBehind (va_wsS RX2 56 yX5_towersOf wsX5_towersOf) := goodIn_app (goodIn_of _ (by decide +kernel)) ggX2_wayBehind_X5_towersOf
set_option maxRecDepth 20000 in
theorem ggX2_wayBehind_X2_movers : GoodIn wsX2_wayBehind wsX2_movers := goodIn_r _ [14, 1, 2, 24, 25, 26, 27] (by decide +kernel) (by decide +kernel)
set_option maxRecDepth 20000 in
theorem gX2_wayBehind_X2_movers : GoodIn wsX2_wayBehind (wsV RX2 59 RX2 yX2_movers wsX2_movers) := goodIn_app (goodIn_of _ (by decide +kernel)) ggX2_wayBehind_X2_movers
set_option maxRecDepth 20000 in
theorem ggX2_wayBehind_X5_turnedUp : GoodIn wsX2_wayBehind wsX5_turnedUp := goodIn_r _ [17] (by decide +kernel) (by decide +kernel)
set_option maxRecDepth 20000 in
theorem gX2_wayBehind_X5_turnedUp : GoodIn wsX2_wayBehind (va_wsS RX2 62 yX5_turnedUp wsX5_turnedUp) := goodIn_app (goodIn_of _ (by decide +kernel)) ggX2_wayBehind_X5_turnedUp
set_option maxRecDepth 20000 in
theorem ggX2_wayBehind_X5_turnedDown : GoodIn wsX2_wayBehind wsX5_turnedDown := goodIn_r _ [20] (by decide +kernel) (by decide +kernel)
set_option maxRecDepth 20000 in
theorem gX2_wayBehind_X5_turnedDown : GoodIn wsX2_wayBehind (va_wsS RX2 66 yX5_turnedDown wsX5_turnedDown) := goodIn_app (goodIn_of _ (by decide +kernel)) ggX2_wayBehind_X5_turnedDown
set_option maxRecDepth 20000 in
theorem ggX2_wayBehind_X5_way : GoodIn wsX2_wayBehind wsX5_way := goodIn_r _ [23] (by decide +kernel) (by decide +kernel)
set_option maxRecDepth 20000 in
theorem gX2_wayBehind_X5_way : GoodIn wsX2_wayBehind (va_wsS RX2 69 yX5_way wsX5_way) := goodIn_app (goodIn_of _ (by decide +kernel)) ggX2_wayBehind_X5_way
theorem dX2_wayBehind_0 : decode cX2_wayBehind 0 = .ok (.iload_n 2, 1) := by decide +kernel
theorem dX2_wayBehind_1 : decode cX2_wayBehind 1 = .ok (.invokestatic 52, 3) := by decide +kernel
theorem dX2_wayBehind_4 : decode cX2_wayBehind 4 = .ok (.istore 4, 2) := by decide +kernel
theorem dX2_wayBehind_6 : decode cX2_wayBehind 6 = .ok (.iload_n 2, 1) := by decide +kernel
theorem dX2_wayBehind_7 : decode cX2_wayBehind 7 = .ok (.invokestatic 56, 3) := by decide +kernel
theorem dX2_wayBehind_10 : decode cX2_wayBehind 10 = .ok (.istore 5, 2) := by decide +kernel
theorem dX2_wayBehind_12 : decode cX2_wayBehind 12 = .ok (.iload 4, 2) := by decide +kernel
theorem dX2_wayBehind_14 : decode cX2_wayBehind 14 = .ok (.iload_n 3, 1) := by decide +kernel
theorem dX2_wayBehind_15 : decode cX2_wayBehind 15 = .ok (.aload_n 0, 1) := by decide +kernel
theorem dX2_wayBehind_16 : decode cX2_wayBehind 16 = .ok (.invokevirtual 59, 3) := by decide +kernel
theorem dX2_wayBehind_19 : decode cX2_wayBehind 19 = .ok (.iand, 1) := by decide +kernel
theorem dX2_wayBehind_20 : decode cX2_wayBehind 20 = .ok (.iconst (-1), 1) := by decide +kernel
theorem dX2_wayBehind_21 : decode cX2_wayBehind 21 = .ok (.ixor, 1) := by decide +kernel
theorem dX2_wayBehind_22 : decode cX2_wayBehind 22 = .ok (.iand, 1) := by decide +kernel
theorem dX2_wayBehind_23 : decode cX2_wayBehind 23 = .ok (.istore 6, 2) := by decide +kernel
theorem dX2_wayBehind_25 : decode cX2_wayBehind 25 = .ok (.iload_n 1, 1) := by decide +kernel
theorem dX2_wayBehind_26 : decode cX2_wayBehind 26 = .ok (.iload 4, 2) := by decide +kernel
theorem dX2_wayBehind_28 : decode cX2_wayBehind 28 = .ok (.iload_n 3, 1) := by decide +kernel
theorem dX2_wayBehind_29 : decode cX2_wayBehind 29 = .ok (.iand, 1) := by decide +kernel
theorem dX2_wayBehind_30 : decode cX2_wayBehind 30 = .ok (.aload_n 0, 1) := by decide +kernel
theorem dX2_wayBehind_31 : decode cX2_wayBehind 31 = .ok (.getfield 18, 3) := by decide +kernel
theorem dX2_wayBehind_34 : decode cX2_wayBehind 34 = .ok (.iand, 1) := by decide +kernel
theorem dX2_wayBehind_35 : decode cX2_wayBehind 35 = .ok (.invokestatic 62, 3) := by decide +kernel
theorem dX2_wayBehind_38 : decode cX2_wayBehind 38 = .ok (.istore 7, 2) := by decide +kernel
theorem dX2_wayBehind_40 : decode cX2_wayBehind 40 = .ok (.iload_n 1, 1) := by decide +kernel
theorem dX2_wayBehind_41 : decode cX2_wayBehind 41 = .ok (.iload 4, 2) := by decide +kernel
theorem dX2_wayBehind_43 : decode cX2_wayBehind 43 = .ok (.iload_n 3, 1) := by decide +kernel
theorem dX2_wayBehind_44 : decode cX2_wayBehind 44 = .ok (.iand, 1) := by decide +kernel
theorem dX2_wayBehind_45 : decode cX2_wayBehind 45 = .ok (.aload_n 0, 1) := by decide +kernel
theorem dX2_wayBehind_46 : decode cX2_wayBehind 46 = .ok (.getfield 22, 3) := by decide +kernel
theorem dX2_wayBehind_49 : decode cX2_wayBehind 49 = .ok (.iand, 1) := by decide +kernel
theorem dX2_wayBehind_50 : decode cX2_wayBehind 50 = .ok (.invokestatic 66, 3) := by decide +kernel
theorem dX2_wayBehind_53 : decode cX2_wayBehind 53 = .ok (.istore 8, 2) := by decide +kernel
theorem dX2_wayBehind_55 : decode cX2_wayBehind 55 = .ok (.iload 5, 2) := by decide +kernel
theorem dX2_wayBehind_57 : decode cX2_wayBehind 57 = .ok (.iload 6, 2) := by decide +kernel
theorem dX2_wayBehind_59 : decode cX2_wayBehind 59 = .ok (.iand, 1) := by decide +kernel
theorem dX2_wayBehind_60 : decode cX2_wayBehind 60 = .ok (.iload_n 1, 1) := by decide +kernel
theorem dX2_wayBehind_61 : decode cX2_wayBehind 61 = .ok (.iload 5, 2) := by decide +kernel
theorem dX2_wayBehind_63 : decode cX2_wayBehind 63 = .ok (.iload_n 3, 1) := by decide +kernel
theorem dX2_wayBehind_64 : decode cX2_wayBehind 64 = .ok (.iand, 1) := by decide +kernel
theorem dX2_wayBehind_65 : decode cX2_wayBehind 65 = .ok (.aload_n 0, 1) := by decide +kernel
theorem dX2_wayBehind_66 : decode cX2_wayBehind 66 = .ok (.getfield 18, 3) := by decide +kernel
theorem dX2_wayBehind_69 : decode cX2_wayBehind 69 = .ok (.iand, 1) := by decide +kernel
theorem dX2_wayBehind_70 : decode cX2_wayBehind 70 = .ok (.invokestatic 62, 3) := by decide +kernel
theorem dX2_wayBehind_73 : decode cX2_wayBehind 73 = .ok (.ior, 1) := by decide +kernel
theorem dX2_wayBehind_74 : decode cX2_wayBehind 74 = .ok (.iload_n 1, 1) := by decide +kernel
theorem dX2_wayBehind_75 : decode cX2_wayBehind 75 = .ok (.iload 5, 2) := by decide +kernel
theorem dX2_wayBehind_77 : decode cX2_wayBehind 77 = .ok (.iload_n 3, 1) := by decide +kernel
theorem dX2_wayBehind_78 : decode cX2_wayBehind 78 = .ok (.iand, 1) := by decide +kernel
theorem dX2_wayBehind_79 : decode cX2_wayBehind 79 = .ok (.aload_n 0, 1) := by decide +kernel
theorem dX2_wayBehind_80 : decode cX2_wayBehind 80 = .ok (.getfield 22, 3) := by decide +kernel
theorem dX2_wayBehind_83 : decode cX2_wayBehind 83 = .ok (.iand, 1) := by decide +kernel
theorem dX2_wayBehind_84 : decode cX2_wayBehind 84 = .ok (.invokestatic 66, 3) := by decide +kernel
theorem dX2_wayBehind_87 : decode cX2_wayBehind 87 = .ok (.ior, 1) := by decide +kernel
theorem dX2_wayBehind_88 : decode cX2_wayBehind 88 = .ok (.iload 6, 2) := by decide +kernel
theorem dX2_wayBehind_90 : decode cX2_wayBehind 90 = .ok (.iload 7, 2) := by decide +kernel
theorem dX2_wayBehind_92 : decode cX2_wayBehind 92 = .ok (.iand, 1) := by decide +kernel
theorem dX2_wayBehind_93 : decode cX2_wayBehind 93 = .ok (.ior, 1) := by decide +kernel
theorem dX2_wayBehind_94 : decode cX2_wayBehind 94 = .ok (.iload 6, 2) := by decide +kernel
theorem dX2_wayBehind_96 : decode cX2_wayBehind 96 = .ok (.iload 8, 2) := by decide +kernel
theorem dX2_wayBehind_98 : decode cX2_wayBehind 98 = .ok (.iand, 1) := by decide +kernel
theorem dX2_wayBehind_99 : decode cX2_wayBehind 99 = .ok (.ior, 1) := by decide +kernel
theorem dX2_wayBehind_100 : decode cX2_wayBehind 100 = .ok (.iload 7, 2) := by decide +kernel
theorem dX2_wayBehind_102 : decode cX2_wayBehind 102 = .ok (.iload 8, 2) := by decide +kernel
theorem dX2_wayBehind_104 : decode cX2_wayBehind 104 = .ok (.iand, 1) := by decide +kernel
theorem dX2_wayBehind_105 : decode cX2_wayBehind 105 = .ok (.ior, 1) := by decide +kernel
theorem dX2_wayBehind_106 : decode cX2_wayBehind 106 = .ok (.istore 9, 2) := by decide +kernel
theorem dX2_wayBehind_108 : decode cX2_wayBehind 108 = .ok (.iload 6, 2) := by decide +kernel
theorem dX2_wayBehind_110 : decode cX2_wayBehind 110 = .ok (.iload 7, 2) := by decide +kernel
theorem dX2_wayBehind_112 : decode cX2_wayBehind 112 = .ok (.ior, 1) := by decide +kernel
theorem dX2_wayBehind_113 : decode cX2_wayBehind 113 = .ok (.iload 8, 2) := by decide +kernel
theorem dX2_wayBehind_115 : decode cX2_wayBehind 115 = .ok (.ior, 1) := by decide +kernel
theorem dX2_wayBehind_116 : decode cX2_wayBehind 116 = .ok (.iload 9, 2) := by decide +kernel
theorem dX2_wayBehind_118 : decode cX2_wayBehind 118 = .ok (.invokestatic 69, 3) := by decide +kernel
theorem dX2_wayBehind_121 : decode cX2_wayBehind 121 = .ok (.ireturn, 1) := by decide +kernel
theorem dX3_init_0 : decode cX3_init 0 = .ok (.aload_n 0, 1) := by decide +kernel
theorem dX3_init_1 : decode cX3_init 1 = .ok (.invokespecial 3, 3) := by decide +kernel
theorem dX3_init_4 : decode cX3_init 4 = .ok (.aload_n 0, 1) := by decide +kernel
theorem dX3_init_5 : decode cX3_init 5 = .ok (.bipush 60, 2) := by decide +kernel
theorem dX3_init_7 : decode cX3_init 7 = .ok (.newarray .int, 2) := by decide +kernel
theorem dX3_init_9 : decode cX3_init 9 = .ok (.putfield 9, 3) := by decide +kernel
theorem dX3_init_12 : decode cX3_init 12 = .ok (.return_, 1) := by decide +kernel
theorem dX3_has_0 : decode cX3_has 0 = .ok (.iload_n 1, 1) := by decide +kernel
theorem dX3_has_1 : decode cX3_has 1 = .ok (.ifCond .lt 21, 3) := by decide +kernel
theorem dX3_has_4 : decode cX3_has 4 = .ok (.iload_n 1, 1) := by decide +kernel
theorem dX3_has_5 : decode cX3_has 5 = .ok (.aload_n 0, 1) := by decide +kernel
theorem dX3_has_6 : decode cX3_has 6 = .ok (.getfield 15, 3) := by decide +kernel
theorem dX3_has_9 : decode cX3_has 9 = .ok (.if_icmp .ge 13, 3) := by decide +kernel
theorem dX3_has_12 : decode cX3_has 12 = .ok (.iload_n 1, 1) := by decide +kernel
theorem dX3_has_13 : decode cX3_has 13 = .ok (.bipush 10, 2) := by decide +kernel
theorem dX3_has_15 : decode cX3_has 15 = .ok (.if_icmp .ge 7, 3) := by decide +kernel
theorem dX3_has_18 : decode cX3_has 18 = .ok (.iconst 1, 1) := by decide +kernel
theorem dX3_has_19 : decode cX3_has 19 = .ok (.goto 4, 3) := by decide +kernel
theorem dX3_has_22 : decode cX3_has 22 = .ok (.iconst 0, 1) := by decide +kernel
theorem dX3_has_23 : decode cX3_has 23 = .ok (.ireturn, 1) := by decide +kernel
set_option maxRecDepth 20000 in
theorem ggX3_part_X3_has : GoodIn wsX3_part wsX3_has := goodIn_r _ [6, 7, 8, 9] (by decide +kernel) (by decide +kernel)
set_option maxRecDepth 20000 in
theorem gX3_part_X3_has : GoodIn wsX3_part (wsV RX3 19 RX3 yX3_has wsX3_has) := goodIn_app (goodIn_of _ (by decide +kernel)) ggX3_part_X3_has
theorem dX3_part_0 : decode cX3_part 0 = .ok (.aload_n 0, 1) := by decide +kernel
theorem dX3_part_1 : decode cX3_part 1 = .ok (.iload_n 1, 1) := by decide +kernel
theorem dX3_part_2 : decode cX3_part 2 = .ok (.invokevirtual 19, 3) := by decide +kernel
theorem dX3_part_5 : decode cX3_part 5 = .ok (.ifCond .eq 27, 3) := by decide +kernel
theorem dX3_part_8 : decode cX3_part 8 = .ok (.iload_n 2, 1) := by decide +kernel
theorem dX3_part_9 : decode cX3_part 9 = .ok (.ifCond .lt 23, 3) := by decide +kernel
theorem dX3_part_12 : decode cX3_part 12 = .ok (.iload_n 2, 1) := by decide +kernel
theorem dX3_part_13 : decode cX3_part 13 = .ok (.bipush 6, 2) := by decide +kernel
theorem dX3_part_15 : decode cX3_part 15 = .ok (.if_icmp .ge 17, 3) := by decide +kernel
theorem dX3_part_18 : decode cX3_part 18 = .ok (.aload_n 0, 1) := by decide +kernel
theorem dX3_part_19 : decode cX3_part 19 = .ok (.getfield 9, 3) := by decide +kernel
theorem dX3_part_22 : decode cX3_part 22 = .ok (.iload_n 1, 1) := by decide +kernel
theorem dX3_part_23 : decode cX3_part 23 = .ok (.bipush 6, 2) := by decide +kernel
theorem dX3_part_25 : decode cX3_part 25 = .ok (.imul, 1) := by decide +kernel
theorem dX3_part_26 : decode cX3_part 26 = .ok (.iload_n 2, 1) := by decide +kernel
theorem dX3_part_27 : decode cX3_part 27 = .ok (.iadd, 1) := by decide +kernel
theorem dX3_part_28 : decode cX3_part 28 = .ok (.iaload, 1) := by decide +kernel
theorem dX3_part_29 : decode cX3_part 29 = .ok (.goto 4, 3) := by decide +kernel
theorem dX3_part_32 : decode cX3_part 32 = .ok (.iconst 0, 1) := by decide +kernel
theorem dX3_part_33 : decode cX3_part 33 = .ok (.ireturn, 1) := by decide +kernel
set_option maxRecDepth 20000 in
theorem ggX3_setPart_X3_has : GoodIn wsX3_setPart wsX3_has := goodIn_r _ [6, 7, 8, 9] (by decide +kernel) (by decide +kernel)
set_option maxRecDepth 20000 in
theorem gX3_setPart_X3_has : GoodIn wsX3_setPart (wsV RX3 19 RX3 yX3_has wsX3_has) := goodIn_app (goodIn_of _ (by decide +kernel)) ggX3_setPart_X3_has
theorem dX3_setPart_0 : decode cX3_setPart 0 = .ok (.aload_n 0, 1) := by decide +kernel
theorem dX3_setPart_1 : decode cX3_setPart 1 = .ok (.iload_n 1, 1) := by decide +kernel
theorem dX3_setPart_2 : decode cX3_setPart 2 = .ok (.invokevirtual 19, 3) := by decide +kernel
theorem dX3_setPart_5 : decode cX3_setPart 5 = .ok (.ifCond .eq 25, 3) := by decide +kernel
theorem dX3_setPart_8 : decode cX3_setPart 8 = .ok (.iload_n 2, 1) := by decide +kernel
theorem dX3_setPart_9 : decode cX3_setPart 9 = .ok (.ifCond .lt 21, 3) := by decide +kernel
theorem dX3_setPart_12 : decode cX3_setPart 12 = .ok (.iload_n 2, 1) := by decide +kernel
theorem dX3_setPart_13 : decode cX3_setPart 13 = .ok (.bipush 6, 2) := by decide +kernel
theorem dX3_setPart_15 : decode cX3_setPart 15 = .ok (.if_icmp .ge 15, 3) := by decide +kernel
theorem dX3_setPart_18 : decode cX3_setPart 18 = .ok (.aload_n 0, 1) := by decide +kernel
theorem dX3_setPart_19 : decode cX3_setPart 19 = .ok (.getfield 9, 3) := by decide +kernel
theorem dX3_setPart_22 : decode cX3_setPart 22 = .ok (.iload_n 1, 1) := by decide +kernel
theorem dX3_setPart_23 : decode cX3_setPart 23 = .ok (.bipush 6, 2) := by decide +kernel
theorem dX3_setPart_25 : decode cX3_setPart 25 = .ok (.imul, 1) := by decide +kernel
theorem dX3_setPart_26 : decode cX3_setPart 26 = .ok (.iload_n 2, 1) := by decide +kernel
theorem dX3_setPart_27 : decode cX3_setPart 27 = .ok (.iadd, 1) := by decide +kernel
theorem dX3_setPart_28 : decode cX3_setPart 28 = .ok (.iload_n 3, 1) := by decide +kernel
theorem dX3_setPart_29 : decode cX3_setPart 29 = .ok (.iastore, 1) := by decide +kernel
theorem dX3_setPart_30 : decode cX3_setPart 30 = .ok (.return_, 1) := by decide +kernel
set_option maxRecDepth 20000 in
theorem ggX3_append_X3_setPart : GoodIn wsX3_append wsX3_setPart := goodIn_r _ [6, 7, 8, 9, 10, 5, 11, 1, 12, 13] (by decide +kernel) (by decide +kernel)
set_option maxRecDepth 20000 in
theorem gX3_append_X3_setPart : GoodIn wsX3_append (wsV RX3 23 RX3 yX3_setPart wsX3_setPart) := goodIn_app (goodIn_of _ (by decide +kernel)) ggX3_append_X3_setPart
theorem dX3_append_0 : decode cX3_append 0 = .ok (.aload_n 0, 1) := by decide +kernel
theorem dX3_append_1 : decode cX3_append 1 = .ok (.getfield 15, 3) := by decide +kernel
theorem dX3_append_4 : decode cX3_append 4 = .ok (.bipush 10, 2) := by decide +kernel
theorem dX3_append_6 : decode cX3_append 6 = .ok (.if_icmp .lt 6, 3) := by decide +kernel
theorem dX3_append_9 : decode cX3_append 9 = .ok (.bipush (-4), 2) := by decide +kernel
theorem dX3_append_11 : decode cX3_append 11 = .ok (.ireturn, 1) := by decide +kernel
theorem dX3_append_12 : decode cX3_append 12 = .ok (.aload_n 0, 1) := by decide +kernel
theorem dX3_append_13 : decode cX3_append 13 = .ok (.getfield 15, 3) := by decide +kernel
theorem dX3_append_16 : decode cX3_append 16 = .ok (.istore 6, 2) := by decide +kernel
theorem dX3_append_18 : decode cX3_append 18 = .ok (.aload_n 0, 1) := by decide +kernel
theorem dX3_append_19 : decode cX3_append 19 = .ok (.dup, 1) := by decide +kernel
theorem dX3_append_20 : decode cX3_append 20 = .ok (.getfield 15, 3) := by decide +kernel
theorem dX3_append_23 : decode cX3_append 23 = .ok (.iconst 1, 1) := by decide +kernel
theorem dX3_append_24 : decode cX3_append 24 = .ok (.iadd, 1) := by decide +kernel
theorem dX3_append_25 : decode cX3_append 25 = .ok (.putfield 15, 3) := by decide +kernel
theorem dX3_append_28 : decode cX3_append 28 = .ok (.aload_n 0, 1) := by decide +kernel
theorem dX3_append_29 : decode cX3_append 29 = .ok (.iload 6, 2) := by decide +kernel
theorem dX3_append_31 : decode cX3_append 31 = .ok (.iconst 0, 1) := by decide +kernel
theorem dX3_append_32 : decode cX3_append 32 = .ok (.iload_n 1, 1) := by decide +kernel
theorem dX3_append_33 : decode cX3_append 33 = .ok (.invokevirtual 23, 3) := by decide +kernel
theorem dX3_append_36 : decode cX3_append 36 = .ok (.aload_n 0, 1) := by decide +kernel
theorem dX3_append_37 : decode cX3_append 37 = .ok (.iload 6, 2) := by decide +kernel
theorem dX3_append_39 : decode cX3_append 39 = .ok (.iconst 1, 1) := by decide +kernel
theorem dX3_append_40 : decode cX3_append 40 = .ok (.iload_n 2, 1) := by decide +kernel
theorem dX3_append_41 : decode cX3_append 41 = .ok (.invokevirtual 23, 3) := by decide +kernel
theorem dX3_append_44 : decode cX3_append 44 = .ok (.aload_n 0, 1) := by decide +kernel
theorem dX3_append_45 : decode cX3_append 45 = .ok (.iload 6, 2) := by decide +kernel
theorem dX3_append_47 : decode cX3_append 47 = .ok (.iconst 2, 1) := by decide +kernel
theorem dX3_append_48 : decode cX3_append 48 = .ok (.iload_n 3, 1) := by decide +kernel
theorem dX3_append_49 : decode cX3_append 49 = .ok (.invokevirtual 23, 3) := by decide +kernel
theorem dX3_append_52 : decode cX3_append 52 = .ok (.aload_n 0, 1) := by decide +kernel
theorem dX3_append_53 : decode cX3_append 53 = .ok (.iload 6, 2) := by decide +kernel
theorem dX3_append_55 : decode cX3_append 55 = .ok (.iconst 3, 1) := by decide +kernel
theorem dX3_append_56 : decode cX3_append 56 = .ok (.iload 4, 2) := by decide +kernel
theorem dX3_append_58 : decode cX3_append 58 = .ok (.invokevirtual 23, 3) := by decide +kernel
theorem dX3_append_61 : decode cX3_append 61 = .ok (.aload_n 0, 1) := by decide +kernel
theorem dX3_append_62 : decode cX3_append 62 = .ok (.iload 6, 2) := by decide +kernel
theorem dX3_append_64 : decode cX3_append 64 = .ok (.iconst 4, 1) := by decide +kernel
theorem dX3_append_65 : decode cX3_append 65 = .ok (.iload 5, 2) := by decide +kernel
theorem dX3_append_67 : decode cX3_append 67 = .ok (.invokevirtual 23, 3) := by decide +kernel
theorem dX3_append_70 : decode cX3_append 70 = .ok (.aload_n 0, 1) := by decide +kernel
theorem dX3_append_71 : decode cX3_append 71 = .ok (.iload 6, 2) := by decide +kernel
theorem dX3_append_73 : decode cX3_append 73 = .ok (.iconst 5, 1) := by decide +kernel
theorem dX3_append_74 : decode cX3_append 74 = .ok (.iconst 2, 1) := by decide +kernel
theorem dX3_append_75 : decode cX3_append 75 = .ok (.invokevirtual 23, 3) := by decide +kernel
theorem dX3_append_78 : decode cX3_append 78 = .ok (.iload 6, 2) := by decide +kernel
theorem dX3_append_80 : decode cX3_append 80 = .ok (.ireturn, 1) := by decide +kernel
set_option maxRecDepth 20000 in
theorem ggX3_remove_X3_has : GoodIn wsX3_remove wsX3_has := goodIn_r _ [7, 1, 8, 9] (by decide +kernel) (by decide +kernel)
set_option maxRecDepth 20000 in
theorem gX3_remove_X3_has : GoodIn wsX3_remove (wsV RX3 19 RX3 yX3_has wsX3_has) := goodIn_app (goodIn_of _ (by decide +kernel)) ggX3_remove_X3_has
theorem dX3_remove_0 : decode cX3_remove 0 = .ok (.aload_n 0, 1) := by decide +kernel
theorem dX3_remove_1 : decode cX3_remove 1 = .ok (.iload_n 1, 1) := by decide +kernel
theorem dX3_remove_2 : decode cX3_remove 2 = .ok (.invokevirtual 19, 3) := by decide +kernel
theorem dX3_remove_5 : decode cX3_remove 5 = .ok (.ifCond .ne 4, 3) := by decide +kernel
theorem dX3_remove_8 : decode cX3_remove 8 = .ok (.return_, 1) := by decide +kernel
theorem dX3_remove_9 : decode cX3_remove 9 = .ok (.iload_n 1, 1) := by decide +kernel
theorem dX3_remove_10 : decode cX3_remove 10 = .ok (.bipush 6, 2) := by decide +kernel
theorem dX3_remove_12 : decode cX3_remove 12 = .ok (.imul, 1) := by decide +kernel
theorem dX3_remove_13 : decode cX3_remove 13 = .ok (.istore_n 2, 1) := by decide +kernel
theorem dX3_remove_14 : decode cX3_remove 14 = .ok (.iload_n 2, 1) := by decide +kernel
theorem dX3_remove_15 : decode cX3_remove 15 = .ok (.aload_n 0, 1) := by decide +kernel
theorem dX3_remove_16 : decode cX3_remove 16 = .ok (.getfield 15, 3) := by decide +kernel
theorem dX3_remove_19 : decode cX3_remove 19 = .ok (.iconst 1, 1) := by decide +kernel
theorem dX3_remove_20 : decode cX3_remove 20 = .ok (.isub, 1) := by decide +kernel
theorem dX3_remove_21 : decode cX3_remove 21 = .ok (.bipush 6, 2) := by decide +kernel
theorem dX3_remove_23 : decode cX3_remove 23 = .ok (.imul, 1) := by decide +kernel
theorem dX3_remove_24 : decode cX3_remove 24 = .ok (.if_icmp .ge 36, 3) := by decide +kernel
theorem dX3_remove_27 : decode cX3_remove 27 = .ok (.iload_n 2, 1) := by decide +kernel
theorem dX3_remove_28 : decode cX3_remove 28 = .ok (.bipush 6, 2) := by decide +kernel
theorem dX3_remove_30 : decode cX3_remove 30 = .ok (.iadd, 1) := by decide +kernel
theorem dX3_remove_31 : decode cX3_remove 31 = .ok (.aload_n 0, 1) := by decide +kernel
theorem dX3_remove_32 : decode cX3_remove 32 = .ok (.getfield 9, 3) := by decide +kernel
theorem dX3_remove_35 : decode cX3_remove 35 = .ok (.arraylength, 1) := by decide +kernel
theorem dX3_remove_36 : decode cX3_remove 36 = .ok (.if_icmp .ge 24, 3) := by decide +kernel
theorem dX3_remove_39 : decode cX3_remove 39 = .ok (.aload_n 0, 1) := by decide +kernel
theorem dX3_remove_40 : decode cX3_remove 40 = .ok (.getfield 9, 3) := by decide +kernel
theorem dX3_remove_43 : decode cX3_remove 43 = .ok (.iload_n 2, 1) := by decide +kernel
theorem dX3_remove_44 : decode cX3_remove 44 = .ok (.aload_n 0, 1) := by decide +kernel
theorem dX3_remove_45 : decode cX3_remove 45 = .ok (.getfield 9, 3) := by decide +kernel
theorem dX3_remove_48 : decode cX3_remove 48 = .ok (.iload_n 2, 1) := by decide +kernel
theorem dX3_remove_49 : decode cX3_remove 49 = .ok (.bipush 6, 2) := by decide +kernel
theorem dX3_remove_51 : decode cX3_remove 51 = .ok (.iadd, 1) := by decide +kernel
theorem dX3_remove_52 : decode cX3_remove 52 = .ok (.iaload, 1) := by decide +kernel
theorem dX3_remove_53 : decode cX3_remove 53 = .ok (.iastore, 1) := by decide +kernel
theorem dX3_remove_54 : decode cX3_remove 54 = .ok (.iinc 2 1, 3) := by decide +kernel
theorem dX3_remove_57 : decode cX3_remove 57 = .ok (.goto (-43), 3) := by decide +kernel
theorem dX3_remove_60 : decode cX3_remove 60 = .ok (.aload_n 0, 1) := by decide +kernel
theorem dX3_remove_61 : decode cX3_remove 61 = .ok (.dup, 1) := by decide +kernel
theorem dX3_remove_62 : decode cX3_remove 62 = .ok (.getfield 15, 3) := by decide +kernel
theorem dX3_remove_65 : decode cX3_remove 65 = .ok (.iconst 1, 1) := by decide +kernel
theorem dX3_remove_66 : decode cX3_remove 66 = .ok (.isub, 1) := by decide +kernel
theorem dX3_remove_67 : decode cX3_remove 67 = .ok (.putfield 15, 3) := by decide +kernel
theorem dX3_remove_70 : decode cX3_remove 70 = .ok (.return_, 1) := by decide +kernel
theorem dX3_copyFrom_0 : decode cX3_copyFrom 0 = .ok (.aload_n 0, 1) := by decide +kernel
theorem dX3_copyFrom_1 : decode cX3_copyFrom 1 = .ok (.aload_n 1, 1) := by decide +kernel
theorem dX3_copyFrom_2 : decode cX3_copyFrom 2 = .ok (.getfield 15, 3) := by decide +kernel
theorem dX3_copyFrom_5 : decode cX3_copyFrom 5 = .ok (.putfield 15, 3) := by decide +kernel
theorem dX3_copyFrom_8 : decode cX3_copyFrom 8 = .ok (.iconst 0, 1) := by decide +kernel
theorem dX3_copyFrom_9 : decode cX3_copyFrom 9 = .ok (.istore_n 2, 1) := by decide +kernel
theorem dX3_copyFrom_10 : decode cX3_copyFrom 10 = .ok (.iload_n 2, 1) := by decide +kernel
theorem dX3_copyFrom_11 : decode cX3_copyFrom 11 = .ok (.bipush 60, 2) := by decide +kernel
theorem dX3_copyFrom_13 : decode cX3_copyFrom 13 = .ok (.if_icmp .ge 21, 3) := by decide +kernel
theorem dX3_copyFrom_16 : decode cX3_copyFrom 16 = .ok (.aload_n 0, 1) := by decide +kernel
theorem dX3_copyFrom_17 : decode cX3_copyFrom 17 = .ok (.getfield 9, 3) := by decide +kernel
theorem dX3_copyFrom_20 : decode cX3_copyFrom 20 = .ok (.iload_n 2, 1) := by decide +kernel
theorem dX3_copyFrom_21 : decode cX3_copyFrom 21 = .ok (.aload_n 1, 1) := by decide +kernel
theorem dX3_copyFrom_22 : decode cX3_copyFrom 22 = .ok (.getfield 9, 3) := by decide +kernel
theorem dX3_copyFrom_25 : decode cX3_copyFrom 25 = .ok (.iload_n 2, 1) := by decide +kernel
theorem dX3_copyFrom_26 : decode cX3_copyFrom 26 = .ok (.iaload, 1) := by decide +kernel
theorem dX3_copyFrom_27 : decode cX3_copyFrom 27 = .ok (.iastore, 1) := by decide +kernel
theorem dX3_copyFrom_28 : decode cX3_copyFrom 28 = .ok (.iinc 2 1, 3) := by decide +kernel
theorem dX3_copyFrom_31 : decode cX3_copyFrom 31 = .ok (.goto (-21), 3) := by decide +kernel
theorem dX3_copyFrom_34 : decode cX3_copyFrom 34 = .ok (.return_, 1) := by decide +kernel
set_option maxRecDepth 20000 in
theorem ggX3_firstThatFits_X3_fits : GoodIn wsX3_firstThatFits wsX3_fits := goodIn_r _ [6, 7, 8, 9, 10, 11, 12, 13, 5, 14, 15, 16] (by decide +kernel) (by decide +kernel)
set_option maxRecDepth 20000 in
theorem gX3_firstThatFits_X3_fits : GoodIn wsX3_firstThatFits (wsV RX3 27 RX3 yX3_fits wsX3_fits) := goodIn_app (goodIn_of _ (by decide +kernel)) ggX3_firstThatFits_X3_fits
theorem dX3_firstThatFits_0 : decode cX3_firstThatFits 0 = .ok (.iconst 0, 1) := by decide +kernel
theorem dX3_firstThatFits_1 : decode cX3_firstThatFits 1 = .ok (.istore 4, 2) := by decide +kernel
theorem dX3_firstThatFits_3 : decode cX3_firstThatFits 3 = .ok (.iload 4, 2) := by decide +kernel
theorem dX3_firstThatFits_5 : decode cX3_firstThatFits 5 = .ok (.aload_n 0, 1) := by decide +kernel
theorem dX3_firstThatFits_6 : decode cX3_firstThatFits 6 = .ok (.getfield 15, 3) := by decide +kernel
theorem dX3_firstThatFits_9 : decode cX3_firstThatFits 9 = .ok (.if_icmp .ge 31, 3) := by decide +kernel
theorem dX3_firstThatFits_12 : decode cX3_firstThatFits 12 = .ok (.iload 4, 2) := by decide +kernel
theorem dX3_firstThatFits_14 : decode cX3_firstThatFits 14 = .ok (.bipush 10, 2) := by decide +kernel
theorem dX3_firstThatFits_16 : decode cX3_firstThatFits 16 = .ok (.if_icmp .ge 24, 3) := by decide +kernel
theorem dX3_firstThatFits_19 : decode cX3_firstThatFits 19 = .ok (.aload_n 0, 1) := by decide +kernel
theorem dX3_firstThatFits_20 : decode cX3_firstThatFits 20 = .ok (.iload 4, 2) := by decide +kernel
theorem dX3_firstThatFits_22 : decode cX3_firstThatFits 22 = .ok (.iload_n 1, 1) := by decide +kernel
theorem dX3_firstThatFits_23 : decode cX3_firstThatFits 23 = .ok (.iload_n 2, 1) := by decide +kernel
theorem dX3_firstThatFits_24 : decode cX3_firstThatFits 24 = .ok (.iload_n 3, 1) := by decide +kernel
theorem dX3_firstThatFits_25 : decode cX3_firstThatFits 25 = .ok (.invokevirtual 27, 3) := by decide +kernel
theorem dX3_firstThatFits_28 : decode cX3_firstThatFits 28 = .ok (.ifCond .eq 6, 3) := by decide +kernel
theorem dX3_firstThatFits_31 : decode cX3_firstThatFits 31 = .ok (.iload 4, 2) := by decide +kernel
theorem dX3_firstThatFits_33 : decode cX3_firstThatFits 33 = .ok (.ireturn, 1) := by decide +kernel
theorem dX3_firstThatFits_34 : decode cX3_firstThatFits 34 = .ok (.iinc 4 1, 3) := by decide +kernel
theorem dX3_firstThatFits_37 : decode cX3_firstThatFits 37 = .ok (.goto (-34), 3) := by decide +kernel
theorem dX3_firstThatFits_40 : decode cX3_firstThatFits 40 = .ok (.bipush (-6), 2) := by decide +kernel
theorem dX3_firstThatFits_42 : decode cX3_firstThatFits 42 = .ok (.ireturn, 1) := by decide +kernel
set_option maxRecDepth 20000 in
theorem ggX3_fits_X0_at : GoodIn wsX3_fits wsX0_at := goodIn_r _ [5] (by decide +kernel) (by decide +kernel)
set_option maxRecDepth 20000 in
theorem gX3_fits_X0_at : GoodIn wsX3_fits (va_wsS RX3 31 yX0_at wsX0_at) := goodIn_app (goodIn_of _ (by decide +kernel)) ggX3_fits_X0_at
set_option maxRecDepth 20000 in
theorem ggX3_fits_X3_isSo : GoodIn wsX3_fits wsX3_isSo := goodIn_r _ [9] (by decide +kernel) (by decide +kernel)
set_option maxRecDepth 20000 in
theorem gX3_fits_X3_isSo : GoodIn wsX3_fits (va_wsS RX3 37 yX3_isSo wsX3_isSo) := goodIn_app (goodIn_of _ (by decide +kernel)) ggX3_fits_X3_isSo
theorem dX3_fits_0 : decode cX3_fits 0 = .ok (.aload_n 0, 1) := by decide +kernel
theorem dX3_fits_1 : decode cX3_fits 1 = .ok (.getfield 9, 3) := by decide +kernel
theorem dX3_fits_4 : decode cX3_fits 4 = .ok (.iload_n 1, 1) := by decide +kernel
theorem dX3_fits_5 : decode cX3_fits 5 = .ok (.bipush 6, 2) := by decide +kernel
theorem dX3_fits_7 : decode cX3_fits 7 = .ok (.imul, 1) := by decide +kernel
theorem dX3_fits_8 : decode cX3_fits 8 = .ok (.iconst 0, 1) := by decide +kernel
theorem dX3_fits_9 : decode cX3_fits 9 = .ok (.iadd, 1) := by decide +kernel
theorem dX3_fits_10 : decode cX3_fits 10 = .ok (.iaload, 1) := by decide +kernel
theorem dX3_fits_11 : decode cX3_fits 11 = .ok (.istore 5, 2) := by decide +kernel
theorem dX3_fits_13 : decode cX3_fits 13 = .ok (.iload 5, 2) := by decide +kernel
theorem dX3_fits_15 : decode cX3_fits 15 = .ok (.ifCond .eq 11, 3) := by decide +kernel
theorem dX3_fits_18 : decode cX3_fits 18 = .ok (.iload 5, 2) := by decide +kernel
theorem dX3_fits_20 : decode cX3_fits 20 = .ok (.iload_n 2, 1) := by decide +kernel
theorem dX3_fits_21 : decode cX3_fits 21 = .ok (.if_icmp .eq 5, 3) := by decide +kernel
theorem dX3_fits_24 : decode cX3_fits 24 = .ok (.iconst 0, 1) := by decide +kernel
theorem dX3_fits_25 : decode cX3_fits 25 = .ok (.ireturn, 1) := by decide +kernel
theorem dX3_fits_26 : decode cX3_fits 26 = .ok (.aload_n 0, 1) := by decide +kernel
theorem dX3_fits_27 : decode cX3_fits 27 = .ok (.getfield 9, 3) := by decide +kernel
theorem dX3_fits_30 : decode cX3_fits 30 = .ok (.iload_n 1, 1) := by decide +kernel
theorem dX3_fits_31 : decode cX3_fits 31 = .ok (.bipush 6, 2) := by decide +kernel
theorem dX3_fits_33 : decode cX3_fits 33 = .ok (.imul, 1) := by decide +kernel
theorem dX3_fits_34 : decode cX3_fits 34 = .ok (.iconst 5, 1) := by decide +kernel
theorem dX3_fits_35 : decode cX3_fits 35 = .ok (.iadd, 1) := by decide +kernel
theorem dX3_fits_36 : decode cX3_fits 36 = .ok (.iaload, 1) := by decide +kernel
theorem dX3_fits_37 : decode cX3_fits 37 = .ok (.istore 6, 2) := by decide +kernel
theorem dX3_fits_39 : decode cX3_fits 39 = .ok (.iload 6, 2) := by decide +kernel
theorem dX3_fits_41 : decode cX3_fits 41 = .ok (.iconst 2, 1) := by decide +kernel
theorem dX3_fits_42 : decode cX3_fits 42 = .ok (.if_icmp .eq 12, 3) := by decide +kernel
theorem dX3_fits_45 : decode cX3_fits 45 = .ok (.iload 6, 2) := by decide +kernel
theorem dX3_fits_47 : decode cX3_fits 47 = .ok (.iload 4, 2) := by decide +kernel
theorem dX3_fits_49 : decode cX3_fits 49 = .ok (.if_icmp .eq 5, 3) := by decide +kernel
theorem dX3_fits_52 : decode cX3_fits 52 = .ok (.iconst 0, 1) := by decide +kernel
theorem dX3_fits_53 : decode cX3_fits 53 = .ok (.ireturn, 1) := by decide +kernel
theorem dX3_fits_54 : decode cX3_fits 54 = .ok (.aload_n 0, 1) := by decide +kernel
theorem dX3_fits_55 : decode cX3_fits 55 = .ok (.getfield 9, 3) := by decide +kernel
theorem dX3_fits_58 : decode cX3_fits 58 = .ok (.iload_n 1, 1) := by decide +kernel
theorem dX3_fits_59 : decode cX3_fits 59 = .ok (.bipush 6, 2) := by decide +kernel
theorem dX3_fits_61 : decode cX3_fits 61 = .ok (.imul, 1) := by decide +kernel
theorem dX3_fits_62 : decode cX3_fits 62 = .ok (.iconst 1, 1) := by decide +kernel
theorem dX3_fits_63 : decode cX3_fits 63 = .ok (.iadd, 1) := by decide +kernel
theorem dX3_fits_64 : decode cX3_fits 64 = .ok (.iaload, 1) := by decide +kernel
theorem dX3_fits_65 : decode cX3_fits 65 = .ok (.istore 7, 2) := by decide +kernel
theorem dX3_fits_67 : decode cX3_fits 67 = .ok (.iload 7, 2) := by decide +kernel
theorem dX3_fits_69 : decode cX3_fits 69 = .ok (.iload_n 2, 1) := by decide +kernel
theorem dX3_fits_70 : decode cX3_fits 70 = .ok (.if_icmp .lt 5, 3) := by decide +kernel
theorem dX3_fits_73 : decode cX3_fits 73 = .ok (.iconst 0, 1) := by decide +kernel
theorem dX3_fits_74 : decode cX3_fits 74 = .ok (.ireturn, 1) := by decide +kernel
theorem dX3_fits_75 : decode cX3_fits 75 = .ok (.iload_n 3, 1) := by decide +kernel
theorem dX3_fits_76 : decode cX3_fits 76 = .ok (.iload_n 2, 1) := by decide +kernel
theorem dX3_fits_77 : decode cX3_fits 77 = .ok (.iload 7, 2) := by decide +kernel
theorem dX3_fits_79 : decode cX3_fits 79 = .ok (.invokestatic 31, 3) := by decide +kernel
theorem dX3_fits_82 : decode cX3_fits 82 = .ok (.aload_n 0, 1) := by decide +kernel
theorem dX3_fits_83 : decode cX3_fits 83 = .ok (.getfield 9, 3) := by decide +kernel
theorem dX3_fits_86 : decode cX3_fits 86 = .ok (.iload_n 1, 1) := by decide +kernel
theorem dX3_fits_87 : decode cX3_fits 87 = .ok (.bipush 6, 2) := by decide +kernel
theorem dX3_fits_89 : decode cX3_fits 89 = .ok (.imul, 1) := by decide +kernel
theorem dX3_fits_90 : decode cX3_fits 90 = .ok (.iconst 2, 1) := by decide +kernel
theorem dX3_fits_91 : decode cX3_fits 91 = .ok (.iadd, 1) := by decide +kernel
theorem dX3_fits_92 : decode cX3_fits 92 = .ok (.iaload, 1) := by decide +kernel
theorem dX3_fits_93 : decode cX3_fits 93 = .ok (.aload_n 0, 1) := by decide +kernel
theorem dX3_fits_94 : decode cX3_fits 94 = .ok (.getfield 9, 3) := by decide +kernel
theorem dX3_fits_97 : decode cX3_fits 97 = .ok (.iload_n 1, 1) := by decide +kernel
theorem dX3_fits_98 : decode cX3_fits 98 = .ok (.bipush 6, 2) := by decide +kernel
theorem dX3_fits_100 : decode cX3_fits 100 = .ok (.imul, 1) := by decide +kernel
theorem dX3_fits_101 : decode cX3_fits 101 = .ok (.iconst 3, 1) := by decide +kernel
theorem dX3_fits_102 : decode cX3_fits 102 = .ok (.iadd, 1) := by decide +kernel
theorem dX3_fits_103 : decode cX3_fits 103 = .ok (.iaload, 1) := by decide +kernel
theorem dX3_fits_104 : decode cX3_fits 104 = .ok (.invokestatic 37, 3) := by decide +kernel
theorem dX3_fits_107 : decode cX3_fits 107 = .ok (.ireturn, 1) := by decide +kernel
theorem dX3_isSo_0 : decode cX3_isSo 0 = .ok (.iload_n 1, 1) := by decide +kernel
theorem dX3_isSo_1 : decode cX3_isSo 1 = .ok (.ifCond .ne 14, 3) := by decide +kernel
theorem dX3_isSo_4 : decode cX3_isSo 4 = .ok (.iload_n 0, 1) := by decide +kernel
theorem dX3_isSo_5 : decode cX3_isSo 5 = .ok (.iload_n 2, 1) := by decide +kernel
theorem dX3_isSo_6 : decode cX3_isSo 6 = .ok (.if_icmp .ge 7, 3) := by decide +kernel
theorem dX3_isSo_9 : decode cX3_isSo 9 = .ok (.iconst 1, 1) := by decide +kernel
theorem dX3_isSo_10 : decode cX3_isSo 10 = .ok (.goto 4, 3) := by decide +kernel
theorem dX3_isSo_13 : decode cX3_isSo 13 = .ok (.iconst 0, 1) := by decide +kernel
theorem dX3_isSo_14 : decode cX3_isSo 14 = .ok (.ireturn, 1) := by decide +kernel
theorem dX3_isSo_15 : decode cX3_isSo 15 = .ok (.iload_n 1, 1) := by decide +kernel
theorem dX3_isSo_16 : decode cX3_isSo 16 = .ok (.iconst 1, 1) := by decide +kernel
theorem dX3_isSo_17 : decode cX3_isSo 17 = .ok (.if_icmp .ne 16, 3) := by decide +kernel
theorem dX3_isSo_20 : decode cX3_isSo 20 = .ok (.iload_n 0, 1) := by decide +kernel
theorem dX3_isSo_21 : decode cX3_isSo 21 = .ok (.iload_n 2, 1) := by decide +kernel
theorem dX3_isSo_22 : decode cX3_isSo 22 = .ok (.if_icmp .ne 7, 3) := by decide +kernel
theorem dX3_isSo_25 : decode cX3_isSo 25 = .ok (.iconst 1, 1) := by decide +kernel
theorem dX3_isSo_26 : decode cX3_isSo 26 = .ok (.goto 17, 3) := by decide +kernel
theorem dX3_isSo_29 : decode cX3_isSo 29 = .ok (.iconst 0, 1) := by decide +kernel
theorem dX3_isSo_30 : decode cX3_isSo 30 = .ok (.goto 13, 3) := by decide +kernel
theorem dX3_isSo_33 : decode cX3_isSo 33 = .ok (.iload_n 0, 1) := by decide +kernel
theorem dX3_isSo_34 : decode cX3_isSo 34 = .ok (.iload_n 2, 1) := by decide +kernel
theorem dX3_isSo_35 : decode cX3_isSo 35 = .ok (.if_icmp .le 7, 3) := by decide +kernel
theorem dX3_isSo_38 : decode cX3_isSo 38 = .ok (.iconst 1, 1) := by decide +kernel
theorem dX3_isSo_39 : decode cX3_isSo 39 = .ok (.goto 4, 3) := by decide +kernel
theorem dX3_isSo_42 : decode cX3_isSo 42 = .ok (.iconst 0, 1) := by decide +kernel
theorem dX3_isSo_43 : decode cX3_isSo 43 = .ok (.ireturn, 1) := by decide +kernel
set_option maxRecDepth 20000 in
theorem ggX4_init_X3_init : GoodIn wsX4_init wsX3_init := goodIn_r _ [12, 13, 2, 3, 4, 14, 18, 19] (by decide +kernel) (by decide +kernel)
set_option maxRecDepth 20000 in
theorem gX4_init_X3_init_n17 : GoodIn wsX4_init (wsX3_init) := ggX4_init_X3_init
theorem dX4_init_0 : decode cX4_init 0 = .ok (.aload_n 0, 1) := by decide +kernel
theorem dX4_init_1 : decode cX4_init 1 = .ok (.invokespecial 3, 3) := by decide +kernel
theorem dX4_init_4 : decode cX4_init 4 = .ok (.aload_n 0, 1) := by decide +kernel
theorem dX4_init_5 : decode cX4_init 5 = .ok (.bipush 10, 2) := by decide +kernel
theorem dX4_init_7 : decode cX4_init 7 = .ok (.newarray .int, 2) := by decide +kernel
theorem dX4_init_9 : decode cX4_init 9 = .ok (.putfield 9, 3) := by decide +kernel
theorem dX4_init_12 : decode cX4_init 12 = .ok (.aload_n 0, 1) := by decide +kernel
theorem dX4_init_13 : decode cX4_init 13 = .ok (.new 15, 3) := by decide +kernel
theorem dX4_init_16 : decode cX4_init 16 = .ok (.dup, 1) := by decide +kernel
theorem dX4_init_17 : decode cX4_init 17 = .ok (.invokespecial 17, 3) := by decide +kernel
theorem dX4_init_20 : decode cX4_init 20 = .ok (.putfield 18, 3) := by decide +kernel
theorem dX4_init_23 : decode cX4_init 23 = .ok (.aload_n 0, 1) := by decide +kernel
theorem dX4_init_24 : decode cX4_init 24 = .ok (.bipush 8, 2) := by decide +kernel
theorem dX4_init_26 : decode cX4_init 26 = .ok (.putfield 22, 3) := by decide +kernel
theorem dX4_init_29 : decode cX4_init 29 = .ok (.return_, 1) := by decide +kernel
theorem dX4_hasCell_0 : decode cX4_hasCell 0 = .ok (.iload_n 1, 1) := by decide +kernel
theorem dX4_hasCell_1 : decode cX4_hasCell 1 = .ok (.ifCond .lt 21, 3) := by decide +kernel
theorem dX4_hasCell_4 : decode cX4_hasCell 4 = .ok (.iload_n 1, 1) := by decide +kernel
theorem dX4_hasCell_5 : decode cX4_hasCell 5 = .ok (.aload_n 0, 1) := by decide +kernel
theorem dX4_hasCell_6 : decode cX4_hasCell 6 = .ok (.getfield 22, 3) := by decide +kernel
theorem dX4_hasCell_9 : decode cX4_hasCell 9 = .ok (.if_icmp .ge 13, 3) := by decide +kernel
theorem dX4_hasCell_12 : decode cX4_hasCell 12 = .ok (.iload_n 1, 1) := by decide +kernel
theorem dX4_hasCell_13 : decode cX4_hasCell 13 = .ok (.bipush 10, 2) := by decide +kernel
theorem dX4_hasCell_15 : decode cX4_hasCell 15 = .ok (.if_icmp .ge 7, 3) := by decide +kernel
theorem dX4_hasCell_18 : decode cX4_hasCell 18 = .ok (.iconst 1, 1) := by decide +kernel
theorem dX4_hasCell_19 : decode cX4_hasCell 19 = .ok (.goto 4, 3) := by decide +kernel
theorem dX4_hasCell_22 : decode cX4_hasCell 22 = .ok (.iconst 0, 1) := by decide +kernel
theorem dX4_hasCell_23 : decode cX4_hasCell 23 = .ok (.ireturn, 1) := by decide +kernel
set_option maxRecDepth 20000 in
theorem ggX4_walkersOn_X4_hasCell : GoodIn wsX4_walkersOn wsX4_hasCell := goodIn_r _ [6, 7, 8, 9, 10] (by decide +kernel) (by decide +kernel)
set_option maxRecDepth 20000 in
theorem gX4_walkersOn_X4_hasCell : GoodIn wsX4_walkersOn (wsV RX4 26 RX4 yX4_hasCell wsX4_hasCell) := goodIn_app (goodIn_of _ (by decide +kernel)) ggX4_walkersOn_X4_hasCell
theorem dX4_walkersOn_0 : decode cX4_walkersOn 0 = .ok (.aload_n 0, 1) := by decide +kernel
theorem dX4_walkersOn_1 : decode cX4_walkersOn 1 = .ok (.iload_n 1, 1) := by decide +kernel
theorem dX4_walkersOn_2 : decode cX4_walkersOn 2 = .ok (.invokevirtual 26, 3) := by decide +kernel
theorem dX4_walkersOn_5 : decode cX4_walkersOn 5 = .ok (.ifCond .eq 12, 3) := by decide +kernel
theorem dX4_walkersOn_8 : decode cX4_walkersOn 8 = .ok (.aload_n 0, 1) := by decide +kernel
theorem dX4_walkersOn_9 : decode cX4_walkersOn 9 = .ok (.getfield 9, 3) := by decide +kernel
theorem dX4_walkersOn_12 : decode cX4_walkersOn 12 = .ok (.iload_n 1, 1) := by decide +kernel
theorem dX4_walkersOn_13 : decode cX4_walkersOn 13 = .ok (.iaload, 1) := by decide +kernel
theorem dX4_walkersOn_14 : decode cX4_walkersOn 14 = .ok (.goto 4, 3) := by decide +kernel
theorem dX4_walkersOn_17 : decode cX4_walkersOn 17 = .ok (.iconst 0, 1) := by decide +kernel
theorem dX4_walkersOn_18 : decode cX4_walkersOn 18 = .ok (.ireturn, 1) := by decide +kernel
set_option maxRecDepth 20000 in
theorem ggX4_put_X4_hasCell : GoodIn wsX4_put wsX4_hasCell := goodIn_r _ [6, 7, 8, 9, 10] (by decide +kernel) (by decide +kernel)
set_option maxRecDepth 20000 in
theorem gX4_put_X4_hasCell : GoodIn wsX4_put (wsV RX4 26 RX4 yX4_hasCell wsX4_hasCell) := goodIn_app (goodIn_of _ (by decide +kernel)) ggX4_put_X4_hasCell
theorem dX4_put_0 : decode cX4_put 0 = .ok (.aload_n 0, 1) := by decide +kernel
theorem dX4_put_1 : decode cX4_put 1 = .ok (.iload_n 1, 1) := by decide +kernel
theorem dX4_put_2 : decode cX4_put 2 = .ok (.invokevirtual 26, 3) := by decide +kernel
theorem dX4_put_5 : decode cX4_put 5 = .ok (.ifCond .eq 10, 3) := by decide +kernel
theorem dX4_put_8 : decode cX4_put 8 = .ok (.aload_n 0, 1) := by decide +kernel
theorem dX4_put_9 : decode cX4_put 9 = .ok (.getfield 9, 3) := by decide +kernel
theorem dX4_put_12 : decode cX4_put 12 = .ok (.iload_n 1, 1) := by decide +kernel
theorem dX4_put_13 : decode cX4_put 13 = .ok (.iload_n 2, 1) := by decide +kernel
theorem dX4_put_14 : decode cX4_put 14 = .ok (.iastore, 1) := by decide +kernel
theorem dX4_put_15 : decode cX4_put 15 = .ok (.return_, 1) := by decide +kernel
theorem dX4_empty_0 : decode cX4_empty 0 = .ok (.aload_n 0, 1) := by decide +kernel
theorem dX4_empty_1 : decode cX4_empty 1 = .ok (.iload_n 1, 1) := by decide +kernel
theorem dX4_empty_2 : decode cX4_empty 2 = .ok (.putfield 22, 3) := by decide +kernel
theorem dX4_empty_5 : decode cX4_empty 5 = .ok (.iconst 0, 1) := by decide +kernel
theorem dX4_empty_6 : decode cX4_empty 6 = .ok (.istore_n 2, 1) := by decide +kernel
theorem dX4_empty_7 : decode cX4_empty 7 = .ok (.iload_n 2, 1) := by decide +kernel
theorem dX4_empty_8 : decode cX4_empty 8 = .ok (.bipush 10, 2) := by decide +kernel
theorem dX4_empty_10 : decode cX4_empty 10 = .ok (.if_icmp .ge 16, 3) := by decide +kernel
theorem dX4_empty_13 : decode cX4_empty 13 = .ok (.aload_n 0, 1) := by decide +kernel
theorem dX4_empty_14 : decode cX4_empty 14 = .ok (.getfield 9, 3) := by decide +kernel
theorem dX4_empty_17 : decode cX4_empty 17 = .ok (.iload_n 2, 1) := by decide +kernel
theorem dX4_empty_18 : decode cX4_empty 18 = .ok (.iconst 0, 1) := by decide +kernel
theorem dX4_empty_19 : decode cX4_empty 19 = .ok (.iastore, 1) := by decide +kernel
theorem dX4_empty_20 : decode cX4_empty 20 = .ok (.iinc 2 1, 3) := by decide +kernel
theorem dX4_empty_23 : decode cX4_empty 23 = .ok (.goto (-16), 3) := by decide +kernel
theorem dX4_empty_26 : decode cX4_empty 26 = .ok (.return_, 1) := by decide +kernel
set_option maxRecDepth 20000 in
theorem ggX4_walkersInAll_X4_walkersOn : GoodIn wsX4_walkersInAll wsX4_walkersOn := goodIn_r _ [6, 7, 8, 9, 10, 5, 11, 1, 12, 13, 14] (by decide +kernel) (by decide +kernel)
set_option maxRecDepth 20000 in
theorem gX4_walkersInAll_X4_walkersOn : GoodIn wsX4_walkersInAll (wsV RX4 30 RX4 yX4_walkersOn wsX4_walkersOn) := goodIn_app (goodIn_of _ (by decide +kernel)) ggX4_walkersInAll_X4_walkersOn
theorem dX4_walkersInAll_0 : decode cX4_walkersInAll 0 = .ok (.iconst 0, 1) := by decide +kernel
theorem dX4_walkersInAll_1 : decode cX4_walkersInAll 1 = .ok (.istore_n 1, 1) := by decide +kernel
theorem dX4_walkersInAll_2 : decode cX4_walkersInAll 2 = .ok (.iconst 0, 1) := by decide +kernel
theorem dX4_walkersInAll_3 : decode cX4_walkersInAll 3 = .ok (.istore_n 2, 1) := by decide +kernel
theorem dX4_walkersInAll_4 : decode cX4_walkersInAll 4 = .ok (.iload_n 2, 1) := by decide +kernel
theorem dX4_walkersInAll_5 : decode cX4_walkersInAll 5 = .ok (.aload_n 0, 1) := by decide +kernel
theorem dX4_walkersInAll_6 : decode cX4_walkersInAll 6 = .ok (.getfield 22, 3) := by decide +kernel
theorem dX4_walkersInAll_9 : decode cX4_walkersInAll 9 = .ok (.if_icmp .ge 17, 3) := by decide +kernel
theorem dX4_walkersInAll_12 : decode cX4_walkersInAll 12 = .ok (.iload_n 1, 1) := by decide +kernel
theorem dX4_walkersInAll_13 : decode cX4_walkersInAll 13 = .ok (.aload_n 0, 1) := by decide +kernel
theorem dX4_walkersInAll_14 : decode cX4_walkersInAll 14 = .ok (.iload_n 2, 1) := by decide +kernel
theorem dX4_walkersInAll_15 : decode cX4_walkersInAll 15 = .ok (.invokevirtual 30, 3) := by decide +kernel
theorem dX4_walkersInAll_18 : decode cX4_walkersInAll 18 = .ok (.iadd, 1) := by decide +kernel
theorem dX4_walkersInAll_19 : decode cX4_walkersInAll 19 = .ok (.istore_n 1, 1) := by decide +kernel
theorem dX4_walkersInAll_20 : decode cX4_walkersInAll 20 = .ok (.iinc 2 1, 3) := by decide +kernel
theorem dX4_walkersInAll_23 : decode cX4_walkersInAll 23 = .ok (.goto (-19), 3) := by decide +kernel
theorem dX4_walkersInAll_26 : decode cX4_walkersInAll 26 = .ok (.iload_n 1, 1) := by decide +kernel
theorem dX4_walkersInAll_27 : decode cX4_walkersInAll 27 = .ok (.ireturn, 1) := by decide +kernel
set_option maxRecDepth 20000 in
theorem ggX4_stands_X4_cellsWithAtLeast : GoodIn wsX4_stands wsX4_cellsWithAtLeast := goodIn_r _ [5, 6, 7, 8, 9, 4, 10, 11, 12, 13, 14, 15, 16, 17, 18] (by decide +kernel) (by decide +kernel)
set_option maxRecDepth 20000 in
theorem gX4_stands_X4_cellsWithAtLeast : GoodIn wsX4_stands (wsV RX4 34 RX4 yX4_cellsWithAtLeast wsX4_cellsWithAtLeast) := goodIn_app (goodIn_of _ (by decide +kernel)) ggX4_stands_X4_cellsWithAtLeast
theorem dX4_stands_0 : decode cX4_stands 0 = .ok (.aload_n 0, 1) := by decide +kernel
theorem dX4_stands_1 : decode cX4_stands 1 = .ok (.iconst 1, 1) := by decide +kernel
theorem dX4_stands_2 : decode cX4_stands 2 = .ok (.invokevirtual 34, 3) := by decide +kernel
theorem dX4_stands_5 : decode cX4_stands 5 = .ok (.ireturn, 1) := by decide +kernel
set_option maxRecDepth 20000 in
theorem ggX4_towers_X4_cellsWithAtLeast : GoodIn wsX4_towers wsX4_cellsWithAtLeast := goodIn_r _ [5, 6, 7, 8, 9, 4, 10, 11, 12, 13, 14, 15, 16, 17, 18] (by decide +kernel) (by decide +kernel)
set_option maxRecDepth 20000 in
theorem gX4_towers_X4_cellsWithAtLeast : GoodIn wsX4_towers (wsV RX4 34 RX4 yX4_cellsWithAtLeast wsX4_cellsWithAtLeast) := goodIn_app (goodIn_of _ (by decide +kernel)) ggX4_towers_X4_cellsWithAtLeast
theorem dX4_towers_0 : decode cX4_towers 0 = .ok (.aload_n 0, 1) := by decide +kernel
theorem dX4_towers_1 : decode cX4_towers 1 = .ok (.iconst 2, 1) := by decide +kernel
theorem dX4_towers_2 : decode cX4_towers 2 = .ok (.invokevirtual 34, 3) := by decide +kernel
theorem dX4_towers_5 : decode cX4_towers 5 = .ok (.ireturn, 1) := by decide +kernel
set_option maxRecDepth 20000 in
theorem ggX4_cellsWithAtLeast_X4_walkersOn : GoodIn wsX4_cellsWithAtLeast wsX4_walkersOn := goodIn_r _ [6, 7, 8, 9, 10, 5, 11, 1, 12, 13, 14] (by decide +kernel) (by decide +kernel)
set_option maxRecDepth 20000 in
theorem gX4_cellsWithAtLeast_X4_walkersOn : GoodIn wsX4_cellsWithAtLeast (wsV RX4 30 RX4 yX4_walkersOn wsX4_walkersOn) := goodIn_app (goodIn_of _ (by decide +kernel)) ggX4_cellsWithAtLeast_X4_walkersOn
theorem dX4_cellsWithAtLeast_0 : decode cX4_cellsWithAtLeast 0 = .ok (.iconst 0, 1) := by decide +kernel
theorem dX4_cellsWithAtLeast_1 : decode cX4_cellsWithAtLeast 1 = .ok (.istore_n 2, 1) := by decide +kernel
theorem dX4_cellsWithAtLeast_2 : decode cX4_cellsWithAtLeast 2 = .ok (.iconst 0, 1) := by decide +kernel
theorem dX4_cellsWithAtLeast_3 : decode cX4_cellsWithAtLeast 3 = .ok (.istore_n 3, 1) := by decide +kernel
theorem dX4_cellsWithAtLeast_4 : decode cX4_cellsWithAtLeast 4 = .ok (.iload_n 3, 1) := by decide +kernel
theorem dX4_cellsWithAtLeast_5 : decode cX4_cellsWithAtLeast 5 = .ok (.aload_n 0, 1) := by decide +kernel
theorem dX4_cellsWithAtLeast_6 : decode cX4_cellsWithAtLeast 6 = .ok (.getfield 22, 3) := by decide +kernel
theorem dX4_cellsWithAtLeast_9 : decode cX4_cellsWithAtLeast 9 = .ok (.if_icmp .ge 24, 3) := by decide +kernel
theorem dX4_cellsWithAtLeast_12 : decode cX4_cellsWithAtLeast 12 = .ok (.aload_n 0, 1) := by decide +kernel
theorem dX4_cellsWithAtLeast_13 : decode cX4_cellsWithAtLeast 13 = .ok (.iload_n 3, 1) := by decide +kernel
theorem dX4_cellsWithAtLeast_14 : decode cX4_cellsWithAtLeast 14 = .ok (.invokevirtual 30, 3) := by decide +kernel
theorem dX4_cellsWithAtLeast_17 : decode cX4_cellsWithAtLeast 17 = .ok (.iload_n 1, 1) := by decide +kernel
theorem dX4_cellsWithAtLeast_18 : decode cX4_cellsWithAtLeast 18 = .ok (.if_icmp .lt 9, 3) := by decide +kernel
theorem dX4_cellsWithAtLeast_21 : decode cX4_cellsWithAtLeast 21 = .ok (.iload_n 2, 1) := by decide +kernel
theorem dX4_cellsWithAtLeast_22 : decode cX4_cellsWithAtLeast 22 = .ok (.iconst 1, 1) := by decide +kernel
theorem dX4_cellsWithAtLeast_23 : decode cX4_cellsWithAtLeast 23 = .ok (.iload_n 3, 1) := by decide +kernel
theorem dX4_cellsWithAtLeast_24 : decode cX4_cellsWithAtLeast 24 = .ok (.ishl, 1) := by decide +kernel
theorem dX4_cellsWithAtLeast_25 : decode cX4_cellsWithAtLeast 25 = .ok (.ior, 1) := by decide +kernel
theorem dX4_cellsWithAtLeast_26 : decode cX4_cellsWithAtLeast 26 = .ok (.istore_n 2, 1) := by decide +kernel
theorem dX4_cellsWithAtLeast_27 : decode cX4_cellsWithAtLeast 27 = .ok (.iinc 3 1, 3) := by decide +kernel
theorem dX4_cellsWithAtLeast_30 : decode cX4_cellsWithAtLeast 30 = .ok (.goto (-26), 3) := by decide +kernel
theorem dX4_cellsWithAtLeast_33 : decode cX4_cellsWithAtLeast 33 = .ok (.iload_n 2, 1) := by decide +kernel
theorem dX4_cellsWithAtLeast_34 : decode cX4_cellsWithAtLeast 34 = .ok (.ireturn, 1) := by decide +kernel
set_option maxRecDepth 20000 in
theorem ggX4_copyFrom_X3_copyFrom : GoodIn wsX4_copyFrom wsX3_copyFrom := goodIn_r _ [8, 9, 10, 14, 15] (by decide +kernel) (by decide +kernel)
set_option maxRecDepth 20000 in
theorem gX4_copyFrom_X3_copyFrom : GoodIn wsX4_copyFrom (wsV RX4 37 RX3 yX3_copyFrom wsX3_copyFrom) := goodIn_app (goodIn_of _ (by decide +kernel)) ggX4_copyFrom_X3_copyFrom
theorem dX4_copyFrom_0 : decode cX4_copyFrom 0 = .ok (.aload_n 0, 1) := by decide +kernel
theorem dX4_copyFrom_1 : decode cX4_copyFrom 1 = .ok (.aload_n 1, 1) := by decide +kernel
theorem dX4_copyFrom_2 : decode cX4_copyFrom 2 = .ok (.getfield 22, 3) := by decide +kernel
theorem dX4_copyFrom_5 : decode cX4_copyFrom 5 = .ok (.putfield 22, 3) := by decide +kernel
theorem dX4_copyFrom_8 : decode cX4_copyFrom 8 = .ok (.iconst 0, 1) := by decide +kernel
theorem dX4_copyFrom_9 : decode cX4_copyFrom 9 = .ok (.istore_n 2, 1) := by decide +kernel
theorem dX4_copyFrom_10 : decode cX4_copyFrom 10 = .ok (.iload_n 2, 1) := by decide +kernel
theorem dX4_copyFrom_11 : decode cX4_copyFrom 11 = .ok (.bipush 10, 2) := by decide +kernel
theorem dX4_copyFrom_13 : decode cX4_copyFrom 13 = .ok (.if_icmp .ge 21, 3) := by decide +kernel
theorem dX4_copyFrom_16 : decode cX4_copyFrom 16 = .ok (.aload_n 0, 1) := by decide +kernel
theorem dX4_copyFrom_17 : decode cX4_copyFrom 17 = .ok (.getfield 9, 3) := by decide +kernel
theorem dX4_copyFrom_20 : decode cX4_copyFrom 20 = .ok (.iload_n 2, 1) := by decide +kernel
theorem dX4_copyFrom_21 : decode cX4_copyFrom 21 = .ok (.aload_n 1, 1) := by decide +kernel
theorem dX4_copyFrom_22 : decode cX4_copyFrom 22 = .ok (.getfield 9, 3) := by decide +kernel
theorem dX4_copyFrom_25 : decode cX4_copyFrom 25 = .ok (.iload_n 2, 1) := by decide +kernel
theorem dX4_copyFrom_26 : decode cX4_copyFrom 26 = .ok (.iaload, 1) := by decide +kernel
theorem dX4_copyFrom_27 : decode cX4_copyFrom 27 = .ok (.iastore, 1) := by decide +kernel
theorem dX4_copyFrom_28 : decode cX4_copyFrom 28 = .ok (.iinc 2 1, 3) := by decide +kernel
theorem dX4_copyFrom_31 : decode cX4_copyFrom 31 = .ok (.goto (-21), 3) := by decide +kernel
theorem dX4_copyFrom_34 : decode cX4_copyFrom 34 = .ok (.aload_n 0, 1) := by decide +kernel
theorem dX4_copyFrom_35 : decode cX4_copyFrom 35 = .ok (.getfield 18, 3) := by decide +kernel
theorem dX4_copyFrom_38 : decode cX4_copyFrom 38 = .ok (.aload_n 1, 1) := by decide +kernel
theorem dX4_copyFrom_39 : decode cX4_copyFrom 39 = .ok (.getfield 18, 3) := by decide +kernel
theorem dX4_copyFrom_42 : decode cX4_copyFrom 42 = .ok (.invokevirtual 37, 3) := by decide +kernel
theorem dX4_copyFrom_45 : decode cX4_copyFrom 45 = .ok (.return_, 1) := by decide +kernel
theorem dX5_has_0 : decode cX5_has 0 = .ok (.iload_n 1, 1) := by decide +kernel
theorem dX5_has_1 : decode cX5_has 1 = .ok (.ifCond .lt 21, 3) := by decide +kernel
theorem dX5_has_4 : decode cX5_has 4 = .ok (.iload_n 1, 1) := by decide +kernel
theorem dX5_has_5 : decode cX5_has 5 = .ok (.bipush 10, 2) := by decide +kernel
theorem dX5_has_7 : decode cX5_has 7 = .ok (.if_icmp .ge 15, 3) := by decide +kernel
theorem dX5_has_10 : decode cX5_has 10 = .ok (.iload_n 0, 1) := by decide +kernel
theorem dX5_has_11 : decode cX5_has 11 = .ok (.iload_n 1, 1) := by decide +kernel
theorem dX5_has_12 : decode cX5_has 12 = .ok (.ishr, 1) := by decide +kernel
theorem dX5_has_13 : decode cX5_has 13 = .ok (.iconst 1, 1) := by decide +kernel
theorem dX5_has_14 : decode cX5_has 14 = .ok (.iand, 1) := by decide +kernel
theorem dX5_has_15 : decode cX5_has 15 = .ok (.ifCond .eq 7, 3) := by decide +kernel
theorem dX5_has_18 : decode cX5_has 18 = .ok (.iconst 1, 1) := by decide +kernel
theorem dX5_has_19 : decode cX5_has 19 = .ok (.goto 4, 3) := by decide +kernel
theorem dX5_has_22 : decode cX5_has 22 = .ok (.iconst 0, 1) := by decide +kernel
theorem dX5_has_23 : decode cX5_has 23 = .ok (.ireturn, 1) := by decide +kernel
theorem dX5_way_0 : decode cX5_way 0 = .ok (.iload_n 0, 1) := by decide +kernel
theorem dX5_way_1 : decode cX5_way 1 = .ok (.iload_n 1, 1) := by decide +kernel
theorem dX5_way_2 : decode cX5_way 2 = .ok (.bipush 10, 2) := by decide +kernel
theorem dX5_way_4 : decode cX5_way 4 = .ok (.ishl, 1) := by decide +kernel
theorem dX5_way_5 : decode cX5_way 5 = .ok (.ior, 1) := by decide +kernel
theorem dX5_way_6 : decode cX5_way 6 = .ok (.ireturn, 1) := by decide +kernel
theorem dX5_standsOf_0 : decode cX5_standsOf 0 = .ok (.iload_n 0, 1) := by decide +kernel
theorem dX5_standsOf_1 : decode cX5_standsOf 1 = .ok (.sipush 1023, 3) := by decide +kernel
theorem dX5_standsOf_4 : decode cX5_standsOf 4 = .ok (.iand, 1) := by decide +kernel
theorem dX5_standsOf_5 : decode cX5_standsOf 5 = .ok (.ireturn, 1) := by decide +kernel
theorem dX5_towersOf_0 : decode cX5_towersOf 0 = .ok (.iload_n 0, 1) := by decide +kernel
theorem dX5_towersOf_1 : decode cX5_towersOf 1 = .ok (.bipush 10, 2) := by decide +kernel
theorem dX5_towersOf_3 : decode cX5_towersOf 3 = .ok (.ishr, 1) := by decide +kernel
theorem dX5_towersOf_4 : decode cX5_towersOf 4 = .ok (.ireturn, 1) := by decide +kernel
theorem dX5_cellNextTo_0 : decode cX5_cellNextTo 0 = .ok (.iload_n 2, 1) := by decide +kernel
theorem dX5_cellNextTo_1 : decode cX5_cellNextTo 1 = .ok (.ifCond .ne 18, 3) := by decide +kernel
theorem dX5_cellNextTo_4 : decode cX5_cellNextTo 4 = .ok (.iload_n 1, 1) := by decide +kernel
theorem dX5_cellNextTo_5 : decode cX5_cellNextTo 5 = .ok (.iconst 1, 1) := by decide +kernel
theorem dX5_cellNextTo_6 : decode cX5_cellNextTo 6 = .ok (.iadd, 1) := by decide +kernel
theorem dX5_cellNextTo_7 : decode cX5_cellNextTo 7 = .ok (.iload_n 0, 1) := by decide +kernel
theorem dX5_cellNextTo_8 : decode cX5_cellNextTo 8 = .ok (.if_icmp .lt 7, 3) := by decide +kernel
theorem dX5_cellNextTo_11 : decode cX5_cellNextTo 11 = .ok (.iconst 0, 1) := by decide +kernel
theorem dX5_cellNextTo_12 : decode cX5_cellNextTo 12 = .ok (.goto 6, 3) := by decide +kernel
theorem dX5_cellNextTo_15 : decode cX5_cellNextTo 15 = .ok (.iload_n 1, 1) := by decide +kernel
theorem dX5_cellNextTo_16 : decode cX5_cellNextTo 16 = .ok (.iconst 1, 1) := by decide +kernel
theorem dX5_cellNextTo_17 : decode cX5_cellNextTo 17 = .ok (.iadd, 1) := by decide +kernel
theorem dX5_cellNextTo_18 : decode cX5_cellNextTo 18 = .ok (.ireturn, 1) := by decide +kernel
theorem dX5_cellNextTo_19 : decode cX5_cellNextTo 19 = .ok (.iload_n 1, 1) := by decide +kernel
theorem dX5_cellNextTo_20 : decode cX5_cellNextTo 20 = .ok (.ifCond .gt 9, 3) := by decide +kernel
theorem dX5_cellNextTo_23 : decode cX5_cellNextTo 23 = .ok (.iload_n 0, 1) := by decide +kernel
theorem dX5_cellNextTo_24 : decode cX5_cellNextTo 24 = .ok (.iconst 1, 1) := by decide +kernel
theorem dX5_cellNextTo_25 : decode cX5_cellNextTo 25 = .ok (.isub, 1) := by decide +kernel
theorem dX5_cellNextTo_26 : decode cX5_cellNextTo 26 = .ok (.goto 6, 3) := by decide +kernel
theorem dX5_cellNextTo_29 : decode cX5_cellNextTo 29 = .ok (.iload_n 1, 1) := by decide +kernel
theorem dX5_cellNextTo_30 : decode cX5_cellNextTo 30 = .ok (.iconst 1, 1) := by decide +kernel
theorem dX5_cellNextTo_31 : decode cX5_cellNextTo 31 = .ok (.isub, 1) := by decide +kernel
theorem dX5_cellNextTo_32 : decode cX5_cellNextTo 32 = .ok (.ireturn, 1) := by decide +kernel
theorem dX5_turnedUp_0 : decode cX5_turnedUp 0 = .ok (.iload_n 1, 1) := by decide +kernel
theorem dX5_turnedUp_1 : decode cX5_turnedUp 1 = .ok (.iconst 1, 1) := by decide +kernel
theorem dX5_turnedUp_2 : decode cX5_turnedUp 2 = .ok (.ishl, 1) := by decide +kernel
theorem dX5_turnedUp_3 : decode cX5_turnedUp 3 = .ok (.iload_n 1, 1) := by decide +kernel
theorem dX5_turnedUp_4 : decode cX5_turnedUp 4 = .ok (.iload_n 0, 1) := by decide +kernel
theorem dX5_turnedUp_5 : decode cX5_turnedUp 5 = .ok (.iconst 1, 1) := by decide +kernel
theorem dX5_turnedUp_6 : decode cX5_turnedUp 6 = .ok (.isub, 1) := by decide +kernel
theorem dX5_turnedUp_7 : decode cX5_turnedUp 7 = .ok (.ishr, 1) := by decide +kernel
theorem dX5_turnedUp_8 : decode cX5_turnedUp 8 = .ok (.ior, 1) := by decide +kernel
theorem dX5_turnedUp_9 : decode cX5_turnedUp 9 = .ok (.iconst 1, 1) := by decide +kernel
theorem dX5_turnedUp_10 : decode cX5_turnedUp 10 = .ok (.iload_n 0, 1) := by decide +kernel
theorem dX5_turnedUp_11 : decode cX5_turnedUp 11 = .ok (.ishl, 1) := by decide +kernel
theorem dX5_turnedUp_12 : decode cX5_turnedUp 12 = .ok (.iconst 1, 1) := by decide +kernel
theorem dX5_turnedUp_13 : decode cX5_turnedUp 13 = .ok (.isub, 1) := by decide +kernel
theorem dX5_turnedUp_14 : decode cX5_turnedUp 14 = .ok (.iand, 1) := by decide +kernel
theorem dX5_turnedUp_15 : decode cX5_turnedUp 15 = .ok (.ireturn, 1) := by decide +kernel
theorem dX5_turnedDown_0 : decode cX5_turnedDown 0 = .ok (.iload_n 1, 1) := by decide +kernel
theorem dX5_turnedDown_1 : decode cX5_turnedDown 1 = .ok (.iconst 1, 1) := by decide +kernel
theorem dX5_turnedDown_2 : decode cX5_turnedDown 2 = .ok (.ishr, 1) := by decide +kernel
theorem dX5_turnedDown_3 : decode cX5_turnedDown 3 = .ok (.iload_n 1, 1) := by decide +kernel
theorem dX5_turnedDown_4 : decode cX5_turnedDown 4 = .ok (.iload_n 0, 1) := by decide +kernel
theorem dX5_turnedDown_5 : decode cX5_turnedDown 5 = .ok (.iconst 1, 1) := by decide +kernel
theorem dX5_turnedDown_6 : decode cX5_turnedDown 6 = .ok (.isub, 1) := by decide +kernel
theorem dX5_turnedDown_7 : decode cX5_turnedDown 7 = .ok (.ishl, 1) := by decide +kernel
theorem dX5_turnedDown_8 : decode cX5_turnedDown 8 = .ok (.ior, 1) := by decide +kernel
theorem dX5_turnedDown_9 : decode cX5_turnedDown 9 = .ok (.iconst 1, 1) := by decide +kernel
theorem dX5_turnedDown_10 : decode cX5_turnedDown 10 = .ok (.iload_n 0, 1) := by decide +kernel
theorem dX5_turnedDown_11 : decode cX5_turnedDown 11 = .ok (.ishl, 1) := by decide +kernel
theorem dX5_turnedDown_12 : decode cX5_turnedDown 12 = .ok (.iconst 1, 1) := by decide +kernel
theorem dX5_turnedDown_13 : decode cX5_turnedDown 13 = .ok (.isub, 1) := by decide +kernel
theorem dX5_turnedDown_14 : decode cX5_turnedDown 14 = .ok (.iand, 1) := by decide +kernel
theorem dX5_turnedDown_15 : decode cX5_turnedDown 15 = .ok (.ireturn, 1) := by decide +kernel
set_option maxRecDepth 20000 in
theorem ggX6_init_X2_init : GoodIn wsX6_init wsX2_init := goodIn_r _ [21, 22, 2, 3, 23, 24, 25, 26, 27, 28, 29, 54, 55, 56, 57, 58, 30, 31, 32, 33] (by decide +kernel) (by decide +kernel)
set_option maxRecDepth 20000 in
theorem gX6_init_X2_init_n11 : GoodIn wsX6_init (wsX2_init) := ggX6_init_X2_init
theorem dX6_init_0 : decode cX6_init 0 = .ok (.aload_n 0, 1) := by decide +kernel
theorem dX6_init_1 : decode cX6_init 1 = .ok (.invokespecial 3, 3) := by decide +kernel
theorem dX6_init_4 : decode cX6_init 4 = .ok (.aload_n 0, 1) := by decide +kernel
theorem dX6_init_5 : decode cX6_init 5 = .ok (.new 9, 3) := by decide +kernel
theorem dX6_init_8 : decode cX6_init 8 = .ok (.dup, 1) := by decide +kernel
theorem dX6_init_9 : decode cX6_init 9 = .ok (.invokespecial 11, 3) := by decide +kernel
theorem dX6_init_12 : decode cX6_init 12 = .ok (.putfield 12, 3) := by decide +kernel
theorem dX6_init_15 : decode cX6_init 15 = .ok (.aload_n 0, 1) := by decide +kernel
theorem dX6_init_16 : decode cX6_init 16 = .ok (.sipush 1957, 3) := by decide +kernel
theorem dX6_init_19 : decode cX6_init 19 = .ok (.newarray .int, 2) := by decide +kernel
theorem dX6_init_21 : decode cX6_init 21 = .ok (.putfield 18, 3) := by decide +kernel
theorem dX6_init_24 : decode cX6_init 24 = .ok (.aload_n 0, 1) := by decide +kernel
theorem dX6_init_25 : decode cX6_init 25 = .ok (.sipush 1024, 3) := by decide +kernel
theorem dX6_init_28 : decode cX6_init 28 = .ok (.newarray .int, 2) := by decide +kernel
theorem dX6_init_30 : decode cX6_init 30 = .ok (.putfield 22, 3) := by decide +kernel
theorem dX6_init_33 : decode cX6_init 33 = .ok (.aload_n 0, 1) := by decide +kernel
theorem dX6_init_34 : decode cX6_init 34 = .ok (.sipush 1957, 3) := by decide +kernel
theorem dX6_init_37 : decode cX6_init 37 = .ok (.newarray .int, 2) := by decide +kernel
theorem dX6_init_39 : decode cX6_init 39 = .ok (.putfield 25, 3) := by decide +kernel
theorem dX6_init_42 : decode cX6_init 42 = .ok (.aload_n 0, 1) := by decide +kernel
theorem dX6_init_43 : decode cX6_init 43 = .ok (.sipush 1957, 3) := by decide +kernel
theorem dX6_init_46 : decode cX6_init 46 = .ok (.newarray .int, 2) := by decide +kernel
theorem dX6_init_48 : decode cX6_init 48 = .ok (.putfield 28, 3) := by decide +kernel
theorem dX6_init_51 : decode cX6_init 51 = .ok (.aload_n 0, 1) := by decide +kernel
theorem dX6_init_52 : decode cX6_init 52 = .ok (.sipush 25857, 3) := by decide +kernel
theorem dX6_init_55 : decode cX6_init 55 = .ok (.newarray .int, 2) := by decide +kernel
theorem dX6_init_57 : decode cX6_init 57 = .ok (.putfield 31, 3) := by decide +kernel
theorem dX6_init_60 : decode cX6_init 60 = .ok (.aload_n 0, 1) := by decide +kernel
theorem dX6_init_61 : decode cX6_init 61 = .ok (.sipush 25857, 3) := by decide +kernel
theorem dX6_init_64 : decode cX6_init 64 = .ok (.newarray .int, 2) := by decide +kernel
theorem dX6_init_66 : decode cX6_init 66 = .ok (.putfield 34, 3) := by decide +kernel
theorem dX6_init_69 : decode cX6_init 69 = .ok (.aload_n 0, 1) := by decide +kernel
theorem dX6_init_70 : decode cX6_init 70 = .ok (.sipush 1957, 3) := by decide +kernel
theorem dX6_init_73 : decode cX6_init 73 = .ok (.newarray .int, 2) := by decide +kernel
theorem dX6_init_75 : decode cX6_init 75 = .ok (.putfield 37, 3) := by decide +kernel
theorem dX6_init_78 : decode cX6_init 78 = .ok (.aload_n 0, 1) := by decide +kernel
theorem dX6_init_79 : decode cX6_init 79 = .ok (.sipush 1957, 3) := by decide +kernel
theorem dX6_init_82 : decode cX6_init 82 = .ok (.newarray .int, 2) := by decide +kernel
theorem dX6_init_84 : decode cX6_init 84 = .ok (.putfield 40, 3) := by decide +kernel
theorem dX6_init_87 : decode cX6_init 87 = .ok (.aload_n 0, 1) := by decide +kernel
theorem dX6_init_88 : decode cX6_init 88 = .ok (.sipush 1957, 3) := by decide +kernel
theorem dX6_init_91 : decode cX6_init 91 = .ok (.newarray .int, 2) := by decide +kernel
theorem dX6_init_93 : decode cX6_init 93 = .ok (.putfield 43, 3) := by decide +kernel
theorem dX6_init_96 : decode cX6_init 96 = .ok (.aload_n 0, 1) := by decide +kernel
theorem dX6_init_97 : decode cX6_init 97 = .ok (.sipush 1957, 3) := by decide +kernel
theorem dX6_init_100 : decode cX6_init 100 = .ok (.newarray .int, 2) := by decide +kernel
theorem dX6_init_102 : decode cX6_init 102 = .ok (.putfield 46, 3) := by decide +kernel
theorem dX6_init_105 : decode cX6_init 105 = .ok (.aload_n 0, 1) := by decide +kernel
theorem dX6_init_106 : decode cX6_init 106 = .ok (.aload_n 1, 1) := by decide +kernel
theorem dX6_init_107 : decode cX6_init 107 = .ok (.putfield 49, 3) := by decide +kernel
theorem dX6_init_110 : decode cX6_init 110 = .ok (.return_, 1) := by decide +kernel
theorem dX6_begin_0 : decode cX6_begin 0 = .ok (.aload_n 0, 1) := by decide +kernel
theorem dX6_begin_1 : decode cX6_begin 1 = .ok (.iload_n 1, 1) := by decide +kernel
theorem dX6_begin_2 : decode cX6_begin 2 = .ok (.putfield 53, 3) := by decide +kernel
theorem dX6_begin_5 : decode cX6_begin 5 = .ok (.aload_n 0, 1) := by decide +kernel
theorem dX6_begin_6 : decode cX6_begin 6 = .ok (.iload_n 2, 1) := by decide +kernel
theorem dX6_begin_7 : decode cX6_begin 7 = .ok (.putfield 57, 3) := by decide +kernel
theorem dX6_begin_10 : decode cX6_begin 10 = .ok (.aload_n 0, 1) := by decide +kernel
theorem dX6_begin_11 : decode cX6_begin 11 = .ok (.iload_n 3, 1) := by decide +kernel
theorem dX6_begin_12 : decode cX6_begin 12 = .ok (.putfield 60, 3) := by decide +kernel
theorem dX6_begin_15 : decode cX6_begin 15 = .ok (.aload_n 0, 1) := by decide +kernel
theorem dX6_begin_16 : decode cX6_begin 16 = .ok (.iconst 0, 1) := by decide +kernel
theorem dX6_begin_17 : decode cX6_begin 17 = .ok (.putfield 64, 3) := by decide +kernel
theorem dX6_begin_20 : decode cX6_begin 20 = .ok (.aload_n 0, 1) := by decide +kernel
theorem dX6_begin_21 : decode cX6_begin 21 = .ok (.iconst 0, 1) := by decide +kernel
theorem dX6_begin_22 : decode cX6_begin 22 = .ok (.putfield 67, 3) := by decide +kernel
theorem dX6_begin_25 : decode cX6_begin 25 = .ok (.aload_n 0, 1) := by decide +kernel
theorem dX6_begin_26 : decode cX6_begin 26 = .ok (.iconst 0, 1) := by decide +kernel
theorem dX6_begin_27 : decode cX6_begin 27 = .ok (.putfield 70, 3) := by decide +kernel
theorem dX6_begin_30 : decode cX6_begin 30 = .ok (.aload_n 0, 1) := by decide +kernel
theorem dX6_begin_31 : decode cX6_begin 31 = .ok (.iconst 0, 1) := by decide +kernel
theorem dX6_begin_32 : decode cX6_begin 32 = .ok (.putfield 73, 3) := by decide +kernel
theorem dX6_begin_35 : decode cX6_begin 35 = .ok (.iconst 0, 1) := by decide +kernel
theorem dX6_begin_36 : decode cX6_begin 36 = .ok (.istore 4, 2) := by decide +kernel
theorem dX6_begin_38 : decode cX6_begin 38 = .ok (.iload 4, 2) := by decide +kernel
theorem dX6_begin_40 : decode cX6_begin 40 = .ok (.sipush 1024, 3) := by decide +kernel
theorem dX6_begin_43 : decode cX6_begin 43 = .ok (.if_icmp .ge 17, 3) := by decide +kernel
theorem dX6_begin_46 : decode cX6_begin 46 = .ok (.aload_n 0, 1) := by decide +kernel
theorem dX6_begin_47 : decode cX6_begin 47 = .ok (.getfield 22, 3) := by decide +kernel
theorem dX6_begin_50 : decode cX6_begin 50 = .ok (.iload 4, 2) := by decide +kernel
theorem dX6_begin_52 : decode cX6_begin 52 = .ok (.iconst (-1), 1) := by decide +kernel
theorem dX6_begin_53 : decode cX6_begin 53 = .ok (.iastore, 1) := by decide +kernel
theorem dX6_begin_54 : decode cX6_begin 54 = .ok (.iinc 4 1, 3) := by decide +kernel
theorem dX6_begin_57 : decode cX6_begin 57 = .ok (.goto (-19), 3) := by decide +kernel
theorem dX6_begin_60 : decode cX6_begin 60 = .ok (.return_, 1) := by decide +kernel
set_option maxRecDepth 20000 in
theorem ggX6_add_X6_find : GoodIn wsX6_add wsX6_find := goodIn_r _ [11, 4, 1, 2, 3, 12, 13, 14, 15, 16, 17, 18, 10, 19, 20, 21, 22, 23, 24, 25, 26, 27, 28, 29, 30, 31, 32, 33, 34, 35, 36, 37, 38, 39] (by decide +kernel) (by decide +kernel)
set_option maxRecDepth 20000 in
theorem gX6_add_X6_find : GoodIn wsX6_add (wsV RX6 76 RX6 yX6_find wsX6_find) := goodIn_app (goodIn_of _ (by decide +kernel)) ggX6_add_X6_find
set_option maxRecDepth 20000 in
theorem ggX6_add_X5_standsOf : GoodIn wsX6_add wsX5_standsOf := goodIn_r _ [15] (by decide +kernel) (by decide +kernel)
set_option maxRecDepth 20000 in
theorem gX6_add_X5_standsOf : GoodIn wsX6_add (va_wsS RX6 80 yX5_standsOf wsX5_standsOf) := goodIn_app (goodIn_of _ (by decide +kernel)) ggX6_add_X5_standsOf
theorem dX6_add_0 : decode cX6_add 0 = .ok (.aload_n 0, 1) := by decide +kernel
theorem dX6_add_1 : decode cX6_add 1 = .ok (.iload_n 1, 1) := by decide +kernel
theorem dX6_add_2 : decode cX6_add 2 = .ok (.invokevirtual 76, 3) := by decide +kernel
theorem dX6_add_5 : decode cX6_add 5 = .ok (.istore_n 2, 1) := by decide +kernel
theorem dX6_add_6 : decode cX6_add 6 = .ok (.iload_n 2, 1) := by decide +kernel
theorem dX6_add_7 : decode cX6_add 7 = .ok (.ifCond .ge 13, 3) := by decide +kernel
theorem dX6_add_10 : decode cX6_add 10 = .ok (.aload_n 0, 1) := by decide +kernel
theorem dX6_add_11 : decode cX6_add 11 = .ok (.getfield 64, 3) := by decide +kernel
theorem dX6_add_14 : decode cX6_add 14 = .ok (.sipush 1957, 3) := by decide +kernel
theorem dX6_add_17 : decode cX6_add 17 = .ok (.if_icmp .lt 5, 3) := by decide +kernel
theorem dX6_add_20 : decode cX6_add 20 = .ok (.iload_n 2, 1) := by decide +kernel
theorem dX6_add_21 : decode cX6_add 21 = .ok (.ireturn, 1) := by decide +kernel
theorem dX6_add_22 : decode cX6_add 22 = .ok (.aload_n 0, 1) := by decide +kernel
theorem dX6_add_23 : decode cX6_add 23 = .ok (.getfield 64, 3) := by decide +kernel
theorem dX6_add_26 : decode cX6_add 26 = .ok (.istore_n 3, 1) := by decide +kernel
theorem dX6_add_27 : decode cX6_add 27 = .ok (.iload_n 1, 1) := by decide +kernel
theorem dX6_add_28 : decode cX6_add 28 = .ok (.invokestatic 80, 3) := by decide +kernel
theorem dX6_add_31 : decode cX6_add 31 = .ok (.istore 4, 2) := by decide +kernel
theorem dX6_add_33 : decode cX6_add 33 = .ok (.aload_n 0, 1) := by decide +kernel
theorem dX6_add_34 : decode cX6_add 34 = .ok (.dup, 1) := by decide +kernel
theorem dX6_add_35 : decode cX6_add 35 = .ok (.getfield 64, 3) := by decide +kernel
theorem dX6_add_38 : decode cX6_add 38 = .ok (.iconst 1, 1) := by decide +kernel
theorem dX6_add_39 : decode cX6_add 39 = .ok (.iadd, 1) := by decide +kernel
theorem dX6_add_40 : decode cX6_add 40 = .ok (.putfield 64, 3) := by decide +kernel
theorem dX6_add_43 : decode cX6_add 43 = .ok (.aload_n 0, 1) := by decide +kernel
theorem dX6_add_44 : decode cX6_add 44 = .ok (.getfield 18, 3) := by decide +kernel
theorem dX6_add_47 : decode cX6_add 47 = .ok (.iload_n 3, 1) := by decide +kernel
theorem dX6_add_48 : decode cX6_add 48 = .ok (.iload_n 1, 1) := by decide +kernel
theorem dX6_add_49 : decode cX6_add 49 = .ok (.iastore, 1) := by decide +kernel
theorem dX6_add_50 : decode cX6_add 50 = .ok (.aload_n 0, 1) := by decide +kernel
theorem dX6_add_51 : decode cX6_add 51 = .ok (.getfield 25, 3) := by decide +kernel
theorem dX6_add_54 : decode cX6_add 54 = .ok (.iload_n 3, 1) := by decide +kernel
theorem dX6_add_55 : decode cX6_add 55 = .ok (.aload_n 0, 1) := by decide +kernel
theorem dX6_add_56 : decode cX6_add 56 = .ok (.getfield 22, 3) := by decide +kernel
theorem dX6_add_59 : decode cX6_add 59 = .ok (.iload 4, 2) := by decide +kernel
theorem dX6_add_61 : decode cX6_add 61 = .ok (.iaload, 1) := by decide +kernel
theorem dX6_add_62 : decode cX6_add 62 = .ok (.iastore, 1) := by decide +kernel
theorem dX6_add_63 : decode cX6_add 63 = .ok (.aload_n 0, 1) := by decide +kernel
theorem dX6_add_64 : decode cX6_add 64 = .ok (.getfield 22, 3) := by decide +kernel
theorem dX6_add_67 : decode cX6_add 67 = .ok (.iload 4, 2) := by decide +kernel
theorem dX6_add_69 : decode cX6_add 69 = .ok (.iload_n 3, 1) := by decide +kernel
theorem dX6_add_70 : decode cX6_add 70 = .ok (.iastore, 1) := by decide +kernel
theorem dX6_add_71 : decode cX6_add 71 = .ok (.aload_n 0, 1) := by decide +kernel
theorem dX6_add_72 : decode cX6_add 72 = .ok (.getfield 28, 3) := by decide +kernel
theorem dX6_add_75 : decode cX6_add 75 = .ok (.iload_n 3, 1) := by decide +kernel
theorem dX6_add_76 : decode cX6_add 76 = .ok (.iconst (-1), 1) := by decide +kernel
theorem dX6_add_77 : decode cX6_add 77 = .ok (.iastore, 1) := by decide +kernel
theorem dX6_add_78 : decode cX6_add 78 = .ok (.aload_n 0, 1) := by decide +kernel
theorem dX6_add_79 : decode cX6_add 79 = .ok (.getfield 37, 3) := by decide +kernel
theorem dX6_add_82 : decode cX6_add 82 = .ok (.iload_n 3, 1) := by decide +kernel
theorem dX6_add_83 : decode cX6_add 83 = .ok (.iconst 0, 1) := by decide +kernel
theorem dX6_add_84 : decode cX6_add 84 = .ok (.iastore, 1) := by decide +kernel
theorem dX6_add_85 : decode cX6_add 85 = .ok (.iload_n 3, 1) := by decide +kernel
theorem dX6_add_86 : decode cX6_add 86 = .ok (.ireturn, 1) := by decide +kernel
set_option maxRecDepth 20000 in
theorem ggX6_find_X5_standsOf : GoodIn wsX6_find wsX5_standsOf := goodIn_r _ [8] (by decide +kernel) (by decide +kernel)
set_option maxRecDepth 20000 in
theorem gX6_find_X5_standsOf : GoodIn wsX6_find (va_wsS RX6 80 yX5_standsOf wsX5_standsOf) := goodIn_app (goodIn_of _ (by decide +kernel)) ggX6_find_X5_standsOf
set_option maxRecDepth 20000 in
theorem ggX6_find_X6_isWay : GoodIn wsX6_find wsX6_isWay := goodIn_r _ [13, 2, 14, 15, 16, 17, 18, 19, 20, 21, 22, 23, 24, 25, 26, 27, 28, 29, 30, 31, 32, 33] (by decide +kernel) (by decide +kernel)
set_option maxRecDepth 20000 in
theorem gX6_find_X6_isWay : GoodIn wsX6_find (wsV RX6 85 RX6 yX6_isWay wsX6_isWay) := goodIn_app (goodIn_of _ (by decide +kernel)) ggX6_find_X6_isWay
theorem dX6_find_0 : decode cX6_find 0 = .ok (.aload_n 0, 1) := by decide +kernel
theorem dX6_find_1 : decode cX6_find 1 = .ok (.getfield 22, 3) := by decide +kernel
theorem dX6_find_4 : decode cX6_find 4 = .ok (.iload_n 1, 1) := by decide +kernel
theorem dX6_find_5 : decode cX6_find 5 = .ok (.invokestatic 80, 3) := by decide +kernel
theorem dX6_find_8 : decode cX6_find 8 = .ok (.iaload, 1) := by decide +kernel
theorem dX6_find_9 : decode cX6_find 9 = .ok (.istore_n 2, 1) := by decide +kernel
theorem dX6_find_10 : decode cX6_find 10 = .ok (.iconst 0, 1) := by decide +kernel
theorem dX6_find_11 : decode cX6_find 11 = .ok (.istore_n 3, 1) := by decide +kernel
theorem dX6_find_12 : decode cX6_find 12 = .ok (.iload_n 3, 1) := by decide +kernel
theorem dX6_find_13 : decode cX6_find 13 = .ok (.aload_n 0, 1) := by decide +kernel
theorem dX6_find_14 : decode cX6_find 14 = .ok (.getfield 64, 3) := by decide +kernel
theorem dX6_find_17 : decode cX6_find 17 = .ok (.if_icmp .ge 36, 3) := by decide +kernel
theorem dX6_find_20 : decode cX6_find 20 = .ok (.aload_n 0, 1) := by decide +kernel
theorem dX6_find_21 : decode cX6_find 21 = .ok (.iload_n 2, 1) := by decide +kernel
theorem dX6_find_22 : decode cX6_find 22 = .ok (.invokevirtual 85, 3) := by decide +kernel
theorem dX6_find_25 : decode cX6_find 25 = .ok (.ifCond .eq 28, 3) := by decide +kernel
theorem dX6_find_28 : decode cX6_find 28 = .ok (.aload_n 0, 1) := by decide +kernel
theorem dX6_find_29 : decode cX6_find 29 = .ok (.getfield 18, 3) := by decide +kernel
theorem dX6_find_32 : decode cX6_find 32 = .ok (.iload_n 2, 1) := by decide +kernel
theorem dX6_find_33 : decode cX6_find 33 = .ok (.iaload, 1) := by decide +kernel
theorem dX6_find_34 : decode cX6_find 34 = .ok (.iload_n 1, 1) := by decide +kernel
theorem dX6_find_35 : decode cX6_find 35 = .ok (.if_icmp .ne 5, 3) := by decide +kernel
theorem dX6_find_38 : decode cX6_find 38 = .ok (.iload_n 2, 1) := by decide +kernel
theorem dX6_find_39 : decode cX6_find 39 = .ok (.ireturn, 1) := by decide +kernel
theorem dX6_find_40 : decode cX6_find 40 = .ok (.aload_n 0, 1) := by decide +kernel
theorem dX6_find_41 : decode cX6_find 41 = .ok (.getfield 25, 3) := by decide +kernel
theorem dX6_find_44 : decode cX6_find 44 = .ok (.iload_n 2, 1) := by decide +kernel
theorem dX6_find_45 : decode cX6_find 45 = .ok (.iaload, 1) := by decide +kernel
theorem dX6_find_46 : decode cX6_find 46 = .ok (.istore_n 2, 1) := by decide +kernel
theorem dX6_find_47 : decode cX6_find 47 = .ok (.iinc 3 1, 3) := by decide +kernel
theorem dX6_find_50 : decode cX6_find 50 = .ok (.goto (-38), 3) := by decide +kernel
theorem dX6_find_53 : decode cX6_find 53 = .ok (.iconst (-1), 1) := by decide +kernel
theorem dX6_find_54 : decode cX6_find 54 = .ok (.ireturn, 1) := by decide +kernel
theorem dX6_isWay_0 : decode cX6_isWay 0 = .ok (.iload_n 1, 1) := by decide +kernel
theorem dX6_isWay_1 : decode cX6_isWay 1 = .ok (.ifCond .lt 22, 3) := by decide +kernel
theorem dX6_isWay_4 : decode cX6_isWay 4 = .ok (.iload_n 1, 1) := by decide +kernel
theorem dX6_isWay_5 : decode cX6_isWay 5 = .ok (.aload_n 0, 1) := by decide +kernel
theorem dX6_isWay_6 : decode cX6_isWay 6 = .ok (.getfield 64, 3) := by decide +kernel
theorem dX6_isWay_9 : decode cX6_isWay 9 = .ok (.if_icmp .ge 14, 3) := by decide +kernel
theorem dX6_isWay_12 : decode cX6_isWay 12 = .ok (.iload_n 1, 1) := by decide +kernel
theorem dX6_isWay_13 : decode cX6_isWay 13 = .ok (.sipush 1957, 3) := by decide +kernel
theorem dX6_isWay_16 : decode cX6_isWay 16 = .ok (.if_icmp .ge 7, 3) := by decide +kernel
theorem dX6_isWay_19 : decode cX6_isWay 19 = .ok (.iconst 1, 1) := by decide +kernel
theorem dX6_isWay_20 : decode cX6_isWay 20 = .ok (.goto 4, 3) := by decide +kernel
theorem dX6_isWay_23 : decode cX6_isWay 23 = .ok (.iconst 0, 1) := by decide +kernel
theorem dX6_isWay_24 : decode cX6_isWay 24 = .ok (.ireturn, 1) := by decide +kernel
set_option maxRecDepth 20000 in
theorem ggX6_hasMet_X6_isWay : GoodIn wsX6_hasMet wsX6_isWay := goodIn_r _ [6, 7, 19, 20, 21, 22, 23, 24, 25, 26, 27, 28, 29, 30, 31, 32, 33, 34, 35, 36, 37, 38] (by decide +kernel) (by decide +kernel)
set_option maxRecDepth 20000 in
theorem gX6_hasMet_X6_isWay : GoodIn wsX6_hasMet (wsV RX6 85 RX6 yX6_isWay wsX6_isWay) := goodIn_app (goodIn_of _ (by decide +kernel)) ggX6_hasMet_X6_isWay
set_option maxRecDepth 20000 in
theorem ggX6_hasMet_X5_standsOf : GoodIn wsX6_hasMet wsX5_standsOf := goodIn_r _ [11] (by decide +kernel) (by decide +kernel)
set_option maxRecDepth 20000 in
theorem gX6_hasMet_X5_standsOf : GoodIn wsX6_hasMet (va_wsS RX6 80 yX5_standsOf wsX5_standsOf) := goodIn_app (goodIn_of _ (by decide +kernel)) ggX6_hasMet_X5_standsOf
set_option maxRecDepth 20000 in
theorem ggX6_hasMet_J6_bitCount_0f7a4 : GoodIn wsX6_hasMet wsJ6_bitCount_0f7a4 := goodIn_r _ [15, 16, 17, 18] (by decide +kernel) (by decide +kernel)
set_option maxRecDepth 20000 in
theorem gX6_hasMet_J6_bitCount_0f7a4 : GoodIn wsX6_hasMet (va_wsS RX6 89 yJ6_bitCount_0f7a4 wsJ6_bitCount_0f7a4) := goodIn_app (goodIn_of _ (by decide +kernel)) ggX6_hasMet_J6_bitCount_0f7a4
theorem dX6_hasMet_0 : decode cX6_hasMet 0 = .ok (.aload_n 0, 1) := by decide +kernel
theorem dX6_hasMet_1 : decode cX6_hasMet 1 = .ok (.iload_n 1, 1) := by decide +kernel
theorem dX6_hasMet_2 : decode cX6_hasMet 2 = .ok (.invokevirtual 85, 3) := by decide +kernel
theorem dX6_hasMet_5 : decode cX6_hasMet 5 = .ok (.ifCond .eq 23, 3) := by decide +kernel
theorem dX6_hasMet_8 : decode cX6_hasMet 8 = .ok (.aload_n 0, 1) := by decide +kernel
theorem dX6_hasMet_9 : decode cX6_hasMet 9 = .ok (.getfield 18, 3) := by decide +kernel
theorem dX6_hasMet_12 : decode cX6_hasMet 12 = .ok (.iload_n 1, 1) := by decide +kernel
theorem dX6_hasMet_13 : decode cX6_hasMet 13 = .ok (.iaload, 1) := by decide +kernel
theorem dX6_hasMet_14 : decode cX6_hasMet 14 = .ok (.invokestatic 80, 3) := by decide +kernel
theorem dX6_hasMet_17 : decode cX6_hasMet 17 = .ok (.invokestatic 89, 3) := by decide +kernel
theorem dX6_hasMet_20 : decode cX6_hasMet 20 = .ok (.iconst 1, 1) := by decide +kernel
theorem dX6_hasMet_21 : decode cX6_hasMet 21 = .ok (.if_icmp .ne 7, 3) := by decide +kernel
theorem dX6_hasMet_24 : decode cX6_hasMet 24 = .ok (.iconst 1, 1) := by decide +kernel
theorem dX6_hasMet_25 : decode cX6_hasMet 25 = .ok (.goto 4, 3) := by decide +kernel
theorem dX6_hasMet_28 : decode cX6_hasMet 28 = .ok (.iconst 0, 1) := by decide +kernel
theorem dX6_hasMet_29 : decode cX6_hasMet 29 = .ok (.ireturn, 1) := by decide +kernel
set_option maxRecDepth 20000 in
theorem ggX6_walk_X6_hasMet : GoodIn wsX6_walk wsX6_hasMet := goodIn_r _ [12, 5, 13, 14, 15, 11, 16, 1, 17, 18, 19, 20, 21, 22, 23, 24, 25, 26, 27, 187, 188, 189, 190, 191, 192, 193, 194, 195, 196, 197, 198, 199, 200, 201, 202, 203, 204, 205, 206] (by decide +kernel) (by decide +kernel)
set_option maxRecDepth 20000 in
theorem gX6_walk_X6_hasMet : GoodIn wsX6_walk (wsV RX6 94 RX6 yX6_hasMet wsX6_hasMet) := goodIn_app (goodIn_of _ (by decide +kernel)) ggX6_walk_X6_hasMet
set_option maxRecDepth 20000 in
theorem ggX6_walk_X5_standsOf : GoodIn wsX6_walk wsX5_standsOf := goodIn_r _ [20] (by decide +kernel) (by decide +kernel)
set_option maxRecDepth 20000 in
theorem gX6_walk_X5_standsOf : GoodIn wsX6_walk (va_wsS RX6 80 yX5_standsOf wsX5_standsOf) := goodIn_app (goodIn_of _ (by decide +kernel)) ggX6_walk_X5_standsOf
set_option maxRecDepth 20000 in
theorem ggX6_walk_X6_towersSeen : GoodIn wsX6_walk wsX6_towersSeen := goodIn_r _ [31, 32, 33, 34, 19, 35, 187, 188, 189, 190, 191, 192, 193, 194, 195, 196, 197, 198, 199, 200, 201, 202, 203, 204, 205, 206] (by decide +kernel) (by decide +kernel)
set_option maxRecDepth 20000 in
theorem gX6_walk_X6_towersSeen : GoodIn wsX6_walk (wsV RX6 97 RX6 yX6_towersSeen wsX6_towersSeen) := goodIn_app (goodIn_of _ (by decide +kernel)) ggX6_walk_X6_towersSeen
set_option maxRecDepth 20000 in
theorem ggX6_walk_X2_from : GoodIn wsX6_walk wsX2_from := goodIn_r _ [40, 41, 42, 43, 44, 45, 46, 19, 47, 48, 49, 50, 51, 52, 53, 54, 55, 56, 57, 58, 59, 60, 61, 62, 63, 64, 65, 66, 67, 68, 69, 70, 71, 22, 23, 24, 25, 26, 27, 72, 73, 74, 75, 76, 77, 78, 79, 80, 81, 82, 83, 84, 85, 86, 87, 88, 89, 90, 91, 92, 93, 94, 95, 96, 97, 98, 99, 100, 101, 102, 103, 104, 105, 106, 107, 108, 109, 39, 110, 111, 207, 208, 209, 210, 211, 212, 213, 214, 215, 216, 217] (by decide +kernel) (by decide +kernel)
set_option maxRecDepth 20000 in
theorem gX6_walk_X2_from : GoodIn wsX6_walk (wsV RX6 100 RX2 yX2_from wsX2_from) := goodIn_app (goodIn_of _ (by decide +kernel)) ggX6_walk_X2_from
set_option maxRecDepth 20000 in
theorem ggX6_walk_X6_addStepsFrom : GoodIn wsX6_walk wsX6_addStepsFrom := goodIn_r _ [115, 116, 2, 117, 4, 5, 118, 119, 120, 39, 121, 41, 42, 122, 123, 124, 11, 125, 126, 127, 128, 23, 129, 130, 131, 132, 133, 134, 18, 19, 20, 135, 34, 35, 136, 137, 138, 139, 140, 141, 142, 143, 144, 145, 146, 147, 148, 149, 1, 150, 151, 152, 153, 154, 155, 156, 157, 17, 13, 14, 15, 16, 158, 159, 160, 161, 162, 163, 164, 187, 188, 189, 190, 191, 192, 193, 194, 195, 196, 197, 198, 199, 200, 201, 202, 203, 204, 205, 206, 207, 208, 209, 210] (by decide +kernel) (by decide +kernel)
set_option maxRecDepth 20000 in
theorem gX6_walk_X6_addStepsFrom : GoodIn wsX6_walk (wsV RX6 104 RX6 yX6_addStepsFrom wsX6_addStepsFrom) := goodIn_app (goodIn_of _ (by decide +kernel)) ggX6_walk_X6_addStepsFrom
set_option maxRecDepth 20000 in
theorem ggX6_walk_X6_tellBackwards : GoodIn wsX6_walk wsX6_tellBackwards := goodIn_r _ [168, 169, 170, 152, 162, 163, 164, 171, 172, 173, 11, 174, 1, 8, 9, 10, 12, 5, 13, 14, 15, 16, 17, 18, 19, 20, 21, 22, 23, 24, 25, 26, 27, 175, 176, 177, 178, 179, 180, 181, 182, 183, 184, 185, 186, 153, 187, 188, 189, 190, 191, 192, 193, 194, 195, 196, 197, 198, 199, 200, 201, 202, 203, 204, 205, 206] (by decide +kernel) (by decide +kernel)
set_option maxRecDepth 20000 in
theorem gX6_walk_X6_tellBackwards : GoodIn wsX6_walk (wsV RX6 108 RX6 yX6_tellBackwards wsX6_tellBackwards) := goodIn_app (goodIn_of _ (by decide +kernel)) ggX6_walk_X6_tellBackwards
theorem dX6_walk_0 : decode cX6_walk 0 = .ok (.iconst 0, 1) := by decide +kernel
theorem dX6_walk_1 : decode cX6_walk 1 = .ok (.istore_n 1, 1) := by decide +kernel
theorem dX6_walk_2 : decode cX6_walk 2 = .ok (.iload_n 1, 1) := by decide +kernel
theorem dX6_walk_3 : decode cX6_walk 3 = .ok (.aload_n 0, 1) := by decide +kernel
theorem dX6_walk_4 : decode cX6_walk 4 = .ok (.getfield 64, 3) := by decide +kernel
theorem dX6_walk_7 : decode cX6_walk 7 = .ok (.if_icmp .ge 63, 3) := by decide +kernel
theorem dX6_walk_10 : decode cX6_walk 10 = .ok (.iload_n 1, 1) := by decide +kernel
theorem dX6_walk_11 : decode cX6_walk 11 = .ok (.sipush 1957, 3) := by decide +kernel
theorem dX6_walk_14 : decode cX6_walk 14 = .ok (.if_icmp .ge 56, 3) := by decide +kernel
theorem dX6_walk_17 : decode cX6_walk 17 = .ok (.aload_n 0, 1) := by decide +kernel
theorem dX6_walk_18 : decode cX6_walk 18 = .ok (.iload_n 1, 1) := by decide +kernel
theorem dX6_walk_19 : decode cX6_walk 19 = .ok (.invokevirtual 94, 3) := by decide +kernel
theorem dX6_walk_22 : decode cX6_walk 22 = .ok (.ifCond .ne 42, 3) := by decide +kernel
theorem dX6_walk_25 : decode cX6_walk 25 = .ok (.aload_n 0, 1) := by decide +kernel
theorem dX6_walk_26 : decode cX6_walk 26 = .ok (.getfield 12, 3) := by decide +kernel
theorem dX6_walk_29 : decode cX6_walk 29 = .ok (.aload_n 0, 1) := by decide +kernel
theorem dX6_walk_30 : decode cX6_walk 30 = .ok (.getfield 49, 3) := by decide +kernel
theorem dX6_walk_33 : decode cX6_walk 33 = .ok (.aload_n 0, 1) := by decide +kernel
theorem dX6_walk_34 : decode cX6_walk 34 = .ok (.getfield 53, 3) := by decide +kernel
theorem dX6_walk_37 : decode cX6_walk 37 = .ok (.aload_n 0, 1) := by decide +kernel
theorem dX6_walk_38 : decode cX6_walk 38 = .ok (.getfield 18, 3) := by decide +kernel
theorem dX6_walk_41 : decode cX6_walk 41 = .ok (.iload_n 1, 1) := by decide +kernel
theorem dX6_walk_42 : decode cX6_walk 42 = .ok (.iaload, 1) := by decide +kernel
theorem dX6_walk_43 : decode cX6_walk 43 = .ok (.invokestatic 80, 3) := by decide +kernel
theorem dX6_walk_46 : decode cX6_walk 46 = .ok (.aload_n 0, 1) := by decide +kernel
theorem dX6_walk_47 : decode cX6_walk 47 = .ok (.aload_n 0, 1) := by decide +kernel
theorem dX6_walk_48 : decode cX6_walk 48 = .ok (.getfield 18, 3) := by decide +kernel
theorem dX6_walk_51 : decode cX6_walk 51 = .ok (.iload_n 1, 1) := by decide +kernel
theorem dX6_walk_52 : decode cX6_walk 52 = .ok (.iaload, 1) := by decide +kernel
theorem dX6_walk_53 : decode cX6_walk 53 = .ok (.invokevirtual 97, 3) := by decide +kernel
theorem dX6_walk_56 : decode cX6_walk 56 = .ok (.invokevirtual 100, 3) := by decide +kernel
theorem dX6_walk_59 : decode cX6_walk 59 = .ok (.aload_n 0, 1) := by decide +kernel
theorem dX6_walk_60 : decode cX6_walk 60 = .ok (.iload_n 1, 1) := by decide +kernel
theorem dX6_walk_61 : decode cX6_walk 61 = .ok (.invokevirtual 104, 3) := by decide +kernel
theorem dX6_walk_64 : decode cX6_walk 64 = .ok (.iinc 1 1, 3) := by decide +kernel
theorem dX6_walk_67 : decode cX6_walk 67 = .ok (.goto (-65), 3) := by decide +kernel
theorem dX6_walk_70 : decode cX6_walk 70 = .ok (.aload_n 0, 1) := by decide +kernel
theorem dX6_walk_71 : decode cX6_walk 71 = .ok (.aload_n 0, 1) := by decide +kernel
theorem dX6_walk_72 : decode cX6_walk 72 = .ok (.getfield 40, 3) := by decide +kernel
theorem dX6_walk_75 : decode cX6_walk 75 = .ok (.iconst 0, 1) := by decide +kernel
theorem dX6_walk_76 : decode cX6_walk 76 = .ok (.invokevirtual 108, 3) := by decide +kernel
theorem dX6_walk_79 : decode cX6_walk 79 = .ok (.aload_n 0, 1) := by decide +kernel
theorem dX6_walk_80 : decode cX6_walk 80 = .ok (.aload_n 0, 1) := by decide +kernel
theorem dX6_walk_81 : decode cX6_walk 81 = .ok (.getfield 43, 3) := by decide +kernel
theorem dX6_walk_84 : decode cX6_walk 84 = .ok (.iconst 1, 1) := by decide +kernel
theorem dX6_walk_85 : decode cX6_walk 85 = .ok (.invokevirtual 108, 3) := by decide +kernel
theorem dX6_walk_88 : decode cX6_walk 88 = .ok (.return_, 1) := by decide +kernel
set_option maxRecDepth 20000 in
theorem ggX6_towersSeen_X5_towersOf : GoodIn wsX6_towersSeen wsX5_towersOf := goodIn_r _ [5] (by decide +kernel) (by decide +kernel)
set_option maxRecDepth 20000 in
theorem gX6_towersSeen_X5_towersOf : GoodIn wsX6_towersSeen (va_wsS RX6 112 yX5_towersOf wsX5_towersOf) := goodIn_app (goodIn_of _ (by decide +kernel)) ggX6_towersSeen_X5_towersOf
theorem dX6_towersSeen_0 : decode cX6_towersSeen 0 = .ok (.aload_n 0, 1) := by decide +kernel
theorem dX6_towersSeen_1 : decode cX6_towersSeen 1 = .ok (.getfield 60, 3) := by decide +kernel
theorem dX6_towersSeen_4 : decode cX6_towersSeen 4 = .ok (.ifCond .eq 7, 3) := by decide +kernel
theorem dX6_towersSeen_7 : decode cX6_towersSeen 7 = .ok (.iconst 0, 1) := by decide +kernel
theorem dX6_towersSeen_8 : decode cX6_towersSeen 8 = .ok (.goto 7, 3) := by decide +kernel
theorem dX6_towersSeen_11 : decode cX6_towersSeen 11 = .ok (.iload_n 1, 1) := by decide +kernel
theorem dX6_towersSeen_12 : decode cX6_towersSeen 12 = .ok (.invokestatic 112, 3) := by decide +kernel
theorem dX6_towersSeen_15 : decode cX6_towersSeen 15 = .ok (.ireturn, 1) := by decide +kernel
set_option maxRecDepth 20000 in
theorem ggX6_addStepsFrom_X2_movers : GoodIn wsX6_addStepsFrom wsX2_movers := goodIn_r _ [10, 11, 12, 89, 90, 91, 92] (by decide +kernel) (by decide +kernel)
set_option maxRecDepth 20000 in
theorem gX6_addStepsFrom_X2_movers : GoodIn wsX6_addStepsFrom (wsV RX6 116 RX2 yX2_movers wsX2_movers) := goodIn_app (goodIn_of _ (by decide +kernel)) ggX6_addStepsFrom_X2_movers
set_option maxRecDepth 20000 in
theorem ggX6_addStepsFrom_X6_setAfter : GoodIn wsX6_addStepsFrom wsX6_setAfter := goodIn_r _ [17, 2, 18, 6, 7, 8, 9, 10, 11, 12, 19, 20, 21, 22, 69, 70, 71, 72, 73, 74, 75, 76, 77, 78, 79, 80, 81, 82, 83, 84, 85, 86, 87, 88, 89, 90, 91, 92] (by decide +kernel) (by decide +kernel)
set_option maxRecDepth 20000 in
theorem gX6_addStepsFrom_X6_setAfter : GoodIn wsX6_addStepsFrom (wsV RX6 120 RX6 yX6_setAfter wsX6_setAfter) := goodIn_app (goodIn_of _ (by decide +kernel)) ggX6_addStepsFrom_X6_setAfter
set_option maxRecDepth 20000 in
theorem ggX6_addStepsFrom_X2_wayBehind : GoodIn wsX6_addStepsFrom wsX2_wayBehind := goodIn_r _ [26, 11, 12, 27, 28, 29, 30, 31, 32, 33, 34, 7, 8, 9, 10, 35, 36, 37, 38, 39, 40, 41, 42, 43, 89, 90, 91, 92] (by decide +kernel) (by decide +kernel)
set_option maxRecDepth 20000 in
theorem gX6_addStepsFrom_X2_wayBehind : GoodIn wsX6_addStepsFrom (wsV RX6 123 RX2 yX2_wayBehind wsX2_wayBehind) := goodIn_app (goodIn_of _ (by decide +kernel)) ggX6_addStepsFrom_X2_wayBehind
set_option maxRecDepth 20000 in
theorem ggX6_addStepsFrom_X6_add : GoodIn wsX6_addStepsFrom wsX6_add := goodIn_r _ [47, 48, 5, 49, 50, 51, 52, 53, 54, 55, 16, 56, 57, 28, 29, 30, 58, 59, 60, 61, 69, 70, 71, 72, 73, 74, 75, 76, 77, 78, 79, 80, 81, 82, 83, 84, 85, 86, 87, 88] (by decide +kernel) (by decide +kernel)
set_option maxRecDepth 20000 in
theorem gX6_addStepsFrom_X6_add : GoodIn wsX6_addStepsFrom (wsV RX6 127 RX6 yX6_add wsX6_add) := goodIn_app (goodIn_of _ (by decide +kernel)) ggX6_addStepsFrom_X6_add
set_option maxRecDepth 20000 in
theorem ggX6_addStepsFrom_X6_addStep : GoodIn wsX6_addStepsFrom wsX6_addStep := goodIn_r _ [65, 66, 67, 68, 51, 52, 58, 59, 60, 16, 61, 48, 69, 70, 71, 72, 73, 74, 75, 76, 77, 78, 79, 80, 81, 82, 83, 84, 85, 86, 87, 88] (by decide +kernel) (by decide +kernel)
set_option maxRecDepth 20000 in
theorem gX6_addStepsFrom_X6_addStep : GoodIn wsX6_addStepsFrom (wsV RX6 130 RX6 yX6_addStep wsX6_addStep) := goodIn_app (goodIn_of _ (by decide +kernel)) ggX6_addStepsFrom_X6_addStep
theorem dX6_addStepsFrom_0 : decode cX6_addStepsFrom 0 = .ok (.aload_n 0, 1) := by decide +kernel
theorem dX6_addStepsFrom_1 : decode cX6_addStepsFrom 1 = .ok (.dup, 1) := by decide +kernel
theorem dX6_addStepsFrom_2 : decode cX6_addStepsFrom 2 = .ok (.getfield 73, 3) := by decide +kernel
theorem dX6_addStepsFrom_5 : decode cX6_addStepsFrom 5 = .ok (.aload_n 0, 1) := by decide +kernel
theorem dX6_addStepsFrom_6 : decode cX6_addStepsFrom 6 = .ok (.getfield 12, 3) := by decide +kernel
theorem dX6_addStepsFrom_9 : decode cX6_addStepsFrom 9 = .ok (.getfield 115, 3) := by decide +kernel
theorem dX6_addStepsFrom_12 : decode cX6_addStepsFrom 12 = .ok (.ior, 1) := by decide +kernel
theorem dX6_addStepsFrom_13 : decode cX6_addStepsFrom 13 = .ok (.putfield 73, 3) := by decide +kernel
theorem dX6_addStepsFrom_16 : decode cX6_addStepsFrom 16 = .ok (.aload_n 0, 1) := by decide +kernel
theorem dX6_addStepsFrom_17 : decode cX6_addStepsFrom 17 = .ok (.getfield 12, 3) := by decide +kernel
theorem dX6_addStepsFrom_20 : decode cX6_addStepsFrom 20 = .ok (.invokevirtual 116, 3) := by decide +kernel
theorem dX6_addStepsFrom_23 : decode cX6_addStepsFrom 23 = .ok (.ifCond .ne 13, 3) := by decide +kernel
theorem dX6_addStepsFrom_26 : decode cX6_addStepsFrom 26 = .ok (.aload_n 0, 1) := by decide +kernel
theorem dX6_addStepsFrom_27 : decode cX6_addStepsFrom 27 = .ok (.dup, 1) := by decide +kernel
theorem dX6_addStepsFrom_28 : decode cX6_addStepsFrom 28 = .ok (.getfield 70, 3) := by decide +kernel
theorem dX6_addStepsFrom_31 : decode cX6_addStepsFrom 31 = .ok (.iconst 1, 1) := by decide +kernel
theorem dX6_addStepsFrom_32 : decode cX6_addStepsFrom 32 = .ok (.iadd, 1) := by decide +kernel
theorem dX6_addStepsFrom_33 : decode cX6_addStepsFrom 33 = .ok (.putfield 70, 3) := by decide +kernel
theorem dX6_addStepsFrom_36 : decode cX6_addStepsFrom 36 = .ok (.aload_n 0, 1) := by decide +kernel
theorem dX6_addStepsFrom_37 : decode cX6_addStepsFrom 37 = .ok (.iconst 0, 1) := by decide +kernel
theorem dX6_addStepsFrom_38 : decode cX6_addStepsFrom 38 = .ok (.invokevirtual 120, 3) := by decide +kernel
theorem dX6_addStepsFrom_41 : decode cX6_addStepsFrom 41 = .ok (.istore_n 2, 1) := by decide +kernel
theorem dX6_addStepsFrom_42 : decode cX6_addStepsFrom 42 = .ok (.iconst 0, 1) := by decide +kernel
theorem dX6_addStepsFrom_43 : decode cX6_addStepsFrom 43 = .ok (.istore_n 3, 1) := by decide +kernel
theorem dX6_addStepsFrom_44 : decode cX6_addStepsFrom 44 = .ok (.iload_n 3, 1) := by decide +kernel
theorem dX6_addStepsFrom_45 : decode cX6_addStepsFrom 45 = .ok (.bipush 31, 2) := by decide +kernel
theorem dX6_addStepsFrom_47 : decode cX6_addStepsFrom 47 = .ok (.if_icmp .ge 46, 3) := by decide +kernel
theorem dX6_addStepsFrom_50 : decode cX6_addStepsFrom 50 = .ok (.iload_n 2, 1) := by decide +kernel
theorem dX6_addStepsFrom_51 : decode cX6_addStepsFrom 51 = .ok (.ifCond .eq 42, 3) := by decide +kernel
theorem dX6_addStepsFrom_54 : decode cX6_addStepsFrom 54 = .ok (.aload_n 0, 1) := by decide +kernel
theorem dX6_addStepsFrom_55 : decode cX6_addStepsFrom 55 = .ok (.iload_n 1, 1) := by decide +kernel
theorem dX6_addStepsFrom_56 : decode cX6_addStepsFrom 56 = .ok (.aload_n 0, 1) := by decide +kernel
theorem dX6_addStepsFrom_57 : decode cX6_addStepsFrom 57 = .ok (.aload_n 0, 1) := by decide +kernel
theorem dX6_addStepsFrom_58 : decode cX6_addStepsFrom 58 = .ok (.getfield 12, 3) := by decide +kernel
theorem dX6_addStepsFrom_61 : decode cX6_addStepsFrom 61 = .ok (.aload_n 0, 1) := by decide +kernel
theorem dX6_addStepsFrom_62 : decode cX6_addStepsFrom 62 = .ok (.getfield 53, 3) := by decide +kernel
theorem dX6_addStepsFrom_65 : decode cX6_addStepsFrom 65 = .ok (.aload_n 0, 1) := by decide +kernel
theorem dX6_addStepsFrom_66 : decode cX6_addStepsFrom 66 = .ok (.getfield 18, 3) := by decide +kernel
theorem dX6_addStepsFrom_69 : decode cX6_addStepsFrom 69 = .ok (.iload_n 1, 1) := by decide +kernel
theorem dX6_addStepsFrom_70 : decode cX6_addStepsFrom 70 = .ok (.iaload, 1) := by decide +kernel
theorem dX6_addStepsFrom_71 : decode cX6_addStepsFrom 71 = .ok (.iload_n 2, 1) := by decide +kernel
theorem dX6_addStepsFrom_72 : decode cX6_addStepsFrom 72 = .ok (.invokevirtual 123, 3) := by decide +kernel
theorem dX6_addStepsFrom_75 : decode cX6_addStepsFrom 75 = .ok (.invokevirtual 127, 3) := by decide +kernel
theorem dX6_addStepsFrom_78 : decode cX6_addStepsFrom 78 = .ok (.invokevirtual 130, 3) := by decide +kernel
theorem dX6_addStepsFrom_81 : decode cX6_addStepsFrom 81 = .ok (.aload_n 0, 1) := by decide +kernel
theorem dX6_addStepsFrom_82 : decode cX6_addStepsFrom 82 = .ok (.iload_n 2, 1) := by decide +kernel
theorem dX6_addStepsFrom_83 : decode cX6_addStepsFrom 83 = .ok (.invokevirtual 120, 3) := by decide +kernel
theorem dX6_addStepsFrom_86 : decode cX6_addStepsFrom 86 = .ok (.istore_n 2, 1) := by decide +kernel
theorem dX6_addStepsFrom_87 : decode cX6_addStepsFrom 87 = .ok (.iinc 3 1, 3) := by decide +kernel
theorem dX6_addStepsFrom_90 : decode cX6_addStepsFrom 90 = .ok (.goto (-46), 3) := by decide +kernel
theorem dX6_addStepsFrom_93 : decode cX6_addStepsFrom 93 = .ok (.return_, 1) := by decide +kernel
set_option maxRecDepth 20000 in
theorem ggX6_setAfter_X2_movers : GoodIn wsX6_setAfter wsX2_movers := goodIn_r _ [7, 8, 9, 34, 35, 36, 37] (by decide +kernel) (by decide +kernel)
set_option maxRecDepth 20000 in
theorem gX6_setAfter_X2_movers : GoodIn wsX6_setAfter (wsV RX6 116 RX2 yX2_movers wsX2_movers) := goodIn_app (goodIn_of _ (by decide +kernel)) ggX6_setAfter_X2_movers
set_option maxRecDepth 20000 in
theorem ggX6_setAfter_J6_lowestOneBit_0f7a4 : GoodIn wsX6_setAfter wsJ6_lowestOneBit_0f7a4 := goodIn_r _ [13] (by decide +kernel) (by decide +kernel)
set_option maxRecDepth 20000 in
theorem gX6_setAfter_J6_lowestOneBit_0f7a4 : GoodIn wsX6_setAfter (va_wsS RX6 134 yJ6_lowestOneBit_0f7a4 wsJ6_lowestOneBit_0f7a4) := goodIn_app (goodIn_of _ (by decide +kernel)) ggX6_setAfter_J6_lowestOneBit_0f7a4
theorem dX6_setAfter_0 : decode cX6_setAfter 0 = .ok (.aload_n 0, 1) := by decide +kernel
theorem dX6_setAfter_1 : decode cX6_setAfter 1 = .ok (.getfield 12, 3) := by decide +kernel
theorem dX6_setAfter_4 : decode cX6_setAfter 4 = .ok (.invokevirtual 116, 3) := by decide +kernel
theorem dX6_setAfter_7 : decode cX6_setAfter 7 = .ok (.istore_n 2, 1) := by decide +kernel
theorem dX6_setAfter_8 : decode cX6_setAfter 8 = .ok (.aload_n 0, 1) := by decide +kernel
theorem dX6_setAfter_9 : decode cX6_setAfter 9 = .ok (.getfield 57, 3) := by decide +kernel
theorem dX6_setAfter_12 : decode cX6_setAfter 12 = .ok (.iconst 2, 1) := by decide +kernel
theorem dX6_setAfter_13 : decode cX6_setAfter 13 = .ok (.if_icmp .ne 9, 3) := by decide +kernel
theorem dX6_setAfter_16 : decode cX6_setAfter 16 = .ok (.iload_n 1, 1) := by decide +kernel
theorem dX6_setAfter_17 : decode cX6_setAfter 17 = .ok (.iload_n 2, 1) := by decide +kernel
theorem dX6_setAfter_18 : decode cX6_setAfter 18 = .ok (.isub, 1) := by decide +kernel
theorem dX6_setAfter_19 : decode cX6_setAfter 19 = .ok (.iload_n 2, 1) := by decide +kernel
theorem dX6_setAfter_20 : decode cX6_setAfter 20 = .ok (.iand, 1) := by decide +kernel
theorem dX6_setAfter_21 : decode cX6_setAfter 21 = .ok (.ireturn, 1) := by decide +kernel
theorem dX6_setAfter_22 : decode cX6_setAfter 22 = .ok (.aload_n 0, 1) := by decide +kernel
theorem dX6_setAfter_23 : decode cX6_setAfter 23 = .ok (.getfield 57, 3) := by decide +kernel
theorem dX6_setAfter_26 : decode cX6_setAfter 26 = .ok (.iconst 1, 1) := by decide +kernel
theorem dX6_setAfter_27 : decode cX6_setAfter 27 = .ok (.if_icmp .ne 13, 3) := by decide +kernel
theorem dX6_setAfter_30 : decode cX6_setAfter 30 = .ok (.iload_n 1, 1) := by decide +kernel
theorem dX6_setAfter_31 : decode cX6_setAfter 31 = .ok (.ifCond .ne 7, 3) := by decide +kernel
theorem dX6_setAfter_34 : decode cX6_setAfter 34 = .ok (.iload_n 2, 1) := by decide +kernel
theorem dX6_setAfter_35 : decode cX6_setAfter 35 = .ok (.goto 4, 3) := by decide +kernel
theorem dX6_setAfter_38 : decode cX6_setAfter 38 = .ok (.iconst 0, 1) := by decide +kernel
theorem dX6_setAfter_39 : decode cX6_setAfter 39 = .ok (.ireturn, 1) := by decide +kernel
theorem dX6_setAfter_40 : decode cX6_setAfter 40 = .ok (.iload_n 1, 1) := by decide +kernel
theorem dX6_setAfter_41 : decode cX6_setAfter 41 = .ok (.ifCond .ne 7, 3) := by decide +kernel
theorem dX6_setAfter_44 : decode cX6_setAfter 44 = .ok (.iload_n 2, 1) := by decide +kernel
theorem dX6_setAfter_45 : decode cX6_setAfter 45 = .ok (.goto 9, 3) := by decide +kernel
theorem dX6_setAfter_48 : decode cX6_setAfter 48 = .ok (.iload_n 2, 1) := by decide +kernel
theorem dX6_setAfter_49 : decode cX6_setAfter 49 = .ok (.iload_n 1, 1) := by decide +kernel
theorem dX6_setAfter_50 : decode cX6_setAfter 50 = .ok (.iconst 1, 1) := by decide +kernel
theorem dX6_setAfter_51 : decode cX6_setAfter 51 = .ok (.ishl, 1) := by decide +kernel
theorem dX6_setAfter_52 : decode cX6_setAfter 52 = .ok (.ineg, 1) := by decide +kernel
theorem dX6_setAfter_53 : decode cX6_setAfter 53 = .ok (.iand, 1) := by decide +kernel
theorem dX6_setAfter_54 : decode cX6_setAfter 54 = .ok (.invokestatic 134, 3) := by decide +kernel
theorem dX6_setAfter_57 : decode cX6_setAfter 57 = .ok (.ireturn, 1) := by decide +kernel
set_option maxRecDepth 20000 in
theorem ggX6_addStep_X6_isWay : GoodIn wsX6_addStep wsX6_isWay := goodIn_r _ [10, 11, 12, 13, 14, 15, 16, 17, 18, 19, 20, 21, 22, 23, 24, 25, 26, 27, 28, 29, 30, 31] (by decide +kernel) (by decide +kernel)
set_option maxRecDepth 20000 in
theorem gX6_addStep_X6_isWay : GoodIn wsX6_addStep (wsV RX6 85 RX6 yX6_isWay wsX6_isWay) := goodIn_app (goodIn_of _ (by decide +kernel)) ggX6_addStep_X6_isWay
theorem dX6_addStep_0 : decode cX6_addStep 0 = .ok (.aload_n 0, 1) := by decide +kernel
theorem dX6_addStep_1 : decode cX6_addStep 1 = .ok (.iload_n 1, 1) := by decide +kernel
theorem dX6_addStep_2 : decode cX6_addStep 2 = .ok (.invokevirtual 85, 3) := by decide +kernel
theorem dX6_addStep_5 : decode cX6_addStep 5 = .ok (.ifCond .eq 21, 3) := by decide +kernel
theorem dX6_addStep_8 : decode cX6_addStep 8 = .ok (.aload_n 0, 1) := by decide +kernel
theorem dX6_addStep_9 : decode cX6_addStep 9 = .ok (.iload_n 2, 1) := by decide +kernel
theorem dX6_addStep_10 : decode cX6_addStep 10 = .ok (.invokevirtual 85, 3) := by decide +kernel
theorem dX6_addStep_13 : decode cX6_addStep 13 = .ok (.ifCond .eq 13, 3) := by decide +kernel
theorem dX6_addStep_16 : decode cX6_addStep 16 = .ok (.aload_n 0, 1) := by decide +kernel
theorem dX6_addStep_17 : decode cX6_addStep 17 = .ok (.getfield 67, 3) := by decide +kernel
theorem dX6_addStep_20 : decode cX6_addStep 20 = .ok (.sipush 25857, 3) := by decide +kernel
theorem dX6_addStep_23 : decode cX6_addStep 23 = .ok (.if_icmp .lt 4, 3) := by decide +kernel
theorem dX6_addStep_26 : decode cX6_addStep 26 = .ok (.return_, 1) := by decide +kernel
theorem dX6_addStep_27 : decode cX6_addStep 27 = .ok (.aload_n 0, 1) := by decide +kernel
theorem dX6_addStep_28 : decode cX6_addStep 28 = .ok (.getfield 34, 3) := by decide +kernel
theorem dX6_addStep_31 : decode cX6_addStep 31 = .ok (.aload_n 0, 1) := by decide +kernel
theorem dX6_addStep_32 : decode cX6_addStep 32 = .ok (.getfield 67, 3) := by decide +kernel
theorem dX6_addStep_35 : decode cX6_addStep 35 = .ok (.iload_n 1, 1) := by decide +kernel
theorem dX6_addStep_36 : decode cX6_addStep 36 = .ok (.iastore, 1) := by decide +kernel
theorem dX6_addStep_37 : decode cX6_addStep 37 = .ok (.aload_n 0, 1) := by decide +kernel
theorem dX6_addStep_38 : decode cX6_addStep 38 = .ok (.getfield 31, 3) := by decide +kernel
theorem dX6_addStep_41 : decode cX6_addStep 41 = .ok (.aload_n 0, 1) := by decide +kernel
theorem dX6_addStep_42 : decode cX6_addStep 42 = .ok (.getfield 67, 3) := by decide +kernel
theorem dX6_addStep_45 : decode cX6_addStep 45 = .ok (.aload_n 0, 1) := by decide +kernel
theorem dX6_addStep_46 : decode cX6_addStep 46 = .ok (.getfield 28, 3) := by decide +kernel
theorem dX6_addStep_49 : decode cX6_addStep 49 = .ok (.iload_n 2, 1) := by decide +kernel
theorem dX6_addStep_50 : decode cX6_addStep 50 = .ok (.iaload, 1) := by decide +kernel
theorem dX6_addStep_51 : decode cX6_addStep 51 = .ok (.iastore, 1) := by decide +kernel
theorem dX6_addStep_52 : decode cX6_addStep 52 = .ok (.aload_n 0, 1) := by decide +kernel
theorem dX6_addStep_53 : decode cX6_addStep 53 = .ok (.getfield 28, 3) := by decide +kernel
theorem dX6_addStep_56 : decode cX6_addStep 56 = .ok (.iload_n 2, 1) := by decide +kernel
theorem dX6_addStep_57 : decode cX6_addStep 57 = .ok (.aload_n 0, 1) := by decide +kernel
theorem dX6_addStep_58 : decode cX6_addStep 58 = .ok (.getfield 67, 3) := by decide +kernel
theorem dX6_addStep_61 : decode cX6_addStep 61 = .ok (.iastore, 1) := by decide +kernel
theorem dX6_addStep_62 : decode cX6_addStep 62 = .ok (.aload_n 0, 1) := by decide +kernel
theorem dX6_addStep_63 : decode cX6_addStep 63 = .ok (.getfield 37, 3) := by decide +kernel
theorem dX6_addStep_66 : decode cX6_addStep 66 = .ok (.iload_n 1, 1) := by decide +kernel
theorem dX6_addStep_67 : decode cX6_addStep 67 = .ok (.dup2, 1) := by decide +kernel
theorem dX6_addStep_68 : decode cX6_addStep 68 = .ok (.iaload, 1) := by decide +kernel
theorem dX6_addStep_69 : decode cX6_addStep 69 = .ok (.iconst 1, 1) := by decide +kernel
theorem dX6_addStep_70 : decode cX6_addStep 70 = .ok (.iadd, 1) := by decide +kernel
theorem dX6_addStep_71 : decode cX6_addStep 71 = .ok (.iastore, 1) := by decide +kernel
theorem dX6_addStep_72 : decode cX6_addStep 72 = .ok (.aload_n 0, 1) := by decide +kernel
theorem dX6_addStep_73 : decode cX6_addStep 73 = .ok (.dup, 1) := by decide +kernel
theorem dX6_addStep_74 : decode cX6_addStep 74 = .ok (.getfield 67, 3) := by decide +kernel
theorem dX6_addStep_77 : decode cX6_addStep 77 = .ok (.iconst 1, 1) := by decide +kernel
theorem dX6_addStep_78 : decode cX6_addStep 78 = .ok (.iadd, 1) := by decide +kernel
theorem dX6_addStep_79 : decode cX6_addStep 79 = .ok (.putfield 67, 3) := by decide +kernel
theorem dX6_addStep_82 : decode cX6_addStep 82 = .ok (.return_, 1) := by decide +kernel
set_option maxRecDepth 20000 in
theorem ggX6_tellBackwards_X6_lineUpWhatHasMet : GoodIn wsX6_tellBackwards wsX6_lineUpWhatHasMet := goodIn_r _ [11, 1, 12, 13, 14, 15, 10, 16, 17, 18, 19, 20, 21, 22, 23, 24, 25, 26, 27, 28, 29, 30, 31, 32, 33, 34, 35, 36, 2, 46, 47, 48, 49, 50, 51, 52, 53, 54, 55, 56, 57, 58, 59, 60, 61, 62, 63, 64, 65] (by decide +kernel) (by decide +kernel)
set_option maxRecDepth 20000 in
theorem gX6_tellBackwards_X6_lineUpWhatHasMet : GoodIn wsX6_tellBackwards (wsV RX6 137 RX6 yX6_lineUpWhatHasMet wsX6_lineUpWhatHasMet) := goodIn_app (goodIn_of _ (by decide +kernel)) ggX6_tellBackwards_X6_lineUpWhatHasMet
set_option maxRecDepth 20000 in
theorem ggX6_tellBackwards_X6_isWay : GoodIn wsX6_tellBackwards wsX6_isWay := goodIn_r _ [21, 12, 46, 47, 48, 49, 50, 51, 52, 53, 54, 55, 56, 57, 58, 59, 60, 61, 62, 63, 64, 65] (by decide +kernel) (by decide +kernel)
set_option maxRecDepth 20000 in
theorem gX6_tellBackwards_X6_isWay : GoodIn wsX6_tellBackwards (wsV RX6 85 RX6 yX6_isWay wsX6_isWay) := goodIn_app (goodIn_of _ (by decide +kernel)) ggX6_tellBackwards_X6_isWay
set_option maxRecDepth 20000 in
theorem ggX6_tellBackwards_X6_isStep : GoodIn wsX6_tellBackwards wsX6_isStep := goodIn_r _ [40, 4, 46, 47, 48, 49, 50, 51, 52, 53, 54, 55, 56, 57, 58, 59, 60, 61, 62, 63, 64, 65] (by decide +kernel) (by decide +kernel)
set_option maxRecDepth 20000 in
theorem gX6_tellBackwards_X6_isStep : GoodIn wsX6_tellBackwards (wsV RX6 144 RX6 yX6_isStep wsX6_isStep) := goodIn_app (goodIn_of _ (by decide +kernel)) ggX6_tellBackwards_X6_isStep
set_option maxRecDepth 20000 in
theorem ggX6_tellBackwards_X6_isLastStepOf : GoodIn wsX6_tellBackwards wsX6_isLastStepOf := goodIn_r _ [44, 45, 18, 19, 20, 10, 21, 12, 46, 47, 48, 49, 50, 51, 52, 53, 54, 55, 56, 57, 58, 59, 60, 61, 62, 63, 64, 65] (by decide +kernel) (by decide +kernel)
set_option maxRecDepth 20000 in
theorem gX6_tellBackwards_X6_isLastStepOf : GoodIn wsX6_tellBackwards (wsV RX6 147 RX6 yX6_isLastStepOf wsX6_isLastStepOf) := goodIn_app (goodIn_of _ (by decide +kernel)) ggX6_tellBackwards_X6_isLastStepOf
set_option maxRecDepth 20000 in
theorem ggX6_tellBackwards_X6_lineUp : GoodIn wsX6_tellBackwards wsX6_lineUp := goodIn_r _ [36, 1, 2, 18, 19, 20, 10, 21, 12, 46, 47, 48, 49, 50, 51, 52, 53, 54, 55, 56, 57, 58, 59, 60, 61, 62, 63, 64, 65] (by decide +kernel) (by decide +kernel)
set_option maxRecDepth 20000 in
theorem gX6_tellBackwards_X6_lineUp : GoodIn wsX6_tellBackwards (wsV RX6 150 RX6 yX6_lineUp wsX6_lineUp) := goodIn_app (goodIn_of _ (by decide +kernel)) ggX6_tellBackwards_X6_lineUp
theorem dX6_tellBackwards_0 : decode cX6_tellBackwards 0 = .ok (.aload_n 0, 1) := by decide +kernel
theorem dX6_tellBackwards_1 : decode cX6_tellBackwards 1 = .ok (.aload_n 1, 1) := by decide +kernel
theorem dX6_tellBackwards_2 : decode cX6_tellBackwards 2 = .ok (.invokevirtual 137, 3) := by decide +kernel
theorem dX6_tellBackwards_5 : decode cX6_tellBackwards 5 = .ok (.iconst 0, 1) := by decide +kernel
theorem dX6_tellBackwards_6 : decode cX6_tellBackwards 6 = .ok (.istore_n 3, 1) := by decide +kernel
theorem dX6_tellBackwards_7 : decode cX6_tellBackwards 7 = .ok (.iload_n 3, 1) := by decide +kernel
theorem dX6_tellBackwards_8 : decode cX6_tellBackwards 8 = .ok (.aload_n 0, 1) := by decide +kernel
