theorem dX6_tellBackwards_9 : decode cX6_tellBackwards 9 = .ok (.getfield 141, 3) := by decide +kernel
theorem dX6_tellBackwards_12 : decode cX6_tellBackwards 12 = .ok (.if_icmp .ge 138, 3) := by decide +kernel
theorem dX6_tellBackwards_15 : decode cX6_tellBackwards 15 = .ok (.iload_n 3, 1) := by decide +kernel
theorem dX6_tellBackwards_16 : decode cX6_tellBackwards 16 = .ok (.sipush 1957, 3) := by decide +kernel
theorem dX6_tellBackwards_19 : decode cX6_tellBackwards 19 = .ok (.if_icmp .ge 131, 3) := by decide +kernel
theorem dX6_tellBackwards_22 : decode cX6_tellBackwards 22 = .ok (.aload_n 0, 1) := by decide +kernel
theorem dX6_tellBackwards_23 : decode cX6_tellBackwards 23 = .ok (.getfield 46, 3) := by decide +kernel
theorem dX6_tellBackwards_26 : decode cX6_tellBackwards 26 = .ok (.iload_n 3, 1) := by decide +kernel
theorem dX6_tellBackwards_27 : decode cX6_tellBackwards 27 = .ok (.iaload, 1) := by decide +kernel
theorem dX6_tellBackwards_28 : decode cX6_tellBackwards 28 = .ok (.istore 4, 2) := by decide +kernel
theorem dX6_tellBackwards_30 : decode cX6_tellBackwards 30 = .ok (.aload_n 0, 1) := by decide +kernel
theorem dX6_tellBackwards_31 : decode cX6_tellBackwards 31 = .ok (.iload 4, 2) := by decide +kernel
theorem dX6_tellBackwards_33 : decode cX6_tellBackwards 33 = .ok (.invokevirtual 85, 3) := by decide +kernel
theorem dX6_tellBackwards_36 : decode cX6_tellBackwards 36 = .ok (.ifCond .eq 13, 3) := by decide +kernel
theorem dX6_tellBackwards_39 : decode cX6_tellBackwards 39 = .ok (.aload_n 0, 1) := by decide +kernel
theorem dX6_tellBackwards_40 : decode cX6_tellBackwards 40 = .ok (.getfield 28, 3) := by decide +kernel
theorem dX6_tellBackwards_43 : decode cX6_tellBackwards 43 = .ok (.iload 4, 2) := by decide +kernel
theorem dX6_tellBackwards_45 : decode cX6_tellBackwards 45 = .ok (.iaload, 1) := by decide +kernel
theorem dX6_tellBackwards_46 : decode cX6_tellBackwards 46 = .ok (.goto 4, 3) := by decide +kernel
theorem dX6_tellBackwards_49 : decode cX6_tellBackwards 49 = .ok (.iconst (-1), 1) := by decide +kernel
theorem dX6_tellBackwards_50 : decode cX6_tellBackwards 50 = .ok (.istore 5, 2) := by decide +kernel
theorem dX6_tellBackwards_52 : decode cX6_tellBackwards 52 = .ok (.iconst 0, 1) := by decide +kernel
theorem dX6_tellBackwards_53 : decode cX6_tellBackwards 53 = .ok (.istore 6, 2) := by decide +kernel
theorem dX6_tellBackwards_55 : decode cX6_tellBackwards 55 = .ok (.iload 6, 2) := by decide +kernel
theorem dX6_tellBackwards_57 : decode cX6_tellBackwards 57 = .ok (.aload_n 0, 1) := by decide +kernel
theorem dX6_tellBackwards_58 : decode cX6_tellBackwards 58 = .ok (.getfield 67, 3) := by decide +kernel
theorem dX6_tellBackwards_61 : decode cX6_tellBackwards 61 = .ok (.if_icmp .ge 83, 3) := by decide +kernel
theorem dX6_tellBackwards_64 : decode cX6_tellBackwards 64 = .ok (.aload_n 0, 1) := by decide +kernel
theorem dX6_tellBackwards_65 : decode cX6_tellBackwards 65 = .ok (.iload 5, 2) := by decide +kernel
theorem dX6_tellBackwards_67 : decode cX6_tellBackwards 67 = .ok (.invokevirtual 144, 3) := by decide +kernel
theorem dX6_tellBackwards_70 : decode cX6_tellBackwards 70 = .ok (.ifCond .eq 74, 3) := by decide +kernel
theorem dX6_tellBackwards_73 : decode cX6_tellBackwards 73 = .ok (.aload_n 0, 1) := by decide +kernel
theorem dX6_tellBackwards_74 : decode cX6_tellBackwards 74 = .ok (.getfield 34, 3) := by decide +kernel
theorem dX6_tellBackwards_77 : decode cX6_tellBackwards 77 = .ok (.iload 5, 2) := by decide +kernel
theorem dX6_tellBackwards_79 : decode cX6_tellBackwards 79 = .ok (.iaload, 1) := by decide +kernel
theorem dX6_tellBackwards_80 : decode cX6_tellBackwards 80 = .ok (.istore 7, 2) := by decide +kernel
theorem dX6_tellBackwards_82 : decode cX6_tellBackwards 82 = .ok (.iload_n 2, 1) := by decide +kernel
theorem dX6_tellBackwards_83 : decode cX6_tellBackwards 83 = .ok (.ifCond .eq 15, 3) := by decide +kernel
theorem dX6_tellBackwards_86 : decode cX6_tellBackwards 86 = .ok (.aload_n 0, 1) := by decide +kernel
theorem dX6_tellBackwards_87 : decode cX6_tellBackwards 87 = .ok (.iload 7, 2) := by decide +kernel
theorem dX6_tellBackwards_89 : decode cX6_tellBackwards 89 = .ok (.invokevirtual 147, 3) := by decide +kernel
theorem dX6_tellBackwards_92 : decode cX6_tellBackwards 92 = .ok (.ifCond .eq 37, 3) := by decide +kernel
theorem dX6_tellBackwards_95 : decode cX6_tellBackwards 95 = .ok (.goto 21, 3) := by decide +kernel
theorem dX6_tellBackwards_98 : decode cX6_tellBackwards 98 = .ok (.aload_n 0, 1) := by decide +kernel
theorem dX6_tellBackwards_99 : decode cX6_tellBackwards 99 = .ok (.iload 7, 2) := by decide +kernel
theorem dX6_tellBackwards_101 : decode cX6_tellBackwards 101 = .ok (.invokevirtual 85, 3) := by decide +kernel
theorem dX6_tellBackwards_104 : decode cX6_tellBackwards 104 = .ok (.ifCond .eq 25, 3) := by decide +kernel
theorem dX6_tellBackwards_107 : decode cX6_tellBackwards 107 = .ok (.aload_n 1, 1) := by decide +kernel
theorem dX6_tellBackwards_108 : decode cX6_tellBackwards 108 = .ok (.iload 7, 2) := by decide +kernel
theorem dX6_tellBackwards_110 : decode cX6_tellBackwards 110 = .ok (.iaload, 1) := by decide +kernel
theorem dX6_tellBackwards_111 : decode cX6_tellBackwards 111 = .ok (.bipush (-6), 2) := by decide +kernel
theorem dX6_tellBackwards_113 : decode cX6_tellBackwards 113 = .ok (.if_icmp .ne 16, 3) := by decide +kernel
theorem dX6_tellBackwards_116 : decode cX6_tellBackwards 116 = .ok (.aload_n 0, 1) := by decide +kernel
theorem dX6_tellBackwards_117 : decode cX6_tellBackwards 117 = .ok (.aload_n 1, 1) := by decide +kernel
theorem dX6_tellBackwards_118 : decode cX6_tellBackwards 118 = .ok (.iload 7, 2) := by decide +kernel
theorem dX6_tellBackwards_120 : decode cX6_tellBackwards 120 = .ok (.aload_n 1, 1) := by decide +kernel
theorem dX6_tellBackwards_121 : decode cX6_tellBackwards 121 = .ok (.iload 4, 2) := by decide +kernel
theorem dX6_tellBackwards_123 : decode cX6_tellBackwards 123 = .ok (.iaload, 1) := by decide +kernel
theorem dX6_tellBackwards_124 : decode cX6_tellBackwards 124 = .ok (.iconst 1, 1) := by decide +kernel
theorem dX6_tellBackwards_125 : decode cX6_tellBackwards 125 = .ok (.iadd, 1) := by decide +kernel
theorem dX6_tellBackwards_126 : decode cX6_tellBackwards 126 = .ok (.invokevirtual 150, 3) := by decide +kernel
theorem dX6_tellBackwards_129 : decode cX6_tellBackwards 129 = .ok (.aload_n 0, 1) := by decide +kernel
theorem dX6_tellBackwards_130 : decode cX6_tellBackwards 130 = .ok (.getfield 31, 3) := by decide +kernel
theorem dX6_tellBackwards_133 : decode cX6_tellBackwards 133 = .ok (.iload 5, 2) := by decide +kernel
theorem dX6_tellBackwards_135 : decode cX6_tellBackwards 135 = .ok (.iaload, 1) := by decide +kernel
theorem dX6_tellBackwards_136 : decode cX6_tellBackwards 136 = .ok (.istore 5, 2) := by decide +kernel
theorem dX6_tellBackwards_138 : decode cX6_tellBackwards 138 = .ok (.iinc 6 1, 3) := by decide +kernel
theorem dX6_tellBackwards_141 : decode cX6_tellBackwards 141 = .ok (.goto (-86), 3) := by decide +kernel
theorem dX6_tellBackwards_144 : decode cX6_tellBackwards 144 = .ok (.iinc 3 1, 3) := by decide +kernel
theorem dX6_tellBackwards_147 : decode cX6_tellBackwards 147 = .ok (.goto (-140), 3) := by decide +kernel
theorem dX6_tellBackwards_150 : decode cX6_tellBackwards 150 = .ok (.return_, 1) := by decide +kernel
set_option maxRecDepth 20000 in
theorem ggX6_isLastStepOf_X6_isWay : GoodIn wsX6_isLastStepOf wsX6_isWay := goodIn_r _ [6, 7, 8, 9, 10, 11, 12, 13, 14, 15, 16, 17, 18, 19, 20, 21, 22, 23, 24, 25, 26, 27] (by decide +kernel) (by decide +kernel)
set_option maxRecDepth 20000 in
theorem gX6_isLastStepOf_X6_isWay : GoodIn wsX6_isLastStepOf (wsV RX6 85 RX6 yX6_isWay wsX6_isWay) := goodIn_app (goodIn_of _ (by decide +kernel)) ggX6_isLastStepOf_X6_isWay
theorem dX6_isLastStepOf_0 : decode cX6_isLastStepOf 0 = .ok (.aload_n 0, 1) := by decide +kernel
theorem dX6_isLastStepOf_1 : decode cX6_isLastStepOf 1 = .ok (.iload_n 1, 1) := by decide +kernel
theorem dX6_isLastStepOf_2 : decode cX6_isLastStepOf 2 = .ok (.invokevirtual 85, 3) := by decide +kernel
theorem dX6_isLastStepOf_5 : decode cX6_isLastStepOf 5 = .ok (.ifCond .ne 5, 3) := by decide +kernel
theorem dX6_isLastStepOf_8 : decode cX6_isLastStepOf 8 = .ok (.iconst 0, 1) := by decide +kernel
theorem dX6_isLastStepOf_9 : decode cX6_isLastStepOf 9 = .ok (.ireturn, 1) := by decide +kernel
theorem dX6_isLastStepOf_10 : decode cX6_isLastStepOf 10 = .ok (.aload_n 0, 1) := by decide +kernel
theorem dX6_isLastStepOf_11 : decode cX6_isLastStepOf 11 = .ok (.getfield 37, 3) := by decide +kernel
theorem dX6_isLastStepOf_14 : decode cX6_isLastStepOf 14 = .ok (.iload_n 1, 1) := by decide +kernel
theorem dX6_isLastStepOf_15 : decode cX6_isLastStepOf 15 = .ok (.dup2, 1) := by decide +kernel
theorem dX6_isLastStepOf_16 : decode cX6_isLastStepOf 16 = .ok (.iaload, 1) := by decide +kernel
theorem dX6_isLastStepOf_17 : decode cX6_isLastStepOf 17 = .ok (.iconst 1, 1) := by decide +kernel
theorem dX6_isLastStepOf_18 : decode cX6_isLastStepOf 18 = .ok (.isub, 1) := by decide +kernel
theorem dX6_isLastStepOf_19 : decode cX6_isLastStepOf 19 = .ok (.iastore, 1) := by decide +kernel
theorem dX6_isLastStepOf_20 : decode cX6_isLastStepOf 20 = .ok (.aload_n 0, 1) := by decide +kernel
theorem dX6_isLastStepOf_21 : decode cX6_isLastStepOf 21 = .ok (.getfield 37, 3) := by decide +kernel
theorem dX6_isLastStepOf_24 : decode cX6_isLastStepOf 24 = .ok (.iload_n 1, 1) := by decide +kernel
theorem dX6_isLastStepOf_25 : decode cX6_isLastStepOf 25 = .ok (.iaload, 1) := by decide +kernel
theorem dX6_isLastStepOf_26 : decode cX6_isLastStepOf 26 = .ok (.ifCond .ne 7, 3) := by decide +kernel
theorem dX6_isLastStepOf_29 : decode cX6_isLastStepOf 29 = .ok (.iconst 1, 1) := by decide +kernel
theorem dX6_isLastStepOf_30 : decode cX6_isLastStepOf 30 = .ok (.goto 4, 3) := by decide +kernel
theorem dX6_isLastStepOf_33 : decode cX6_isLastStepOf 33 = .ok (.iconst 0, 1) := by decide +kernel
theorem dX6_isLastStepOf_34 : decode cX6_isLastStepOf 34 = .ok (.ireturn, 1) := by decide +kernel
theorem dX6_isStep_0 : decode cX6_isStep 0 = .ok (.iload_n 1, 1) := by decide +kernel
theorem dX6_isStep_1 : decode cX6_isStep 1 = .ok (.ifCond .lt 22, 3) := by decide +kernel
theorem dX6_isStep_4 : decode cX6_isStep 4 = .ok (.iload_n 1, 1) := by decide +kernel
theorem dX6_isStep_5 : decode cX6_isStep 5 = .ok (.aload_n 0, 1) := by decide +kernel
theorem dX6_isStep_6 : decode cX6_isStep 6 = .ok (.getfield 67, 3) := by decide +kernel
theorem dX6_isStep_9 : decode cX6_isStep 9 = .ok (.if_icmp .ge 14, 3) := by decide +kernel
theorem dX6_isStep_12 : decode cX6_isStep 12 = .ok (.iload_n 1, 1) := by decide +kernel
theorem dX6_isStep_13 : decode cX6_isStep 13 = .ok (.sipush 25857, 3) := by decide +kernel
theorem dX6_isStep_16 : decode cX6_isStep 16 = .ok (.if_icmp .ge 7, 3) := by decide +kernel
theorem dX6_isStep_19 : decode cX6_isStep 19 = .ok (.iconst 1, 1) := by decide +kernel
theorem dX6_isStep_20 : decode cX6_isStep 20 = .ok (.goto 4, 3) := by decide +kernel
theorem dX6_isStep_23 : decode cX6_isStep 23 = .ok (.iconst 0, 1) := by decide +kernel
theorem dX6_isStep_24 : decode cX6_isStep 24 = .ok (.ireturn, 1) := by decide +kernel
set_option maxRecDepth 20000 in
theorem ggX6_lineUpWhatHasMet_X6_hasMet : GoodIn wsX6_lineUpWhatHasMet wsX6_hasMet := goodIn_r _ [7, 8, 9, 10, 11, 6, 12, 2, 13, 14, 15, 16, 17, 18, 19, 20, 21, 22, 23, 29, 30, 31, 32, 33, 34, 35, 36, 37, 38, 39, 40, 41, 42, 43, 44, 45, 46, 47, 48] (by decide +kernel) (by decide +kernel)
set_option maxRecDepth 20000 in
theorem gX6_lineUpWhatHasMet_X6_hasMet : GoodIn wsX6_lineUpWhatHasMet (wsV RX6 94 RX6 yX6_hasMet wsX6_hasMet) := goodIn_app (goodIn_of _ (by decide +kernel)) ggX6_lineUpWhatHasMet_X6_hasMet
set_option maxRecDepth 20000 in
theorem ggX6_lineUpWhatHasMet_X6_lineUp : GoodIn wsX6_lineUpWhatHasMet wsX6_lineUp := goodIn_r _ [27, 1, 28, 9, 10, 11, 6, 12, 2, 29, 30, 31, 32, 33, 34, 35, 36, 37, 38, 39, 40, 41, 42, 43, 44, 45, 46, 47, 48] (by decide +kernel) (by decide +kernel)
set_option maxRecDepth 20000 in
theorem gX6_lineUpWhatHasMet_X6_lineUp : GoodIn wsX6_lineUpWhatHasMet (wsV RX6 150 RX6 yX6_lineUp wsX6_lineUp) := goodIn_app (goodIn_of _ (by decide +kernel)) ggX6_lineUpWhatHasMet_X6_lineUp
theorem dX6_lineUpWhatHasMet_0 : decode cX6_lineUpWhatHasMet 0 = .ok (.aload_n 0, 1) := by decide +kernel
theorem dX6_lineUpWhatHasMet_1 : decode cX6_lineUpWhatHasMet 1 = .ok (.iconst 0, 1) := by decide +kernel
theorem dX6_lineUpWhatHasMet_2 : decode cX6_lineUpWhatHasMet 2 = .ok (.putfield 141, 3) := by decide +kernel
theorem dX6_lineUpWhatHasMet_5 : decode cX6_lineUpWhatHasMet 5 = .ok (.iconst 0, 1) := by decide +kernel
theorem dX6_lineUpWhatHasMet_6 : decode cX6_lineUpWhatHasMet 6 = .ok (.istore_n 2, 1) := by decide +kernel
theorem dX6_lineUpWhatHasMet_7 : decode cX6_lineUpWhatHasMet 7 = .ok (.iload_n 2, 1) := by decide +kernel
theorem dX6_lineUpWhatHasMet_8 : decode cX6_lineUpWhatHasMet 8 = .ok (.aload_n 0, 1) := by decide +kernel
theorem dX6_lineUpWhatHasMet_9 : decode cX6_lineUpWhatHasMet 9 = .ok (.getfield 64, 3) := by decide +kernel
theorem dX6_lineUpWhatHasMet_12 : decode cX6_lineUpWhatHasMet 12 = .ok (.if_icmp .ge 36, 3) := by decide +kernel
theorem dX6_lineUpWhatHasMet_15 : decode cX6_lineUpWhatHasMet 15 = .ok (.iload_n 2, 1) := by decide +kernel
theorem dX6_lineUpWhatHasMet_16 : decode cX6_lineUpWhatHasMet 16 = .ok (.sipush 1957, 3) := by decide +kernel
theorem dX6_lineUpWhatHasMet_19 : decode cX6_lineUpWhatHasMet 19 = .ok (.if_icmp .ge 29, 3) := by decide +kernel
theorem dX6_lineUpWhatHasMet_22 : decode cX6_lineUpWhatHasMet 22 = .ok (.aload_n 1, 1) := by decide +kernel
theorem dX6_lineUpWhatHasMet_23 : decode cX6_lineUpWhatHasMet 23 = .ok (.iload_n 2, 1) := by decide +kernel
theorem dX6_lineUpWhatHasMet_24 : decode cX6_lineUpWhatHasMet 24 = .ok (.bipush (-6), 2) := by decide +kernel
theorem dX6_lineUpWhatHasMet_26 : decode cX6_lineUpWhatHasMet 26 = .ok (.iastore, 1) := by decide +kernel
theorem dX6_lineUpWhatHasMet_27 : decode cX6_lineUpWhatHasMet 27 = .ok (.aload_n 0, 1) := by decide +kernel
theorem dX6_lineUpWhatHasMet_28 : decode cX6_lineUpWhatHasMet 28 = .ok (.iload_n 2, 1) := by decide +kernel
theorem dX6_lineUpWhatHasMet_29 : decode cX6_lineUpWhatHasMet 29 = .ok (.invokevirtual 94, 3) := by decide +kernel
theorem dX6_lineUpWhatHasMet_32 : decode cX6_lineUpWhatHasMet 32 = .ok (.ifCond .eq 10, 3) := by decide +kernel
theorem dX6_lineUpWhatHasMet_35 : decode cX6_lineUpWhatHasMet 35 = .ok (.aload_n 0, 1) := by decide +kernel
theorem dX6_lineUpWhatHasMet_36 : decode cX6_lineUpWhatHasMet 36 = .ok (.aload_n 1, 1) := by decide +kernel
theorem dX6_lineUpWhatHasMet_37 : decode cX6_lineUpWhatHasMet 37 = .ok (.iload_n 2, 1) := by decide +kernel
theorem dX6_lineUpWhatHasMet_38 : decode cX6_lineUpWhatHasMet 38 = .ok (.iconst 0, 1) := by decide +kernel
theorem dX6_lineUpWhatHasMet_39 : decode cX6_lineUpWhatHasMet 39 = .ok (.invokevirtual 150, 3) := by decide +kernel
theorem dX6_lineUpWhatHasMet_42 : decode cX6_lineUpWhatHasMet 42 = .ok (.iinc 2 1, 3) := by decide +kernel
theorem dX6_lineUpWhatHasMet_45 : decode cX6_lineUpWhatHasMet 45 = .ok (.goto (-38), 3) := by decide +kernel
theorem dX6_lineUpWhatHasMet_48 : decode cX6_lineUpWhatHasMet 48 = .ok (.return_, 1) := by decide +kernel
set_option maxRecDepth 20000 in
theorem ggX6_lineUp_X6_isWay : GoodIn wsX6_lineUp wsX6_isWay := goodIn_r _ [7, 8, 9, 10, 11, 12, 13, 14, 15, 16, 17, 18, 19, 20, 21, 22, 23, 24, 25, 26, 27, 28] (by decide +kernel) (by decide +kernel)
set_option maxRecDepth 20000 in
theorem gX6_lineUp_X6_isWay : GoodIn wsX6_lineUp (wsV RX6 85 RX6 yX6_isWay wsX6_isWay) := goodIn_app (goodIn_of _ (by decide +kernel)) ggX6_lineUp_X6_isWay
theorem dX6_lineUp_0 : decode cX6_lineUp 0 = .ok (.aload_n 0, 1) := by decide +kernel
theorem dX6_lineUp_1 : decode cX6_lineUp 1 = .ok (.iload_n 2, 1) := by decide +kernel
theorem dX6_lineUp_2 : decode cX6_lineUp 2 = .ok (.invokevirtual 85, 3) := by decide +kernel
theorem dX6_lineUp_5 : decode cX6_lineUp 5 = .ok (.ifCond .eq 37, 3) := by decide +kernel
theorem dX6_lineUp_8 : decode cX6_lineUp 8 = .ok (.aload_n 0, 1) := by decide +kernel
theorem dX6_lineUp_9 : decode cX6_lineUp 9 = .ok (.getfield 141, 3) := by decide +kernel
theorem dX6_lineUp_12 : decode cX6_lineUp 12 = .ok (.sipush 1957, 3) := by decide +kernel
theorem dX6_lineUp_15 : decode cX6_lineUp 15 = .ok (.if_icmp .ge 27, 3) := by decide +kernel
theorem dX6_lineUp_18 : decode cX6_lineUp 18 = .ok (.aload_n 1, 1) := by decide +kernel
theorem dX6_lineUp_19 : decode cX6_lineUp 19 = .ok (.iload_n 2, 1) := by decide +kernel
theorem dX6_lineUp_20 : decode cX6_lineUp 20 = .ok (.iload_n 3, 1) := by decide +kernel
theorem dX6_lineUp_21 : decode cX6_lineUp 21 = .ok (.iastore, 1) := by decide +kernel
theorem dX6_lineUp_22 : decode cX6_lineUp 22 = .ok (.aload_n 0, 1) := by decide +kernel
theorem dX6_lineUp_23 : decode cX6_lineUp 23 = .ok (.getfield 46, 3) := by decide +kernel
theorem dX6_lineUp_26 : decode cX6_lineUp 26 = .ok (.aload_n 0, 1) := by decide +kernel
theorem dX6_lineUp_27 : decode cX6_lineUp 27 = .ok (.getfield 141, 3) := by decide +kernel
theorem dX6_lineUp_30 : decode cX6_lineUp 30 = .ok (.iload_n 2, 1) := by decide +kernel
theorem dX6_lineUp_31 : decode cX6_lineUp 31 = .ok (.iastore, 1) := by decide +kernel
theorem dX6_lineUp_32 : decode cX6_lineUp 32 = .ok (.aload_n 0, 1) := by decide +kernel
theorem dX6_lineUp_33 : decode cX6_lineUp 33 = .ok (.dup, 1) := by decide +kernel
theorem dX6_lineUp_34 : decode cX6_lineUp 34 = .ok (.getfield 141, 3) := by decide +kernel
theorem dX6_lineUp_37 : decode cX6_lineUp 37 = .ok (.iconst 1, 1) := by decide +kernel
theorem dX6_lineUp_38 : decode cX6_lineUp 38 = .ok (.iadd, 1) := by decide +kernel
theorem dX6_lineUp_39 : decode cX6_lineUp 39 = .ok (.putfield 141, 3) := by decide +kernel
theorem dX6_lineUp_42 : decode cX6_lineUp 42 = .ok (.return_, 1) := by decide +kernel
set_option maxRecDepth 20000 in
theorem ggX6_soonOf_X6_isWay : GoodIn wsX6_soonOf wsX6_isWay := goodIn_r _ [6, 7, 8, 9, 10, 11, 12, 13, 14, 15, 16, 17, 18, 19, 20, 21, 22, 23, 24, 25, 26, 27] (by decide +kernel) (by decide +kernel)
set_option maxRecDepth 20000 in
theorem gX6_soonOf_X6_isWay : GoodIn wsX6_soonOf (wsV RX6 85 RX6 yX6_isWay wsX6_isWay) := goodIn_app (goodIn_of _ (by decide +kernel)) ggX6_soonOf_X6_isWay
theorem dX6_soonOf_0 : decode cX6_soonOf 0 = .ok (.aload_n 0, 1) := by decide +kernel
theorem dX6_soonOf_1 : decode cX6_soonOf 1 = .ok (.iload_n 1, 1) := by decide +kernel
theorem dX6_soonOf_2 : decode cX6_soonOf 2 = .ok (.invokevirtual 85, 3) := by decide +kernel
theorem dX6_soonOf_5 : decode cX6_soonOf 5 = .ok (.ifCond .eq 12, 3) := by decide +kernel
theorem dX6_soonOf_8 : decode cX6_soonOf 8 = .ok (.aload_n 0, 1) := by decide +kernel
theorem dX6_soonOf_9 : decode cX6_soonOf 9 = .ok (.getfield 40, 3) := by decide +kernel
theorem dX6_soonOf_12 : decode cX6_soonOf 12 = .ok (.iload_n 1, 1) := by decide +kernel
theorem dX6_soonOf_13 : decode cX6_soonOf 13 = .ok (.iaload, 1) := by decide +kernel
theorem dX6_soonOf_14 : decode cX6_soonOf 14 = .ok (.goto 5, 3) := by decide +kernel
theorem dX6_soonOf_17 : decode cX6_soonOf 17 = .ok (.bipush (-6), 2) := by decide +kernel
theorem dX6_soonOf_19 : decode cX6_soonOf 19 = .ok (.ireturn, 1) := by decide +kernel
set_option maxRecDepth 20000 in
theorem ggX6_lateOf_X6_isWay : GoodIn wsX6_lateOf wsX6_isWay := goodIn_r _ [6, 7, 8, 9, 10, 11, 12, 13, 14, 15, 16, 17, 18, 19, 20, 21, 22, 23, 24, 25, 26, 27] (by decide +kernel) (by decide +kernel)
set_option maxRecDepth 20000 in
theorem gX6_lateOf_X6_isWay : GoodIn wsX6_lateOf (wsV RX6 85 RX6 yX6_isWay wsX6_isWay) := goodIn_app (goodIn_of _ (by decide +kernel)) ggX6_lateOf_X6_isWay
theorem dX6_lateOf_0 : decode cX6_lateOf 0 = .ok (.aload_n 0, 1) := by decide +kernel
theorem dX6_lateOf_1 : decode cX6_lateOf 1 = .ok (.iload_n 1, 1) := by decide +kernel
theorem dX6_lateOf_2 : decode cX6_lateOf 2 = .ok (.invokevirtual 85, 3) := by decide +kernel
theorem dX6_lateOf_5 : decode cX6_lateOf 5 = .ok (.ifCond .eq 12, 3) := by decide +kernel
theorem dX6_lateOf_8 : decode cX6_lateOf 8 = .ok (.aload_n 0, 1) := by decide +kernel
theorem dX6_lateOf_9 : decode cX6_lateOf 9 = .ok (.getfield 43, 3) := by decide +kernel
theorem dX6_lateOf_12 : decode cX6_lateOf 12 = .ok (.iload_n 1, 1) := by decide +kernel
theorem dX6_lateOf_13 : decode cX6_lateOf 13 = .ok (.iaload, 1) := by decide +kernel
theorem dX6_lateOf_14 : decode cX6_lateOf 14 = .ok (.goto 5, 3) := by decide +kernel
theorem dX6_lateOf_17 : decode cX6_lateOf 17 = .ok (.bipush (-6), 2) := by decide +kernel
theorem dX6_lateOf_19 : decode cX6_lateOf 19 = .ok (.ireturn, 1) := by decide +kernel
set_option maxRecDepth 20000 in
theorem ggX6_kindOf_X6_hasMet : GoodIn wsX6_kindOf wsX6_hasMet := goodIn_r _ [5, 6, 7, 8, 9, 4, 10, 11, 12, 13, 14, 15, 16, 17, 18, 19, 20, 21, 22, 33, 34, 35, 36, 37, 38, 39, 40, 41, 42, 43, 44, 45, 46, 47, 48, 49, 50, 51, 52] (by decide +kernel) (by decide +kernel)
set_option maxRecDepth 20000 in
theorem gX6_kindOf_X6_hasMet : GoodIn wsX6_kindOf (wsV RX6 94 RX6 yX6_hasMet wsX6_hasMet) := goodIn_app (goodIn_of _ (by decide +kernel)) ggX6_kindOf_X6_hasMet
set_option maxRecDepth 20000 in
theorem ggX6_kindOf_X6_lateOf : GoodIn wsX6_kindOf wsX6_lateOf := goodIn_r _ [26, 27, 7, 8, 9, 4, 10, 11, 33, 34, 35, 36, 37, 38, 39, 40, 41, 42, 43, 44, 45, 46, 47, 48, 49, 50, 51, 52] (by decide +kernel) (by decide +kernel)
set_option maxRecDepth 20000 in
theorem gX6_kindOf_X6_lateOf : GoodIn wsX6_kindOf (wsV RX6 154 RX6 yX6_lateOf wsX6_lateOf) := goodIn_app (goodIn_of _ (by decide +kernel)) ggX6_kindOf_X6_lateOf
set_option maxRecDepth 20000 in
theorem ggX6_kindOf_X6_soonOf : GoodIn wsX6_kindOf wsX6_soonOf := goodIn_r _ [31, 32, 7, 8, 9, 4, 10, 11, 33, 34, 35, 36, 37, 38, 39, 40, 41, 42, 43, 44, 45, 46, 47, 48, 49, 50, 51, 52] (by decide +kernel) (by decide +kernel)
set_option maxRecDepth 20000 in
theorem gX6_kindOf_X6_soonOf : GoodIn wsX6_kindOf (wsV RX6 157 RX6 yX6_soonOf wsX6_soonOf) := goodIn_app (goodIn_of _ (by decide +kernel)) ggX6_kindOf_X6_soonOf
theorem dX6_kindOf_0 : decode cX6_kindOf 0 = .ok (.aload_n 0, 1) := by decide +kernel
theorem dX6_kindOf_1 : decode cX6_kindOf 1 = .ok (.iload_n 1, 1) := by decide +kernel
theorem dX6_kindOf_2 : decode cX6_kindOf 2 = .ok (.invokevirtual 94, 3) := by decide +kernel
theorem dX6_kindOf_5 : decode cX6_kindOf 5 = .ok (.ifCond .eq 5, 3) := by decide +kernel
theorem dX6_kindOf_8 : decode cX6_kindOf 8 = .ok (.iconst 0, 1) := by decide +kernel
theorem dX6_kindOf_9 : decode cX6_kindOf 9 = .ok (.ireturn, 1) := by decide +kernel
theorem dX6_kindOf_10 : decode cX6_kindOf 10 = .ok (.aload_n 0, 1) := by decide +kernel
theorem dX6_kindOf_11 : decode cX6_kindOf 11 = .ok (.iload_n 1, 1) := by decide +kernel
theorem dX6_kindOf_12 : decode cX6_kindOf 12 = .ok (.invokevirtual 154, 3) := by decide +kernel
theorem dX6_kindOf_15 : decode cX6_kindOf 15 = .ok (.bipush (-6), 2) := by decide +kernel
theorem dX6_kindOf_17 : decode cX6_kindOf 17 = .ok (.if_icmp .eq 5, 3) := by decide +kernel
theorem dX6_kindOf_20 : decode cX6_kindOf 20 = .ok (.iconst 1, 1) := by decide +kernel
theorem dX6_kindOf_21 : decode cX6_kindOf 21 = .ok (.ireturn, 1) := by decide +kernel
theorem dX6_kindOf_22 : decode cX6_kindOf 22 = .ok (.aload_n 0, 1) := by decide +kernel
theorem dX6_kindOf_23 : decode cX6_kindOf 23 = .ok (.iload_n 1, 1) := by decide +kernel
theorem dX6_kindOf_24 : decode cX6_kindOf 24 = .ok (.invokevirtual 157, 3) := by decide +kernel
theorem dX6_kindOf_27 : decode cX6_kindOf 27 = .ok (.bipush (-6), 2) := by decide +kernel
theorem dX6_kindOf_29 : decode cX6_kindOf 29 = .ok (.if_icmp .eq 7, 3) := by decide +kernel
theorem dX6_kindOf_32 : decode cX6_kindOf 32 = .ok (.iconst 2, 1) := by decide +kernel
theorem dX6_kindOf_33 : decode cX6_kindOf 33 = .ok (.goto 4, 3) := by decide +kernel
theorem dX6_kindOf_36 : decode cX6_kindOf 36 = .ok (.iconst 3, 1) := by decide +kernel
theorem dX6_kindOf_37 : decode cX6_kindOf 37 = .ok (.ireturn, 1) := by decide +kernel
set_option maxRecDepth 20000 in
theorem ggX6_leastSetTowardsMeeting_X6_soonOf : GoodIn wsX6_leastSetTowardsMeeting wsX6_soonOf := goodIn_r _ [9, 10, 11, 12, 13, 8, 14, 15, 144, 145, 146, 147, 148, 149, 150, 151, 152, 153, 154, 155, 156, 157, 158, 159, 160, 161, 162, 163] (by decide +kernel) (by decide +kernel)
set_option maxRecDepth 20000 in
theorem gX6_leastSetTowardsMeeting_X6_soonOf : GoodIn wsX6_leastSetTowardsMeeting (wsV RX6 157 RX6 yX6_soonOf wsX6_soonOf) := goodIn_app (goodIn_of _ (by decide +kernel)) ggX6_leastSetTowardsMeeting_X6_soonOf
set_option maxRecDepth 20000 in
theorem ggX6_leastSetTowardsMeeting_X6_isWay : GoodIn wsX6_leastSetTowardsMeeting wsX6_isWay := goodIn_r _ [14, 15, 144, 145, 146, 147, 148, 149, 150, 151, 152, 153, 154, 155, 156, 157, 158, 159, 160, 161, 162, 163] (by decide +kernel) (by decide +kernel)
set_option maxRecDepth 20000 in
theorem gX6_leastSetTowardsMeeting_X6_isWay : GoodIn wsX6_leastSetTowardsMeeting (wsV RX6 85 RX6 yX6_isWay wsX6_isWay) := goodIn_app (goodIn_of _ (by decide +kernel)) ggX6_leastSetTowardsMeeting_X6_isWay
set_option maxRecDepth 20000 in
theorem ggX6_leastSetTowardsMeeting_X5_standsOf : GoodIn wsX6_leastSetTowardsMeeting wsX5_standsOf := goodIn_r _ [19] (by decide +kernel) (by decide +kernel)
set_option maxRecDepth 20000 in
theorem gX6_leastSetTowardsMeeting_X5_standsOf : GoodIn wsX6_leastSetTowardsMeeting (va_wsS RX6 80 yX5_standsOf wsX5_standsOf) := goodIn_app (goodIn_of _ (by decide +kernel)) ggX6_leastSetTowardsMeeting_X5_standsOf
set_option maxRecDepth 20000 in
theorem ggX6_leastSetTowardsMeeting_X6_towersSeen : GoodIn wsX6_leastSetTowardsMeeting wsX6_towersSeen := goodIn_r _ [23, 24, 25, 26, 18, 27, 144, 145, 146, 147, 148, 149, 150, 151, 152, 153, 154, 155, 156, 157, 158, 159, 160, 161, 162, 163] (by decide +kernel) (by decide +kernel)
set_option maxRecDepth 20000 in
theorem gX6_leastSetTowardsMeeting_X6_towersSeen : GoodIn wsX6_leastSetTowardsMeeting (wsV RX6 97 RX6 yX6_towersSeen wsX6_towersSeen) := goodIn_app (goodIn_of _ (by decide +kernel)) ggX6_leastSetTowardsMeeting_X6_towersSeen
set_option maxRecDepth 20000 in
theorem ggX6_leastSetTowardsMeeting_X2_from : GoodIn wsX6_leastSetTowardsMeeting wsX2_from := goodIn_r _ [32, 33, 34, 35, 36, 37, 38, 18, 39, 40, 41, 42, 43, 44, 45, 46, 47, 48, 49, 50, 51, 52, 53, 54, 55, 56, 57, 58, 59, 60, 61, 62, 63, 64, 65, 66, 67, 68, 69, 70, 71, 72, 73, 74, 75, 76, 77, 78, 79, 80, 81, 82, 83, 84, 85, 86, 87, 88, 89, 90, 91, 92, 93, 94, 95, 96, 97, 98, 99, 100, 101, 102, 103, 104, 105, 106, 107, 31, 108, 109, 164, 165, 166, 167, 168, 169, 170, 171, 172, 173, 174] (by decide +kernel) (by decide +kernel)
set_option maxRecDepth 20000 in
theorem gX6_leastSetTowardsMeeting_X2_from : GoodIn wsX6_leastSetTowardsMeeting (wsV RX6 100 RX2 yX2_from wsX2_from) := goodIn_app (goodIn_of _ (by decide +kernel)) ggX6_leastSetTowardsMeeting_X2_from
set_option maxRecDepth 20000 in
theorem ggX6_leastSetTowardsMeeting_X6_setAfter : GoodIn wsX6_leastSetTowardsMeeting wsX6_setAfter := goodIn_r _ [113, 1, 114, 115, 116, 117, 31, 118, 33, 34, 119, 120, 65, 121, 144, 145, 146, 147, 148, 149, 150, 151, 152, 153, 154, 155, 156, 157, 158, 159, 160, 161, 162, 163, 164, 165, 166, 167] (by decide +kernel) (by decide +kernel)
set_option maxRecDepth 20000 in
theorem gX6_leastSetTowardsMeeting_X6_setAfter : GoodIn wsX6_leastSetTowardsMeeting (wsV RX6 120 RX6 yX6_setAfter wsX6_setAfter) := goodIn_app (goodIn_of _ (by decide +kernel)) ggX6_leastSetTowardsMeeting_X6_setAfter
set_option maxRecDepth 20000 in
theorem ggX6_leastSetTowardsMeeting_X2_wayBehind : GoodIn wsX6_leastSetTowardsMeeting wsX2_wayBehind := goodIn_r _ [125, 33, 34, 126, 17, 18, 19, 127, 26, 27, 128, 116, 117, 31, 118, 129, 130, 131, 132, 133, 134, 135, 136, 137, 164, 165, 166, 167] (by decide +kernel) (by decide +kernel)
set_option maxRecDepth 20000 in
theorem gX6_leastSetTowardsMeeting_X2_wayBehind : GoodIn wsX6_leastSetTowardsMeeting (wsV RX6 123 RX2 yX2_wayBehind wsX2_wayBehind) := goodIn_app (goodIn_of _ (by decide +kernel)) ggX6_leastSetTowardsMeeting_X2_wayBehind
set_option maxRecDepth 20000 in
theorem ggX6_leastSetTowardsMeeting_X6_find : GoodIn wsX6_leastSetTowardsMeeting wsX6_find := goodIn_r _ [141, 142, 15, 4, 143, 16, 17, 18, 19, 11, 12, 13, 8, 14, 144, 145, 146, 147, 148, 149, 150, 151, 152, 153, 154, 155, 156, 157, 158, 159, 160, 161, 162, 163] (by decide +kernel) (by decide +kernel)
set_option maxRecDepth 20000 in
theorem gX6_leastSetTowardsMeeting_X6_find : GoodIn wsX6_leastSetTowardsMeeting (wsV RX6 76 RX6 yX6_find wsX6_find) := goodIn_app (goodIn_of _ (by decide +kernel)) ggX6_leastSetTowardsMeeting_X6_find
theorem dX6_leastSetTowardsMeeting_0 : decode cX6_leastSetTowardsMeeting 0 = .ok (.aload_n 0, 1) := by decide +kernel
theorem dX6_leastSetTowardsMeeting_1 : decode cX6_leastSetTowardsMeeting 1 = .ok (.iload_n 1, 1) := by decide +kernel
theorem dX6_leastSetTowardsMeeting_2 : decode cX6_leastSetTowardsMeeting 2 = .ok (.invokevirtual 157, 3) := by decide +kernel
theorem dX6_leastSetTowardsMeeting_5 : decode cX6_leastSetTowardsMeeting 5 = .ok (.istore_n 2, 1) := by decide +kernel
theorem dX6_leastSetTowardsMeeting_6 : decode cX6_leastSetTowardsMeeting 6 = .ok (.aload_n 0, 1) := by decide +kernel
theorem dX6_leastSetTowardsMeeting_7 : decode cX6_leastSetTowardsMeeting 7 = .ok (.iload_n 1, 1) := by decide +kernel
theorem dX6_leastSetTowardsMeeting_8 : decode cX6_leastSetTowardsMeeting 8 = .ok (.invokevirtual 85, 3) := by decide +kernel
theorem dX6_leastSetTowardsMeeting_11 : decode cX6_leastSetTowardsMeeting 11 = .ok (.ifCond .eq 13, 3) := by decide +kernel
theorem dX6_leastSetTowardsMeeting_14 : decode cX6_leastSetTowardsMeeting 14 = .ok (.iload_n 2, 1) := by decide +kernel
theorem dX6_leastSetTowardsMeeting_15 : decode cX6_leastSetTowardsMeeting 15 = .ok (.bipush (-6), 2) := by decide +kernel
theorem dX6_leastSetTowardsMeeting_17 : decode cX6_leastSetTowardsMeeting 17 = .ok (.if_icmp .eq 7, 3) := by decide +kernel
theorem dX6_leastSetTowardsMeeting_20 : decode cX6_leastSetTowardsMeeting 20 = .ok (.iload_n 2, 1) := by decide +kernel
theorem dX6_leastSetTowardsMeeting_21 : decode cX6_leastSetTowardsMeeting 21 = .ok (.ifCond .ne 6, 3) := by decide +kernel
theorem dX6_leastSetTowardsMeeting_24 : decode cX6_leastSetTowardsMeeting 24 = .ok (.bipush (-6), 2) := by decide +kernel
theorem dX6_leastSetTowardsMeeting_26 : decode cX6_leastSetTowardsMeeting 26 = .ok (.ireturn, 1) := by decide +kernel
theorem dX6_leastSetTowardsMeeting_27 : decode cX6_leastSetTowardsMeeting 27 = .ok (.aload_n 0, 1) := by decide +kernel
theorem dX6_leastSetTowardsMeeting_28 : decode cX6_leastSetTowardsMeeting 28 = .ok (.getfield 12, 3) := by decide +kernel
theorem dX6_leastSetTowardsMeeting_31 : decode cX6_leastSetTowardsMeeting 31 = .ok (.aload_n 0, 1) := by decide +kernel
theorem dX6_leastSetTowardsMeeting_32 : decode cX6_leastSetTowardsMeeting 32 = .ok (.getfield 49, 3) := by decide +kernel
theorem dX6_leastSetTowardsMeeting_35 : decode cX6_leastSetTowardsMeeting 35 = .ok (.aload_n 0, 1) := by decide +kernel
theorem dX6_leastSetTowardsMeeting_36 : decode cX6_leastSetTowardsMeeting 36 = .ok (.getfield 53, 3) := by decide +kernel
theorem dX6_leastSetTowardsMeeting_39 : decode cX6_leastSetTowardsMeeting 39 = .ok (.aload_n 0, 1) := by decide +kernel
theorem dX6_leastSetTowardsMeeting_40 : decode cX6_leastSetTowardsMeeting 40 = .ok (.getfield 18, 3) := by decide +kernel
theorem dX6_leastSetTowardsMeeting_43 : decode cX6_leastSetTowardsMeeting 43 = .ok (.iload_n 1, 1) := by decide +kernel
theorem dX6_leastSetTowardsMeeting_44 : decode cX6_leastSetTowardsMeeting 44 = .ok (.iaload, 1) := by decide +kernel
theorem dX6_leastSetTowardsMeeting_45 : decode cX6_leastSetTowardsMeeting 45 = .ok (.invokestatic 80, 3) := by decide +kernel
theorem dX6_leastSetTowardsMeeting_48 : decode cX6_leastSetTowardsMeeting 48 = .ok (.aload_n 0, 1) := by decide +kernel
theorem dX6_leastSetTowardsMeeting_49 : decode cX6_leastSetTowardsMeeting 49 = .ok (.aload_n 0, 1) := by decide +kernel
theorem dX6_leastSetTowardsMeeting_50 : decode cX6_leastSetTowardsMeeting 50 = .ok (.getfield 18, 3) := by decide +kernel
theorem dX6_leastSetTowardsMeeting_53 : decode cX6_leastSetTowardsMeeting 53 = .ok (.iload_n 1, 1) := by decide +kernel
theorem dX6_leastSetTowardsMeeting_54 : decode cX6_leastSetTowardsMeeting 54 = .ok (.iaload, 1) := by decide +kernel
theorem dX6_leastSetTowardsMeeting_55 : decode cX6_leastSetTowardsMeeting 55 = .ok (.invokevirtual 97, 3) := by decide +kernel
theorem dX6_leastSetTowardsMeeting_58 : decode cX6_leastSetTowardsMeeting 58 = .ok (.invokevirtual 100, 3) := by decide +kernel
theorem dX6_leastSetTowardsMeeting_61 : decode cX6_leastSetTowardsMeeting 61 = .ok (.aload_n 0, 1) := by decide +kernel
theorem dX6_leastSetTowardsMeeting_62 : decode cX6_leastSetTowardsMeeting 62 = .ok (.iconst 0, 1) := by decide +kernel
theorem dX6_leastSetTowardsMeeting_63 : decode cX6_leastSetTowardsMeeting 63 = .ok (.invokevirtual 120, 3) := by decide +kernel
theorem dX6_leastSetTowardsMeeting_66 : decode cX6_leastSetTowardsMeeting 66 = .ok (.istore_n 3, 1) := by decide +kernel
theorem dX6_leastSetTowardsMeeting_67 : decode cX6_leastSetTowardsMeeting 67 = .ok (.iconst 0, 1) := by decide +kernel
theorem dX6_leastSetTowardsMeeting_68 : decode cX6_leastSetTowardsMeeting 68 = .ok (.istore 4, 2) := by decide +kernel
theorem dX6_leastSetTowardsMeeting_70 : decode cX6_leastSetTowardsMeeting 70 = .ok (.iload 4, 2) := by decide +kernel
theorem dX6_leastSetTowardsMeeting_72 : decode cX6_leastSetTowardsMeeting 72 = .ok (.bipush 31, 2) := by decide +kernel
theorem dX6_leastSetTowardsMeeting_74 : decode cX6_leastSetTowardsMeeting 74 = .ok (.if_icmp .ge 53, 3) := by decide +kernel
theorem dX6_leastSetTowardsMeeting_77 : decode cX6_leastSetTowardsMeeting 77 = .ok (.iload_n 3, 1) := by decide +kernel
theorem dX6_leastSetTowardsMeeting_78 : decode cX6_leastSetTowardsMeeting 78 = .ok (.ifCond .eq 49, 3) := by decide +kernel
theorem dX6_leastSetTowardsMeeting_81 : decode cX6_leastSetTowardsMeeting 81 = .ok (.aload_n 0, 1) := by decide +kernel
theorem dX6_leastSetTowardsMeeting_82 : decode cX6_leastSetTowardsMeeting 82 = .ok (.aload_n 0, 1) := by decide +kernel
theorem dX6_leastSetTowardsMeeting_83 : decode cX6_leastSetTowardsMeeting 83 = .ok (.aload_n 0, 1) := by decide +kernel
theorem dX6_leastSetTowardsMeeting_84 : decode cX6_leastSetTowardsMeeting 84 = .ok (.getfield 12, 3) := by decide +kernel
theorem dX6_leastSetTowardsMeeting_87 : decode cX6_leastSetTowardsMeeting 87 = .ok (.aload_n 0, 1) := by decide +kernel
theorem dX6_leastSetTowardsMeeting_88 : decode cX6_leastSetTowardsMeeting 88 = .ok (.getfield 53, 3) := by decide +kernel
theorem dX6_leastSetTowardsMeeting_91 : decode cX6_leastSetTowardsMeeting 91 = .ok (.aload_n 0, 1) := by decide +kernel
theorem dX6_leastSetTowardsMeeting_92 : decode cX6_leastSetTowardsMeeting 92 = .ok (.getfield 18, 3) := by decide +kernel
theorem dX6_leastSetTowardsMeeting_95 : decode cX6_leastSetTowardsMeeting 95 = .ok (.iload_n 1, 1) := by decide +kernel
theorem dX6_leastSetTowardsMeeting_96 : decode cX6_leastSetTowardsMeeting 96 = .ok (.iaload, 1) := by decide +kernel
theorem dX6_leastSetTowardsMeeting_97 : decode cX6_leastSetTowardsMeeting 97 = .ok (.iload_n 3, 1) := by decide +kernel
theorem dX6_leastSetTowardsMeeting_98 : decode cX6_leastSetTowardsMeeting 98 = .ok (.invokevirtual 123, 3) := by decide +kernel
theorem dX6_leastSetTowardsMeeting_101 : decode cX6_leastSetTowardsMeeting 101 = .ok (.invokevirtual 76, 3) := by decide +kernel
theorem dX6_leastSetTowardsMeeting_104 : decode cX6_leastSetTowardsMeeting 104 = .ok (.invokevirtual 157, 3) := by decide +kernel
theorem dX6_leastSetTowardsMeeting_107 : decode cX6_leastSetTowardsMeeting 107 = .ok (.iload_n 2, 1) := by decide +kernel
theorem dX6_leastSetTowardsMeeting_108 : decode cX6_leastSetTowardsMeeting 108 = .ok (.iconst 1, 1) := by decide +kernel
theorem dX6_leastSetTowardsMeeting_109 : decode cX6_leastSetTowardsMeeting 109 = .ok (.isub, 1) := by decide +kernel
theorem dX6_leastSetTowardsMeeting_110 : decode cX6_leastSetTowardsMeeting 110 = .ok (.if_icmp .ne 5, 3) := by decide +kernel
theorem dX6_leastSetTowardsMeeting_113 : decode cX6_leastSetTowardsMeeting 113 = .ok (.iload_n 3, 1) := by decide +kernel
theorem dX6_leastSetTowardsMeeting_114 : decode cX6_leastSetTowardsMeeting 114 = .ok (.ireturn, 1) := by decide +kernel
theorem dX6_leastSetTowardsMeeting_115 : decode cX6_leastSetTowardsMeeting 115 = .ok (.aload_n 0, 1) := by decide +kernel
theorem dX6_leastSetTowardsMeeting_116 : decode cX6_leastSetTowardsMeeting 116 = .ok (.iload_n 3, 1) := by decide +kernel
theorem dX6_leastSetTowardsMeeting_117 : decode cX6_leastSetTowardsMeeting 117 = .ok (.invokevirtual 120, 3) := by decide +kernel
theorem dX6_leastSetTowardsMeeting_120 : decode cX6_leastSetTowardsMeeting 120 = .ok (.istore_n 3, 1) := by decide +kernel
theorem dX6_leastSetTowardsMeeting_121 : decode cX6_leastSetTowardsMeeting 121 = .ok (.iinc 4 1, 3) := by decide +kernel
theorem dX6_leastSetTowardsMeeting_124 : decode cX6_leastSetTowardsMeeting 124 = .ok (.goto (-54), 3) := by decide +kernel
theorem dX6_leastSetTowardsMeeting_127 : decode cX6_leastSetTowardsMeeting 127 = .ok (.bipush (-6), 2) := by decide +kernel
theorem dX6_leastSetTowardsMeeting_129 : decode cX6_leastSetTowardsMeeting 129 = .ok (.ireturn, 1) := by decide +kernel
set_option maxRecDepth 20000 in
theorem ggX7_init_X4_init : GoodIn wsX7_init wsX4_init := goodIn_r _ [17, 18, 2, 3, 14, 19, 20, 21, 22, 23, 24, 25, 26, 27, 28, 32, 33, 34, 47, 48] (by decide +kernel) (by decide +kernel)
set_option maxRecDepth 20000 in
theorem gX7_init_X4_init_n9 : GoodIn wsX7_init (wsX4_init) := ggX7_init_X4_init
set_option maxRecDepth 20000 in
theorem ggX7_init_X1_init : GoodIn wsX7_init wsX1_init := goodIn_r _ [30, 31, 2, 3] (by decide +kernel) (by decide +kernel)
set_option maxRecDepth 20000 in
theorem gX7_init_X1_init_n24 : GoodIn wsX7_init (wsX1_init) := ggX7_init_X1_init
theorem dX7_init_0 : decode cX7_init 0 = .ok (.aload_n 0, 1) := by decide +kernel
theorem dX7_init_1 : decode cX7_init 1 = .ok (.invokespecial 1, 3) := by decide +kernel
theorem dX7_init_4 : decode cX7_init 4 = .ok (.aload_n 0, 1) := by decide +kernel
theorem dX7_init_5 : decode cX7_init 5 = .ok (.new 7, 3) := by decide +kernel
theorem dX7_init_8 : decode cX7_init 8 = .ok (.dup, 1) := by decide +kernel
theorem dX7_init_9 : decode cX7_init 9 = .ok (.invokespecial 9, 3) := by decide +kernel
theorem dX7_init_12 : decode cX7_init 12 = .ok (.putfield 10, 3) := by decide +kernel
theorem dX7_init_15 : decode cX7_init 15 = .ok (.aload_n 0, 1) := by decide +kernel
theorem dX7_init_16 : decode cX7_init 16 = .ok (.new 7, 3) := by decide +kernel
theorem dX7_init_19 : decode cX7_init 19 = .ok (.dup, 1) := by decide +kernel
theorem dX7_init_20 : decode cX7_init 20 = .ok (.invokespecial 9, 3) := by decide +kernel
theorem dX7_init_23 : decode cX7_init 23 = .ok (.putfield 16, 3) := by decide +kernel
theorem dX7_init_26 : decode cX7_init 26 = .ok (.aload_n 0, 1) := by decide +kernel
theorem dX7_init_27 : decode cX7_init 27 = .ok (.new 7, 3) := by decide +kernel
theorem dX7_init_30 : decode cX7_init 30 = .ok (.dup, 1) := by decide +kernel
theorem dX7_init_31 : decode cX7_init 31 = .ok (.invokespecial 9, 3) := by decide +kernel
theorem dX7_init_34 : decode cX7_init 34 = .ok (.putfield 19, 3) := by decide +kernel
theorem dX7_init_37 : decode cX7_init 37 = .ok (.aload_n 0, 1) := by decide +kernel
theorem dX7_init_38 : decode cX7_init 38 = .ok (.new 22, 3) := by decide +kernel
theorem dX7_init_41 : decode cX7_init 41 = .ok (.dup, 1) := by decide +kernel
theorem dX7_init_42 : decode cX7_init 42 = .ok (.invokespecial 24, 3) := by decide +kernel
theorem dX7_init_45 : decode cX7_init 45 = .ok (.putfield 25, 3) := by decide +kernel
theorem dX7_init_48 : decode cX7_init 48 = .ok (.aload_n 0, 1) := by decide +kernel
theorem dX7_init_49 : decode cX7_init 49 = .ok (.bipush 10, 2) := by decide +kernel
theorem dX7_init_51 : decode cX7_init 51 = .ok (.newarray .int, 2) := by decide +kernel
theorem dX7_init_53 : decode cX7_init 53 = .ok (.putfield 29, 3) := by decide +kernel
theorem dX7_init_56 : decode cX7_init 56 = .ok (.return_, 1) := by decide +kernel
set_option maxRecDepth 20000 in
theorem ggX7_ring_X4_empty : GoodIn wsX7_ring wsX4_empty := goodIn_r _ [6, 7, 8, 16, 17, 18] (by decide +kernel) (by decide +kernel)
set_option maxRecDepth 20000 in
theorem gX7_ring_X4_empty : GoodIn wsX7_ring (wsV RX7 37 RX4 yX4_empty wsX4_empty) := goodIn_app (goodIn_of _ (by decide +kernel)) ggX7_ring_X4_empty
theorem dX7_ring_0 : decode cX7_ring 0 = .ok (.iload_n 1, 1) := by decide +kernel
theorem dX7_ring_1 : decode cX7_ring 1 = .ok (.iconst 3, 1) := by decide +kernel
theorem dX7_ring_2 : decode cX7_ring 2 = .ok (.if_icmp .lt 9, 3) := by decide +kernel
theorem dX7_ring_5 : decode cX7_ring 5 = .ok (.iload_n 1, 1) := by decide +kernel
theorem dX7_ring_6 : decode cX7_ring 6 = .ok (.bipush 10, 2) := by decide +kernel
theorem dX7_ring_8 : decode cX7_ring 8 = .ok (.if_icmp .le 6, 3) := by decide +kernel
theorem dX7_ring_11 : decode cX7_ring 11 = .ok (.bipush (-2), 2) := by decide +kernel
theorem dX7_ring_13 : decode cX7_ring 13 = .ok (.ireturn, 1) := by decide +kernel
theorem dX7_ring_14 : decode cX7_ring 14 = .ok (.aload_n 0, 1) := by decide +kernel
theorem dX7_ring_15 : decode cX7_ring 15 = .ok (.getfield 10, 3) := by decide +kernel
theorem dX7_ring_18 : decode cX7_ring 18 = .ok (.getfield 33, 3) := by decide +kernel
theorem dX7_ring_21 : decode cX7_ring 21 = .ok (.istore_n 2, 1) := by decide +kernel
theorem dX7_ring_22 : decode cX7_ring 22 = .ok (.aload_n 0, 1) := by decide +kernel
theorem dX7_ring_23 : decode cX7_ring 23 = .ok (.getfield 10, 3) := by decide +kernel
theorem dX7_ring_26 : decode cX7_ring 26 = .ok (.iload_n 1, 1) := by decide +kernel
theorem dX7_ring_27 : decode cX7_ring 27 = .ok (.invokevirtual 37, 3) := by decide +kernel
theorem dX7_ring_30 : decode cX7_ring 30 = .ok (.iload_n 2, 1) := by decide +kernel
theorem dX7_ring_31 : decode cX7_ring 31 = .ok (.ireturn, 1) := by decide +kernel
set_option maxRecDepth 20000 in
theorem ggX7_stand_X4_hasCell : GoodIn wsX7_stand wsX4_hasCell := goodIn_r _ [6, 7, 30, 31, 32] (by decide +kernel) (by decide +kernel)
set_option maxRecDepth 20000 in
theorem gX7_stand_X4_hasCell : GoodIn wsX7_stand (wsV RX7 41 RX4 yX4_hasCell wsX4_hasCell) := goodIn_app (goodIn_of _ (by decide +kernel)) ggX7_stand_X4_hasCell
set_option maxRecDepth 20000 in
theorem ggX7_stand_X4_walkersOn : GoodIn wsX7_stand wsX4_walkersOn := goodIn_r _ [11, 12, 13, 3, 4, 5, 6, 7, 30, 31, 32] (by decide +kernel) (by decide +kernel)
set_option maxRecDepth 20000 in
theorem gX7_stand_X4_walkersOn : GoodIn wsX7_stand (wsV RX7 45 RX4 yX4_walkersOn wsX4_walkersOn) := goodIn_app (goodIn_of _ (by decide +kernel)) ggX7_stand_X4_walkersOn
set_option maxRecDepth 20000 in
theorem ggX7_stand_X4_walkersInAll : GoodIn wsX7_stand wsX4_walkersInAll := goodIn_r _ [17, 7, 18, 9, 10, 5, 11, 12, 13, 3, 4, 6, 30, 31, 32] (by decide +kernel) (by decide +kernel)
set_option maxRecDepth 20000 in
theorem gX7_stand_X4_walkersInAll : GoodIn wsX7_stand (wsV RX7 49 RX4 yX4_walkersInAll wsX4_walkersInAll) := goodIn_app (goodIn_of _ (by decide +kernel)) ggX7_stand_X4_walkersInAll
set_option maxRecDepth 20000 in
theorem ggX7_stand_X4_put : GoodIn wsX7_stand wsX4_put := goodIn_r _ [22, 12, 13, 3, 4, 5, 6, 7, 30, 31, 32] (by decide +kernel) (by decide +kernel)
set_option maxRecDepth 20000 in
theorem gX7_stand_X4_put : GoodIn wsX7_stand (wsV RX7 53 RX4 yX4_put wsX4_put) := goodIn_app (goodIn_of _ (by decide +kernel)) ggX7_stand_X4_put
theorem dX7_stand_0 : decode cX7_stand 0 = .ok (.aload_n 0, 1) := by decide +kernel
theorem dX7_stand_1 : decode cX7_stand 1 = .ok (.getfield 10, 3) := by decide +kernel
theorem dX7_stand_4 : decode cX7_stand 4 = .ok (.iload_n 1, 1) := by decide +kernel
theorem dX7_stand_5 : decode cX7_stand 5 = .ok (.invokevirtual 41, 3) := by decide +kernel
theorem dX7_stand_8 : decode cX7_stand 8 = .ok (.ifCond .ne 5, 3) := by decide +kernel
theorem dX7_stand_11 : decode cX7_stand 11 = .ok (.iconst (-1), 1) := by decide +kernel
theorem dX7_stand_12 : decode cX7_stand 12 = .ok (.ireturn, 1) := by decide +kernel
theorem dX7_stand_13 : decode cX7_stand 13 = .ok (.iload_n 2, 1) := by decide +kernel
theorem dX7_stand_14 : decode cX7_stand 14 = .ok (.ifCond .lt 8, 3) := by decide +kernel
theorem dX7_stand_17 : decode cX7_stand 17 = .ok (.iload_n 2, 1) := by decide +kernel
theorem dX7_stand_18 : decode cX7_stand 18 = .ok (.iconst 5, 1) := by decide +kernel
theorem dX7_stand_19 : decode cX7_stand 19 = .ok (.if_icmp .le 6, 3) := by decide +kernel
theorem dX7_stand_22 : decode cX7_stand 22 = .ok (.bipush (-2), 2) := by decide +kernel
theorem dX7_stand_24 : decode cX7_stand 24 = .ok (.ireturn, 1) := by decide +kernel
theorem dX7_stand_25 : decode cX7_stand 25 = .ok (.aload_n 0, 1) := by decide +kernel
theorem dX7_stand_26 : decode cX7_stand 26 = .ok (.getfield 10, 3) := by decide +kernel
theorem dX7_stand_29 : decode cX7_stand 29 = .ok (.iload_n 1, 1) := by decide +kernel
theorem dX7_stand_30 : decode cX7_stand 30 = .ok (.invokevirtual 45, 3) := by decide +kernel
theorem dX7_stand_33 : decode cX7_stand 33 = .ok (.istore_n 3, 1) := by decide +kernel
theorem dX7_stand_34 : decode cX7_stand 34 = .ok (.aload_n 0, 1) := by decide +kernel
theorem dX7_stand_35 : decode cX7_stand 35 = .ok (.getfield 10, 3) := by decide +kernel
theorem dX7_stand_38 : decode cX7_stand 38 = .ok (.invokevirtual 49, 3) := by decide +kernel
theorem dX7_stand_41 : decode cX7_stand 41 = .ok (.iload_n 3, 1) := by decide +kernel
theorem dX7_stand_42 : decode cX7_stand 42 = .ok (.isub, 1) := by decide +kernel
theorem dX7_stand_43 : decode cX7_stand 43 = .ok (.iload_n 2, 1) := by decide +kernel
theorem dX7_stand_44 : decode cX7_stand 44 = .ok (.iadd, 1) := by decide +kernel
theorem dX7_stand_45 : decode cX7_stand 45 = .ok (.iconst 5, 1) := by decide +kernel
theorem dX7_stand_46 : decode cX7_stand 46 = .ok (.if_icmp .le 6, 3) := by decide +kernel
theorem dX7_stand_49 : decode cX7_stand 49 = .ok (.bipush (-4), 2) := by decide +kernel
theorem dX7_stand_51 : decode cX7_stand 51 = .ok (.ireturn, 1) := by decide +kernel
theorem dX7_stand_52 : decode cX7_stand 52 = .ok (.aload_n 0, 1) := by decide +kernel
theorem dX7_stand_53 : decode cX7_stand 53 = .ok (.getfield 10, 3) := by decide +kernel
theorem dX7_stand_56 : decode cX7_stand 56 = .ok (.iload_n 1, 1) := by decide +kernel
theorem dX7_stand_57 : decode cX7_stand 57 = .ok (.iload_n 2, 1) := by decide +kernel
theorem dX7_stand_58 : decode cX7_stand 58 = .ok (.invokevirtual 53, 3) := by decide +kernel
theorem dX7_stand_61 : decode cX7_stand 61 = .ok (.iload_n 3, 1) := by decide +kernel
theorem dX7_stand_62 : decode cX7_stand 62 = .ok (.ireturn, 1) := by decide +kernel
set_option maxRecDepth 20000 in
theorem ggX7_gap_X4_stands : GoodIn wsX7_gap wsX4_stands := goodIn_r _ [6, 7, 8, 9, 5, 10, 11, 12, 13, 14, 15, 16, 17, 18, 19, 20, 58, 59, 60] (by decide +kernel) (by decide +kernel)
set_option maxRecDepth 20000 in
theorem gX7_gap_X4_stands : GoodIn wsX7_gap (wsV RX7 57 RX4 yX4_stands wsX4_stands) := goodIn_app (goodIn_of _ (by decide +kernel)) ggX7_gap_X4_stands
set_option maxRecDepth 20000 in
theorem ggX7_gap_X5_has : GoodIn wsX7_gap wsX5_has := goodIn_r _ [24] (by decide +kernel) (by decide +kernel)
set_option maxRecDepth 20000 in
theorem gX7_gap_X5_has : GoodIn wsX7_gap (va_wsS RX7 60 yX5_has wsX5_has) := goodIn_app (goodIn_of _ (by decide +kernel)) ggX7_gap_X5_has
set_option maxRecDepth 20000 in
theorem ggX7_gap_J6_bitCount_0f7a4 : GoodIn wsX7_gap wsJ6_bitCount_0f7a4 := goodIn_r _ [28, 29, 30, 31] (by decide +kernel) (by decide +kernel)
set_option maxRecDepth 20000 in
theorem gX7_gap_J6_bitCount_0f7a4 : GoodIn wsX7_gap (va_wsS RX7 66 yJ6_bitCount_0f7a4 wsJ6_bitCount_0f7a4) := goodIn_app (goodIn_of _ (by decide +kernel)) ggX7_gap_J6_bitCount_0f7a4
set_option maxRecDepth 20000 in
theorem ggX7_gap_X0_view : GoodIn wsX7_gap wsX0_view := goodIn_r _ [35, 36, 37, 38, 39, 40, 41, 34, 42, 43, 44, 23, 45, 46, 22, 24] (by decide +kernel) (by decide +kernel)
set_option maxRecDepth 20000 in
theorem gX7_gap_X0_view : GoodIn wsX7_gap (va_wsS RX7 71 yX0_view wsX0_view) := goodIn_app (goodIn_of _ (by decide +kernel)) ggX7_gap_X0_view
set_option maxRecDepth 20000 in
theorem ggX7_gap_X0_row : GoodIn wsX7_gap wsX0_row := goodIn_r _ [42, 43, 44, 23, 45, 46, 22, 24] (by decide +kernel) (by decide +kernel)
set_option maxRecDepth 20000 in
theorem gX7_gap_X0_row : GoodIn wsX7_gap (va_wsS RX7 77 yX0_row wsX0_row) := goodIn_app (goodIn_of _ (by decide +kernel)) ggX7_gap_X0_row
set_option maxRecDepth 20000 in
theorem ggX7_gap_X0_at : GoodIn wsX7_gap wsX0_at := goodIn_r _ [50] (by decide +kernel) (by decide +kernel)
set_option maxRecDepth 20000 in
theorem gX7_gap_X0_at : GoodIn wsX7_gap (va_wsS RX7 81 yX0_at wsX0_at) := goodIn_app (goodIn_of _ (by decide +kernel)) ggX7_gap_X0_at
theorem dX7_gap_0 : decode cX7_gap 0 = .ok (.aload_n 0, 1) := by decide +kernel
theorem dX7_gap_1 : decode cX7_gap 1 = .ok (.getfield 10, 3) := by decide +kernel
theorem dX7_gap_4 : decode cX7_gap 4 = .ok (.invokevirtual 57, 3) := by decide +kernel
theorem dX7_gap_7 : decode cX7_gap 7 = .ok (.istore 4, 2) := by decide +kernel
theorem dX7_gap_9 : decode cX7_gap 9 = .ok (.iload 4, 2) := by decide +kernel
theorem dX7_gap_11 : decode cX7_gap 11 = .ok (.iload_n 1, 1) := by decide +kernel
theorem dX7_gap_12 : decode cX7_gap 12 = .ok (.invokestatic 60, 3) := by decide +kernel
theorem dX7_gap_15 : decode cX7_gap 15 = .ok (.ifCond .ne 5, 3) := by decide +kernel
theorem dX7_gap_18 : decode cX7_gap 18 = .ok (.iconst (-1), 1) := by decide +kernel
theorem dX7_gap_19 : decode cX7_gap 19 = .ok (.ireturn, 1) := by decide +kernel
theorem dX7_gap_20 : decode cX7_gap 20 = .ok (.iload_n 2, 1) := by decide +kernel
theorem dX7_gap_21 : decode cX7_gap 21 = .ok (.ifCond .lt 8, 3) := by decide +kernel
theorem dX7_gap_24 : decode cX7_gap 24 = .ok (.iload_n 2, 1) := by decide +kernel
theorem dX7_gap_25 : decode cX7_gap 25 = .ok (.iconst 2, 1) := by decide +kernel
theorem dX7_gap_26 : decode cX7_gap 26 = .ok (.if_icmp .le 6, 3) := by decide +kernel
theorem dX7_gap_29 : decode cX7_gap 29 = .ok (.bipush (-2), 2) := by decide +kernel
theorem dX7_gap_31 : decode cX7_gap 31 = .ok (.ireturn, 1) := by decide +kernel
theorem dX7_gap_32 : decode cX7_gap 32 = .ok (.iload 4, 2) := by decide +kernel
theorem dX7_gap_34 : decode cX7_gap 34 = .ok (.invokestatic 66, 3) := by decide +kernel
theorem dX7_gap_37 : decode cX7_gap 37 = .ok (.istore 5, 2) := by decide +kernel
theorem dX7_gap_39 : decode cX7_gap 39 = .ok (.iload_n 3, 1) := by decide +kernel
theorem dX7_gap_40 : decode cX7_gap 40 = .ok (.iconst (-1), 1) := by decide +kernel
theorem dX7_gap_41 : decode cX7_gap 41 = .ok (.if_icmp .ne 6, 3) := by decide +kernel
theorem dX7_gap_44 : decode cX7_gap 44 = .ok (.iload 5, 2) := by decide +kernel
theorem dX7_gap_46 : decode cX7_gap 46 = .ok (.ireturn, 1) := by decide +kernel
theorem dX7_gap_47 : decode cX7_gap 47 = .ok (.iload_n 3, 1) := by decide +kernel
theorem dX7_gap_48 : decode cX7_gap 48 = .ok (.ifCond .lt 9, 3) := by decide +kernel
theorem dX7_gap_51 : decode cX7_gap 51 = .ok (.iload_n 3, 1) := by decide +kernel
theorem dX7_gap_52 : decode cX7_gap 52 = .ok (.iload 5, 2) := by decide +kernel
theorem dX7_gap_54 : decode cX7_gap 54 = .ok (.if_icmp .lt 6, 3) := by decide +kernel
theorem dX7_gap_57 : decode cX7_gap 57 = .ok (.bipush (-6), 2) := by decide +kernel
theorem dX7_gap_59 : decode cX7_gap 59 = .ok (.ireturn, 1) := by decide +kernel
theorem dX7_gap_60 : decode cX7_gap 60 = .ok (.iload_n 2, 1) := by decide +kernel
theorem dX7_gap_61 : decode cX7_gap 61 = .ok (.iconst 2, 1) := by decide +kernel
theorem dX7_gap_62 : decode cX7_gap 62 = .ok (.if_icmp .ne 19, 3) := by decide +kernel
theorem dX7_gap_65 : decode cX7_gap 65 = .ok (.aload_n 0, 1) := by decide +kernel
theorem dX7_gap_66 : decode cX7_gap 66 = .ok (.getfield 10, 3) := by decide +kernel
theorem dX7_gap_69 : decode cX7_gap 69 = .ok (.getfield 33, 3) := by decide +kernel
theorem dX7_gap_72 : decode cX7_gap 72 = .ok (.iload 4, 2) := by decide +kernel
theorem dX7_gap_74 : decode cX7_gap 74 = .ok (.iload_n 1, 1) := by decide +kernel
theorem dX7_gap_75 : decode cX7_gap 75 = .ok (.invokestatic 71, 3) := by decide +kernel
theorem dX7_gap_78 : decode cX7_gap 78 = .ok (.goto 17, 3) := by decide +kernel
theorem dX7_gap_81 : decode cX7_gap 81 = .ok (.aload_n 0, 1) := by decide +kernel
theorem dX7_gap_82 : decode cX7_gap 82 = .ok (.getfield 10, 3) := by decide +kernel
theorem dX7_gap_85 : decode cX7_gap 85 = .ok (.getfield 33, 3) := by decide +kernel
theorem dX7_gap_88 : decode cX7_gap 88 = .ok (.iload 4, 2) := by decide +kernel
theorem dX7_gap_90 : decode cX7_gap 90 = .ok (.iload_n 1, 1) := by decide +kernel
theorem dX7_gap_91 : decode cX7_gap 91 = .ok (.iload_n 2, 1) := by decide +kernel
theorem dX7_gap_92 : decode cX7_gap 92 = .ok (.invokestatic 77, 3) := by decide +kernel
theorem dX7_gap_95 : decode cX7_gap 95 = .ok (.istore 6, 2) := by decide +kernel
theorem dX7_gap_97 : decode cX7_gap 97 = .ok (.iload 6, 2) := by decide +kernel
theorem dX7_gap_99 : decode cX7_gap 99 = .ok (.iload 5, 2) := by decide +kernel
theorem dX7_gap_101 : decode cX7_gap 101 = .ok (.iload_n 3, 1) := by decide +kernel
theorem dX7_gap_102 : decode cX7_gap 102 = .ok (.invokestatic 81, 3) := by decide +kernel
theorem dX7_gap_105 : decode cX7_gap 105 = .ok (.ireturn, 1) := by decide +kernel
set_option maxRecDepth 20000 in
theorem ggX7_shape_X4_stands : GoodIn wsX7_shape wsX4_stands := goodIn_r _ [6, 7, 8, 9, 5, 10, 11, 12, 13, 14, 15, 16, 17, 18, 19, 20, 67, 68, 69] (by decide +kernel) (by decide +kernel)
set_option maxRecDepth 20000 in
theorem gX7_shape_X4_stands : GoodIn wsX7_shape (wsV RX7 57 RX4 yX4_stands wsX4_stands) := goodIn_app (goodIn_of _ (by decide +kernel)) ggX7_shape_X4_stands
set_option maxRecDepth 20000 in
theorem ggX7_shape_X0_turned : GoodIn wsX7_shape wsX0_turned := goodIn_r _ [24, 25, 26, 27, 28, 29, 30, 23, 31, 32, 33, 34] (by decide +kernel) (by decide +kernel)
set_option maxRecDepth 20000 in
theorem gX7_shape_X0_turned : GoodIn wsX7_shape (va_wsS RX7 84 yX0_turned wsX0_turned) := goodIn_app (goodIn_of _ (by decide +kernel)) ggX7_shape_X0_turned
set_option maxRecDepth 20000 in
theorem ggX7_shape_X0_mirrored : GoodIn wsX7_shape wsX0_mirrored := goodIn_r _ [37, 25, 26, 27, 28, 29, 30, 23, 31, 32, 33, 34] (by decide +kernel) (by decide +kernel)
set_option maxRecDepth 20000 in
theorem gX7_shape_X0_mirrored : GoodIn wsX7_shape (va_wsS RX7 87 yX0_mirrored wsX0_mirrored) := goodIn_app (goodIn_of _ (by decide +kernel)) ggX7_shape_X0_mirrored
set_option maxRecDepth 20000 in
theorem ggX7_shape_X0_evens : GoodIn wsX7_shape wsX0_evens := goodIn_r _ [40, 25, 26, 27, 28, 29, 30, 23, 31, 32, 33, 34] (by decide +kernel) (by decide +kernel)
set_option maxRecDepth 20000 in
theorem gX7_shape_X0_evens : GoodIn wsX7_shape (va_wsS RX7 90 yX0_evens wsX0_evens) := goodIn_app (goodIn_of _ (by decide +kernel)) ggX7_shape_X0_evens
set_option maxRecDepth 20000 in
theorem ggX7_shape_X0_views : GoodIn wsX7_shape wsX0_views := goodIn_r _ [43, 25, 26, 27, 28, 44, 45, 23, 46, 47, 48, 49, 50, 51, 52, 53, 29, 30, 31, 32, 33, 34] (by decide +kernel) (by decide +kernel)
set_option maxRecDepth 20000 in
theorem gX7_shape_X0_views : GoodIn wsX7_shape (va_wsS RX7 94 yX0_views wsX0_views) := goodIn_app (goodIn_of _ (by decide +kernel)) ggX7_shape_X0_views
set_option maxRecDepth 20000 in
theorem ggX7_shape_X0_leastTurn : GoodIn wsX7_shape wsX0_leastTurn := goodIn_r _ [56, 57, 58, 27, 59] (by decide +kernel) (by decide +kernel)
set_option maxRecDepth 20000 in
theorem gX7_shape_X0_leastTurn : GoodIn wsX7_shape (va_wsS RX7 97 yX0_leastTurn wsX0_leastTurn) := goodIn_app (goodIn_of _ (by decide +kernel)) ggX7_shape_X0_leastTurn
theorem dX7_shape_0 : decode cX7_shape 0 = .ok (.aload_n 0, 1) := by decide +kernel
theorem dX7_shape_1 : decode cX7_shape 1 = .ok (.getfield 10, 3) := by decide +kernel
theorem dX7_shape_4 : decode cX7_shape 4 = .ok (.getfield 33, 3) := by decide +kernel
theorem dX7_shape_7 : decode cX7_shape 7 = .ok (.istore_n 2, 1) := by decide +kernel
theorem dX7_shape_8 : decode cX7_shape 8 = .ok (.aload_n 0, 1) := by decide +kernel
theorem dX7_shape_9 : decode cX7_shape 9 = .ok (.getfield 10, 3) := by decide +kernel
theorem dX7_shape_12 : decode cX7_shape 12 = .ok (.invokevirtual 57, 3) := by decide +kernel
theorem dX7_shape_15 : decode cX7_shape 15 = .ok (.istore_n 3, 1) := by decide +kernel
theorem dX7_shape_16 : decode cX7_shape 16 = .ok (.iload_n 1, 1) := by decide +kernel
theorem dX7_shape_17 : decode cX7_shape 17 = .ok (.tableswitch 111 0 5 #[39, 53, 67, 93, 99, 105], 39) := by decide +kernel
theorem dX7_shape_56 : decode cX7_shape 56 = .ok (.iload_n 2, 1) := by decide +kernel
theorem dX7_shape_57 : decode cX7_shape 57 = .ok (.iload_n 3, 1) := by decide +kernel
theorem dX7_shape_58 : decode cX7_shape 58 = .ok (.invokestatic 84, 3) := by decide +kernel
theorem dX7_shape_61 : decode cX7_shape 61 = .ok (.ifCond .eq 7, 3) := by decide +kernel
theorem dX7_shape_64 : decode cX7_shape 64 = .ok (.iconst 1, 1) := by decide +kernel
theorem dX7_shape_65 : decode cX7_shape 65 = .ok (.goto 4, 3) := by decide +kernel
theorem dX7_shape_68 : decode cX7_shape 68 = .ok (.iconst 0, 1) := by decide +kernel
theorem dX7_shape_69 : decode cX7_shape 69 = .ok (.ireturn, 1) := by decide +kernel
theorem dX7_shape_70 : decode cX7_shape 70 = .ok (.iload_n 2, 1) := by decide +kernel
theorem dX7_shape_71 : decode cX7_shape 71 = .ok (.iload_n 3, 1) := by decide +kernel
theorem dX7_shape_72 : decode cX7_shape 72 = .ok (.invokestatic 87, 3) := by decide +kernel
theorem dX7_shape_75 : decode cX7_shape 75 = .ok (.ifCond .eq 7, 3) := by decide +kernel
theorem dX7_shape_78 : decode cX7_shape 78 = .ok (.iconst 1, 1) := by decide +kernel
theorem dX7_shape_79 : decode cX7_shape 79 = .ok (.goto 4, 3) := by decide +kernel
theorem dX7_shape_82 : decode cX7_shape 82 = .ok (.iconst 0, 1) := by decide +kernel
theorem dX7_shape_83 : decode cX7_shape 83 = .ok (.ireturn, 1) := by decide +kernel
theorem dX7_shape_84 : decode cX7_shape 84 = .ok (.iload_n 3, 1) := by decide +kernel
theorem dX7_shape_85 : decode cX7_shape 85 = .ok (.ifCond .eq 23, 3) := by decide +kernel
theorem dX7_shape_88 : decode cX7_shape 88 = .ok (.iload_n 2, 1) := by decide +kernel
theorem dX7_shape_89 : decode cX7_shape 89 = .ok (.iload_n 3, 1) := by decide +kernel
theorem dX7_shape_90 : decode cX7_shape 90 = .ok (.invokestatic 84, 3) := by decide +kernel
theorem dX7_shape_93 : decode cX7_shape 93 = .ok (.ifCond .ne 15, 3) := by decide +kernel
theorem dX7_shape_96 : decode cX7_shape 96 = .ok (.iload_n 2, 1) := by decide +kernel
theorem dX7_shape_97 : decode cX7_shape 97 = .ok (.iload_n 3, 1) := by decide +kernel
theorem dX7_shape_98 : decode cX7_shape 98 = .ok (.invokestatic 87, 3) := by decide +kernel
theorem dX7_shape_101 : decode cX7_shape 101 = .ok (.ifCond .ne 7, 3) := by decide +kernel
theorem dX7_shape_104 : decode cX7_shape 104 = .ok (.iconst 1, 1) := by decide +kernel
theorem dX7_shape_105 : decode cX7_shape 105 = .ok (.goto 4, 3) := by decide +kernel
theorem dX7_shape_108 : decode cX7_shape 108 = .ok (.iconst 0, 1) := by decide +kernel
theorem dX7_shape_109 : decode cX7_shape 109 = .ok (.ireturn, 1) := by decide +kernel
theorem dX7_shape_110 : decode cX7_shape 110 = .ok (.iload_n 2, 1) := by decide +kernel
theorem dX7_shape_111 : decode cX7_shape 111 = .ok (.iload_n 3, 1) := by decide +kernel
theorem dX7_shape_112 : decode cX7_shape 112 = .ok (.invokestatic 90, 3) := by decide +kernel
theorem dX7_shape_115 : decode cX7_shape 115 = .ok (.ireturn, 1) := by decide +kernel
theorem dX7_shape_116 : decode cX7_shape 116 = .ok (.iload_n 2, 1) := by decide +kernel
theorem dX7_shape_117 : decode cX7_shape 117 = .ok (.iload_n 3, 1) := by decide +kernel
theorem dX7_shape_118 : decode cX7_shape 118 = .ok (.invokestatic 94, 3) := by decide +kernel
theorem dX7_shape_121 : decode cX7_shape 121 = .ok (.ireturn, 1) := by decide +kernel
theorem dX7_shape_122 : decode cX7_shape 122 = .ok (.iload_n 2, 1) := by decide +kernel
theorem dX7_shape_123 : decode cX7_shape 123 = .ok (.iload_n 3, 1) := by decide +kernel
theorem dX7_shape_124 : decode cX7_shape 124 = .ok (.invokestatic 97, 3) := by decide +kernel
theorem dX7_shape_127 : decode cX7_shape 127 = .ok (.ireturn, 1) := by decide +kernel
theorem dX7_shape_128 : decode cX7_shape 128 = .ok (.bipush (-2), 2) := by decide +kernel
theorem dX7_shape_130 : decode cX7_shape 130 = .ok (.ireturn, 1) := by decide +kernel
set_option maxRecDepth 20000 in
theorem ggX7_rule_X3_append : GoodIn wsX7_rule wsX3_append := goodIn_r _ [6, 7, 8, 9, 10, 5, 11, 12, 13, 14, 15, 16, 27, 28] (by decide +kernel) (by decide +kernel)
set_option maxRecDepth 20000 in
theorem gX7_rule_X3_append : GoodIn wsX7_rule (wsV RX7 104 RX3 yX3_append wsX3_append) := goodIn_app (goodIn_of _ (by decide +kernel)) ggX7_rule_X3_append
theorem dX7_rule_0 : decode cX7_rule 0 = .ok (.iload_n 1, 1) := by decide +kernel
theorem dX7_rule_1 : decode cX7_rule 1 = .ok (.ifCond .lt 17, 3) := by decide +kernel
theorem dX7_rule_4 : decode cX7_rule 4 = .ok (.iload_n 1, 1) := by decide +kernel
theorem dX7_rule_5 : decode cX7_rule 5 = .ok (.iconst 5, 1) := by decide +kernel
theorem dX7_rule_6 : decode cX7_rule 6 = .ok (.if_icmp .gt 12, 3) := by decide +kernel
theorem dX7_rule_9 : decode cX7_rule 9 = .ok (.iload_n 2, 1) := by decide +kernel
theorem dX7_rule_10 : decode cX7_rule 10 = .ok (.ifCond .lt 8, 3) := by decide +kernel
theorem dX7_rule_13 : decode cX7_rule 13 = .ok (.iload_n 2, 1) := by decide +kernel
theorem dX7_rule_14 : decode cX7_rule 14 = .ok (.iconst 5, 1) := by decide +kernel
theorem dX7_rule_15 : decode cX7_rule 15 = .ok (.if_icmp .lt 6, 3) := by decide +kernel
theorem dX7_rule_18 : decode cX7_rule 18 = .ok (.bipush (-2), 2) := by decide +kernel
theorem dX7_rule_20 : decode cX7_rule 20 = .ok (.ireturn, 1) := by decide +kernel
theorem dX7_rule_21 : decode cX7_rule 21 = .ok (.iload_n 3, 1) := by decide +kernel
theorem dX7_rule_22 : decode cX7_rule 22 = .ok (.ifCond .lt 32, 3) := by decide +kernel
theorem dX7_rule_25 : decode cX7_rule 25 = .ok (.iload_n 3, 1) := by decide +kernel
theorem dX7_rule_26 : decode cX7_rule 26 = .ok (.iconst 2, 1) := by decide +kernel
theorem dX7_rule_27 : decode cX7_rule 27 = .ok (.if_icmp .gt 27, 3) := by decide +kernel
theorem dX7_rule_30 : decode cX7_rule 30 = .ok (.iload 4, 2) := by decide +kernel
theorem dX7_rule_32 : decode cX7_rule 32 = .ok (.iconst 1, 1) := by decide +kernel
theorem dX7_rule_33 : decode cX7_rule 33 = .ok (.if_icmp .lt 21, 3) := by decide +kernel
theorem dX7_rule_36 : decode cX7_rule 36 = .ok (.iload 4, 2) := by decide +kernel
theorem dX7_rule_38 : decode cX7_rule 38 = .ok (.bipush 10, 2) := by decide +kernel
theorem dX7_rule_40 : decode cX7_rule 40 = .ok (.if_icmp .gt 14, 3) := by decide +kernel
theorem dX7_rule_43 : decode cX7_rule 43 = .ok (.iload 5, 2) := by decide +kernel
theorem dX7_rule_45 : decode cX7_rule 45 = .ok (.ifCond .lt 9, 3) := by decide +kernel
theorem dX7_rule_48 : decode cX7_rule 48 = .ok (.iload 5, 2) := by decide +kernel
theorem dX7_rule_50 : decode cX7_rule 50 = .ok (.iconst 2, 1) := by decide +kernel
theorem dX7_rule_51 : decode cX7_rule 51 = .ok (.if_icmp .le 6, 3) := by decide +kernel
theorem dX7_rule_54 : decode cX7_rule 54 = .ok (.bipush (-2), 2) := by decide +kernel
theorem dX7_rule_56 : decode cX7_rule 56 = .ok (.ireturn, 1) := by decide +kernel
theorem dX7_rule_57 : decode cX7_rule 57 = .ok (.aload_n 0, 1) := by decide +kernel
theorem dX7_rule_58 : decode cX7_rule 58 = .ok (.getfield 10, 3) := by decide +kernel
theorem dX7_rule_61 : decode cX7_rule 61 = .ok (.getfield 100, 3) := by decide +kernel
theorem dX7_rule_64 : decode cX7_rule 64 = .ok (.iload_n 1, 1) := by decide +kernel
theorem dX7_rule_65 : decode cX7_rule 65 = .ok (.iload_n 2, 1) := by decide +kernel
theorem dX7_rule_66 : decode cX7_rule 66 = .ok (.iload_n 3, 1) := by decide +kernel
theorem dX7_rule_67 : decode cX7_rule 67 = .ok (.iload 4, 2) := by decide +kernel
theorem dX7_rule_69 : decode cX7_rule 69 = .ok (.iload 5, 2) := by decide +kernel
theorem dX7_rule_71 : decode cX7_rule 71 = .ok (.invokevirtual 104, 3) := by decide +kernel
theorem dX7_rule_74 : decode cX7_rule 74 = .ok (.ireturn, 1) := by decide +kernel
set_option maxRecDepth 20000 in
theorem ggX7_whom_X3_has : GoodIn wsX7_whom wsX3_has := goodIn_r _ [6, 7, 28, 29] (by decide +kernel) (by decide +kernel)
set_option maxRecDepth 20000 in
theorem gX7_whom_X3_has : GoodIn wsX7_whom (wsV RX7 110 RX3 yX3_has wsX3_has) := goodIn_app (goodIn_of _ (by decide +kernel)) ggX7_whom_X3_has
set_option maxRecDepth 20000 in
theorem ggX7_whom_X3_part : GoodIn wsX7_whom wsX3_part := goodIn_r _ [11, 12, 13, 3, 4, 5, 6, 7, 28, 29] (by decide +kernel) (by decide +kernel)
set_option maxRecDepth 20000 in
theorem gX7_whom_X3_part : GoodIn wsX7_whom (wsV RX7 112 RX3 yX3_part wsX3_part) := goodIn_app (goodIn_of _ (by decide +kernel)) ggX7_whom_X3_part
set_option maxRecDepth 20000 in
theorem ggX7_whom_X3_setPart : GoodIn wsX7_whom wsX3_setPart := goodIn_r _ [17, 12, 13, 3, 4, 5, 6, 7, 28, 29] (by decide +kernel) (by decide +kernel)
set_option maxRecDepth 20000 in
theorem gX7_whom_X3_setPart : GoodIn wsX7_whom (wsV RX7 115 RX3 yX3_setPart wsX3_setPart) := goodIn_app (goodIn_of _ (by decide +kernel)) ggX7_whom_X3_setPart
theorem dX7_whom_0 : decode cX7_whom 0 = .ok (.aload_n 0, 1) := by decide +kernel
theorem dX7_whom_1 : decode cX7_whom 1 = .ok (.getfield 10, 3) := by decide +kernel
theorem dX7_whom_4 : decode cX7_whom 4 = .ok (.getfield 100, 3) := by decide +kernel
theorem dX7_whom_7 : decode cX7_whom 7 = .ok (.iload_n 1, 1) := by decide +kernel
theorem dX7_whom_8 : decode cX7_whom 8 = .ok (.invokevirtual 110, 3) := by decide +kernel
theorem dX7_whom_11 : decode cX7_whom 11 = .ok (.ifCond .ne 5, 3) := by decide +kernel
theorem dX7_whom_14 : decode cX7_whom 14 = .ok (.iconst (-1), 1) := by decide +kernel
theorem dX7_whom_15 : decode cX7_whom 15 = .ok (.ireturn, 1) := by decide +kernel
theorem dX7_whom_16 : decode cX7_whom 16 = .ok (.iload_n 2, 1) := by decide +kernel
theorem dX7_whom_17 : decode cX7_whom 17 = .ok (.ifCond .lt 8, 3) := by decide +kernel
theorem dX7_whom_20 : decode cX7_whom 20 = .ok (.iload_n 2, 1) := by decide +kernel
theorem dX7_whom_21 : decode cX7_whom 21 = .ok (.iconst 2, 1) := by decide +kernel
theorem dX7_whom_22 : decode cX7_whom 22 = .ok (.if_icmp .le 6, 3) := by decide +kernel
theorem dX7_whom_25 : decode cX7_whom 25 = .ok (.bipush (-2), 2) := by decide +kernel
theorem dX7_whom_27 : decode cX7_whom 27 = .ok (.ireturn, 1) := by decide +kernel
theorem dX7_whom_28 : decode cX7_whom 28 = .ok (.aload_n 0, 1) := by decide +kernel
theorem dX7_whom_29 : decode cX7_whom 29 = .ok (.getfield 10, 3) := by decide +kernel
theorem dX7_whom_32 : decode cX7_whom 32 = .ok (.getfield 100, 3) := by decide +kernel
theorem dX7_whom_35 : decode cX7_whom 35 = .ok (.iload_n 1, 1) := by decide +kernel
theorem dX7_whom_36 : decode cX7_whom 36 = .ok (.iconst 5, 1) := by decide +kernel
theorem dX7_whom_37 : decode cX7_whom 37 = .ok (.invokevirtual 112, 3) := by decide +kernel
theorem dX7_whom_40 : decode cX7_whom 40 = .ok (.istore_n 3, 1) := by decide +kernel
theorem dX7_whom_41 : decode cX7_whom 41 = .ok (.aload_n 0, 1) := by decide +kernel
theorem dX7_whom_42 : decode cX7_whom 42 = .ok (.getfield 10, 3) := by decide +kernel
theorem dX7_whom_45 : decode cX7_whom 45 = .ok (.getfield 100, 3) := by decide +kernel
theorem dX7_whom_48 : decode cX7_whom 48 = .ok (.iload_n 1, 1) := by decide +kernel
theorem dX7_whom_49 : decode cX7_whom 49 = .ok (.iconst 5, 1) := by decide +kernel
theorem dX7_whom_50 : decode cX7_whom 50 = .ok (.iload_n 2, 1) := by decide +kernel
theorem dX7_whom_51 : decode cX7_whom 51 = .ok (.invokevirtual 115, 3) := by decide +kernel
theorem dX7_whom_54 : decode cX7_whom 54 = .ok (.iload_n 3, 1) := by decide +kernel
theorem dX7_whom_55 : decode cX7_whom 55 = .ok (.ireturn, 1) := by decide +kernel
set_option maxRecDepth 20000 in
theorem ggX7_drop_X3_has : GoodIn wsX7_drop wsX3_has := goodIn_r _ [6, 7, 24, 25] (by decide +kernel) (by decide +kernel)
set_option maxRecDepth 20000 in
theorem gX7_drop_X3_has : GoodIn wsX7_drop (wsV RX7 110 RX3 yX3_has wsX3_has) := goodIn_app (goodIn_of _ (by decide +kernel)) ggX7_drop_X3_has
set_option maxRecDepth 20000 in
theorem ggX7_drop_X3_remove : GoodIn wsX7_drop wsX3_remove := goodIn_r _ [11, 7, 12, 13, 3, 4, 5, 6, 24, 25] (by decide +kernel) (by decide +kernel)
set_option maxRecDepth 20000 in
theorem gX7_drop_X3_remove : GoodIn wsX7_drop (wsV RX7 119 RX3 yX3_remove wsX3_remove) := goodIn_app (goodIn_of _ (by decide +kernel)) ggX7_drop_X3_remove
theorem dX7_drop_0 : decode cX7_drop 0 = .ok (.aload_n 0, 1) := by decide +kernel
theorem dX7_drop_1 : decode cX7_drop 1 = .ok (.getfield 10, 3) := by decide +kernel
theorem dX7_drop_4 : decode cX7_drop 4 = .ok (.getfield 100, 3) := by decide +kernel
theorem dX7_drop_7 : decode cX7_drop 7 = .ok (.iload_n 1, 1) := by decide +kernel
theorem dX7_drop_8 : decode cX7_drop 8 = .ok (.invokevirtual 110, 3) := by decide +kernel
theorem dX7_drop_11 : decode cX7_drop 11 = .ok (.ifCond .ne 5, 3) := by decide +kernel
theorem dX7_drop_14 : decode cX7_drop 14 = .ok (.iconst (-1), 1) := by decide +kernel
theorem dX7_drop_15 : decode cX7_drop 15 = .ok (.ireturn, 1) := by decide +kernel
theorem dX7_drop_16 : decode cX7_drop 16 = .ok (.aload_n 0, 1) := by decide +kernel
theorem dX7_drop_17 : decode cX7_drop 17 = .ok (.getfield 10, 3) := by decide +kernel
theorem dX7_drop_20 : decode cX7_drop 20 = .ok (.getfield 100, 3) := by decide +kernel
theorem dX7_drop_23 : decode cX7_drop 23 = .ok (.iload_n 1, 1) := by decide +kernel
theorem dX7_drop_24 : decode cX7_drop 24 = .ok (.invokevirtual 119, 3) := by decide +kernel
theorem dX7_drop_27 : decode cX7_drop 27 = .ok (.aload_n 0, 1) := by decide +kernel
theorem dX7_drop_28 : decode cX7_drop 28 = .ok (.getfield 10, 3) := by decide +kernel
theorem dX7_drop_31 : decode cX7_drop 31 = .ok (.getfield 100, 3) := by decide +kernel
theorem dX7_drop_34 : decode cX7_drop 34 = .ok (.getfield 122, 3) := by decide +kernel
theorem dX7_drop_37 : decode cX7_drop 37 = .ok (.ireturn, 1) := by decide +kernel
set_option maxRecDepth 20000 in
theorem ggX7_of_X3_has : GoodIn wsX7_of wsX3_has := goodIn_r _ [6, 7, 24, 25] (by decide +kernel) (by decide +kernel)
set_option maxRecDepth 20000 in
theorem gX7_of_X3_has : GoodIn wsX7_of (wsV RX7 110 RX3 yX3_has wsX3_has) := goodIn_app (goodIn_of _ (by decide +kernel)) ggX7_of_X3_has
set_option maxRecDepth 20000 in
theorem ggX7_of_X3_part : GoodIn wsX7_of wsX3_part := goodIn_r _ [11, 12, 13, 3, 4, 5, 6, 7, 24, 25] (by decide +kernel) (by decide +kernel)
set_option maxRecDepth 20000 in
theorem gX7_of_X3_part : GoodIn wsX7_of (wsV RX7 112 RX3 yX3_part wsX3_part) := goodIn_app (goodIn_of _ (by decide +kernel)) ggX7_of_X3_part
theorem dX7_of_0 : decode cX7_of 0 = .ok (.aload_n 0, 1) := by decide +kernel
theorem dX7_of_1 : decode cX7_of 1 = .ok (.getfield 10, 3) := by decide +kernel
theorem dX7_of_4 : decode cX7_of 4 = .ok (.getfield 100, 3) := by decide +kernel
theorem dX7_of_7 : decode cX7_of 7 = .ok (.iload_n 1, 1) := by decide +kernel
theorem dX7_of_8 : decode cX7_of 8 = .ok (.invokevirtual 110, 3) := by decide +kernel
theorem dX7_of_11 : decode cX7_of 11 = .ok (.ifCond .ne 5, 3) := by decide +kernel
theorem dX7_of_14 : decode cX7_of 14 = .ok (.iconst (-1), 1) := by decide +kernel
theorem dX7_of_15 : decode cX7_of 15 = .ok (.ireturn, 1) := by decide +kernel
theorem dX7_of_16 : decode cX7_of 16 = .ok (.iload_n 2, 1) := by decide +kernel
theorem dX7_of_17 : decode cX7_of 17 = .ok (.ifCond .lt 9, 3) := by decide +kernel
theorem dX7_of_20 : decode cX7_of 20 = .ok (.iload_n 2, 1) := by decide +kernel
theorem dX7_of_21 : decode cX7_of 21 = .ok (.bipush 6, 2) := by decide +kernel
theorem dX7_of_23 : decode cX7_of 23 = .ok (.if_icmp .lt 6, 3) := by decide +kernel
theorem dX7_of_26 : decode cX7_of 26 = .ok (.bipush (-2), 2) := by decide +kernel
theorem dX7_of_28 : decode cX7_of 28 = .ok (.ireturn, 1) := by decide +kernel
theorem dX7_of_29 : decode cX7_of 29 = .ok (.aload_n 0, 1) := by decide +kernel
theorem dX7_of_30 : decode cX7_of 30 = .ok (.getfield 10, 3) := by decide +kernel
theorem dX7_of_33 : decode cX7_of 33 = .ok (.getfield 100, 3) := by decide +kernel
theorem dX7_of_36 : decode cX7_of 36 = .ok (.iload_n 1, 1) := by decide +kernel
theorem dX7_of_37 : decode cX7_of 37 = .ok (.iload_n 2, 1) := by decide +kernel
theorem dX7_of_38 : decode cX7_of 38 = .ok (.invokevirtual 112, 3) := by decide +kernel
theorem dX7_of_41 : decode cX7_of 41 = .ok (.ireturn, 1) := by decide +kernel
set_option maxRecDepth 20000 in
theorem ggX7_does_X4_stands : GoodIn wsX7_does wsX4_stands := goodIn_r _ [7, 8, 9, 10, 6, 11, 12, 13, 14, 15, 16, 17, 18, 19, 20, 21, 102, 103, 104] (by decide +kernel) (by decide +kernel)
set_option maxRecDepth 20000 in
theorem gX7_does_X4_stands : GoodIn wsX7_does (wsV RX7 57 RX4 yX4_stands wsX4_stands) := goodIn_app (goodIn_of _ (by decide +kernel)) ggX7_does_X4_stands
set_option maxRecDepth 20000 in
theorem ggX7_does_X5_has : GoodIn wsX7_does wsX5_has := goodIn_r _ [25] (by decide +kernel) (by decide +kernel)
set_option maxRecDepth 20000 in
theorem gX7_does_X5_has : GoodIn wsX7_does (va_wsS RX7 60 yX5_has wsX5_has) := goodIn_app (goodIn_of _ (by decide +kernel)) ggX7_does_X5_has
set_option maxRecDepth 20000 in
theorem ggX7_does_X4_towers : GoodIn wsX7_does wsX4_towers := goodIn_r _ [29, 8, 9, 10, 6, 11, 12, 13, 14, 15, 16, 17, 18, 19, 20, 21, 102, 103, 104] (by decide +kernel) (by decide +kernel)
set_option maxRecDepth 20000 in
theorem gX7_does_X4_towers : GoodIn wsX7_does (wsV RX7 125 RX4 yX4_towers wsX4_towers) := goodIn_app (goodIn_of _ (by decide +kernel)) ggX7_does_X4_towers
set_option maxRecDepth 20000 in
theorem ggX7_does_X1_from : GoodIn wsX7_does wsX1_from := goodIn_r _ [34, 35, 36, 37, 38, 39, 40, 41, 42, 43, 44, 45, 46, 47, 48, 49, 24, 50, 51, 23, 25, 52, 53, 54, 55, 56, 57, 58, 59, 60, 61, 62, 63, 64, 65, 66, 67, 68, 69, 70, 71, 72, 73, 74, 75, 76, 77, 78, 79, 80, 81, 82, 83, 84, 85, 86, 87, 88, 33, 89, 90, 91, 92, 93, 94, 105, 106, 107, 108, 109, 110, 111] (by decide +kernel) (by decide +kernel)
set_option maxRecDepth 20000 in
theorem gX7_does_X1_from : GoodIn wsX7_does (wsV RX7 128 RX1 yX1_from wsX1_from) := goodIn_app (goodIn_of _ (by decide +kernel)) ggX7_does_X1_from
theorem dX7_does_0 : decode cX7_does 0 = .ok (.aload_n 0, 1) := by decide +kernel
theorem dX7_does_1 : decode cX7_does 1 = .ok (.getfield 10, 3) := by decide +kernel
theorem dX7_does_4 : decode cX7_does 4 = .ok (.invokevirtual 57, 3) := by decide +kernel
theorem dX7_does_7 : decode cX7_does 7 = .ok (.istore_n 3, 1) := by decide +kernel
theorem dX7_does_8 : decode cX7_does 8 = .ok (.iload_n 3, 1) := by decide +kernel
theorem dX7_does_9 : decode cX7_does 9 = .ok (.iload_n 1, 1) := by decide +kernel
theorem dX7_does_10 : decode cX7_does 10 = .ok (.invokestatic 60, 3) := by decide +kernel
theorem dX7_does_13 : decode cX7_does 13 = .ok (.ifCond .ne 5, 3) := by decide +kernel
theorem dX7_does_16 : decode cX7_does 16 = .ok (.iconst (-1), 1) := by decide +kernel
theorem dX7_does_17 : decode cX7_does 17 = .ok (.ireturn, 1) := by decide +kernel
theorem dX7_does_18 : decode cX7_does 18 = .ok (.aload_n 0, 1) := by decide +kernel
theorem dX7_does_19 : decode cX7_does 19 = .ok (.getfield 25, 3) := by decide +kernel
theorem dX7_does_22 : decode cX7_does 22 = .ok (.aload_n 0, 1) := by decide +kernel
theorem dX7_does_23 : decode cX7_does 23 = .ok (.getfield 10, 3) := by decide +kernel
theorem dX7_does_26 : decode cX7_does 26 = .ok (.getfield 100, 3) := by decide +kernel
theorem dX7_does_29 : decode cX7_does 29 = .ok (.aload_n 0, 1) := by decide +kernel
theorem dX7_does_30 : decode cX7_does 30 = .ok (.getfield 10, 3) := by decide +kernel
theorem dX7_does_33 : decode cX7_does 33 = .ok (.getfield 33, 3) := by decide +kernel
theorem dX7_does_36 : decode cX7_does 36 = .ok (.iload_n 3, 1) := by decide +kernel
theorem dX7_does_37 : decode cX7_does 37 = .ok (.aload_n 0, 1) := by decide +kernel
theorem dX7_does_38 : decode cX7_does 38 = .ok (.getfield 10, 3) := by decide +kernel
theorem dX7_does_41 : decode cX7_does 41 = .ok (.invokevirtual 125, 3) := by decide +kernel
theorem dX7_does_44 : decode cX7_does 44 = .ok (.iload_n 1, 1) := by decide +kernel
theorem dX7_does_45 : decode cX7_does 45 = .ok (.invokevirtual 128, 3) := by decide +kernel
theorem dX7_does_48 : decode cX7_does 48 = .ok (.iload_n 2, 1) := by decide +kernel
theorem dX7_does_49 : decode cX7_does 49 = .ok (.tableswitch 91 0 4 #[35, 51, 67, 75, 83], 35) := by decide +kernel
theorem dX7_does_84 : decode cX7_does 84 = .ok (.aload_n 0, 1) := by decide +kernel
theorem dX7_does_85 : decode cX7_does 85 = .ok (.getfield 25, 3) := by decide +kernel
theorem dX7_does_88 : decode cX7_does 88 = .ok (.getfield 132, 3) := by decide +kernel
theorem dX7_does_91 : decode cX7_does 91 = .ok (.ifCond .ne 7, 3) := by decide +kernel
theorem dX7_does_94 : decode cX7_does 94 = .ok (.iconst 1, 1) := by decide +kernel
theorem dX7_does_95 : decode cX7_does 95 = .ok (.goto 4, 3) := by decide +kernel
theorem dX7_does_98 : decode cX7_does 98 = .ok (.iconst 0, 1) := by decide +kernel
theorem dX7_does_99 : decode cX7_does 99 = .ok (.ireturn, 1) := by decide +kernel
theorem dX7_does_100 : decode cX7_does 100 = .ok (.aload_n 0, 1) := by decide +kernel
theorem dX7_does_101 : decode cX7_does 101 = .ok (.getfield 25, 3) := by decide +kernel
theorem dX7_does_104 : decode cX7_does 104 = .ok (.getfield 135, 3) := by decide +kernel
theorem dX7_does_107 : decode cX7_does 107 = .ok (.ifCond .eq 7, 3) := by decide +kernel
theorem dX7_does_110 : decode cX7_does 110 = .ok (.iconst 1, 1) := by decide +kernel
theorem dX7_does_111 : decode cX7_does 111 = .ok (.goto 4, 3) := by decide +kernel
theorem dX7_does_114 : decode cX7_does 114 = .ok (.iconst 0, 1) := by decide +kernel
theorem dX7_does_115 : decode cX7_does 115 = .ok (.ireturn, 1) := by decide +kernel
theorem dX7_does_116 : decode cX7_does 116 = .ok (.aload_n 0, 1) := by decide +kernel
theorem dX7_does_117 : decode cX7_does 117 = .ok (.getfield 25, 3) := by decide +kernel
theorem dX7_does_120 : decode cX7_does 120 = .ok (.getfield 139, 3) := by decide +kernel
theorem dX7_does_123 : decode cX7_does 123 = .ok (.ireturn, 1) := by decide +kernel
theorem dX7_does_124 : decode cX7_does 124 = .ok (.aload_n 0, 1) := by decide +kernel
theorem dX7_does_125 : decode cX7_does 125 = .ok (.getfield 25, 3) := by decide +kernel
theorem dX7_does_128 : decode cX7_does 128 = .ok (.getfield 142, 3) := by decide +kernel
theorem dX7_does_131 : decode cX7_does 131 = .ok (.ireturn, 1) := by decide +kernel
theorem dX7_does_132 : decode cX7_does 132 = .ok (.aload_n 0, 1) := by decide +kernel
theorem dX7_does_133 : decode cX7_does 133 = .ok (.getfield 25, 3) := by decide +kernel
theorem dX7_does_136 : decode cX7_does 136 = .ok (.getfield 145, 3) := by decide +kernel
theorem dX7_does_139 : decode cX7_does 139 = .ok (.ireturn, 1) := by decide +kernel
theorem dX7_does_140 : decode cX7_does 140 = .ok (.bipush (-2), 2) := by decide +kernel
theorem dX7_does_142 : decode cX7_does 142 = .ok (.ireturn, 1) := by decide +kernel
set_option maxRecDepth 20000 in
theorem ggX7_step_X4_stands : GoodIn wsX7_step wsX4_stands := goodIn_r _ [8, 9, 10, 11, 7, 12, 13, 14, 15, 16, 17, 18, 19, 20, 21, 22, 109, 110, 111] (by decide +kernel) (by decide +kernel)
set_option maxRecDepth 20000 in
theorem gX7_step_X4_stands : GoodIn wsX7_step (wsV RX7 57 RX4 yX4_stands wsX4_stands) := goodIn_app (goodIn_of _ (by decide +kernel)) ggX7_step_X4_stands
set_option maxRecDepth 20000 in
theorem ggX7_step_X4_towers : GoodIn wsX7_step wsX4_towers := goodIn_r _ [26, 9, 10, 11, 7, 12, 13, 14, 15, 16, 17, 18, 19, 20, 21, 22, 109, 110, 111] (by decide +kernel) (by decide +kernel)
set_option maxRecDepth 20000 in
theorem gX7_step_X4_towers : GoodIn wsX7_step (wsV RX7 125 RX4 yX4_towers wsX4_towers) := goodIn_app (goodIn_of _ (by decide +kernel)) ggX7_step_X4_towers
set_option maxRecDepth 20000 in
theorem ggX7_step_X5_has : GoodIn wsX7_step wsX5_has := goodIn_r _ [30] (by decide +kernel) (by decide +kernel)
set_option maxRecDepth 20000 in
theorem gX7_step_X5_has : GoodIn wsX7_step (va_wsS RX7 60 yX5_has wsX5_has) := goodIn_app (goodIn_of _ (by decide +kernel)) ggX7_step_X5_has
set_option maxRecDepth 20000 in
theorem ggX7_step_X1_from : GoodIn wsX7_step wsX1_from := goodIn_r _ [35, 36, 37, 38, 39, 40, 41, 42, 43, 44, 45, 46, 47, 48, 49, 50, 29, 51, 52, 28, 30, 53, 54, 55, 56, 57, 58, 59, 60, 61, 62, 63, 64, 65, 66, 67, 68, 69, 70, 71, 72, 73, 74, 75, 76, 77, 78, 79, 80, 81, 82, 83, 84, 85, 86, 87, 88, 89, 34, 90, 91, 92, 93, 94, 95, 112, 113, 114, 115, 116, 117, 118] (by decide +kernel) (by decide +kernel)
set_option maxRecDepth 20000 in
theorem gX7_step_X1_from : GoodIn wsX7_step (wsV RX7 128 RX1 yX1_from wsX1_from) := goodIn_app (goodIn_of _ (by decide +kernel)) ggX7_step_X1_from
set_option maxRecDepth 20000 in
theorem ggX7_step_X4_walkersOn : GoodIn wsX7_step wsX4_walkersOn := goodIn_r _ [17, 18, 19, 20, 21, 7, 22, 13, 109, 110, 111] (by decide +kernel) (by decide +kernel)
set_option maxRecDepth 20000 in
theorem gX7_step_X4_walkersOn : GoodIn wsX7_step (wsV RX7 45 RX4 yX4_walkersOn wsX4_walkersOn) := goodIn_app (goodIn_of _ (by decide +kernel)) ggX7_step_X4_walkersOn
set_option maxRecDepth 20000 in
theorem ggX7_step_X4_put : GoodIn wsX7_step wsX4_put := goodIn_r _ [100, 18, 19, 20, 21, 7, 22, 13, 109, 110, 111] (by decide +kernel) (by decide +kernel)
set_option maxRecDepth 20000 in
theorem gX7_step_X4_put : GoodIn wsX7_step (wsV RX7 53 RX4 yX4_put wsX4_put) := goodIn_app (goodIn_of _ (by decide +kernel)) ggX7_step_X4_put
set_option maxRecDepth 20000 in
theorem ggX7_step_J6_bitCount_0f7a4 : GoodIn wsX7_step wsJ6_bitCount_0f7a4 := goodIn_r _ [57, 58, 59, 60] (by decide +kernel) (by decide +kernel)
set_option maxRecDepth 20000 in
theorem gX7_step_J6_bitCount_0f7a4 : GoodIn wsX7_step (va_wsS RX7 66 yJ6_bitCount_0f7a4 wsJ6_bitCount_0f7a4) := goodIn_app (goodIn_of _ (by decide +kernel)) ggX7_step_J6_bitCount_0f7a4
theorem dX7_step_0 : decode cX7_step 0 = .ok (.aload_n 0, 1) := by decide +kernel
theorem dX7_step_1 : decode cX7_step 1 = .ok (.getfield 10, 3) := by decide +kernel
theorem dX7_step_4 : decode cX7_step 4 = .ok (.invokevirtual 57, 3) := by decide +kernel
theorem dX7_step_7 : decode cX7_step 7 = .ok (.istore_n 2, 1) := by decide +kernel
theorem dX7_step_8 : decode cX7_step 8 = .ok (.iload_n 1, 1) := by decide +kernel
theorem dX7_step_9 : decode cX7_step 9 = .ok (.iload_n 2, 1) := by decide +kernel
theorem dX7_step_10 : decode cX7_step 10 = .ok (.iconst (-1), 1) := by decide +kernel
theorem dX7_step_11 : decode cX7_step 11 = .ok (.ixor, 1) := by decide +kernel
theorem dX7_step_12 : decode cX7_step 12 = .ok (.iand, 1) := by decide +kernel
theorem dX7_step_13 : decode cX7_step 13 = .ok (.ifCond .eq 6, 3) := by decide +kernel
theorem dX7_step_16 : decode cX7_step 16 = .ok (.bipush (-2), 2) := by decide +kernel
theorem dX7_step_18 : decode cX7_step 18 = .ok (.ireturn, 1) := by decide +kernel
theorem dX7_step_19 : decode cX7_step 19 = .ok (.aload_n 0, 1) := by decide +kernel
theorem dX7_step_20 : decode cX7_step 20 = .ok (.getfield 10, 3) := by decide +kernel
theorem dX7_step_23 : decode cX7_step 23 = .ok (.invokevirtual 125, 3) := by decide +kernel
theorem dX7_step_26 : decode cX7_step 26 = .ok (.istore_n 3, 1) := by decide +kernel
theorem dX7_step_27 : decode cX7_step 27 = .ok (.iconst 0, 1) := by decide +kernel
theorem dX7_step_28 : decode cX7_step 28 = .ok (.istore 4, 2) := by decide +kernel
theorem dX7_step_30 : decode cX7_step 30 = .ok (.iload 4, 2) := by decide +kernel
theorem dX7_step_32 : decode cX7_step 32 = .ok (.bipush 10, 2) := by decide +kernel
theorem dX7_step_34 : decode cX7_step 34 = .ok (.if_icmp .ge 17, 3) := by decide +kernel
theorem dX7_step_37 : decode cX7_step 37 = .ok (.aload_n 0, 1) := by decide +kernel
theorem dX7_step_38 : decode cX7_step 38 = .ok (.getfield 29, 3) := by decide +kernel
theorem dX7_step_41 : decode cX7_step 41 = .ok (.iload 4, 2) := by decide +kernel
theorem dX7_step_43 : decode cX7_step 43 = .ok (.iconst 0, 1) := by decide +kernel
theorem dX7_step_44 : decode cX7_step 44 = .ok (.iastore, 1) := by decide +kernel
theorem dX7_step_45 : decode cX7_step 45 = .ok (.iinc 4 1, 3) := by decide +kernel
theorem dX7_step_48 : decode cX7_step 48 = .ok (.goto (-18), 3) := by decide +kernel
theorem dX7_step_51 : decode cX7_step 51 = .ok (.iconst 0, 1) := by decide +kernel
theorem dX7_step_52 : decode cX7_step 52 = .ok (.istore 4, 2) := by decide +kernel
theorem dX7_step_54 : decode cX7_step 54 = .ok (.iload 4, 2) := by decide +kernel
theorem dX7_step_56 : decode cX7_step 56 = .ok (.bipush 10, 2) := by decide +kernel
theorem dX7_step_58 : decode cX7_step 58 = .ok (.if_icmp .ge 87, 3) := by decide +kernel
theorem dX7_step_61 : decode cX7_step 61 = .ok (.iload 4, 2) := by decide +kernel
theorem dX7_step_63 : decode cX7_step 63 = .ok (.istore 5, 2) := by decide +kernel
theorem dX7_step_65 : decode cX7_step 65 = .ok (.iload_n 1, 1) := by decide +kernel
theorem dX7_step_66 : decode cX7_step 66 = .ok (.iload 4, 2) := by decide +kernel
theorem dX7_step_68 : decode cX7_step 68 = .ok (.invokestatic 60, 3) := by decide +kernel
theorem dX7_step_71 : decode cX7_step 71 = .ok (.ifCond .eq 37, 3) := by decide +kernel
theorem dX7_step_74 : decode cX7_step 74 = .ok (.aload_n 0, 1) := by decide +kernel
theorem dX7_step_75 : decode cX7_step 75 = .ok (.getfield 25, 3) := by decide +kernel
theorem dX7_step_78 : decode cX7_step 78 = .ok (.aload_n 0, 1) := by decide +kernel
theorem dX7_step_79 : decode cX7_step 79 = .ok (.getfield 10, 3) := by decide +kernel
theorem dX7_step_82 : decode cX7_step 82 = .ok (.getfield 100, 3) := by decide +kernel
theorem dX7_step_85 : decode cX7_step 85 = .ok (.aload_n 0, 1) := by decide +kernel
theorem dX7_step_86 : decode cX7_step 86 = .ok (.getfield 10, 3) := by decide +kernel
theorem dX7_step_89 : decode cX7_step 89 = .ok (.getfield 33, 3) := by decide +kernel
theorem dX7_step_92 : decode cX7_step 92 = .ok (.iload_n 2, 1) := by decide +kernel
theorem dX7_step_93 : decode cX7_step 93 = .ok (.iload_n 3, 1) := by decide +kernel
theorem dX7_step_94 : decode cX7_step 94 = .ok (.iload 4, 2) := by decide +kernel
theorem dX7_step_96 : decode cX7_step 96 = .ok (.invokevirtual 128, 3) := by decide +kernel
theorem dX7_step_99 : decode cX7_step 99 = .ok (.aload_n 0, 1) := by decide +kernel
theorem dX7_step_100 : decode cX7_step 100 = .ok (.getfield 25, 3) := by decide +kernel
theorem dX7_step_103 : decode cX7_step 103 = .ok (.getfield 145, 3) := by decide +kernel
theorem dX7_step_106 : decode cX7_step 106 = .ok (.istore 5, 2) := by decide +kernel
theorem dX7_step_108 : decode cX7_step 108 = .ok (.iload 5, 2) := by decide +kernel
theorem dX7_step_110 : decode cX7_step 110 = .ok (.ifCond .lt 29, 3) := by decide +kernel
theorem dX7_step_113 : decode cX7_step 113 = .ok (.iload 5, 2) := by decide +kernel
theorem dX7_step_115 : decode cX7_step 115 = .ok (.bipush 10, 2) := by decide +kernel
theorem dX7_step_117 : decode cX7_step 117 = .ok (.if_icmp .ge 22, 3) := by decide +kernel
theorem dX7_step_120 : decode cX7_step 120 = .ok (.aload_n 0, 1) := by decide +kernel
theorem dX7_step_121 : decode cX7_step 121 = .ok (.getfield 29, 3) := by decide +kernel
theorem dX7_step_124 : decode cX7_step 124 = .ok (.iload 5, 2) := by decide +kernel
theorem dX7_step_126 : decode cX7_step 126 = .ok (.dup2, 1) := by decide +kernel
theorem dX7_step_127 : decode cX7_step 127 = .ok (.iaload, 1) := by decide +kernel
theorem dX7_step_128 : decode cX7_step 128 = .ok (.aload_n 0, 1) := by decide +kernel
theorem dX7_step_129 : decode cX7_step 129 = .ok (.getfield 10, 3) := by decide +kernel
theorem dX7_step_132 : decode cX7_step 132 = .ok (.iload 4, 2) := by decide +kernel
theorem dX7_step_134 : decode cX7_step 134 = .ok (.invokevirtual 45, 3) := by decide +kernel
theorem dX7_step_137 : decode cX7_step 137 = .ok (.iadd, 1) := by decide +kernel
theorem dX7_step_138 : decode cX7_step 138 = .ok (.iastore, 1) := by decide +kernel
theorem dX7_step_139 : decode cX7_step 139 = .ok (.iinc 4 1, 3) := by decide +kernel
theorem dX7_step_142 : decode cX7_step 142 = .ok (.goto (-88), 3) := by decide +kernel
theorem dX7_step_145 : decode cX7_step 145 = .ok (.iconst 0, 1) := by decide +kernel
theorem dX7_step_146 : decode cX7_step 146 = .ok (.istore 4, 2) := by decide +kernel
theorem dX7_step_148 : decode cX7_step 148 = .ok (.iload 4, 2) := by decide +kernel
theorem dX7_step_150 : decode cX7_step 150 = .ok (.bipush 10, 2) := by decide +kernel
theorem dX7_step_152 : decode cX7_step 152 = .ok (.if_icmp .ge 25, 3) := by decide +kernel
theorem dX7_step_155 : decode cX7_step 155 = .ok (.aload_n 0, 1) := by decide +kernel
theorem dX7_step_156 : decode cX7_step 156 = .ok (.getfield 10, 3) := by decide +kernel
theorem dX7_step_159 : decode cX7_step 159 = .ok (.iload 4, 2) := by decide +kernel
theorem dX7_step_161 : decode cX7_step 161 = .ok (.aload_n 0, 1) := by decide +kernel
theorem dX7_step_162 : decode cX7_step 162 = .ok (.getfield 29, 3) := by decide +kernel
theorem dX7_step_165 : decode cX7_step 165 = .ok (.iload 4, 2) := by decide +kernel
theorem dX7_step_167 : decode cX7_step 167 = .ok (.iaload, 1) := by decide +kernel
theorem dX7_step_168 : decode cX7_step 168 = .ok (.invokevirtual 53, 3) := by decide +kernel
theorem dX7_step_171 : decode cX7_step 171 = .ok (.iinc 4 1, 3) := by decide +kernel
theorem dX7_step_174 : decode cX7_step 174 = .ok (.goto (-26), 3) := by decide +kernel
theorem dX7_step_177 : decode cX7_step 177 = .ok (.aload_n 0, 1) := by decide +kernel
theorem dX7_step_178 : decode cX7_step 178 = .ok (.getfield 10, 3) := by decide +kernel
theorem dX7_step_181 : decode cX7_step 181 = .ok (.invokevirtual 57, 3) := by decide +kernel
theorem dX7_step_184 : decode cX7_step 184 = .ok (.invokestatic 66, 3) := by decide +kernel
theorem dX7_step_187 : decode cX7_step 187 = .ok (.ireturn, 1) := by decide +kernel
set_option maxRecDepth 20000 in
theorem ggX7_meets_X7_refusalFromNow : GoodIn wsX7_meets wsX7_refusalFromNow := goodIn_r _ [5, 6, 7, 8, 4, 9, 10, 11, 12, 13, 14, 15, 16, 17, 18, 19, 20, 21, 22, 23, 24, 25, 26, 27, 28, 291, 292, 293, 294, 295, 296, 297, 298, 299, 300] (by decide +kernel) (by decide +kernel)
set_option maxRecDepth 20000 in
theorem gX7_meets_X7_refusalFromNow : GoodIn wsX7_meets (wsV RX7 148 RX7 yX7_refusalFromNow wsX7_refusalFromNow) := goodIn_app (goodIn_of _ (by decide +kernel)) ggX7_meets_X7_refusalFromNow
set_option maxRecDepth 20000 in
theorem ggX7_meets_X7_walksFromNow : GoodIn wsX7_meets wsX7_walksFromNow := goodIn_r _ [32, 6, 33, 34, 35, 4, 36, 37, 38, 39, 40, 41, 42, 43, 44, 45, 46, 47, 48, 49, 50, 51, 52, 53, 54, 55, 56, 57, 58, 59, 60, 61, 62, 63, 64, 65, 66, 67, 68, 69, 70, 71, 72, 73, 74, 75, 76, 77, 78, 79, 80, 81, 82, 83, 10, 11, 12, 13, 14, 15, 16, 17, 18, 19, 20, 21, 22, 23, 24, 25, 26, 27, 28, 84, 85, 86, 87, 88, 89, 90, 91, 92, 93, 94, 95, 96, 97, 98, 99, 100, 101, 102, 103, 104, 105, 106, 291, 292, 293, 294, 295, 296, 297, 271, 272, 273, 274, 275, 276, 277, 278, 279, 280, 281, 282, 283, 284, 285, 286, 287, 288, 289, 290, 298, 299, 300, 301, 302, 303, 304, 305, 306, 307, 308, 309] (by decide +kernel) (by decide +kernel)
set_option maxRecDepth 20000 in
theorem gX7_meets_X7_walksFromNow : GoodIn wsX7_meets (wsV RX7 151 RX7 yX7_walksFromNow wsX7_walksFromNow) := goodIn_app (goodIn_of _ (by decide +kernel)) ggX7_meets_X7_walksFromNow
set_option maxRecDepth 20000 in
theorem ggX7_meets_X6_walk : GoodIn wsX7_meets wsX6_walk := goodIn_r _ [110, 80, 50, 62, 77, 52, 59, 60, 111, 112, 113, 40, 114, 103, 104, 105, 106, 100, 101, 90, 102, 115, 116, 117, 118, 119, 120, 121, 122, 123, 124, 125, 79, 126, 127, 128, 129, 130, 131, 49, 132, 133, 134, 135, 69, 136, 137, 138, 139, 140, 141, 68, 142, 143, 144, 145, 146, 147, 148, 149, 150, 151, 152, 153, 154, 155, 156, 157, 158, 159, 160, 161, 162, 163, 164, 165, 166, 167, 168, 169, 170, 171, 172, 173, 174, 175, 176, 177, 178, 179, 180, 181, 182, 183, 184, 185, 186, 187, 188, 189, 190, 191, 192, 193, 194, 195, 196, 197, 198, 199, 200, 201, 202, 203, 204, 205, 83, 82, 206, 207, 208, 209, 210, 211, 212, 213, 78, 214, 215, 216, 217, 218, 219, 220, 221, 222, 223, 224, 225, 226, 227, 228, 229, 230, 89, 91, 231, 93, 94, 95, 54, 53, 55, 58, 96, 97, 98, 99, 232, 233, 234, 235, 81, 57, 56, 236, 237, 238, 239, 240, 61, 241, 242, 243, 244, 245, 246, 247, 248, 249, 250, 251, 252, 253, 254, 255, 256, 271, 272, 273, 274, 275, 276, 277, 278, 279, 280, 281, 282, 283, 284, 285, 286, 287, 288, 289, 290, 301, 302, 303, 304, 305, 306, 307, 308, 309, 310, 311] (by decide +kernel) (by decide +kernel)
set_option maxRecDepth 20000 in
theorem gX7_meets_X6_walk : GoodIn wsX7_meets (wsV RX7 155 RX6 yX6_walk wsX6_walk) := goodIn_app (goodIn_of _ (by decide +kernel)) ggX7_meets_X6_walk
set_option maxRecDepth 20000 in
theorem ggX7_meets_X6_soonOf : GoodIn wsX7_meets wsX6_soonOf := goodIn_r _ [260, 59, 103, 104, 105, 40, 106, 80, 271, 272, 273, 274, 275, 276, 277, 278, 279, 280, 281, 282, 283, 284, 285, 286, 287, 288, 289, 290] (by decide +kernel) (by decide +kernel)
set_option maxRecDepth 20000 in
theorem gX7_meets_X6_soonOf : GoodIn wsX7_meets (wsV RX7 160 RX6 yX6_soonOf wsX6_soonOf) := goodIn_app (goodIn_of _ (by decide +kernel)) ggX7_meets_X6_soonOf
set_option maxRecDepth 20000 in
theorem ggX7_meets_X6_lateOf : GoodIn wsX7_meets wsX6_lateOf := goodIn_r _ [264, 60, 103, 104, 105, 40, 106, 80, 271, 272, 273, 274, 275, 276, 277, 278, 279, 280, 281, 282, 283, 284, 285, 286, 287, 288, 289, 290] (by decide +kernel) (by decide +kernel)
set_option maxRecDepth 20000 in
theorem gX7_meets_X6_lateOf : GoodIn wsX7_meets (wsV RX7 163 RX6 yX6_lateOf wsX6_lateOf) := goodIn_app (goodIn_of _ (by decide +kernel)) ggX7_meets_X6_lateOf
set_option maxRecDepth 20000 in
theorem ggX7_meets_X6_kindOf : GoodIn wsX7_meets wsX6_kindOf := goodIn_r _ [268, 111, 112, 113, 40, 114, 52, 103, 104, 105, 106, 80, 100, 101, 90, 102, 115, 116, 117, 118, 119, 120, 121, 269, 262, 263, 264, 60, 270, 258, 259, 260, 59, 271, 272, 273, 274, 275, 276, 277, 278, 279, 280, 281, 282, 283, 284, 285, 286, 287, 288, 289, 290] (by decide +kernel) (by decide +kernel)
set_option maxRecDepth 20000 in
theorem gX7_meets_X6_kindOf : GoodIn wsX7_meets (wsV RX7 166 RX6 yX6_kindOf wsX6_kindOf) := goodIn_app (goodIn_of _ (by decide +kernel)) ggX7_meets_X6_kindOf
theorem dX7_meets_0 : decode cX7_meets 0 = .ok (.iload_n 2, 1) := by decide +kernel
theorem dX7_meets_1 : decode cX7_meets 1 = .ok (.ifCond .lt 8, 3) := by decide +kernel
theorem dX7_meets_4 : decode cX7_meets 4 = .ok (.iload_n 2, 1) := by decide +kernel
theorem dX7_meets_5 : decode cX7_meets 5 = .ok (.iconst 4, 1) := by decide +kernel
theorem dX7_meets_6 : decode cX7_meets 6 = .ok (.if_icmp .le 6, 3) := by decide +kernel
theorem dX7_meets_9 : decode cX7_meets 9 = .ok (.bipush (-2), 2) := by decide +kernel
theorem dX7_meets_11 : decode cX7_meets 11 = .ok (.ireturn, 1) := by decide +kernel
theorem dX7_meets_12 : decode cX7_meets 12 = .ok (.aload_n 0, 1) := by decide +kernel
theorem dX7_meets_13 : decode cX7_meets 13 = .ok (.iload_n 1, 1) := by decide +kernel
theorem dX7_meets_14 : decode cX7_meets 14 = .ok (.invokevirtual 148, 3) := by decide +kernel
theorem dX7_meets_17 : decode cX7_meets 17 = .ok (.istore_n 3, 1) := by decide +kernel
theorem dX7_meets_18 : decode cX7_meets 18 = .ok (.iload_n 3, 1) := by decide +kernel
theorem dX7_meets_19 : decode cX7_meets 19 = .ok (.ifCond .eq 5, 3) := by decide +kernel
theorem dX7_meets_22 : decode cX7_meets 22 = .ok (.iload_n 3, 1) := by decide +kernel
theorem dX7_meets_23 : decode cX7_meets 23 = .ok (.ireturn, 1) := by decide +kernel
theorem dX7_meets_24 : decode cX7_meets 24 = .ok (.aload_n 0, 1) := by decide +kernel
theorem dX7_meets_25 : decode cX7_meets 25 = .ok (.iload_n 1, 1) := by decide +kernel
theorem dX7_meets_26 : decode cX7_meets 26 = .ok (.iconst 0, 1) := by decide +kernel
theorem dX7_meets_27 : decode cX7_meets 27 = .ok (.invokevirtual 151, 3) := by decide +kernel
theorem dX7_meets_30 : decode cX7_meets 30 = .ok (.astore 4, 2) := by decide +kernel
theorem dX7_meets_32 : decode cX7_meets 32 = .ok (.aload 4, 2) := by decide +kernel
theorem dX7_meets_34 : decode cX7_meets 34 = .ok (.invokevirtual 155, 3) := by decide +kernel
theorem dX7_meets_37 : decode cX7_meets 37 = .ok (.iload_n 2, 1) := by decide +kernel
theorem dX7_meets_38 : decode cX7_meets 38 = .ok (.tableswitch 57 0 3 #[30, 37, 44, 51], 30) := by decide +kernel
theorem dX7_meets_68 : decode cX7_meets 68 = .ok (.aload 4, 2) := by decide +kernel
theorem dX7_meets_70 : decode cX7_meets 70 = .ok (.iconst 0, 1) := by decide +kernel
theorem dX7_meets_71 : decode cX7_meets 71 = .ok (.invokevirtual 160, 3) := by decide +kernel
theorem dX7_meets_74 : decode cX7_meets 74 = .ok (.ireturn, 1) := by decide +kernel
theorem dX7_meets_75 : decode cX7_meets 75 = .ok (.aload 4, 2) := by decide +kernel
theorem dX7_meets_77 : decode cX7_meets 77 = .ok (.iconst 0, 1) := by decide +kernel
theorem dX7_meets_78 : decode cX7_meets 78 = .ok (.invokevirtual 163, 3) := by decide +kernel
theorem dX7_meets_81 : decode cX7_meets 81 = .ok (.ireturn, 1) := by decide +kernel
theorem dX7_meets_82 : decode cX7_meets 82 = .ok (.aload 4, 2) := by decide +kernel
theorem dX7_meets_84 : decode cX7_meets 84 = .ok (.iconst 0, 1) := by decide +kernel
theorem dX7_meets_85 : decode cX7_meets 85 = .ok (.invokevirtual 166, 3) := by decide +kernel
theorem dX7_meets_88 : decode cX7_meets 88 = .ok (.ireturn, 1) := by decide +kernel
theorem dX7_meets_89 : decode cX7_meets 89 = .ok (.aload 4, 2) := by decide +kernel
theorem dX7_meets_91 : decode cX7_meets 91 = .ok (.getfield 169, 3) := by decide +kernel
theorem dX7_meets_94 : decode cX7_meets 94 = .ok (.ireturn, 1) := by decide +kernel
theorem dX7_meets_95 : decode cX7_meets 95 = .ok (.aload 4, 2) := by decide +kernel
theorem dX7_meets_97 : decode cX7_meets 97 = .ok (.getfield 170, 3) := by decide +kernel
theorem dX7_meets_100 : decode cX7_meets 100 = .ok (.ireturn, 1) := by decide +kernel
set_option maxRecDepth 20000 in
theorem ggX7_first_X7_refusalFromNow : GoodIn wsX7_first wsX7_refusalFromNow := goodIn_r _ [5, 6, 7, 8, 4, 9, 10, 11, 12, 13, 14, 15, 16, 17, 18, 19, 20, 21, 22, 23, 24, 25, 26, 27, 28, 265, 266, 267, 268, 269, 270, 271, 272, 273, 274] (by decide +kernel) (by decide +kernel)
set_option maxRecDepth 20000 in
theorem gX7_first_X7_refusalFromNow : GoodIn wsX7_first (wsV RX7 148 RX7 yX7_refusalFromNow wsX7_refusalFromNow) := goodIn_app (goodIn_of _ (by decide +kernel)) ggX7_first_X7_refusalFromNow
set_option maxRecDepth 20000 in
theorem ggX7_first_X7_walksFromNow : GoodIn wsX7_first wsX7_walksFromNow := goodIn_r _ [32, 6, 33, 34, 35, 4, 36, 37, 38, 39, 40, 41, 42, 43, 44, 45, 46, 47, 48, 49, 50, 51, 52, 53, 54, 55, 56, 57, 58, 59, 60, 61, 62, 63, 64, 65, 66, 67, 68, 69, 70, 71, 72, 73, 74, 75, 76, 77, 78, 79, 80, 81, 82, 83, 10, 11, 12, 13, 14, 15, 16, 17, 18, 19, 20, 21, 22, 23, 24, 25, 26, 27, 28, 84, 85, 86, 87, 88, 89, 90, 91, 92, 93, 94, 95, 96, 97, 98, 99, 100, 101, 102, 103, 104, 105, 106, 265, 266, 267, 268, 269, 270, 271, 275, 276, 277, 278, 279, 280, 281, 282, 283, 284, 285, 286, 287, 288, 289, 290, 291, 292, 293, 294, 272, 273, 274, 295, 296, 297, 298, 299, 300, 301, 302, 303] (by decide +kernel) (by decide +kernel)
set_option maxRecDepth 20000 in
theorem gX7_first_X7_walksFromNow : GoodIn wsX7_first (wsV RX7 151 RX7 yX7_walksFromNow wsX7_walksFromNow) := goodIn_app (goodIn_of _ (by decide +kernel)) ggX7_first_X7_walksFromNow
set_option maxRecDepth 20000 in
theorem ggX7_first_X6_walk : GoodIn wsX7_first wsX6_walk := goodIn_r _ [110, 80, 50, 62, 77, 52, 59, 60, 111, 112, 113, 40, 114, 103, 104, 105, 106, 100, 101, 90, 102, 115, 116, 117, 118, 119, 120, 121, 122, 123, 124, 125, 79, 126, 127, 128, 129, 130, 131, 49, 132, 133, 134, 135, 69, 136, 137, 138, 139, 140, 141, 68, 142, 143, 144, 145, 146, 147, 148, 149, 150, 151, 152, 153, 154, 155, 156, 157, 158, 159, 160, 161, 162, 163, 164, 165, 166, 167, 168, 169, 170, 171, 172, 173, 174, 175, 176, 177, 178, 179, 180, 181, 182, 183, 184, 185, 186, 187, 188, 189, 190, 191, 192, 193, 194, 195, 196, 197, 198, 199, 200, 201, 202, 203, 204, 205, 83, 82, 206, 207, 208, 209, 210, 211, 212, 213, 78, 214, 215, 216, 217, 218, 219, 220, 221, 222, 223, 224, 225, 226, 227, 228, 229, 230, 89, 91, 231, 93, 94, 95, 54, 53, 55, 58, 96, 97, 98, 99, 232, 233, 234, 235, 81, 57, 56, 236, 237, 238, 239, 240, 61, 241, 242, 243, 244, 245, 246, 247, 248, 249, 250, 251, 252, 253, 254, 255, 256, 275, 276, 277, 278, 279, 280, 281, 282, 283, 284, 285, 286, 287, 288, 289, 290, 291, 292, 293, 294, 295, 296, 297, 298, 299, 300, 301, 302, 303, 304, 305] (by decide +kernel) (by decide +kernel)
set_option maxRecDepth 20000 in
theorem gX7_first_X6_walk : GoodIn wsX7_first (wsV RX7 155 RX6 yX6_walk wsX6_walk) := goodIn_app (goodIn_of _ (by decide +kernel)) ggX7_first_X6_walk
set_option maxRecDepth 20000 in
theorem ggX7_first_X6_leastSetTowardsMeeting : GoodIn wsX7_first wsX6_leastSetTowardsMeeting := goodIn_r _ [260, 50, 62, 77, 52, 261, 262, 263, 40, 264, 59, 103, 104, 105, 106, 80, 100, 101, 90, 102, 122, 123, 124, 125, 79, 126, 127, 128, 129, 130, 131, 49, 132, 133, 134, 135, 69, 136, 137, 138, 139, 140, 141, 68, 142, 143, 144, 145, 146, 147, 148, 149, 150, 151, 152, 153, 154, 155, 156, 157, 158, 159, 160, 161, 116, 117, 118, 119, 120, 121, 162, 163, 164, 165, 166, 167, 168, 169, 170, 171, 172, 173, 174, 175, 176, 177, 178, 179, 180, 181, 182, 183, 184, 185, 186, 187, 188, 189, 190, 191, 192, 193, 194, 195, 196, 197, 198, 199, 200, 201, 210, 211, 212, 213, 78, 206, 207, 208, 209, 214, 215, 216, 217, 218, 219, 220, 221, 222, 223, 224, 225, 226, 227, 228, 229, 230, 89, 91, 96, 97, 98, 99, 53, 54, 275, 276, 277, 278, 279, 280, 281, 282, 283, 284, 285, 286, 287, 288, 289, 290, 291, 292, 293, 294, 295, 296, 297, 298, 299, 300, 301, 302, 303, 304, 305] (by decide +kernel) (by decide +kernel)
set_option maxRecDepth 20000 in
theorem gX7_first_X6_leastSetTowardsMeeting : GoodIn wsX7_first (wsV RX7 173 RX6 yX6_leastSetTowardsMeeting wsX6_leastSetTowardsMeeting) := goodIn_app (goodIn_of _ (by decide +kernel)) ggX7_first_X6_leastSetTowardsMeeting
theorem dX7_first_0 : decode cX7_first 0 = .ok (.aload_n 0, 1) := by decide +kernel
theorem dX7_first_1 : decode cX7_first 1 = .ok (.iload_n 1, 1) := by decide +kernel
theorem dX7_first_2 : decode cX7_first 2 = .ok (.invokevirtual 148, 3) := by decide +kernel
theorem dX7_first_5 : decode cX7_first 5 = .ok (.istore_n 2, 1) := by decide +kernel
theorem dX7_first_6 : decode cX7_first 6 = .ok (.iload_n 2, 1) := by decide +kernel
theorem dX7_first_7 : decode cX7_first 7 = .ok (.ifCond .eq 5, 3) := by decide +kernel
theorem dX7_first_10 : decode cX7_first 10 = .ok (.iload_n 2, 1) := by decide +kernel
theorem dX7_first_11 : decode cX7_first 11 = .ok (.ireturn, 1) := by decide +kernel
theorem dX7_first_12 : decode cX7_first 12 = .ok (.aload_n 0, 1) := by decide +kernel
theorem dX7_first_13 : decode cX7_first 13 = .ok (.iload_n 1, 1) := by decide +kernel
theorem dX7_first_14 : decode cX7_first 14 = .ok (.iconst 0, 1) := by decide +kernel
theorem dX7_first_15 : decode cX7_first 15 = .ok (.invokevirtual 151, 3) := by decide +kernel
theorem dX7_first_18 : decode cX7_first 18 = .ok (.astore_n 3, 1) := by decide +kernel
theorem dX7_first_19 : decode cX7_first 19 = .ok (.aload_n 3, 1) := by decide +kernel
theorem dX7_first_20 : decode cX7_first 20 = .ok (.invokevirtual 155, 3) := by decide +kernel
theorem dX7_first_23 : decode cX7_first 23 = .ok (.aload_n 3, 1) := by decide +kernel
theorem dX7_first_24 : decode cX7_first 24 = .ok (.iconst 0, 1) := by decide +kernel
theorem dX7_first_25 : decode cX7_first 25 = .ok (.invokevirtual 173, 3) := by decide +kernel
theorem dX7_first_28 : decode cX7_first 28 = .ok (.ireturn, 1) := by decide +kernel
set_option maxRecDepth 20000 in
theorem ggX7_blind_X7_refusalFromNow : GoodIn wsX7_blind wsX7_refusalFromNow := goodIn_r _ [5, 6, 7, 8, 4, 9, 10, 11, 12, 13, 14, 15, 16, 17, 18, 19, 20, 21, 22, 23, 24, 25, 26, 27, 28, 269, 270, 271, 272, 273, 274, 275, 276, 277, 278] (by decide +kernel) (by decide +kernel)
set_option maxRecDepth 20000 in
theorem gX7_blind_X7_refusalFromNow : GoodIn wsX7_blind (wsV RX7 148 RX7 yX7_refusalFromNow wsX7_refusalFromNow) := goodIn_app (goodIn_of _ (by decide +kernel)) ggX7_blind_X7_refusalFromNow
set_option maxRecDepth 20000 in
theorem ggX7_blind_X7_walksFromNow : GoodIn wsX7_blind wsX7_walksFromNow := goodIn_r _ [32, 6, 33, 34, 35, 4, 36, 37, 38, 39, 40, 41, 42, 43, 44, 45, 46, 47, 48, 49, 50, 51, 52, 53, 54, 55, 56, 57, 58, 59, 60, 61, 62, 63, 64, 65, 66, 67, 68, 69, 70, 71, 72, 73, 74, 75, 76, 77, 78, 79, 80, 81, 82, 83, 10, 11, 12, 13, 14, 15, 16, 17, 18, 19, 20, 21, 22, 23, 24, 25, 26, 27, 28, 84, 85, 86, 87, 88, 89, 90, 91, 92, 93, 94, 95, 96, 97, 98, 99, 100, 101, 102, 103, 104, 105, 106, 269, 270, 271, 272, 273, 274, 275, 279, 280, 281, 282, 283, 284, 285, 286, 287, 288, 289, 290, 291, 292, 293, 294, 295, 296, 297, 298, 276, 277, 278, 299, 300, 301, 302, 303, 304, 305, 306, 307] (by decide +kernel) (by decide +kernel)
set_option maxRecDepth 20000 in
theorem gX7_blind_X7_walksFromNow : GoodIn wsX7_blind (wsV RX7 151 RX7 yX7_walksFromNow wsX7_walksFromNow) := goodIn_app (goodIn_of _ (by decide +kernel)) ggX7_blind_X7_walksFromNow
set_option maxRecDepth 20000 in
theorem ggX7_blind_X6_walk : GoodIn wsX7_blind wsX6_walk := goodIn_r _ [110, 80, 50, 62, 77, 52, 59, 60, 111, 112, 113, 40, 114, 103, 104, 105, 106, 100, 101, 90, 102, 115, 116, 117, 118, 119, 120, 121, 122, 123, 124, 125, 79, 126, 127, 128, 129, 130, 131, 49, 132, 133, 134, 135, 69, 136, 137, 138, 139, 140, 141, 68, 142, 143, 144, 145, 146, 147, 148, 149, 150, 151, 152, 153, 154, 155, 156, 157, 158, 159, 160, 161, 162, 163, 164, 165, 166, 167, 168, 169, 170, 171, 172, 173, 174, 175, 176, 177, 178, 179, 180, 181, 182, 183, 184, 185, 186, 187, 188, 189, 190, 191, 192, 193, 194, 195, 196, 197, 198, 199, 200, 201, 202, 203, 204, 205, 83, 82, 206, 207, 208, 209, 210, 211, 212, 213, 78, 214, 215, 216, 217, 218, 219, 220, 221, 222, 223, 224, 225, 226, 227, 228, 229, 230, 89, 91, 231, 93, 94, 95, 54, 53, 55, 58, 96, 97, 98, 99, 232, 233, 234, 235, 81, 57, 56, 236, 237, 238, 239, 240, 61, 241, 242, 243, 244, 245, 246, 247, 248, 249, 250, 251, 252, 253, 254, 255, 256, 279, 280, 281, 282, 283, 284, 285, 286, 287, 288, 289, 290, 291, 292, 293, 294, 295, 296, 297, 298, 299, 300, 301, 302, 303, 304, 305, 306, 307, 308, 309] (by decide +kernel) (by decide +kernel)
set_option maxRecDepth 20000 in
theorem gX7_blind_X6_walk : GoodIn wsX7_blind (wsV RX7 155 RX6 yX6_walk wsX6_walk) := goodIn_app (goodIn_of _ (by decide +kernel)) ggX7_blind_X6_walk
set_option maxRecDepth 20000 in
theorem ggX7_blind_X6_kindOf : GoodIn wsX7_blind wsX6_kindOf := goodIn_r _ [260, 111, 112, 113, 40, 114, 52, 103, 104, 105, 106, 80, 100, 101, 90, 102, 115, 116, 117, 118, 119, 120, 121, 261, 262, 263, 264, 60, 265, 266, 267, 268, 59, 279, 280, 281, 282, 283, 284, 285, 286, 287, 288, 289, 290, 291, 292, 293, 294, 295, 296, 297, 298] (by decide +kernel) (by decide +kernel)
set_option maxRecDepth 20000 in
theorem gX7_blind_X6_kindOf : GoodIn wsX7_blind (wsV RX7 166 RX6 yX6_kindOf wsX6_kindOf) := goodIn_app (goodIn_of _ (by decide +kernel)) ggX7_blind_X6_kindOf
theorem dX7_blind_0 : decode cX7_blind 0 = .ok (.aload_n 0, 1) := by decide +kernel
theorem dX7_blind_1 : decode cX7_blind 1 = .ok (.iload_n 1, 1) := by decide +kernel
theorem dX7_blind_2 : decode cX7_blind 2 = .ok (.invokevirtual 148, 3) := by decide +kernel
theorem dX7_blind_5 : decode cX7_blind 5 = .ok (.istore_n 2, 1) := by decide +kernel
theorem dX7_blind_6 : decode cX7_blind 6 = .ok (.iload_n 2, 1) := by decide +kernel
theorem dX7_blind_7 : decode cX7_blind 7 = .ok (.ifCond .eq 5, 3) := by decide +kernel
theorem dX7_blind_10 : decode cX7_blind 10 = .ok (.iload_n 2, 1) := by decide +kernel
theorem dX7_blind_11 : decode cX7_blind 11 = .ok (.ireturn, 1) := by decide +kernel
theorem dX7_blind_12 : decode cX7_blind 12 = .ok (.aload_n 0, 1) := by decide +kernel
theorem dX7_blind_13 : decode cX7_blind 13 = .ok (.iload_n 1, 1) := by decide +kernel
theorem dX7_blind_14 : decode cX7_blind 14 = .ok (.iconst 1, 1) := by decide +kernel
theorem dX7_blind_15 : decode cX7_blind 15 = .ok (.invokevirtual 151, 3) := by decide +kernel
theorem dX7_blind_18 : decode cX7_blind 18 = .ok (.astore_n 3, 1) := by decide +kernel
theorem dX7_blind_19 : decode cX7_blind 19 = .ok (.aload_n 3, 1) := by decide +kernel
theorem dX7_blind_20 : decode cX7_blind 20 = .ok (.invokevirtual 155, 3) := by decide +kernel
theorem dX7_blind_23 : decode cX7_blind 23 = .ok (.aload_n 3, 1) := by decide +kernel
theorem dX7_blind_24 : decode cX7_blind 24 = .ok (.iconst 0, 1) := by decide +kernel
theorem dX7_blind_25 : decode cX7_blind 25 = .ok (.invokevirtual 166, 3) := by decide +kernel
theorem dX7_blind_28 : decode cX7_blind 28 = .ok (.ireturn, 1) := by decide +kernel
set_option maxRecDepth 20000 in
theorem ggX7_used_X7_refusalFromNow : GoodIn wsX7_used wsX7_refusalFromNow := goodIn_r _ [5, 6, 7, 8, 4, 9, 10, 11, 12, 13, 14, 15, 16, 17, 18, 19, 20, 21, 22, 23, 24, 25, 26, 27, 28, 277, 278, 279, 280, 281, 282, 283, 284, 285, 286] (by decide +kernel) (by decide +kernel)
set_option maxRecDepth 20000 in
theorem gX7_used_X7_refusalFromNow : GoodIn wsX7_used (wsV RX7 148 RX7 yX7_refusalFromNow wsX7_refusalFromNow) := goodIn_app (goodIn_of _ (by decide +kernel)) ggX7_used_X7_refusalFromNow
set_option maxRecDepth 20000 in
theorem ggX7_used_X7_walksFromNow : GoodIn wsX7_used wsX7_walksFromNow := goodIn_r _ [32, 6, 33, 34, 35, 4, 36, 37, 38, 39, 40, 41, 42, 43, 44, 45, 46, 47, 48, 49, 50, 51, 52, 53, 54, 55, 56, 57, 58, 59, 60, 61, 62, 63, 64, 65, 66, 67, 68, 69, 70, 71, 72, 73, 74, 75, 76, 77, 78, 79, 80, 81, 82, 83, 10, 11, 12, 13, 14, 15, 16, 17, 18, 19, 20, 21, 22, 23, 24, 25, 26, 27, 28, 84, 85, 86, 87, 88, 89, 90, 91, 92, 93, 94, 95, 96, 97, 98, 99, 100, 101, 102, 103, 104, 105, 106, 277, 278, 279, 280, 281, 282, 283, 257, 258, 259, 260, 261, 262, 263, 264, 265, 266, 267, 268, 269, 270, 271, 272, 273, 274, 275, 276, 284, 285, 286, 287, 288, 289, 290, 291, 292, 293, 294, 295] (by decide +kernel) (by decide +kernel)
set_option maxRecDepth 20000 in
theorem gX7_used_X7_walksFromNow : GoodIn wsX7_used (wsV RX7 151 RX7 yX7_walksFromNow wsX7_walksFromNow) := goodIn_app (goodIn_of _ (by decide +kernel)) ggX7_used_X7_walksFromNow
set_option maxRecDepth 20000 in
theorem ggX7_used_X6_walk : GoodIn wsX7_used wsX6_walk := goodIn_r _ [110, 80, 50, 62, 77, 52, 59, 60, 111, 112, 113, 40, 114, 103, 104, 105, 106, 100, 101, 90, 102, 115, 116, 117, 118, 119, 120, 121, 122, 123, 124, 125, 79, 126, 127, 128, 129, 130, 131, 49, 132, 133, 134, 135, 69, 136, 137, 138, 139, 140, 141, 68, 142, 143, 144, 145, 146, 147, 148, 149, 150, 151, 152, 153, 154, 155, 156, 157, 158, 159, 160, 161, 162, 163, 164, 165, 166, 167, 168, 169, 170, 171, 172, 173, 174, 175, 176, 177, 178, 179, 180, 181, 182, 183, 184, 185, 186, 187, 188, 189, 190, 191, 192, 193, 194, 195, 196, 197, 198, 199, 200, 201, 202, 203, 204, 205, 83, 82, 206, 207, 208, 209, 210, 211, 212, 213, 78, 214, 215, 216, 217, 218, 219, 220, 221, 222, 223, 224, 225, 226, 227, 228, 229, 230, 89, 91, 231, 93, 94, 95, 54, 53, 55, 58, 96, 97, 98, 99, 232, 233, 234, 235, 81, 57, 56, 236, 237, 238, 239, 240, 61, 241, 242, 243, 244, 245, 246, 247, 248, 249, 250, 251, 252, 253, 254, 255, 256, 257, 258, 259, 260, 261, 262, 263, 264, 265, 266, 267, 268, 269, 270, 271, 272, 273, 274, 275, 276, 287, 288, 289, 290, 291, 292, 293, 294, 295, 296, 297] (by decide +kernel) (by decide +kernel)
set_option maxRecDepth 20000 in
theorem gX7_used_X6_walk : GoodIn wsX7_used (wsV RX7 155 RX6 yX6_walk wsX6_walk) := goodIn_app (goodIn_of _ (by decide +kernel)) ggX7_used_X6_walk
theorem dX7_used_0 : decode cX7_used 0 = .ok (.aload_n 0, 1) := by decide +kernel
theorem dX7_used_1 : decode cX7_used 1 = .ok (.iload_n 1, 1) := by decide +kernel
theorem dX7_used_2 : decode cX7_used 2 = .ok (.invokevirtual 148, 3) := by decide +kernel
theorem dX7_used_5 : decode cX7_used 5 = .ok (.istore_n 2, 1) := by decide +kernel
theorem dX7_used_6 : decode cX7_used 6 = .ok (.iload_n 2, 1) := by decide +kernel
theorem dX7_used_7 : decode cX7_used 7 = .ok (.ifCond .eq 5, 3) := by decide +kernel
theorem dX7_used_10 : decode cX7_used 10 = .ok (.iload_n 2, 1) := by decide +kernel
theorem dX7_used_11 : decode cX7_used 11 = .ok (.ireturn, 1) := by decide +kernel
theorem dX7_used_12 : decode cX7_used 12 = .ok (.aload_n 0, 1) := by decide +kernel
theorem dX7_used_13 : decode cX7_used 13 = .ok (.iload_n 1, 1) := by decide +kernel
theorem dX7_used_14 : decode cX7_used 14 = .ok (.iconst 0, 1) := by decide +kernel
theorem dX7_used_15 : decode cX7_used 15 = .ok (.invokevirtual 151, 3) := by decide +kernel
theorem dX7_used_18 : decode cX7_used 18 = .ok (.astore_n 3, 1) := by decide +kernel
theorem dX7_used_19 : decode cX7_used 19 = .ok (.aload_n 3, 1) := by decide +kernel
theorem dX7_used_20 : decode cX7_used 20 = .ok (.invokevirtual 155, 3) := by decide +kernel
theorem dX7_used_23 : decode cX7_used 23 = .ok (.aload_n 3, 1) := by decide +kernel
theorem dX7_used_24 : decode cX7_used 24 = .ok (.getfield 176, 3) := by decide +kernel
theorem dX7_used_27 : decode cX7_used 27 = .ok (.ireturn, 1) := by decide +kernel
set_option maxRecDepth 20000 in
theorem ggX7_all_X7_isSchedule : GoodIn wsX7_all wsX7_isSchedule := goodIn_r _ [5] (by decide +kernel) (by decide +kernel)
set_option maxRecDepth 20000 in
theorem gX7_all_X7_isSchedule : GoodIn wsX7_all (va_wsS RX7 179 yX7_isSchedule wsX7_isSchedule) := goodIn_app (goodIn_of _ (by decide +kernel)) ggX7_all_X7_isSchedule
set_option maxRecDepth 20000 in
theorem ggX7_all_X7_newWalks : GoodIn wsX7_all wsX7_newWalks := goodIn_r _ [9, 10, 11, 12, 13, 1, 14, 15, 16, 17, 18, 19, 20, 21, 22, 23, 24, 25, 26, 27, 28, 29, 30, 31, 32, 33, 34, 35, 36, 37, 38, 39, 40, 41, 42, 43, 44, 45, 46, 47, 48, 49, 50, 51, 52, 53, 54, 55, 56, 239, 240, 241, 242, 243, 244, 245, 249, 250, 251, 252, 253, 254, 255, 256, 257, 258, 259, 260, 261, 262, 263, 264, 265, 266, 267, 268, 246, 247, 248, 269, 270, 271, 272, 273, 274, 275, 276, 277] (by decide +kernel) (by decide +kernel)
set_option maxRecDepth 20000 in
theorem gX7_all_X7_newWalks : GoodIn wsX7_all (wsV RX7 182 RX7 yX7_newWalks wsX7_newWalks) := goodIn_app (goodIn_of _ (by decide +kernel)) ggX7_all_X7_newWalks
set_option maxRecDepth 20000 in
theorem ggX7_all_J6_bitCount_0f7a4 : GoodIn wsX7_all wsJ6_bitCount_0f7a4 := goodIn_r _ [60, 61, 62, 63] (by decide +kernel) (by decide +kernel)
set_option maxRecDepth 20000 in
theorem gX7_all_J6_bitCount_0f7a4 : GoodIn wsX7_all (va_wsS RX7 66 yJ6_bitCount_0f7a4 wsJ6_bitCount_0f7a4) := goodIn_app (goodIn_of _ (by decide +kernel)) ggX7_all_J6_bitCount_0f7a4
set_option maxRecDepth 20000 in
theorem ggX7_all_X5_way : GoodIn wsX7_all wsX5_way := goodIn_r _ [67] (by decide +kernel) (by decide +kernel)
set_option maxRecDepth 20000 in
theorem gX7_all_X5_way : GoodIn wsX7_all (va_wsS RX7 185 yX5_way wsX5_way) := goodIn_app (goodIn_of _ (by decide +kernel)) ggX7_all_X5_way
set_option maxRecDepth 20000 in
theorem ggX7_all_X6_add : GoodIn wsX7_all wsX6_add := goodIn_r _ [71, 53, 25, 27, 26, 28, 31, 72, 73, 74, 13, 75, 76, 77, 66, 78, 79, 80, 81, 82, 249, 250, 251, 252, 253, 254, 255, 256, 257, 258, 259, 260, 261, 262, 263, 264, 265, 266, 267, 268] (by decide +kernel) (by decide +kernel)
set_option maxRecDepth 20000 in
theorem gX7_all_X6_add : GoodIn wsX7_all (wsV RX7 188 RX6 yX6_add wsX6_add) := goodIn_app (goodIn_of _ (by decide +kernel)) ggX7_all_X6_add
set_option maxRecDepth 20000 in
theorem ggX7_all_X6_walk : GoodIn wsX7_all wsX6_walk := goodIn_r _ [86, 53, 23, 35, 50, 25, 32, 33, 87, 88, 89, 13, 90, 79, 80, 81, 82, 76, 77, 66, 78, 91, 58, 59, 60, 61, 62, 63, 92, 93, 94, 95, 52, 96, 97, 98, 99, 100, 101, 22, 102, 103, 104, 105, 42, 106, 107, 108, 109, 110, 111, 41, 112, 113, 114, 115, 116, 117, 118, 119, 120, 121, 122, 123, 124, 125, 126, 127, 128, 129, 130, 131, 132, 133, 134, 135, 136, 137, 138, 139, 140, 141, 142, 143, 144, 145, 146, 147, 148, 149, 150, 151, 152, 153, 154, 155, 156, 157, 158, 159, 160, 161, 162, 163, 164, 165, 166, 167, 168, 169, 170, 171, 172, 173, 174, 175, 56, 55, 176, 177, 178, 179, 180, 181, 182, 183, 51, 184, 185, 186, 187, 188, 189, 190, 191, 192, 193, 194, 195, 196, 197, 198, 199, 200, 65, 67, 201, 69, 70, 71, 27, 26, 28, 31, 72, 73, 74, 75, 202, 203, 204, 205, 54, 30, 29, 206, 207, 208, 209, 210, 34, 211, 212, 213, 214, 215, 216, 217, 218, 219, 220, 221, 222, 223, 224, 225, 226, 249, 250, 251, 252, 253, 254, 255, 256, 257, 258, 259, 260, 261, 262, 263, 264, 265, 266, 267, 268, 269, 270, 271, 272, 273, 274, 275, 276, 277, 278, 279] (by decide +kernel) (by decide +kernel)
set_option maxRecDepth 20000 in
theorem gX7_all_X6_walk : GoodIn wsX7_all (wsV RX7 155 RX6 yX6_walk wsX6_walk) := goodIn_app (goodIn_of _ (by decide +kernel)) ggX7_all_X6_walk
set_option maxRecDepth 20000 in
theorem ggX7_all_X6_kindOf : GoodIn wsX7_all wsX6_kindOf := goodIn_r _ [230, 87, 88, 89, 13, 90, 25, 79, 80, 81, 82, 53, 76, 77, 66, 78, 91, 58, 59, 60, 61, 62, 63, 231, 232, 233, 234, 33, 235, 236, 237, 238, 32, 249, 250, 251, 252, 253, 254, 255, 256, 257, 258, 259, 260, 261, 262, 263, 264, 265, 266, 267, 268] (by decide +kernel) (by decide +kernel)
set_option maxRecDepth 20000 in
theorem gX7_all_X6_kindOf : GoodIn wsX7_all (wsV RX7 166 RX6 yX6_kindOf wsX6_kindOf) := goodIn_app (goodIn_of _ (by decide +kernel)) ggX7_all_X6_kindOf
theorem dX7_all_0 : decode cX7_all 0 = .ok (.iload_n 1, 1) := by decide +kernel
theorem dX7_all_1 : decode cX7_all 1 = .ok (.iconst 1, 1) := by decide +kernel
theorem dX7_all_2 : decode cX7_all 2 = .ok (.if_icmp .lt 19, 3) := by decide +kernel
theorem dX7_all_5 : decode cX7_all 5 = .ok (.iload_n 1, 1) := by decide +kernel
theorem dX7_all_6 : decode cX7_all 6 = .ok (.iconst 5, 1) := by decide +kernel
theorem dX7_all_7 : decode cX7_all 7 = .ok (.if_icmp .gt 14, 3) := by decide +kernel
theorem dX7_all_10 : decode cX7_all 10 = .ok (.iload_n 1, 1) := by decide +kernel
theorem dX7_all_11 : decode cX7_all 11 = .ok (.aload_n 0, 1) := by decide +kernel
theorem dX7_all_12 : decode cX7_all 12 = .ok (.getfield 10, 3) := by decide +kernel
theorem dX7_all_15 : decode cX7_all 15 = .ok (.getfield 33, 3) := by decide +kernel
theorem dX7_all_18 : decode cX7_all 18 = .ok (.if_icmp .le 6, 3) := by decide +kernel
theorem dX7_all_21 : decode cX7_all 21 = .ok (.bipush (-2), 2) := by decide +kernel
theorem dX7_all_23 : decode cX7_all 23 = .ok (.ireturn, 1) := by decide +kernel
theorem dX7_all_24 : decode cX7_all 24 = .ok (.iload_n 2, 1) := by decide +kernel
theorem dX7_all_25 : decode cX7_all 25 = .ok (.invokestatic 179, 3) := by decide +kernel
theorem dX7_all_28 : decode cX7_all 28 = .ok (.ifCond .eq 12, 3) := by decide +kernel
theorem dX7_all_31 : decode cX7_all 31 = .ok (.iload_n 3, 1) := by decide +kernel
theorem dX7_all_32 : decode cX7_all 32 = .ok (.ifCond .lt 8, 3) := by decide +kernel
theorem dX7_all_35 : decode cX7_all 35 = .ok (.iload_n 3, 1) := by decide +kernel
theorem dX7_all_36 : decode cX7_all 36 = .ok (.iconst 3, 1) := by decide +kernel
theorem dX7_all_37 : decode cX7_all 37 = .ok (.if_icmp .le 6, 3) := by decide +kernel
theorem dX7_all_40 : decode cX7_all 40 = .ok (.bipush (-2), 2) := by decide +kernel
theorem dX7_all_42 : decode cX7_all 42 = .ok (.ireturn, 1) := by decide +kernel
theorem dX7_all_43 : decode cX7_all 43 = .ok (.aload_n 0, 1) := by decide +kernel
theorem dX7_all_44 : decode cX7_all 44 = .ok (.iload_n 2, 1) := by decide +kernel
theorem dX7_all_45 : decode cX7_all 45 = .ok (.iconst 0, 1) := by decide +kernel
theorem dX7_all_46 : decode cX7_all 46 = .ok (.invokevirtual 182, 3) := by decide +kernel
theorem dX7_all_49 : decode cX7_all 49 = .ok (.astore 4, 2) := by decide +kernel
theorem dX7_all_51 : decode cX7_all 51 = .ok (.iconst 1, 1) := by decide +kernel
theorem dX7_all_52 : decode cX7_all 52 = .ok (.istore 5, 2) := by decide +kernel
theorem dX7_all_54 : decode cX7_all 54 = .ok (.iload 5, 2) := by decide +kernel
theorem dX7_all_56 : decode cX7_all 56 = .ok (.iconst 1, 1) := by decide +kernel
theorem dX7_all_57 : decode cX7_all 57 = .ok (.aload_n 0, 1) := by decide +kernel
theorem dX7_all_58 : decode cX7_all 58 = .ok (.getfield 10, 3) := by decide +kernel
theorem dX7_all_61 : decode cX7_all 61 = .ok (.getfield 33, 3) := by decide +kernel
theorem dX7_all_64 : decode cX7_all 64 = .ok (.ishl, 1) := by decide +kernel
theorem dX7_all_65 : decode cX7_all 65 = .ok (.if_icmp .ge 30, 3) := by decide +kernel
theorem dX7_all_68 : decode cX7_all 68 = .ok (.iload 5, 2) := by decide +kernel
theorem dX7_all_70 : decode cX7_all 70 = .ok (.invokestatic 66, 3) := by decide +kernel
theorem dX7_all_73 : decode cX7_all 73 = .ok (.iload_n 1, 1) := by decide +kernel
theorem dX7_all_74 : decode cX7_all 74 = .ok (.if_icmp .ne 15, 3) := by decide +kernel
theorem dX7_all_77 : decode cX7_all 77 = .ok (.aload 4, 2) := by decide +kernel
theorem dX7_all_79 : decode cX7_all 79 = .ok (.iload 5, 2) := by decide +kernel
theorem dX7_all_81 : decode cX7_all 81 = .ok (.iconst 0, 1) := by decide +kernel
theorem dX7_all_82 : decode cX7_all 82 = .ok (.invokestatic 185, 3) := by decide +kernel
theorem dX7_all_85 : decode cX7_all 85 = .ok (.invokevirtual 188, 3) := by decide +kernel
theorem dX7_all_88 : decode cX7_all 88 = .ok (.pop, 1) := by decide +kernel
theorem dX7_all_89 : decode cX7_all 89 = .ok (.iinc 5 1, 3) := by decide +kernel
theorem dX7_all_92 : decode cX7_all 92 = .ok (.goto (-38), 3) := by decide +kernel
theorem dX7_all_95 : decode cX7_all 95 = .ok (.aload 4, 2) := by decide +kernel
theorem dX7_all_97 : decode cX7_all 97 = .ok (.getfield 169, 3) := by decide +kernel
theorem dX7_all_100 : decode cX7_all 100 = .ok (.istore 5, 2) := by decide +kernel
theorem dX7_all_102 : decode cX7_all 102 = .ok (.aload 4, 2) := by decide +kernel
theorem dX7_all_104 : decode cX7_all 104 = .ok (.invokevirtual 155, 3) := by decide +kernel
theorem dX7_all_107 : decode cX7_all 107 = .ok (.iconst 0, 1) := by decide +kernel
theorem dX7_all_108 : decode cX7_all 108 = .ok (.istore 6, 2) := by decide +kernel
theorem dX7_all_110 : decode cX7_all 110 = .ok (.iconst 0, 1) := by decide +kernel
theorem dX7_all_111 : decode cX7_all 111 = .ok (.istore 7, 2) := by decide +kernel
theorem dX7_all_113 : decode cX7_all 113 = .ok (.iload 7, 2) := by decide +kernel
theorem dX7_all_115 : decode cX7_all 115 = .ok (.iload 5, 2) := by decide +kernel
theorem dX7_all_117 : decode cX7_all 117 = .ok (.if_icmp .ge 23, 3) := by decide +kernel
theorem dX7_all_120 : decode cX7_all 120 = .ok (.aload 4, 2) := by decide +kernel
theorem dX7_all_122 : decode cX7_all 122 = .ok (.iload 7, 2) := by decide +kernel
theorem dX7_all_124 : decode cX7_all 124 = .ok (.invokevirtual 166, 3) := by decide +kernel
theorem dX7_all_127 : decode cX7_all 127 = .ok (.iload_n 3, 1) := by decide +kernel
theorem dX7_all_128 : decode cX7_all 128 = .ok (.if_icmp .ne 6, 3) := by decide +kernel
theorem dX7_all_131 : decode cX7_all 131 = .ok (.iinc 6 1, 3) := by decide +kernel
theorem dX7_all_134 : decode cX7_all 134 = .ok (.iinc 7 1, 3) := by decide +kernel
theorem dX7_all_137 : decode cX7_all 137 = .ok (.goto (-24), 3) := by decide +kernel
theorem dX7_all_140 : decode cX7_all 140 = .ok (.iload 6, 2) := by decide +kernel
theorem dX7_all_142 : decode cX7_all 142 = .ok (.ireturn, 1) := by decide +kernel
set_option maxRecDepth 20000 in
theorem ggX7_image_X7_imageOf : GoodIn wsX7_image wsX7_imageOf := goodIn_r _ [7, 8, 9, 25, 26, 27, 28, 29, 30, 31] (by decide +kernel) (by decide +kernel)
set_option maxRecDepth 20000 in
theorem gX7_image_X7_imageOf : GoodIn wsX7_image (wsV RX7 191 RX7 yX7_imageOf wsX7_imageOf) := goodIn_app (goodIn_of _ (by decide +kernel)) ggX7_image_X7_imageOf
set_option maxRecDepth 20000 in
theorem ggX7_image_X4_copyFrom : GoodIn wsX7_image wsX4_copyFrom := goodIn_r _ [14, 15, 16, 17, 18, 19, 20, 21, 22, 23, 24, 32, 33, 34, 35, 36] (by decide +kernel) (by decide +kernel)
set_option maxRecDepth 20000 in
theorem gX7_image_X4_copyFrom : GoodIn wsX7_image (wsV RX7 195 RX4 yX4_copyFrom wsX4_copyFrom) := goodIn_app (goodIn_of _ (by decide +kernel)) ggX7_image_X4_copyFrom
theorem dX7_image_0 : decode cX7_image 0 = .ok (.iload_n 1, 1) := by decide +kernel
theorem dX7_image_1 : decode cX7_image 1 = .ok (.ifCond .lt 8, 3) := by decide +kernel
theorem dX7_image_4 : decode cX7_image 4 = .ok (.iload_n 1, 1) := by decide +kernel
theorem dX7_image_5 : decode cX7_image 5 = .ok (.iconst 2, 1) := by decide +kernel
theorem dX7_image_6 : decode cX7_image 6 = .ok (.if_icmp .lt 6, 3) := by decide +kernel
theorem dX7_image_9 : decode cX7_image 9 = .ok (.bipush (-2), 2) := by decide +kernel
theorem dX7_image_11 : decode cX7_image 11 = .ok (.ireturn, 1) := by decide +kernel
theorem dX7_image_12 : decode cX7_image 12 = .ok (.aload_n 0, 1) := by decide +kernel
theorem dX7_image_13 : decode cX7_image 13 = .ok (.iload_n 1, 1) := by decide +kernel
theorem dX7_image_14 : decode cX7_image 14 = .ok (.invokevirtual 191, 3) := by decide +kernel
theorem dX7_image_17 : decode cX7_image 17 = .ok (.aload_n 0, 1) := by decide +kernel
theorem dX7_image_18 : decode cX7_image 18 = .ok (.getfield 10, 3) := by decide +kernel
theorem dX7_image_21 : decode cX7_image 21 = .ok (.invokevirtual 195, 3) := by decide +kernel
theorem dX7_image_24 : decode cX7_image 24 = .ok (.aload_n 0, 1) := by decide +kernel
theorem dX7_image_25 : decode cX7_image 25 = .ok (.dup, 1) := by decide +kernel
theorem dX7_image_26 : decode cX7_image 26 = .ok (.getfield 199, 3) := by decide +kernel
theorem dX7_image_29 : decode cX7_image 29 = .ok (.iconst 1, 1) := by decide +kernel
theorem dX7_image_30 : decode cX7_image 30 = .ok (.iload_n 1, 1) := by decide +kernel
theorem dX7_image_31 : decode cX7_image 31 = .ok (.ishl, 1) := by decide +kernel
theorem dX7_image_32 : decode cX7_image 32 = .ok (.ior, 1) := by decide +kernel
theorem dX7_image_33 : decode cX7_image 33 = .ok (.putfield 199, 3) := by decide +kernel
theorem dX7_image_36 : decode cX7_image 36 = .ok (.iconst 1, 1) := by decide +kernel
theorem dX7_image_37 : decode cX7_image 37 = .ok (.ireturn, 1) := by decide +kernel
set_option maxRecDepth 20000 in
theorem ggX7_restore_X5_has : GoodIn wsX7_restore wsX5_has := goodIn_r _ [6] (by decide +kernel) (by decide +kernel)
set_option maxRecDepth 20000 in
theorem gX7_restore_X5_has : GoodIn wsX7_restore (va_wsS RX7 60 yX5_has wsX5_has) := goodIn_app (goodIn_of _ (by decide +kernel)) ggX7_restore_X5_has
set_option maxRecDepth 20000 in
theorem ggX7_restore_X7_imageOf : GoodIn wsX7_restore wsX7_imageOf := goodIn_r _ [11, 12, 13, 29, 30, 31, 32, 33, 34, 35] (by decide +kernel) (by decide +kernel)
set_option maxRecDepth 20000 in
theorem gX7_restore_X7_imageOf : GoodIn wsX7_restore (wsV RX7 191 RX7 yX7_imageOf wsX7_imageOf) := goodIn_app (goodIn_of _ (by decide +kernel)) ggX7_restore_X7_imageOf
set_option maxRecDepth 20000 in
theorem ggX7_restore_X4_copyFrom : GoodIn wsX7_restore wsX4_copyFrom := goodIn_r _ [18, 19, 20, 21, 22, 23, 24, 25, 26, 27, 28, 36, 37, 38, 39, 40] (by decide +kernel) (by decide +kernel)
set_option maxRecDepth 20000 in
theorem gX7_restore_X4_copyFrom : GoodIn wsX7_restore (wsV RX7 195 RX4 yX4_copyFrom wsX4_copyFrom) := goodIn_app (goodIn_of _ (by decide +kernel)) ggX7_restore_X4_copyFrom
theorem dX7_restore_0 : decode cX7_restore 0 = .ok (.iload_n 1, 1) := by decide +kernel
theorem dX7_restore_1 : decode cX7_restore 1 = .ok (.ifCond .lt 8, 3) := by decide +kernel
theorem dX7_restore_4 : decode cX7_restore 4 = .ok (.iload_n 1, 1) := by decide +kernel
theorem dX7_restore_5 : decode cX7_restore 5 = .ok (.iconst 2, 1) := by decide +kernel
theorem dX7_restore_6 : decode cX7_restore 6 = .ok (.if_icmp .lt 6, 3) := by decide +kernel
theorem dX7_restore_9 : decode cX7_restore 9 = .ok (.bipush (-2), 2) := by decide +kernel
theorem dX7_restore_11 : decode cX7_restore 11 = .ok (.ireturn, 1) := by decide +kernel
theorem dX7_restore_12 : decode cX7_restore 12 = .ok (.aload_n 0, 1) := by decide +kernel
theorem dX7_restore_13 : decode cX7_restore 13 = .ok (.getfield 199, 3) := by decide +kernel
theorem dX7_restore_16 : decode cX7_restore 16 = .ok (.iload_n 1, 1) := by decide +kernel
theorem dX7_restore_17 : decode cX7_restore 17 = .ok (.invokestatic 60, 3) := by decide +kernel
theorem dX7_restore_20 : decode cX7_restore 20 = .ok (.ifCond .ne 6, 3) := by decide +kernel
theorem dX7_restore_23 : decode cX7_restore 23 = .ok (.bipush (-3), 2) := by decide +kernel
theorem dX7_restore_25 : decode cX7_restore 25 = .ok (.ireturn, 1) := by decide +kernel
theorem dX7_restore_26 : decode cX7_restore 26 = .ok (.aload_n 0, 1) := by decide +kernel
theorem dX7_restore_27 : decode cX7_restore 27 = .ok (.getfield 10, 3) := by decide +kernel
theorem dX7_restore_30 : decode cX7_restore 30 = .ok (.aload_n 0, 1) := by decide +kernel
theorem dX7_restore_31 : decode cX7_restore 31 = .ok (.iload_n 1, 1) := by decide +kernel
theorem dX7_restore_32 : decode cX7_restore 32 = .ok (.invokevirtual 191, 3) := by decide +kernel
theorem dX7_restore_35 : decode cX7_restore 35 = .ok (.invokevirtual 195, 3) := by decide +kernel
theorem dX7_restore_38 : decode cX7_restore 38 = .ok (.iconst 1, 1) := by decide +kernel
theorem dX7_restore_39 : decode cX7_restore 39 = .ok (.ireturn, 1) := by decide +kernel
set_option maxRecDepth 20000 in
theorem ggX7_count_X4_walkersOn : GoodIn wsX7_count wsX4_walkersOn := goodIn_r _ [7, 8, 9, 10, 11, 6, 12, 13, 38, 39, 40] (by decide +kernel) (by decide +kernel)
set_option maxRecDepth 20000 in
theorem gX7_count_X4_walkersOn : GoodIn wsX7_count (wsV RX7 45 RX4 yX4_walkersOn wsX4_walkersOn) := goodIn_app (goodIn_of _ (by decide +kernel)) ggX7_count_X4_walkersOn
set_option maxRecDepth 20000 in
theorem ggX7_count_X4_walkersInAll : GoodIn wsX7_count wsX4_walkersInAll := goodIn_r _ [17, 13, 18, 4, 5, 6, 7, 8, 9, 10, 11, 12, 38, 39, 40] (by decide +kernel) (by decide +kernel)
set_option maxRecDepth 20000 in
theorem gX7_count_X4_walkersInAll : GoodIn wsX7_count (wsV RX7 49 RX4 yX4_walkersInAll wsX4_walkersInAll) := goodIn_app (goodIn_of _ (by decide +kernel)) ggX7_count_X4_walkersInAll
set_option maxRecDepth 20000 in
theorem ggX7_count_X4_stands : GoodIn wsX7_count wsX4_stands := goodIn_r _ [22, 23, 24, 25, 6, 26, 13, 18, 4, 5, 7, 8, 9, 10, 11, 12, 38, 39, 40] (by decide +kernel) (by decide +kernel)
set_option maxRecDepth 20000 in
theorem gX7_count_X4_stands : GoodIn wsX7_count (wsV RX7 57 RX4 yX4_stands wsX4_stands) := goodIn_app (goodIn_of _ (by decide +kernel)) ggX7_count_X4_stands
set_option maxRecDepth 20000 in
theorem ggX7_count_X4_towers : GoodIn wsX7_count wsX4_towers := goodIn_r _ [30, 23, 24, 25, 6, 26, 13, 18, 4, 5, 7, 8, 9, 10, 11, 12, 38, 39, 40] (by decide +kernel) (by decide +kernel)
set_option maxRecDepth 20000 in
theorem gX7_count_X4_towers : GoodIn wsX7_count (wsV RX7 125 RX4 yX4_towers wsX4_towers) := goodIn_app (goodIn_of _ (by decide +kernel)) ggX7_count_X4_towers
theorem dX7_count_0 : decode cX7_count 0 = .ok (.iload_n 1, 1) := by decide +kernel
theorem dX7_count_1 : decode cX7_count 1 = .ok (.bipush 10, 2) := by decide +kernel
theorem dX7_count_3 : decode cX7_count 3 = .ok (.if_icmp .lt 21, 3) := by decide +kernel
theorem dX7_count_6 : decode cX7_count 6 = .ok (.iload_n 1, 1) := by decide +kernel
theorem dX7_count_7 : decode cX7_count 7 = .ok (.bipush 20, 2) := by decide +kernel
theorem dX7_count_9 : decode cX7_count 9 = .ok (.if_icmp .ge 15, 3) := by decide +kernel
theorem dX7_count_12 : decode cX7_count 12 = .ok (.aload_n 0, 1) := by decide +kernel
theorem dX7_count_13 : decode cX7_count 13 = .ok (.getfield 10, 3) := by decide +kernel
theorem dX7_count_16 : decode cX7_count 16 = .ok (.iload_n 1, 1) := by decide +kernel
theorem dX7_count_17 : decode cX7_count 17 = .ok (.bipush 10, 2) := by decide +kernel
theorem dX7_count_19 : decode cX7_count 19 = .ok (.isub, 1) := by decide +kernel
theorem dX7_count_20 : decode cX7_count 20 = .ok (.invokevirtual 45, 3) := by decide +kernel
theorem dX7_count_23 : decode cX7_count 23 = .ok (.ireturn, 1) := by decide +kernel
theorem dX7_count_24 : decode cX7_count 24 = .ok (.iload_n 1, 1) := by decide +kernel
theorem dX7_count_25 : decode cX7_count 25 = .ok (.tableswitch 87 0 5 #[39, 47, 55, 63, 71, 82], 39) := by decide +kernel
theorem dX7_count_64 : decode cX7_count 64 = .ok (.aload_n 0, 1) := by decide +kernel
theorem dX7_count_65 : decode cX7_count 65 = .ok (.getfield 10, 3) := by decide +kernel
theorem dX7_count_68 : decode cX7_count 68 = .ok (.getfield 33, 3) := by decide +kernel
theorem dX7_count_71 : decode cX7_count 71 = .ok (.ireturn, 1) := by decide +kernel
theorem dX7_count_72 : decode cX7_count 72 = .ok (.aload_n 0, 1) := by decide +kernel
theorem dX7_count_73 : decode cX7_count 73 = .ok (.getfield 10, 3) := by decide +kernel
theorem dX7_count_76 : decode cX7_count 76 = .ok (.invokevirtual 49, 3) := by decide +kernel
theorem dX7_count_79 : decode cX7_count 79 = .ok (.ireturn, 1) := by decide +kernel
theorem dX7_count_80 : decode cX7_count 80 = .ok (.aload_n 0, 1) := by decide +kernel
theorem dX7_count_81 : decode cX7_count 81 = .ok (.getfield 10, 3) := by decide +kernel
theorem dX7_count_84 : decode cX7_count 84 = .ok (.invokevirtual 57, 3) := by decide +kernel
theorem dX7_count_87 : decode cX7_count 87 = .ok (.ireturn, 1) := by decide +kernel
theorem dX7_count_88 : decode cX7_count 88 = .ok (.aload_n 0, 1) := by decide +kernel
theorem dX7_count_89 : decode cX7_count 89 = .ok (.getfield 10, 3) := by decide +kernel
theorem dX7_count_92 : decode cX7_count 92 = .ok (.invokevirtual 125, 3) := by decide +kernel
theorem dX7_count_95 : decode cX7_count 95 = .ok (.ireturn, 1) := by decide +kernel
theorem dX7_count_96 : decode cX7_count 96 = .ok (.aload_n 0, 1) := by decide +kernel
theorem dX7_count_97 : decode cX7_count 97 = .ok (.getfield 10, 3) := by decide +kernel
theorem dX7_count_100 : decode cX7_count 100 = .ok (.getfield 100, 3) := by decide +kernel
theorem dX7_count_103 : decode cX7_count 103 = .ok (.getfield 122, 3) := by decide +kernel
theorem dX7_count_106 : decode cX7_count 106 = .ok (.ireturn, 1) := by decide +kernel
theorem dX7_count_107 : decode cX7_count 107 = .ok (.aload_n 0, 1) := by decide +kernel
theorem dX7_count_108 : decode cX7_count 108 = .ok (.getfield 199, 3) := by decide +kernel
theorem dX7_count_111 : decode cX7_count 111 = .ok (.ireturn, 1) := by decide +kernel
theorem dX7_count_112 : decode cX7_count 112 = .ok (.bipush (-2), 2) := by decide +kernel
theorem dX7_count_114 : decode cX7_count 114 = .ok (.ireturn, 1) := by decide +kernel
theorem dX7_imageOf_0 : decode cX7_imageOf 0 = .ok (.iload_n 1, 1) := by decide +kernel
theorem dX7_imageOf_1 : decode cX7_imageOf 1 = .ok (.ifCond .ne 10, 3) := by decide +kernel
theorem dX7_imageOf_4 : decode cX7_imageOf 4 = .ok (.aload_n 0, 1) := by decide +kernel
theorem dX7_imageOf_5 : decode cX7_imageOf 5 = .ok (.getfield 16, 3) := by decide +kernel
theorem dX7_imageOf_8 : decode cX7_imageOf 8 = .ok (.goto 7, 3) := by decide +kernel
theorem dX7_imageOf_11 : decode cX7_imageOf 11 = .ok (.aload_n 0, 1) := by decide +kernel
theorem dX7_imageOf_12 : decode cX7_imageOf 12 = .ok (.getfield 19, 3) := by decide +kernel
theorem dX7_imageOf_15 : decode cX7_imageOf 15 = .ok (.areturn, 1) := by decide +kernel
theorem dX7_isSchedule_0 : decode cX7_isSchedule 0 = .ok (.iload_n 0, 1) := by decide +kernel
theorem dX7_isSchedule_1 : decode cX7_isSchedule 1 = .ok (.ifCond .lt 12, 3) := by decide +kernel
theorem dX7_isSchedule_4 : decode cX7_isSchedule 4 = .ok (.iload_n 0, 1) := by decide +kernel
theorem dX7_isSchedule_5 : decode cX7_isSchedule 5 = .ok (.iconst 2, 1) := by decide +kernel
theorem dX7_isSchedule_6 : decode cX7_isSchedule 6 = .ok (.if_icmp .gt 7, 3) := by decide +kernel
theorem dX7_isSchedule_9 : decode cX7_isSchedule 9 = .ok (.iconst 1, 1) := by decide +kernel
theorem dX7_isSchedule_10 : decode cX7_isSchedule 10 = .ok (.goto 4, 3) := by decide +kernel
theorem dX7_isSchedule_13 : decode cX7_isSchedule 13 = .ok (.iconst 0, 1) := by decide +kernel
theorem dX7_isSchedule_14 : decode cX7_isSchedule 14 = .ok (.ireturn, 1) := by decide +kernel
set_option maxRecDepth 20000 in
theorem ggX7_refusalFromNow_X7_isSchedule : GoodIn wsX7_refusalFromNow wsX7_isSchedule := goodIn_r _ [5] (by decide +kernel) (by decide +kernel)
set_option maxRecDepth 20000 in
theorem gX7_refusalFromNow_X7_isSchedule : GoodIn wsX7_refusalFromNow (va_wsS RX7 179 yX7_isSchedule wsX7_isSchedule) := goodIn_app (goodIn_of _ (by decide +kernel)) ggX7_refusalFromNow_X7_isSchedule
set_option maxRecDepth 20000 in
theorem ggX7_refusalFromNow_X4_stands : GoodIn wsX7_refusalFromNow wsX4_stands := goodIn_r _ [10, 11, 12, 13, 9, 14, 15, 16, 17, 18, 19, 20, 21, 22, 23, 24, 32, 33, 34] (by decide +kernel) (by decide +kernel)
set_option maxRecDepth 20000 in
theorem gX7_refusalFromNow_X4_stands : GoodIn wsX7_refusalFromNow (wsV RX7 57 RX4 yX4_stands wsX4_stands) := goodIn_app (goodIn_of _ (by decide +kernel)) ggX7_refusalFromNow_X4_stands
theorem dX7_refusalFromNow_0 : decode cX7_refusalFromNow 0 = .ok (.iload_n 1, 1) := by decide +kernel
theorem dX7_refusalFromNow_1 : decode cX7_refusalFromNow 1 = .ok (.invokestatic 179, 3) := by decide +kernel
theorem dX7_refusalFromNow_4 : decode cX7_refusalFromNow 4 = .ok (.ifCond .ne 6, 3) := by decide +kernel
theorem dX7_refusalFromNow_7 : decode cX7_refusalFromNow 7 = .ok (.bipush (-2), 2) := by decide +kernel
theorem dX7_refusalFromNow_9 : decode cX7_refusalFromNow 9 = .ok (.ireturn, 1) := by decide +kernel
theorem dX7_refusalFromNow_10 : decode cX7_refusalFromNow 10 = .ok (.aload_n 0, 1) := by decide +kernel
theorem dX7_refusalFromNow_11 : decode cX7_refusalFromNow 11 = .ok (.getfield 10, 3) := by decide +kernel
theorem dX7_refusalFromNow_14 : decode cX7_refusalFromNow 14 = .ok (.invokevirtual 57, 3) := by decide +kernel
theorem dX7_refusalFromNow_17 : decode cX7_refusalFromNow 17 = .ok (.ifCond .ne 8, 3) := by decide +kernel
theorem dX7_refusalFromNow_20 : decode cX7_refusalFromNow 20 = .ok (.bipush (-3), 2) := by decide +kernel
theorem dX7_refusalFromNow_22 : decode cX7_refusalFromNow 22 = .ok (.goto 4, 3) := by decide +kernel
theorem dX7_refusalFromNow_25 : decode cX7_refusalFromNow 25 = .ok (.iconst 0, 1) := by decide +kernel
theorem dX7_refusalFromNow_26 : decode cX7_refusalFromNow 26 = .ok (.ireturn, 1) := by decide +kernel
set_option maxRecDepth 20000 in
theorem ggX7_newWalks_X6_init : GoodIn wsX7_newWalks wsX6_init := goodIn_r _ [8, 9, 10, 11, 12, 13, 14, 15, 16, 17, 18, 19, 20, 21, 22, 23, 24, 25, 26, 27, 28, 29, 30, 31, 32, 33, 34, 35, 36, 37, 79, 80, 81, 82, 56, 57, 58, 59, 60, 61, 62, 63, 64, 65, 66, 67, 68, 69, 70, 71, 72, 73, 74, 75, 83, 84, 85, 86, 87] (by decide +kernel) (by decide +kernel)
set_option maxRecDepth 20000 in
theorem gX7_newWalks_X6_init : GoodIn wsX7_newWalks (wsX6_init) := ggX7_newWalks_X6_init
set_option maxRecDepth 20000 in
theorem ggX7_newWalks_X6_begin : GoodIn wsX7_newWalks wsX6_begin := goodIn_r _ [41, 42, 43, 44, 45, 46, 47, 48, 18, 56, 57, 58, 59, 60, 61, 62, 63, 64, 65, 66, 67, 68, 69, 70, 71, 72, 73, 74, 75] (by decide +kernel) (by decide +kernel)
set_option maxRecDepth 20000 in
theorem gX7_newWalks_X6_begin : GoodIn wsX7_newWalks (wsV RX7 209 RX6 yX6_begin wsX6_begin) := goodIn_app (goodIn_of _ (by decide +kernel)) ggX7_newWalks_X6_begin
theorem dX7_newWalks_0 : decode cX7_newWalks 0 = .ok (.aload_n 0, 1) := by decide +kernel
theorem dX7_newWalks_1 : decode cX7_newWalks 1 = .ok (.getfield 202, 3) := by decide +kernel
theorem dX7_newWalks_4 : decode cX7_newWalks 4 = .ok (.ifnonnull 21, 3) := by decide +kernel
theorem dX7_newWalks_7 : decode cX7_newWalks 7 = .ok (.aload_n 0, 1) := by decide +kernel
theorem dX7_newWalks_8 : decode cX7_newWalks 8 = .ok (.new 156, 3) := by decide +kernel
theorem dX7_newWalks_11 : decode cX7_newWalks 11 = .ok (.dup, 1) := by decide +kernel
theorem dX7_newWalks_12 : decode cX7_newWalks 12 = .ok (.aload_n 0, 1) := by decide +kernel
theorem dX7_newWalks_13 : decode cX7_newWalks 13 = .ok (.getfield 10, 3) := by decide +kernel
theorem dX7_newWalks_16 : decode cX7_newWalks 16 = .ok (.getfield 100, 3) := by decide +kernel
theorem dX7_newWalks_19 : decode cX7_newWalks 19 = .ok (.invokespecial 206, 3) := by decide +kernel
theorem dX7_newWalks_22 : decode cX7_newWalks 22 = .ok (.putfield 202, 3) := by decide +kernel
theorem dX7_newWalks_25 : decode cX7_newWalks 25 = .ok (.aload_n 0, 1) := by decide +kernel
theorem dX7_newWalks_26 : decode cX7_newWalks 26 = .ok (.getfield 202, 3) := by decide +kernel
theorem dX7_newWalks_29 : decode cX7_newWalks 29 = .ok (.aload_n 0, 1) := by decide +kernel
theorem dX7_newWalks_30 : decode cX7_newWalks 30 = .ok (.getfield 10, 3) := by decide +kernel
theorem dX7_newWalks_33 : decode cX7_newWalks 33 = .ok (.getfield 33, 3) := by decide +kernel
theorem dX7_newWalks_36 : decode cX7_newWalks 36 = .ok (.iload_n 1, 1) := by decide +kernel
theorem dX7_newWalks_37 : decode cX7_newWalks 37 = .ok (.iload_n 2, 1) := by decide +kernel
theorem dX7_newWalks_38 : decode cX7_newWalks 38 = .ok (.invokevirtual 209, 3) := by decide +kernel
theorem dX7_newWalks_41 : decode cX7_newWalks 41 = .ok (.aload_n 0, 1) := by decide +kernel
theorem dX7_newWalks_42 : decode cX7_newWalks 42 = .ok (.getfield 202, 3) := by decide +kernel
theorem dX7_newWalks_45 : decode cX7_newWalks 45 = .ok (.areturn, 1) := by decide +kernel
set_option maxRecDepth 20000 in
theorem ggX7_walksFromNow_X7_newWalks : GoodIn wsX7_walksFromNow wsX7_newWalks := goodIn_r _ [6, 7, 8, 9, 10, 1, 11, 12, 13, 14, 15, 16, 17, 18, 19, 20, 21, 22, 23, 24, 25, 26, 27, 28, 29, 30, 31, 32, 33, 34, 35, 36, 37, 38, 39, 40, 41, 42, 43, 44, 45, 46, 47, 48, 49, 50, 51, 52, 53, 96, 97, 98, 99, 100, 101, 102, 103, 104, 105, 106, 107, 108, 109, 110, 111, 112, 113, 114, 115, 116, 117, 118, 119, 120, 121, 122, 123, 124, 125, 126, 127, 128, 129, 130, 131, 132, 133, 134] (by decide +kernel) (by decide +kernel)
set_option maxRecDepth 20000 in
theorem gX7_walksFromNow_X7_newWalks : GoodIn wsX7_walksFromNow (wsV RX7 182 RX7 yX7_newWalks wsX7_newWalks) := goodIn_app (goodIn_of _ (by decide +kernel)) ggX7_walksFromNow_X7_newWalks
set_option maxRecDepth 20000 in
theorem ggX7_walksFromNow_X4_stands : GoodIn wsX7_walksFromNow wsX4_stands := goodIn_r _ [58, 59, 60, 61, 57, 62, 63, 64, 65, 66, 67, 68, 69, 70, 71, 72, 123, 124, 125] (by decide +kernel) (by decide +kernel)
set_option maxRecDepth 20000 in
theorem gX7_walksFromNow_X4_stands : GoodIn wsX7_walksFromNow (wsV RX7 57 RX4 yX4_stands wsX4_stands) := goodIn_app (goodIn_of _ (by decide +kernel)) ggX7_walksFromNow_X4_stands
set_option maxRecDepth 20000 in
theorem ggX7_walksFromNow_X4_towers : GoodIn wsX7_walksFromNow wsX4_towers := goodIn_r _ [76, 59, 60, 61, 57, 62, 63, 64, 65, 66, 67, 68, 69, 70, 71, 72, 123, 124, 125] (by decide +kernel) (by decide +kernel)
set_option maxRecDepth 20000 in
theorem gX7_walksFromNow_X4_towers : GoodIn wsX7_walksFromNow (wsV RX7 125 RX4 yX4_towers wsX4_towers) := goodIn_app (goodIn_of _ (by decide +kernel)) ggX7_walksFromNow_X4_towers
set_option maxRecDepth 20000 in
theorem ggX7_walksFromNow_X5_way : GoodIn wsX7_walksFromNow wsX5_way := goodIn_r _ [80] (by decide +kernel) (by decide +kernel)
set_option maxRecDepth 20000 in
theorem gX7_walksFromNow_X5_way : GoodIn wsX7_walksFromNow (va_wsS RX7 185 yX5_way wsX5_way) := goodIn_app (goodIn_of _ (by decide +kernel)) ggX7_walksFromNow_X5_way
set_option maxRecDepth 20000 in
theorem ggX7_walksFromNow_X6_add : GoodIn wsX7_walksFromNow wsX6_add := goodIn_r _ [84, 50, 22, 24, 23, 25, 28, 85, 86, 87, 10, 88, 89, 90, 79, 91, 92, 93, 94, 95, 103, 104, 105, 106, 107, 108, 109, 110, 111, 112, 113, 114, 115, 116, 117, 118, 119, 120, 121, 122] (by decide +kernel) (by decide +kernel)
set_option maxRecDepth 20000 in
theorem gX7_walksFromNow_X6_add : GoodIn wsX7_walksFromNow (wsV RX7 188 RX6 yX6_add wsX6_add) := goodIn_app (goodIn_of _ (by decide +kernel)) ggX7_walksFromNow_X6_add
theorem dX7_walksFromNow_0 : decode cX7_walksFromNow 0 = .ok (.aload_n 0, 1) := by decide +kernel
theorem dX7_walksFromNow_1 : decode cX7_walksFromNow 1 = .ok (.iload_n 1, 1) := by decide +kernel
theorem dX7_walksFromNow_2 : decode cX7_walksFromNow 2 = .ok (.iload_n 2, 1) := by decide +kernel
theorem dX7_walksFromNow_3 : decode cX7_walksFromNow 3 = .ok (.invokevirtual 182, 3) := by decide +kernel
theorem dX7_walksFromNow_6 : decode cX7_walksFromNow 6 = .ok (.astore_n 3, 1) := by decide +kernel
theorem dX7_walksFromNow_7 : decode cX7_walksFromNow 7 = .ok (.aload_n 3, 1) := by decide +kernel
theorem dX7_walksFromNow_8 : decode cX7_walksFromNow 8 = .ok (.aload_n 0, 1) := by decide +kernel
theorem dX7_walksFromNow_9 : decode cX7_walksFromNow 9 = .ok (.getfield 10, 3) := by decide +kernel
theorem dX7_walksFromNow_12 : decode cX7_walksFromNow 12 = .ok (.invokevirtual 57, 3) := by decide +kernel
theorem dX7_walksFromNow_15 : decode cX7_walksFromNow 15 = .ok (.aload_n 0, 1) := by decide +kernel
theorem dX7_walksFromNow_16 : decode cX7_walksFromNow 16 = .ok (.getfield 10, 3) := by decide +kernel
theorem dX7_walksFromNow_19 : decode cX7_walksFromNow 19 = .ok (.invokevirtual 125, 3) := by decide +kernel
theorem dX7_walksFromNow_22 : decode cX7_walksFromNow 22 = .ok (.invokestatic 185, 3) := by decide +kernel
theorem dX7_walksFromNow_25 : decode cX7_walksFromNow 25 = .ok (.invokevirtual 188, 3) := by decide +kernel
theorem dX7_walksFromNow_28 : decode cX7_walksFromNow 28 = .ok (.pop, 1) := by decide +kernel
theorem dX7_walksFromNow_29 : decode cX7_walksFromNow 29 = .ok (.aload_n 3, 1) := by decide +kernel
theorem dX7_walksFromNow_30 : decode cX7_walksFromNow 30 = .ok (.areturn, 1) := by decide +kernel
theorem dX8_init_0 : decode cX8_init 0 = .ok (.aload_n 0, 1) := by decide +kernel
theorem dX8_init_1 : decode cX8_init 1 = .ok (.invokespecial 1, 3) := by decide +kernel
theorem dX8_init_4 : decode cX8_init 4 = .ok (.aload_n 0, 1) := by decide +kernel
theorem dX8_init_5 : decode cX8_init 5 = .ok (.bipush 72, 2) := by decide +kernel
theorem dX8_init_7 : decode cX8_init 7 = .ok (.newarray .int, 2) := by decide +kernel
theorem dX8_init_9 : decode cX8_init 9 = .ok (.putfield 7, 3) := by decide +kernel
theorem dX8_init_12 : decode cX8_init 12 = .ok (.aload_n 0, 1) := by decide +kernel
theorem dX8_init_13 : decode cX8_init 13 = .ok (.sipush 144, 3) := by decide +kernel
theorem dX8_init_16 : decode cX8_init 16 = .ok (.newarray .int, 2) := by decide +kernel
theorem dX8_init_18 : decode cX8_init 18 = .ok (.putfield 13, 3) := by decide +kernel
theorem dX8_init_21 : decode cX8_init 21 = .ok (.aload_n 0, 1) := by decide +kernel
theorem dX8_init_22 : decode cX8_init 22 = .ok (.iconst 2, 1) := by decide +kernel
theorem dX8_init_23 : decode cX8_init 23 = .ok (.newarray .boolean, 2) := by decide +kernel
theorem dX8_init_25 : decode cX8_init 25 = .ok (.putfield 16, 3) := by decide +kernel
theorem dX8_init_28 : decode cX8_init 28 = .ok (.aload_n 0, 1) := by decide +kernel
theorem dX8_init_29 : decode cX8_init 29 = .ok (.bipush 11, 2) := by decide +kernel
theorem dX8_init_31 : decode cX8_init 31 = .ok (.newarray .int, 2) := by decide +kernel
theorem dX8_init_33 : decode cX8_init 33 = .ok (.putfield 20, 3) := by decide +kernel
theorem dX8_init_36 : decode cX8_init 36 = .ok (.aload_n 0, 1) := by decide +kernel
theorem dX8_init_37 : decode cX8_init 37 = .ok (.bipush 10, 2) := by decide +kernel
theorem dX8_init_39 : decode cX8_init 39 = .ok (.newarray .int, 2) := by decide +kernel
theorem dX8_init_41 : decode cX8_init 41 = .ok (.putfield 23, 3) := by decide +kernel
theorem dX8_init_44 : decode cX8_init 44 = .ok (.aload_n 0, 1) := by decide +kernel
theorem dX8_init_45 : decode cX8_init 45 = .ok (.ldc 26, 2) := by decide +kernel
theorem dX8_init_47 : decode cX8_init 47 = .ok (.newarray .int, 2) := by decide +kernel
theorem dX8_init_49 : decode cX8_init 49 = .ok (.putfield 27, 3) := by decide +kernel
theorem dX8_init_52 : decode cX8_init 52 = .ok (.aload_n 0, 1) := by decide +kernel
theorem dX8_init_53 : decode cX8_init 53 = .ok (.ldc 26, 2) := by decide +kernel
theorem dX8_init_55 : decode cX8_init 55 = .ok (.newarray .boolean, 2) := by decide +kernel
theorem dX8_init_57 : decode cX8_init 57 = .ok (.putfield 30, 3) := by decide +kernel
theorem dX8_init_60 : decode cX8_init 60 = .ok (.aload_n 0, 1) := by decide +kernel
theorem dX8_init_61 : decode cX8_init 61 = .ok (.ldc 26, 2) := by decide +kernel
theorem dX8_init_63 : decode cX8_init 63 = .ok (.newarray .int, 2) := by decide +kernel
theorem dX8_init_65 : decode cX8_init 65 = .ok (.putfield 33, 3) := by decide +kernel
theorem dX8_init_68 : decode cX8_init 68 = .ok (.aload_n 0, 1) := by decide +kernel
theorem dX8_init_69 : decode cX8_init 69 = .ok (.ldc 26, 2) := by decide +kernel
theorem dX8_init_71 : decode cX8_init 71 = .ok (.newarray .int, 2) := by decide +kernel
theorem dX8_init_73 : decode cX8_init 73 = .ok (.putfield 36, 3) := by decide +kernel
theorem dX8_init_76 : decode cX8_init 76 = .ok (.aload_n 0, 1) := by decide +kernel
theorem dX8_init_77 : decode cX8_init 77 = .ok (.ldc 26, 2) := by decide +kernel
theorem dX8_init_79 : decode cX8_init 79 = .ok (.newarray .int, 2) := by decide +kernel
theorem dX8_init_81 : decode cX8_init 81 = .ok (.putfield 39, 3) := by decide +kernel
theorem dX8_init_84 : decode cX8_init 84 = .ok (.aload_n 0, 1) := by decide +kernel
theorem dX8_init_85 : decode cX8_init 85 = .ok (.bipush 10, 2) := by decide +kernel
theorem dX8_init_87 : decode cX8_init 87 = .ok (.newarray .int, 2) := by decide +kernel
theorem dX8_init_89 : decode cX8_init 89 = .ok (.putfield 42, 3) := by decide +kernel
theorem dX8_init_92 : decode cX8_init 92 = .ok (.aload_n 0, 1) := by decide +kernel
theorem dX8_init_93 : decode cX8_init 93 = .ok (.getfield 7, 3) := by decide +kernel
theorem dX8_init_96 : decode cX8_init 96 = .ok (.iconst 0, 1) := by decide +kernel
theorem dX8_init_97 : decode cX8_init 97 = .ok (.bipush 8, 2) := by decide +kernel
theorem dX8_init_99 : decode cX8_init 99 = .ok (.iastore, 1) := by decide +kernel
theorem dX8_init_100 : decode cX8_init 100 = .ok (.aload_n 0, 1) := by decide +kernel
theorem dX8_init_101 : decode cX8_init 101 = .ok (.getfield 20, 3) := by decide +kernel
theorem dX8_init_104 : decode cX8_init 104 = .ok (.iconst 0, 1) := by decide +kernel
theorem dX8_init_105 : decode cX8_init 105 = .ok (.iconst 1, 1) := by decide +kernel
theorem dX8_init_106 : decode cX8_init 106 = .ok (.iastore, 1) := by decide +kernel
theorem dX8_init_107 : decode cX8_init 107 = .ok (.iconst 1, 1) := by decide +kernel
theorem dX8_init_108 : decode cX8_init 108 = .ok (.istore_n 1, 1) := by decide +kernel
theorem dX8_init_109 : decode cX8_init 109 = .ok (.iload_n 1, 1) := by decide +kernel
theorem dX8_init_110 : decode cX8_init 110 = .ok (.bipush 11, 2) := by decide +kernel
theorem dX8_init_112 : decode cX8_init 112 = .ok (.if_icmp .ge 25, 3) := by decide +kernel
theorem dX8_init_115 : decode cX8_init 115 = .ok (.aload_n 0, 1) := by decide +kernel
theorem dX8_init_116 : decode cX8_init 116 = .ok (.getfield 20, 3) := by decide +kernel
theorem dX8_init_119 : decode cX8_init 119 = .ok (.iload_n 1, 1) := by decide +kernel
theorem dX8_init_120 : decode cX8_init 120 = .ok (.iconst 3, 1) := by decide +kernel
theorem dX8_init_121 : decode cX8_init 121 = .ok (.aload_n 0, 1) := by decide +kernel
theorem dX8_init_122 : decode cX8_init 122 = .ok (.getfield 20, 3) := by decide +kernel
theorem dX8_init_125 : decode cX8_init 125 = .ok (.iload_n 1, 1) := by decide +kernel
theorem dX8_init_126 : decode cX8_init 126 = .ok (.iconst 1, 1) := by decide +kernel
theorem dX8_init_127 : decode cX8_init 127 = .ok (.isub, 1) := by decide +kernel
theorem dX8_init_128 : decode cX8_init 128 = .ok (.iaload, 1) := by decide +kernel
theorem dX8_init_129 : decode cX8_init 129 = .ok (.imul, 1) := by decide +kernel
theorem dX8_init_130 : decode cX8_init 130 = .ok (.iastore, 1) := by decide +kernel
theorem dX8_init_131 : decode cX8_init 131 = .ok (.iinc 1 1, 3) := by decide +kernel
theorem dX8_init_134 : decode cX8_init 134 = .ok (.goto (-25), 3) := by decide +kernel
theorem dX8_init_137 : decode cX8_init 137 = .ok (.return_, 1) := by decide +kernel
theorem dX8_in_0 : decode cX8_in 0 = .ok (.iload_n 0, 1) := by decide +kernel
theorem dX8_in_1 : decode cX8_in 1 = .ok (.iload_n 1, 1) := by decide +kernel
theorem dX8_in_2 : decode cX8_in 2 = .ok (.if_icmp .lt 12, 3) := by decide +kernel
theorem dX8_in_5 : decode cX8_in 5 = .ok (.iload_n 0, 1) := by decide +kernel
theorem dX8_in_6 : decode cX8_in 6 = .ok (.iload_n 2, 1) := by decide +kernel
theorem dX8_in_7 : decode cX8_in 7 = .ok (.if_icmp .gt 7, 3) := by decide +kernel
theorem dX8_in_10 : decode cX8_in 10 = .ok (.iconst 1, 1) := by decide +kernel
theorem dX8_in_11 : decode cX8_in 11 = .ok (.goto 4, 3) := by decide +kernel
theorem dX8_in_14 : decode cX8_in 14 = .ok (.iconst 0, 1) := by decide +kernel
theorem dX8_in_15 : decode cX8_in 15 = .ok (.ireturn, 1) := by decide +kernel
theorem dX8_cells_0 : decode cX8_cells 0 = .ok (.aload_n 0, 1) := by decide +kernel
theorem dX8_cells_1 : decode cX8_cells 1 = .ok (.getfield 7, 3) := by decide +kernel
theorem dX8_cells_4 : decode cX8_cells 4 = .ok (.iconst 0, 1) := by decide +kernel
theorem dX8_cells_5 : decode cX8_cells 5 = .ok (.iaload, 1) := by decide +kernel
theorem dX8_cells_6 : decode cX8_cells 6 = .ok (.ireturn, 1) := by decide +kernel
set_option maxRecDepth 20000 in
theorem ggX8_isCell_X8_cells : GoodIn wsX8_isCell wsX8_cells := goodIn_r _ [5, 6, 10, 11, 12, 13, 14, 15, 16, 17, 18, 19, 20, 21, 22, 23] (by decide +kernel) (by decide +kernel)
set_option maxRecDepth 20000 in
theorem gX8_isCell_X8_cells : GoodIn wsX8_isCell (wsV RX8 45 RX8 yX8_cells wsX8_cells) := goodIn_app (goodIn_of _ (by decide +kernel)) ggX8_isCell_X8_cells
set_option maxRecDepth 20000 in
theorem ggX8_isCell_X8_in : GoodIn wsX8_isCell wsX8_in := goodIn_r _ [9] (by decide +kernel) (by decide +kernel)
set_option maxRecDepth 20000 in
theorem gX8_isCell_X8_in : GoodIn wsX8_isCell (va_wsS RX8 49 yX8_in wsX8_in) := goodIn_app (goodIn_of _ (by decide +kernel)) ggX8_isCell_X8_in
theorem dX8_isCell_0 : decode cX8_isCell 0 = .ok (.iload_n 1, 1) := by decide +kernel
theorem dX8_isCell_1 : decode cX8_isCell 1 = .ok (.iconst 0, 1) := by decide +kernel
theorem dX8_isCell_2 : decode cX8_isCell 2 = .ok (.aload_n 0, 1) := by decide +kernel
theorem dX8_isCell_3 : decode cX8_isCell 3 = .ok (.invokevirtual 45, 3) := by decide +kernel
theorem dX8_isCell_6 : decode cX8_isCell 6 = .ok (.iconst 1, 1) := by decide +kernel
theorem dX8_isCell_7 : decode cX8_isCell 7 = .ok (.isub, 1) := by decide +kernel
theorem dX8_isCell_8 : decode cX8_isCell 8 = .ok (.invokestatic 49, 3) := by decide +kernel
theorem dX8_isCell_11 : decode cX8_isCell 11 = .ok (.ireturn, 1) := by decide +kernel
set_option maxRecDepth 20000 in
theorem ggX8_isStand_X8_isCell : GoodIn wsX8_isStand wsX8_isCell := goodIn_r _ [6, 7, 8, 9, 5, 10, 1, 11, 12, 13, 14, 15, 16, 17, 18, 19, 20, 21, 22, 23, 24, 25, 26, 27] (by decide +kernel) (by decide +kernel)
set_option maxRecDepth 20000 in
theorem gX8_isStand_X8_isCell : GoodIn wsX8_isStand (wsV RX8 53 RX8 yX8_isCell wsX8_isCell) := goodIn_app (goodIn_of _ (by decide +kernel)) ggX8_isStand_X8_isCell
theorem dX8_isStand_0 : decode cX8_isStand 0 = .ok (.aload_n 0, 1) := by decide +kernel
theorem dX8_isStand_1 : decode cX8_isStand 1 = .ok (.iload_n 1, 1) := by decide +kernel
theorem dX8_isStand_2 : decode cX8_isStand 2 = .ok (.invokevirtual 53, 3) := by decide +kernel
theorem dX8_isStand_5 : decode cX8_isStand 5 = .ok (.ifCond .eq 18, 3) := by decide +kernel
theorem dX8_isStand_8 : decode cX8_isStand 8 = .ok (.aload_n 0, 1) := by decide +kernel
theorem dX8_isStand_9 : decode cX8_isStand 9 = .ok (.getfield 7, 3) := by decide +kernel
theorem dX8_isStand_12 : decode cX8_isStand 12 = .ok (.iconst 1, 1) := by decide +kernel
theorem dX8_isStand_13 : decode cX8_isStand 13 = .ok (.iload_n 1, 1) := by decide +kernel
theorem dX8_isStand_14 : decode cX8_isStand 14 = .ok (.iadd, 1) := by decide +kernel
theorem dX8_isStand_15 : decode cX8_isStand 15 = .ok (.iaload, 1) := by decide +kernel
theorem dX8_isStand_16 : decode cX8_isStand 16 = .ok (.ifCond .le 7, 3) := by decide +kernel
theorem dX8_isStand_19 : decode cX8_isStand 19 = .ok (.iconst 1, 1) := by decide +kernel
theorem dX8_isStand_20 : decode cX8_isStand 20 = .ok (.goto 4, 3) := by decide +kernel
theorem dX8_isStand_23 : decode cX8_isStand 23 = .ok (.iconst 0, 1) := by decide +kernel
theorem dX8_isStand_24 : decode cX8_isStand 24 = .ok (.ireturn, 1) := by decide +kernel
set_option maxRecDepth 20000 in
theorem ggX8_isRule_X8_in : GoodIn wsX8_isRule wsX8_in := goodIn_r _ [5] (by decide +kernel) (by decide +kernel)
set_option maxRecDepth 20000 in
theorem gX8_isRule_X8_in : GoodIn wsX8_isRule (va_wsS RX8 49 yX8_in wsX8_in) := goodIn_app (goodIn_of _ (by decide +kernel)) ggX8_isRule_X8_in
theorem dX8_isRule_0 : decode cX8_isRule 0 = .ok (.iload_n 1, 1) := by decide +kernel
theorem dX8_isRule_1 : decode cX8_isRule 1 = .ok (.iconst 0, 1) := by decide +kernel
theorem dX8_isRule_2 : decode cX8_isRule 2 = .ok (.aload_n 0, 1) := by decide +kernel
theorem dX8_isRule_3 : decode cX8_isRule 3 = .ok (.getfield 7, 3) := by decide +kernel
theorem dX8_isRule_6 : decode cX8_isRule 6 = .ok (.bipush 11, 2) := by decide +kernel
theorem dX8_isRule_8 : decode cX8_isRule 8 = .ok (.iaload, 1) := by decide +kernel
theorem dX8_isRule_9 : decode cX8_isRule 9 = .ok (.iconst 1, 1) := by decide +kernel
theorem dX8_isRule_10 : decode cX8_isRule 10 = .ok (.isub, 1) := by decide +kernel
theorem dX8_isRule_11 : decode cX8_isRule 11 = .ok (.invokestatic 49, 3) := by decide +kernel
theorem dX8_isRule_14 : decode cX8_isRule 14 = .ok (.ireturn, 1) := by decide +kernel
set_option maxRecDepth 20000 in
theorem ggX8_isSchedule_X8_in : GoodIn wsX8_isSchedule wsX8_in := goodIn_r _ [4] (by decide +kernel) (by decide +kernel)
set_option maxRecDepth 20000 in
theorem gX8_isSchedule_X8_in : GoodIn wsX8_isSchedule (va_wsS RX8 49 yX8_in wsX8_in) := goodIn_app (goodIn_of _ (by decide +kernel)) ggX8_isSchedule_X8_in
theorem dX8_isSchedule_0 : decode cX8_isSchedule 0 = .ok (.iload_n 0, 1) := by decide +kernel
theorem dX8_isSchedule_1 : decode cX8_isSchedule 1 = .ok (.iconst 0, 1) := by decide +kernel
theorem dX8_isSchedule_2 : decode cX8_isSchedule 2 = .ok (.iconst 2, 1) := by decide +kernel
theorem dX8_isSchedule_3 : decode cX8_isSchedule 3 = .ok (.invokestatic 49, 3) := by decide +kernel
theorem dX8_isSchedule_6 : decode cX8_isSchedule 6 = .ok (.ireturn, 1) := by decide +kernel
theorem dX8_walkers_0 : decode cX8_walkers 0 = .ok (.iconst 0, 1) := by decide +kernel
theorem dX8_walkers_1 : decode cX8_walkers 1 = .ok (.istore_n 1, 1) := by decide +kernel
theorem dX8_walkers_2 : decode cX8_walkers 2 = .ok (.iconst 0, 1) := by decide +kernel
theorem dX8_walkers_3 : decode cX8_walkers 3 = .ok (.istore_n 2, 1) := by decide +kernel
theorem dX8_walkers_4 : decode cX8_walkers 4 = .ok (.iload_n 2, 1) := by decide +kernel
theorem dX8_walkers_5 : decode cX8_walkers 5 = .ok (.bipush 10, 2) := by decide +kernel
theorem dX8_walkers_7 : decode cX8_walkers 7 = .ok (.if_icmp .ge 20, 3) := by decide +kernel
theorem dX8_walkers_10 : decode cX8_walkers 10 = .ok (.iload_n 1, 1) := by decide +kernel
theorem dX8_walkers_11 : decode cX8_walkers 11 = .ok (.aload_n 0, 1) := by decide +kernel
theorem dX8_walkers_12 : decode cX8_walkers 12 = .ok (.getfield 7, 3) := by decide +kernel
theorem dX8_walkers_15 : decode cX8_walkers 15 = .ok (.iconst 1, 1) := by decide +kernel
theorem dX8_walkers_16 : decode cX8_walkers 16 = .ok (.iload_n 2, 1) := by decide +kernel
theorem dX8_walkers_17 : decode cX8_walkers 17 = .ok (.iadd, 1) := by decide +kernel
theorem dX8_walkers_18 : decode cX8_walkers 18 = .ok (.iaload, 1) := by decide +kernel
theorem dX8_walkers_19 : decode cX8_walkers 19 = .ok (.iadd, 1) := by decide +kernel
theorem dX8_walkers_20 : decode cX8_walkers 20 = .ok (.istore_n 1, 1) := by decide +kernel
theorem dX8_walkers_21 : decode cX8_walkers 21 = .ok (.iinc 2 1, 3) := by decide +kernel
theorem dX8_walkers_24 : decode cX8_walkers 24 = .ok (.goto (-20), 3) := by decide +kernel
theorem dX8_walkers_27 : decode cX8_walkers 27 = .ok (.iload_n 1, 1) := by decide +kernel
theorem dX8_walkers_28 : decode cX8_walkers 28 = .ok (.ireturn, 1) := by decide +kernel
theorem dX8_size_0 : decode cX8_size 0 = .ok (.iconst 0, 1) := by decide +kernel
theorem dX8_size_1 : decode cX8_size 1 = .ok (.istore_n 1, 1) := by decide +kernel
theorem dX8_size_2 : decode cX8_size 2 = .ok (.iconst 0, 1) := by decide +kernel
theorem dX8_size_3 : decode cX8_size 3 = .ok (.istore_n 2, 1) := by decide +kernel
theorem dX8_size_4 : decode cX8_size 4 = .ok (.iload_n 2, 1) := by decide +kernel
theorem dX8_size_5 : decode cX8_size 5 = .ok (.bipush 10, 2) := by decide +kernel
theorem dX8_size_7 : decode cX8_size 7 = .ok (.if_icmp .ge 17, 3) := by decide +kernel
theorem dX8_size_10 : decode cX8_size 10 = .ok (.iload_n 1, 1) := by decide +kernel
theorem dX8_size_11 : decode cX8_size 11 = .ok (.iload_n 0, 1) := by decide +kernel
theorem dX8_size_12 : decode cX8_size 12 = .ok (.iload_n 2, 1) := by decide +kernel
theorem dX8_size_13 : decode cX8_size 13 = .ok (.ishr, 1) := by decide +kernel
theorem dX8_size_14 : decode cX8_size 14 = .ok (.iconst 1, 1) := by decide +kernel
theorem dX8_size_15 : decode cX8_size 15 = .ok (.iand, 1) := by decide +kernel
theorem dX8_size_16 : decode cX8_size 16 = .ok (.iadd, 1) := by decide +kernel
theorem dX8_size_17 : decode cX8_size 17 = .ok (.istore_n 1, 1) := by decide +kernel
theorem dX8_size_18 : decode cX8_size 18 = .ok (.iinc 2 1, 3) := by decide +kernel
theorem dX8_size_21 : decode cX8_size 21 = .ok (.goto (-17), 3) := by decide +kernel
theorem dX8_size_24 : decode cX8_size 24 = .ok (.iload_n 1, 1) := by decide +kernel
theorem dX8_size_25 : decode cX8_size 25 = .ok (.ireturn, 1) := by decide +kernel
set_option maxRecDepth 20000 in
theorem ggX8_now_X8_cells : GoodIn wsX8_now wsX8_cells := goodIn_r _ [7, 1, 8, 9, 10, 11, 12, 13, 14, 15, 16, 17, 18, 19, 20, 21] (by decide +kernel) (by decide +kernel)
set_option maxRecDepth 20000 in
theorem gX8_now_X8_cells : GoodIn wsX8_now (wsV RX8 45 RX8 yX8_cells wsX8_cells) := goodIn_app (goodIn_of _ (by decide +kernel)) ggX8_now_X8_cells
theorem dX8_now_0 : decode cX8_now 0 = .ok (.iconst 0, 1) := by decide +kernel
theorem dX8_now_1 : decode cX8_now 1 = .ok (.istore_n 1, 1) := by decide +kernel
theorem dX8_now_2 : decode cX8_now 2 = .ok (.iconst 0, 1) := by decide +kernel
theorem dX8_now_3 : decode cX8_now 3 = .ok (.istore_n 2, 1) := by decide +kernel
theorem dX8_now_4 : decode cX8_now 4 = .ok (.iload_n 2, 1) := by decide +kernel
theorem dX8_now_5 : decode cX8_now 5 = .ok (.aload_n 0, 1) := by decide +kernel
theorem dX8_now_6 : decode cX8_now 6 = .ok (.invokevirtual 45, 3) := by decide +kernel
theorem dX8_now_9 : decode cX8_now 9 = .ok (.if_icmp .ge 38, 3) := by decide +kernel
theorem dX8_now_12 : decode cX8_now 12 = .ok (.aload_n 0, 1) := by decide +kernel
theorem dX8_now_13 : decode cX8_now 13 = .ok (.getfield 7, 3) := by decide +kernel
theorem dX8_now_16 : decode cX8_now 16 = .ok (.iconst 1, 1) := by decide +kernel
theorem dX8_now_17 : decode cX8_now 17 = .ok (.iload_n 2, 1) := by decide +kernel
theorem dX8_now_18 : decode cX8_now 18 = .ok (.iadd, 1) := by decide +kernel
theorem dX8_now_19 : decode cX8_now 19 = .ok (.iaload, 1) := by decide +kernel
theorem dX8_now_20 : decode cX8_now 20 = .ok (.istore_n 3, 1) := by decide +kernel
theorem dX8_now_21 : decode cX8_now 21 = .ok (.iload_n 1, 1) := by decide +kernel
theorem dX8_now_22 : decode cX8_now 22 = .ok (.aload_n 0, 1) := by decide +kernel
theorem dX8_now_23 : decode cX8_now 23 = .ok (.getfield 20, 3) := by decide +kernel
theorem dX8_now_26 : decode cX8_now 26 = .ok (.iload_n 2, 1) := by decide +kernel
theorem dX8_now_27 : decode cX8_now 27 = .ok (.iaload, 1) := by decide +kernel
theorem dX8_now_28 : decode cX8_now 28 = .ok (.iload_n 3, 1) := by decide +kernel
theorem dX8_now_29 : decode cX8_now 29 = .ok (.iconst 1, 1) := by decide +kernel
theorem dX8_now_30 : decode cX8_now 30 = .ok (.if_icmp .le 7, 3) := by decide +kernel
theorem dX8_now_33 : decode cX8_now 33 = .ok (.iconst 2, 1) := by decide +kernel
theorem dX8_now_34 : decode cX8_now 34 = .ok (.goto 4, 3) := by decide +kernel
theorem dX8_now_37 : decode cX8_now 37 = .ok (.iload_n 3, 1) := by decide +kernel
theorem dX8_now_38 : decode cX8_now 38 = .ok (.imul, 1) := by decide +kernel
theorem dX8_now_39 : decode cX8_now 39 = .ok (.iadd, 1) := by decide +kernel
theorem dX8_now_40 : decode cX8_now 40 = .ok (.istore_n 1, 1) := by decide +kernel
theorem dX8_now_41 : decode cX8_now 41 = .ok (.iinc 2 1, 3) := by decide +kernel
theorem dX8_now_44 : decode cX8_now 44 = .ok (.goto (-40), 3) := by decide +kernel
theorem dX8_now_47 : decode cX8_now 47 = .ok (.iload_n 1, 1) := by decide +kernel
theorem dX8_now_48 : decode cX8_now 48 = .ok (.ireturn, 1) := by decide +kernel
set_option maxRecDepth 20000 in
theorem ggX8_standsOf_X8_cells : GoodIn wsX8_standsOf wsX8_cells := goodIn_r _ [6, 7, 8, 9, 10, 11, 12, 13, 14, 15, 16, 17, 18, 19, 20, 21] (by decide +kernel) (by decide +kernel)
set_option maxRecDepth 20000 in
theorem gX8_standsOf_X8_cells : GoodIn wsX8_standsOf (wsV RX8 45 RX8 yX8_cells wsX8_cells) := goodIn_app (goodIn_of _ (by decide +kernel)) ggX8_standsOf_X8_cells
theorem dX8_standsOf_0 : decode cX8_standsOf 0 = .ok (.iconst 0, 1) := by decide +kernel
theorem dX8_standsOf_1 : decode cX8_standsOf 1 = .ok (.istore_n 2, 1) := by decide +kernel
theorem dX8_standsOf_2 : decode cX8_standsOf 2 = .ok (.iconst 0, 1) := by decide +kernel
theorem dX8_standsOf_3 : decode cX8_standsOf 3 = .ok (.istore_n 3, 1) := by decide +kernel
theorem dX8_standsOf_4 : decode cX8_standsOf 4 = .ok (.iload_n 3, 1) := by decide +kernel
theorem dX8_standsOf_5 : decode cX8_standsOf 5 = .ok (.aload_n 0, 1) := by decide +kernel
theorem dX8_standsOf_6 : decode cX8_standsOf 6 = .ok (.invokevirtual 45, 3) := by decide +kernel
theorem dX8_standsOf_9 : decode cX8_standsOf 9 = .ok (.if_icmp .ge 32, 3) := by decide +kernel
theorem dX8_standsOf_12 : decode cX8_standsOf 12 = .ok (.iload_n 2, 1) := by decide +kernel
theorem dX8_standsOf_13 : decode cX8_standsOf 13 = .ok (.iload_n 1, 1) := by decide +kernel
theorem dX8_standsOf_14 : decode cX8_standsOf 14 = .ok (.aload_n 0, 1) := by decide +kernel
theorem dX8_standsOf_15 : decode cX8_standsOf 15 = .ok (.getfield 20, 3) := by decide +kernel
theorem dX8_standsOf_18 : decode cX8_standsOf 18 = .ok (.iload_n 3, 1) := by decide +kernel
theorem dX8_standsOf_19 : decode cX8_standsOf 19 = .ok (.iaload, 1) := by decide +kernel
theorem dX8_standsOf_20 : decode cX8_standsOf 20 = .ok (.idiv, 1) := by decide +kernel
theorem dX8_standsOf_21 : decode cX8_standsOf 21 = .ok (.iconst 3, 1) := by decide +kernel
theorem dX8_standsOf_22 : decode cX8_standsOf 22 = .ok (.irem, 1) := by decide +kernel
theorem dX8_standsOf_23 : decode cX8_standsOf 23 = .ok (.ifCond .le 9, 3) := by decide +kernel
theorem dX8_standsOf_26 : decode cX8_standsOf 26 = .ok (.iconst 1, 1) := by decide +kernel
theorem dX8_standsOf_27 : decode cX8_standsOf 27 = .ok (.iload_n 3, 1) := by decide +kernel
theorem dX8_standsOf_28 : decode cX8_standsOf 28 = .ok (.ishl, 1) := by decide +kernel
theorem dX8_standsOf_29 : decode cX8_standsOf 29 = .ok (.goto 4, 3) := by decide +kernel
theorem dX8_standsOf_32 : decode cX8_standsOf 32 = .ok (.iconst 0, 1) := by decide +kernel
theorem dX8_standsOf_33 : decode cX8_standsOf 33 = .ok (.ior, 1) := by decide +kernel
theorem dX8_standsOf_34 : decode cX8_standsOf 34 = .ok (.istore_n 2, 1) := by decide +kernel
theorem dX8_standsOf_35 : decode cX8_standsOf 35 = .ok (.iinc 3 1, 3) := by decide +kernel
theorem dX8_standsOf_38 : decode cX8_standsOf 38 = .ok (.goto (-34), 3) := by decide +kernel
theorem dX8_standsOf_41 : decode cX8_standsOf 41 = .ok (.iload_n 2, 1) := by decide +kernel
theorem dX8_standsOf_42 : decode cX8_standsOf 42 = .ok (.ireturn, 1) := by decide +kernel
set_option maxRecDepth 20000 in
theorem ggX8_ring_X8_in : GoodIn wsX8_ring wsX8_in := goodIn_r _ [5] (by decide +kernel) (by decide +kernel)
set_option maxRecDepth 20000 in
theorem gX8_ring_X8_in : GoodIn wsX8_ring (va_wsS RX8 49 yX8_in wsX8_in) := goodIn_app (goodIn_of _ (by decide +kernel)) ggX8_ring_X8_in
