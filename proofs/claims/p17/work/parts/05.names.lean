theorem dX8_listAll_49 : decode cX8_listAll 49 = .ok (.aload_n 0, 1) := by decide +kernel
theorem dX8_listAll_50 : decode cX8_listAll 50 = .ok (.iload_n 3, 1) := by decide +kernel
theorem dX8_listAll_51 : decode cX8_listAll 51 = .ok (.iload 5, 2) := by decide +kernel
theorem dX8_listAll_53 : decode cX8_listAll 53 = .ok (.invokevirtual 145, 3) := by decide +kernel
theorem dX8_listAll_56 : decode cX8_listAll 56 = .ok (.invokevirtual 148, 3) := by decide +kernel
theorem dX8_listAll_59 : decode cX8_listAll 59 = .ok (.iload 5, 2) := by decide +kernel
theorem dX8_listAll_61 : decode cX8_listAll 61 = .ok (.iload 4, 2) := by decide +kernel
theorem dX8_listAll_63 : decode cX8_listAll 63 = .ok (.isub, 1) := by decide +kernel
theorem dX8_listAll_64 : decode cX8_listAll 64 = .ok (.iload 4, 2) := by decide +kernel
theorem dX8_listAll_66 : decode cX8_listAll 66 = .ok (.iand, 1) := by decide +kernel
theorem dX8_listAll_67 : decode cX8_listAll 67 = .ok (.istore 5, 2) := by decide +kernel
theorem dX8_listAll_69 : decode cX8_listAll 69 = .ok (.goto (-37), 3) := by decide +kernel
theorem dX8_listAll_72 : decode cX8_listAll 72 = .ok (.aload_n 0, 1) := by decide +kernel
theorem dX8_listAll_73 : decode cX8_listAll 73 = .ok (.getfield 36, 3) := by decide +kernel
theorem dX8_listAll_76 : decode cX8_listAll 76 = .ok (.iload_n 3, 1) := by decide +kernel
theorem dX8_listAll_77 : decode cX8_listAll 77 = .ok (.aload_n 0, 1) := by decide +kernel
theorem dX8_listAll_78 : decode cX8_listAll 78 = .ok (.iload_n 3, 1) := by decide +kernel
theorem dX8_listAll_79 : decode cX8_listAll 79 = .ok (.invokevirtual 152, 3) := by decide +kernel
theorem dX8_listAll_82 : decode cX8_listAll 82 = .ok (.ifCond .eq 7, 3) := by decide +kernel
theorem dX8_listAll_85 : decode cX8_listAll 85 = .ok (.iconst 0, 1) := by decide +kernel
theorem dX8_listAll_86 : decode cX8_listAll 86 = .ok (.goto 5, 3) := by decide +kernel
theorem dX8_listAll_89 : decode cX8_listAll 89 = .ok (.bipush (-6), 2) := by decide +kernel
theorem dX8_listAll_91 : decode cX8_listAll 91 = .ok (.iastore, 1) := by decide +kernel
theorem dX8_listAll_92 : decode cX8_listAll 92 = .ok (.aload_n 0, 1) := by decide +kernel
theorem dX8_listAll_93 : decode cX8_listAll 93 = .ok (.getfield 39, 3) := by decide +kernel
theorem dX8_listAll_96 : decode cX8_listAll 96 = .ok (.iload_n 3, 1) := by decide +kernel
theorem dX8_listAll_97 : decode cX8_listAll 97 = .ok (.aload_n 0, 1) := by decide +kernel
theorem dX8_listAll_98 : decode cX8_listAll 98 = .ok (.getfield 36, 3) := by decide +kernel
theorem dX8_listAll_101 : decode cX8_listAll 101 = .ok (.iload_n 3, 1) := by decide +kernel
theorem dX8_listAll_102 : decode cX8_listAll 102 = .ok (.iaload, 1) := by decide +kernel
theorem dX8_listAll_103 : decode cX8_listAll 103 = .ok (.iastore, 1) := by decide +kernel
theorem dX8_listAll_104 : decode cX8_listAll 104 = .ok (.iinc 2 1, 3) := by decide +kernel
theorem dX8_listAll_107 : decode cX8_listAll 107 = .ok (.goto (-105), 3) := by decide +kernel
theorem dX8_listAll_110 : decode cX8_listAll 110 = .ok (.iconst 1, 1) := by decide +kernel
theorem dX8_listAll_111 : decode cX8_listAll 111 = .ok (.istore_n 2, 1) := by decide +kernel
theorem dX8_listAll_112 : decode cX8_listAll 112 = .ok (.iconst 1, 1) := by decide +kernel
theorem dX8_listAll_113 : decode cX8_listAll 113 = .ok (.istore_n 3, 1) := by decide +kernel
theorem dX8_listAll_114 : decode cX8_listAll 114 = .ok (.iload_n 2, 1) := by decide +kernel
theorem dX8_listAll_115 : decode cX8_listAll 115 = .ok (.ifCond .eq 16, 3) := by decide +kernel
theorem dX8_listAll_118 : decode cX8_listAll 118 = .ok (.aload_n 0, 1) := by decide +kernel
theorem dX8_listAll_119 : decode cX8_listAll 119 = .ok (.iload_n 1, 1) := by decide +kernel
theorem dX8_listAll_120 : decode cX8_listAll 120 = .ok (.iload_n 3, 1) := by decide +kernel
theorem dX8_listAll_121 : decode cX8_listAll 121 = .ok (.invokevirtual 155, 3) := by decide +kernel
theorem dX8_listAll_124 : decode cX8_listAll 124 = .ok (.istore_n 2, 1) := by decide +kernel
theorem dX8_listAll_125 : decode cX8_listAll 125 = .ok (.iinc 3 1, 3) := by decide +kernel
theorem dX8_listAll_128 : decode cX8_listAll 128 = .ok (.goto (-14), 3) := by decide +kernel
theorem dX8_listAll_131 : decode cX8_listAll 131 = .ok (.return_, 1) := by decide +kernel
set_option maxRecDepth 20000 in
theorem ggX8_layRound_X8_look : GoodIn wsX8_layRound wsX8_look := goodIn_r _ [9, 3, 4, 10, 11, 12, 8, 13, 14, 15, 16, 17, 18, 19, 20, 21, 22, 23, 24, 25, 26, 27, 28, 29, 30, 31, 32, 33, 34, 35, 36, 37, 38, 39, 40, 41, 42, 43, 44, 45, 46, 47, 48, 49, 50, 51, 52, 53, 54, 55, 56] (by decide +kernel) (by decide +kernel)
set_option maxRecDepth 20000 in
theorem gX8_layRound_X8_look : GoodIn wsX8_layRound (wsV RX8 158 RX8 yX8_look wsX8_look) := goodIn_app (goodIn_of _ (by decide +kernel)) ggX8_layRound_X8_look
theorem dX8_layRound_0 : decode cX8_layRound 0 = .ok (.iconst 0, 1) := by decide +kernel
theorem dX8_layRound_1 : decode cX8_layRound 1 = .ok (.istore_n 3, 1) := by decide +kernel
theorem dX8_layRound_2 : decode cX8_layRound 2 = .ok (.iconst 0, 1) := by decide +kernel
theorem dX8_layRound_3 : decode cX8_layRound 3 = .ok (.istore 4, 2) := by decide +kernel
theorem dX8_layRound_5 : decode cX8_layRound 5 = .ok (.iload 4, 2) := by decide +kernel
theorem dX8_layRound_7 : decode cX8_layRound 7 = .ok (.aload_n 0, 1) := by decide +kernel
theorem dX8_layRound_8 : decode cX8_layRound 8 = .ok (.getfield 128, 3) := by decide +kernel
theorem dX8_layRound_11 : decode cX8_layRound 11 = .ok (.if_icmp .ge 59, 3) := by decide +kernel
theorem dX8_layRound_14 : decode cX8_layRound 14 = .ok (.aload_n 0, 1) := by decide +kernel
theorem dX8_layRound_15 : decode cX8_layRound 15 = .ok (.getfield 27, 3) := by decide +kernel
theorem dX8_layRound_18 : decode cX8_layRound 18 = .ok (.iload 4, 2) := by decide +kernel
theorem dX8_layRound_20 : decode cX8_layRound 20 = .ok (.iaload, 1) := by decide +kernel
theorem dX8_layRound_21 : decode cX8_layRound 21 = .ok (.istore 5, 2) := by decide +kernel
theorem dX8_layRound_23 : decode cX8_layRound 23 = .ok (.aload_n 0, 1) := by decide +kernel
theorem dX8_layRound_24 : decode cX8_layRound 24 = .ok (.getfield 36, 3) := by decide +kernel
theorem dX8_layRound_27 : decode cX8_layRound 27 = .ok (.iload 5, 2) := by decide +kernel
theorem dX8_layRound_29 : decode cX8_layRound 29 = .ok (.iaload, 1) := by decide +kernel
theorem dX8_layRound_30 : decode cX8_layRound 30 = .ok (.ifCond .lt 13, 3) := by decide +kernel
theorem dX8_layRound_33 : decode cX8_layRound 33 = .ok (.aload_n 0, 1) := by decide +kernel
theorem dX8_layRound_34 : decode cX8_layRound 34 = .ok (.getfield 39, 3) := by decide +kernel
theorem dX8_layRound_37 : decode cX8_layRound 37 = .ok (.iload 5, 2) := by decide +kernel
theorem dX8_layRound_39 : decode cX8_layRound 39 = .ok (.iaload, 1) := by decide +kernel
theorem dX8_layRound_40 : decode cX8_layRound 40 = .ok (.ifCond .ge 24, 3) := by decide +kernel
theorem dX8_layRound_43 : decode cX8_layRound 43 = .ok (.aload_n 0, 1) := by decide +kernel
theorem dX8_layRound_44 : decode cX8_layRound 44 = .ok (.iload 5, 2) := by decide +kernel
theorem dX8_layRound_46 : decode cX8_layRound 46 = .ok (.iload_n 1, 1) := by decide +kernel
theorem dX8_layRound_47 : decode cX8_layRound 47 = .ok (.iload_n 2, 1) := by decide +kernel
theorem dX8_layRound_48 : decode cX8_layRound 48 = .ok (.invokevirtual 158, 3) := by decide +kernel
theorem dX8_layRound_51 : decode cX8_layRound 51 = .ok (.ifCond .ne 7, 3) := by decide +kernel
theorem dX8_layRound_54 : decode cX8_layRound 54 = .ok (.iload_n 3, 1) := by decide +kernel
theorem dX8_layRound_55 : decode cX8_layRound 55 = .ok (.ifCond .eq 7, 3) := by decide +kernel
theorem dX8_layRound_58 : decode cX8_layRound 58 = .ok (.iconst 1, 1) := by decide +kernel
theorem dX8_layRound_59 : decode cX8_layRound 59 = .ok (.goto 4, 3) := by decide +kernel
theorem dX8_layRound_62 : decode cX8_layRound 62 = .ok (.iconst 0, 1) := by decide +kernel
theorem dX8_layRound_63 : decode cX8_layRound 63 = .ok (.istore_n 3, 1) := by decide +kernel
theorem dX8_layRound_64 : decode cX8_layRound 64 = .ok (.iinc 4 1, 3) := by decide +kernel
theorem dX8_layRound_67 : decode cX8_layRound 67 = .ok (.goto (-62), 3) := by decide +kernel
theorem dX8_layRound_70 : decode cX8_layRound 70 = .ok (.iload_n 3, 1) := by decide +kernel
theorem dX8_layRound_71 : decode cX8_layRound 71 = .ok (.ireturn, 1) := by decide +kernel
set_option maxRecDepth 20000 in
theorem ggX8_look_X8_movers : GoodIn wsX8_look wsX8_movers := goodIn_r _ [7, 8, 9, 10, 11, 6, 12, 13, 14, 15, 16, 17, 18, 37, 38, 39, 40, 41, 42, 43, 44, 45, 46, 47, 48, 49, 50] (by decide +kernel) (by decide +kernel)
set_option maxRecDepth 20000 in
theorem gX8_look_X8_movers : GoodIn wsX8_look (wsV RX8 139 RX8 yX8_movers wsX8_movers) := goodIn_app (goodIn_of _ (by decide +kernel)) ggX8_look_X8_movers
set_option maxRecDepth 20000 in
theorem ggX8_look_X8_mayBe : GoodIn wsX8_look wsX8_mayBe := goodIn_r _ [21] (by decide +kernel) (by decide +kernel)
set_option maxRecDepth 20000 in
theorem gX8_look_X8_mayBe : GoodIn wsX8_look (va_wsS RX8 142 yX8_mayBe wsX8_mayBe) := goodIn_app (goodIn_of _ (by decide +kernel)) ggX8_look_X8_mayBe
set_option maxRecDepth 20000 in
theorem ggX8_look_X8_behindStep : GoodIn wsX8_look wsX8_behindStep := goodIn_r _ [25, 26, 13, 8, 14, 15, 16, 6, 17, 18, 27, 28, 29, 30, 31, 32, 33, 37, 38, 39, 40, 41, 42, 43, 44, 45, 46, 47, 48, 49, 50] (by decide +kernel) (by decide +kernel)
set_option maxRecDepth 20000 in
theorem gX8_look_X8_behindStep : GoodIn wsX8_look (wsV RX8 145 RX8 yX8_behindStep wsX8_behindStep) := goodIn_app (goodIn_of _ (by decide +kernel)) ggX8_look_X8_behindStep
set_option maxRecDepth 20000 in
theorem ggX8_look_X8_in : GoodIn wsX8_look wsX8_in := goodIn_r _ [36] (by decide +kernel) (by decide +kernel)
set_option maxRecDepth 20000 in
theorem gX8_look_X8_in : GoodIn wsX8_look (va_wsS RX8 49 yX8_in wsX8_in) := goodIn_app (goodIn_of _ (by decide +kernel)) ggX8_look_X8_in
theorem dX8_look_0 : decode cX8_look 0 = .ok (.aload_n 0, 1) := by decide +kernel
theorem dX8_look_1 : decode cX8_look 1 = .ok (.iload_n 1, 1) := by decide +kernel
theorem dX8_look_2 : decode cX8_look 2 = .ok (.invokevirtual 139, 3) := by decide +kernel
theorem dX8_look_5 : decode cX8_look 5 = .ok (.istore 4, 2) := by decide +kernel
theorem dX8_look_7 : decode cX8_look 7 = .ok (.iconst 0, 1) := by decide +kernel
theorem dX8_look_8 : decode cX8_look 8 = .ok (.istore 5, 2) := by decide +kernel
theorem dX8_look_10 : decode cX8_look 10 = .ok (.iload 4, 2) := by decide +kernel
theorem dX8_look_12 : decode cX8_look 12 = .ok (.ifCond .eq 7, 3) := by decide +kernel
theorem dX8_look_15 : decode cX8_look 15 = .ok (.iconst 1, 1) := by decide +kernel
theorem dX8_look_16 : decode cX8_look 16 = .ok (.goto 4, 3) := by decide +kernel
theorem dX8_look_19 : decode cX8_look 19 = .ok (.iconst 0, 1) := by decide +kernel
theorem dX8_look_20 : decode cX8_look 20 = .ok (.istore 6, 2) := by decide +kernel
theorem dX8_look_22 : decode cX8_look 22 = .ok (.iload 4, 2) := by decide +kernel
theorem dX8_look_24 : decode cX8_look 24 = .ok (.ineg, 1) := by decide +kernel
theorem dX8_look_25 : decode cX8_look 25 = .ok (.iload 4, 2) := by decide +kernel
theorem dX8_look_27 : decode cX8_look 27 = .ok (.iand, 1) := by decide +kernel
theorem dX8_look_28 : decode cX8_look 28 = .ok (.istore 7, 2) := by decide +kernel
theorem dX8_look_30 : decode cX8_look 30 = .ok (.iload 7, 2) := by decide +kernel
theorem dX8_look_32 : decode cX8_look 32 = .ok (.ifCond .eq 90, 3) := by decide +kernel
theorem dX8_look_35 : decode cX8_look 35 = .ok (.iload_n 2, 1) := by decide +kernel
theorem dX8_look_36 : decode cX8_look 36 = .ok (.iload 7, 2) := by decide +kernel
theorem dX8_look_38 : decode cX8_look 38 = .ok (.iload 4, 2) := by decide +kernel
theorem dX8_look_40 : decode cX8_look 40 = .ok (.invokestatic 142, 3) := by decide +kernel
theorem dX8_look_43 : decode cX8_look 43 = .ok (.ifCond .eq 66, 3) := by decide +kernel
theorem dX8_look_46 : decode cX8_look 46 = .ok (.aload_n 0, 1) := by decide +kernel
theorem dX8_look_47 : decode cX8_look 47 = .ok (.iload_n 1, 1) := by decide +kernel
theorem dX8_look_48 : decode cX8_look 48 = .ok (.iload 7, 2) := by decide +kernel
theorem dX8_look_50 : decode cX8_look 50 = .ok (.invokevirtual 145, 3) := by decide +kernel
theorem dX8_look_53 : decode cX8_look 53 = .ok (.istore 8, 2) := by decide +kernel
theorem dX8_look_55 : decode cX8_look 55 = .ok (.iload 5, 2) := by decide +kernel
theorem dX8_look_57 : decode cX8_look 57 = .ok (.ifCond .ne 16, 3) := by decide +kernel
theorem dX8_look_60 : decode cX8_look 60 = .ok (.aload_n 0, 1) := by decide +kernel
theorem dX8_look_61 : decode cX8_look 61 = .ok (.getfield 36, 3) := by decide +kernel
theorem dX8_look_64 : decode cX8_look 64 = .ok (.iload 8, 2) := by decide +kernel
theorem dX8_look_66 : decode cX8_look 66 = .ok (.iaload, 1) := by decide +kernel
theorem dX8_look_67 : decode cX8_look 67 = .ok (.iload_n 3, 1) := by decide +kernel
theorem dX8_look_68 : decode cX8_look 68 = .ok (.iconst 1, 1) := by decide +kernel
theorem dX8_look_69 : decode cX8_look 69 = .ok (.isub, 1) := by decide +kernel
theorem dX8_look_70 : decode cX8_look 70 = .ok (.if_icmp .ne 7, 3) := by decide +kernel
theorem dX8_look_73 : decode cX8_look 73 = .ok (.iconst 1, 1) := by decide +kernel
theorem dX8_look_74 : decode cX8_look 74 = .ok (.goto 4, 3) := by decide +kernel
theorem dX8_look_77 : decode cX8_look 77 = .ok (.iconst 0, 1) := by decide +kernel
theorem dX8_look_78 : decode cX8_look 78 = .ok (.istore 5, 2) := by decide +kernel
theorem dX8_look_80 : decode cX8_look 80 = .ok (.iload 6, 2) := by decide +kernel
theorem dX8_look_82 : decode cX8_look 82 = .ok (.ifCond .eq 24, 3) := by decide +kernel
theorem dX8_look_85 : decode cX8_look 85 = .ok (.aload_n 0, 1) := by decide +kernel
theorem dX8_look_86 : decode cX8_look 86 = .ok (.getfield 39, 3) := by decide +kernel
theorem dX8_look_89 : decode cX8_look 89 = .ok (.iload 8, 2) := by decide +kernel
theorem dX8_look_91 : decode cX8_look 91 = .ok (.iaload, 1) := by decide +kernel
theorem dX8_look_92 : decode cX8_look 92 = .ok (.iconst 0, 1) := by decide +kernel
theorem dX8_look_93 : decode cX8_look 93 = .ok (.iload_n 3, 1) := by decide +kernel
theorem dX8_look_94 : decode cX8_look 94 = .ok (.iconst 1, 1) := by decide +kernel
theorem dX8_look_95 : decode cX8_look 95 = .ok (.isub, 1) := by decide +kernel
theorem dX8_look_96 : decode cX8_look 96 = .ok (.invokestatic 49, 3) := by decide +kernel
theorem dX8_look_99 : decode cX8_look 99 = .ok (.ifCond .eq 7, 3) := by decide +kernel
theorem dX8_look_102 : decode cX8_look 102 = .ok (.iconst 1, 1) := by decide +kernel
theorem dX8_look_103 : decode cX8_look 103 = .ok (.goto 4, 3) := by decide +kernel
theorem dX8_look_106 : decode cX8_look 106 = .ok (.iconst 0, 1) := by decide +kernel
theorem dX8_look_107 : decode cX8_look 107 = .ok (.istore 6, 2) := by decide +kernel
theorem dX8_look_109 : decode cX8_look 109 = .ok (.iload 7, 2) := by decide +kernel
theorem dX8_look_111 : decode cX8_look 111 = .ok (.iload 4, 2) := by decide +kernel
theorem dX8_look_113 : decode cX8_look 113 = .ok (.isub, 1) := by decide +kernel
theorem dX8_look_114 : decode cX8_look 114 = .ok (.iload 4, 2) := by decide +kernel
theorem dX8_look_116 : decode cX8_look 116 = .ok (.iand, 1) := by decide +kernel
theorem dX8_look_117 : decode cX8_look 117 = .ok (.istore 7, 2) := by decide +kernel
theorem dX8_look_119 : decode cX8_look 119 = .ok (.goto (-89), 3) := by decide +kernel
theorem dX8_look_122 : decode cX8_look 122 = .ok (.aload_n 0, 1) := by decide +kernel
theorem dX8_look_123 : decode cX8_look 123 = .ok (.getfield 36, 3) := by decide +kernel
theorem dX8_look_126 : decode cX8_look 126 = .ok (.iload_n 1, 1) := by decide +kernel
theorem dX8_look_127 : decode cX8_look 127 = .ok (.iaload, 1) := by decide +kernel
theorem dX8_look_128 : decode cX8_look 128 = .ok (.ifCond .ge 12, 3) := by decide +kernel
theorem dX8_look_131 : decode cX8_look 131 = .ok (.iload 5, 2) := by decide +kernel
theorem dX8_look_133 : decode cX8_look 133 = .ok (.ifCond .eq 7, 3) := by decide +kernel
theorem dX8_look_136 : decode cX8_look 136 = .ok (.iconst 1, 1) := by decide +kernel
theorem dX8_look_137 : decode cX8_look 137 = .ok (.goto 4, 3) := by decide +kernel
theorem dX8_look_140 : decode cX8_look 140 = .ok (.iconst 0, 1) := by decide +kernel
theorem dX8_look_141 : decode cX8_look 141 = .ok (.istore 7, 2) := by decide +kernel
theorem dX8_look_143 : decode cX8_look 143 = .ok (.aload_n 0, 1) := by decide +kernel
theorem dX8_look_144 : decode cX8_look 144 = .ok (.getfield 39, 3) := by decide +kernel
theorem dX8_look_147 : decode cX8_look 147 = .ok (.iload_n 1, 1) := by decide +kernel
theorem dX8_look_148 : decode cX8_look 148 = .ok (.iaload, 1) := by decide +kernel
theorem dX8_look_149 : decode cX8_look 149 = .ok (.ifCond .ge 12, 3) := by decide +kernel
theorem dX8_look_152 : decode cX8_look 152 = .ok (.iload 6, 2) := by decide +kernel
theorem dX8_look_154 : decode cX8_look 154 = .ok (.ifCond .eq 7, 3) := by decide +kernel
theorem dX8_look_157 : decode cX8_look 157 = .ok (.iconst 1, 1) := by decide +kernel
theorem dX8_look_158 : decode cX8_look 158 = .ok (.goto 4, 3) := by decide +kernel
theorem dX8_look_161 : decode cX8_look 161 = .ok (.iconst 0, 1) := by decide +kernel
theorem dX8_look_162 : decode cX8_look 162 = .ok (.istore 8, 2) := by decide +kernel
theorem dX8_look_164 : decode cX8_look 164 = .ok (.aload_n 0, 1) := by decide +kernel
theorem dX8_look_165 : decode cX8_look 165 = .ok (.getfield 36, 3) := by decide +kernel
theorem dX8_look_168 : decode cX8_look 168 = .ok (.iload_n 1, 1) := by decide +kernel
theorem dX8_look_169 : decode cX8_look 169 = .ok (.iload 7, 2) := by decide +kernel
theorem dX8_look_171 : decode cX8_look 171 = .ok (.ifCond .eq 7, 3) := by decide +kernel
theorem dX8_look_174 : decode cX8_look 174 = .ok (.iload_n 3, 1) := by decide +kernel
theorem dX8_look_175 : decode cX8_look 175 = .ok (.goto 9, 3) := by decide +kernel
theorem dX8_look_178 : decode cX8_look 178 = .ok (.aload_n 0, 1) := by decide +kernel
theorem dX8_look_179 : decode cX8_look 179 = .ok (.getfield 36, 3) := by decide +kernel
theorem dX8_look_182 : decode cX8_look 182 = .ok (.iload_n 1, 1) := by decide +kernel
theorem dX8_look_183 : decode cX8_look 183 = .ok (.iaload, 1) := by decide +kernel
theorem dX8_look_184 : decode cX8_look 184 = .ok (.iastore, 1) := by decide +kernel
theorem dX8_look_185 : decode cX8_look 185 = .ok (.aload_n 0, 1) := by decide +kernel
theorem dX8_look_186 : decode cX8_look 186 = .ok (.getfield 39, 3) := by decide +kernel
theorem dX8_look_189 : decode cX8_look 189 = .ok (.iload_n 1, 1) := by decide +kernel
theorem dX8_look_190 : decode cX8_look 190 = .ok (.iload 8, 2) := by decide +kernel
theorem dX8_look_192 : decode cX8_look 192 = .ok (.ifCond .eq 7, 3) := by decide +kernel
theorem dX8_look_195 : decode cX8_look 195 = .ok (.iload_n 3, 1) := by decide +kernel
theorem dX8_look_196 : decode cX8_look 196 = .ok (.goto 9, 3) := by decide +kernel
theorem dX8_look_199 : decode cX8_look 199 = .ok (.aload_n 0, 1) := by decide +kernel
theorem dX8_look_200 : decode cX8_look 200 = .ok (.getfield 39, 3) := by decide +kernel
theorem dX8_look_203 : decode cX8_look 203 = .ok (.iload_n 1, 1) := by decide +kernel
theorem dX8_look_204 : decode cX8_look 204 = .ok (.iaload, 1) := by decide +kernel
theorem dX8_look_205 : decode cX8_look 205 = .ok (.iastore, 1) := by decide +kernel
theorem dX8_look_206 : decode cX8_look 206 = .ok (.iload 7, 2) := by decide +kernel
theorem dX8_look_208 : decode cX8_look 208 = .ok (.ifCond .ne 8, 3) := by decide +kernel
theorem dX8_look_211 : decode cX8_look 211 = .ok (.iload 8, 2) := by decide +kernel
theorem dX8_look_213 : decode cX8_look 213 = .ok (.ifCond .eq 7, 3) := by decide +kernel
theorem dX8_look_216 : decode cX8_look 216 = .ok (.iconst 1, 1) := by decide +kernel
theorem dX8_look_217 : decode cX8_look 217 = .ok (.goto 4, 3) := by decide +kernel
theorem dX8_look_220 : decode cX8_look 220 = .ok (.iconst 0, 1) := by decide +kernel
theorem dX8_look_221 : decode cX8_look 221 = .ok (.ireturn, 1) := by decide +kernel
set_option maxRecDepth 20000 in
theorem ggX8_kindOf_X8_isMet : GoodIn wsX8_kindOf wsX8_isMet := goodIn_r _ [7, 8, 9, 10, 6, 11, 12, 13, 14, 15, 16, 17, 18, 19, 20, 21, 22, 23, 24, 25, 26, 27, 28, 29, 30, 31, 32, 33, 34] (by decide +kernel) (by decide +kernel)
set_option maxRecDepth 20000 in
theorem gX8_kindOf_X8_isMet : GoodIn wsX8_kindOf (wsV RX8 152 RX8 yX8_isMet wsX8_isMet) := goodIn_app (goodIn_of _ (by decide +kernel)) ggX8_kindOf_X8_isMet
theorem dX8_kindOf_0 : decode cX8_kindOf 0 = .ok (.aload_n 0, 1) := by decide +kernel
theorem dX8_kindOf_1 : decode cX8_kindOf 1 = .ok (.iload_n 1, 1) := by decide +kernel
theorem dX8_kindOf_2 : decode cX8_kindOf 2 = .ok (.invokevirtual 152, 3) := by decide +kernel
theorem dX8_kindOf_5 : decode cX8_kindOf 5 = .ok (.ifCond .eq 7, 3) := by decide +kernel
theorem dX8_kindOf_8 : decode cX8_kindOf 8 = .ok (.iconst 0, 1) := by decide +kernel
theorem dX8_kindOf_9 : decode cX8_kindOf 9 = .ok (.goto 30, 3) := by decide +kernel
theorem dX8_kindOf_12 : decode cX8_kindOf 12 = .ok (.aload_n 0, 1) := by decide +kernel
theorem dX8_kindOf_13 : decode cX8_kindOf 13 = .ok (.getfield 39, 3) := by decide +kernel
theorem dX8_kindOf_16 : decode cX8_kindOf 16 = .ok (.iload_n 1, 1) := by decide +kernel
theorem dX8_kindOf_17 : decode cX8_kindOf 17 = .ok (.iaload, 1) := by decide +kernel
theorem dX8_kindOf_18 : decode cX8_kindOf 18 = .ok (.ifCond .lt 7, 3) := by decide +kernel
theorem dX8_kindOf_21 : decode cX8_kindOf 21 = .ok (.iconst 1, 1) := by decide +kernel
theorem dX8_kindOf_22 : decode cX8_kindOf 22 = .ok (.goto 17, 3) := by decide +kernel
theorem dX8_kindOf_25 : decode cX8_kindOf 25 = .ok (.aload_n 0, 1) := by decide +kernel
theorem dX8_kindOf_26 : decode cX8_kindOf 26 = .ok (.getfield 36, 3) := by decide +kernel
theorem dX8_kindOf_29 : decode cX8_kindOf 29 = .ok (.iload_n 1, 1) := by decide +kernel
theorem dX8_kindOf_30 : decode cX8_kindOf 30 = .ok (.iaload, 1) := by decide +kernel
theorem dX8_kindOf_31 : decode cX8_kindOf 31 = .ok (.ifCond .lt 7, 3) := by decide +kernel
theorem dX8_kindOf_34 : decode cX8_kindOf 34 = .ok (.iconst 2, 1) := by decide +kernel
theorem dX8_kindOf_35 : decode cX8_kindOf 35 = .ok (.goto 4, 3) := by decide +kernel
theorem dX8_kindOf_38 : decode cX8_kindOf 38 = .ok (.iconst 3, 1) := by decide +kernel
theorem dX8_kindOf_39 : decode cX8_kindOf 39 = .ok (.ireturn, 1) := by decide +kernel
set_option maxRecDepth 20000 in
theorem ggX8_layNow_X8_begin : GoodIn wsX8_layNow wsX8_begin := goodIn_r _ [5, 6, 7, 8, 9, 10, 106, 107, 108, 109, 110, 111, 112, 113, 114, 115, 116, 117, 118, 119] (by decide +kernel) (by decide +kernel)
set_option maxRecDepth 20000 in
theorem gX8_layNow_X8_begin : GoodIn wsX8_layNow (wsV RX8 161 RX8 yX8_begin wsX8_begin) := goodIn_app (goodIn_of _ (by decide +kernel)) ggX8_layNow_X8_begin
set_option maxRecDepth 20000 in
theorem ggX8_layNow_X8_now : GoodIn wsX8_layNow wsX8_now := goodIn_r _ [14, 15, 16, 17, 18, 19, 4, 20, 106, 107, 108, 109, 110, 111, 112, 113, 114, 115, 116, 117, 118, 119] (by decide +kernel) (by decide +kernel)
set_option maxRecDepth 20000 in
theorem gX8_layNow_X8_now : GoodIn wsX8_layNow (wsV RX8 83 RX8 yX8_now wsX8_now) := goodIn_app (goodIn_of _ (by decide +kernel)) ggX8_layNow_X8_now
set_option maxRecDepth 20000 in
theorem ggX8_layNow_X8_note : GoodIn wsX8_layNow wsX8_note := goodIn_r _ [24, 7, 25, 8, 10, 16, 9, 26, 27, 28, 29, 4, 30, 17, 18, 19, 20, 15, 31, 32, 33, 34, 35, 36, 37, 38, 39, 40, 41, 42, 43, 44, 45, 46, 47, 48, 49, 50, 51, 52, 53, 54, 55, 56, 57, 58, 59, 60, 61, 62, 63, 64, 65, 66, 67, 68, 69, 70, 71, 72, 106, 107, 108, 109, 110, 111, 112, 113, 114, 115, 116, 117, 118, 119] (by decide +kernel) (by decide +kernel)
set_option maxRecDepth 20000 in
theorem gX8_layNow_X8_note : GoodIn wsX8_layNow (wsV RX8 148 RX8 yX8_note wsX8_note) := goodIn_app (goodIn_of _ (by decide +kernel)) ggX8_layNow_X8_note
set_option maxRecDepth 20000 in
theorem ggX8_layNow_X8_listAll : GoodIn wsX8_layNow wsX8_listAll := goodIn_r _ [76, 8, 25, 77, 78, 79, 80, 81, 4, 82, 26, 27, 28, 29, 30, 16, 17, 18, 19, 20, 15, 83, 84, 85, 86, 87, 88, 89, 90, 31, 32, 33, 61, 62, 63, 64, 21, 22, 23, 24, 7, 10, 9, 34, 35, 36, 37, 38, 39, 40, 41, 42, 43, 44, 45, 46, 47, 48, 49, 50, 51, 52, 53, 54, 55, 56, 57, 58, 59, 60, 65, 66, 67, 68, 69, 70, 71, 72, 91, 92, 93, 94, 95, 96, 97, 98, 99, 100, 101, 102, 103, 104, 105, 106, 107, 108, 109, 110, 111, 112, 113, 114, 115, 116, 117, 118, 119] (by decide +kernel) (by decide +kernel)
set_option maxRecDepth 20000 in
theorem gX8_layNow_X8_listAll : GoodIn wsX8_layNow (wsV RX8 165 RX8 yX8_listAll wsX8_listAll) := goodIn_app (goodIn_of _ (by decide +kernel)) ggX8_layNow_X8_listAll
theorem dX8_layNow_0 : decode cX8_layNow 0 = .ok (.aload_n 0, 1) := by decide +kernel
theorem dX8_layNow_1 : decode cX8_layNow 1 = .ok (.iload_n 2, 1) := by decide +kernel
theorem dX8_layNow_2 : decode cX8_layNow 2 = .ok (.invokevirtual 161, 3) := by decide +kernel
theorem dX8_layNow_5 : decode cX8_layNow 5 = .ok (.aload_n 0, 1) := by decide +kernel
theorem dX8_layNow_6 : decode cX8_layNow 6 = .ok (.aload_n 0, 1) := by decide +kernel
theorem dX8_layNow_7 : decode cX8_layNow 7 = .ok (.invokevirtual 83, 3) := by decide +kernel
theorem dX8_layNow_10 : decode cX8_layNow 10 = .ok (.invokevirtual 148, 3) := by decide +kernel
theorem dX8_layNow_13 : decode cX8_layNow 13 = .ok (.aload_n 0, 1) := by decide +kernel
theorem dX8_layNow_14 : decode cX8_layNow 14 = .ok (.iload_n 1, 1) := by decide +kernel
theorem dX8_layNow_15 : decode cX8_layNow 15 = .ok (.invokevirtual 165, 3) := by decide +kernel
theorem dX8_layNow_18 : decode cX8_layNow 18 = .ok (.return_, 1) := by decide +kernel
set_option maxRecDepth 20000 in
theorem ggX8_stuck_X8_isMet : GoodIn wsX8_stuck wsX8_isMet := goodIn_r _ [7, 8, 9, 10, 6, 11, 12, 13, 14, 15, 16, 17, 18, 19, 20, 26, 27, 28, 29, 30, 31, 32, 33, 34, 35, 36, 37, 38, 39] (by decide +kernel) (by decide +kernel)
set_option maxRecDepth 20000 in
theorem gX8_stuck_X8_isMet : GoodIn wsX8_stuck (wsV RX8 152 RX8 yX8_isMet wsX8_isMet) := goodIn_app (goodIn_of _ (by decide +kernel)) ggX8_stuck_X8_isMet
set_option maxRecDepth 20000 in
theorem ggX8_stuck_X8_movers : GoodIn wsX8_stuck wsX8_movers := goodIn_r _ [24, 25, 8, 9, 10, 6, 11, 12, 13, 14, 15, 16, 17, 26, 27, 28, 29, 30, 31, 32, 33, 34, 35, 36, 37, 38, 39] (by decide +kernel) (by decide +kernel)
set_option maxRecDepth 20000 in
theorem gX8_stuck_X8_movers : GoodIn wsX8_stuck (wsV RX8 139 RX8 yX8_movers wsX8_movers) := goodIn_app (goodIn_of _ (by decide +kernel)) ggX8_stuck_X8_movers
theorem dX8_stuck_0 : decode cX8_stuck 0 = .ok (.iconst 0, 1) := by decide +kernel
theorem dX8_stuck_1 : decode cX8_stuck 1 = .ok (.istore_n 1, 1) := by decide +kernel
theorem dX8_stuck_2 : decode cX8_stuck 2 = .ok (.iconst 0, 1) := by decide +kernel
theorem dX8_stuck_3 : decode cX8_stuck 3 = .ok (.istore_n 2, 1) := by decide +kernel
theorem dX8_stuck_4 : decode cX8_stuck 4 = .ok (.iload_n 2, 1) := by decide +kernel
theorem dX8_stuck_5 : decode cX8_stuck 5 = .ok (.aload_n 0, 1) := by decide +kernel
theorem dX8_stuck_6 : decode cX8_stuck 6 = .ok (.getfield 128, 3) := by decide +kernel
theorem dX8_stuck_9 : decode cX8_stuck 9 = .ok (.if_icmp .ge 43, 3) := by decide +kernel
theorem dX8_stuck_12 : decode cX8_stuck 12 = .ok (.iload_n 1, 1) := by decide +kernel
theorem dX8_stuck_13 : decode cX8_stuck 13 = .ok (.aload_n 0, 1) := by decide +kernel
theorem dX8_stuck_14 : decode cX8_stuck 14 = .ok (.aload_n 0, 1) := by decide +kernel
theorem dX8_stuck_15 : decode cX8_stuck 15 = .ok (.getfield 27, 3) := by decide +kernel
theorem dX8_stuck_18 : decode cX8_stuck 18 = .ok (.iload_n 2, 1) := by decide +kernel
theorem dX8_stuck_19 : decode cX8_stuck 19 = .ok (.iaload, 1) := by decide +kernel
theorem dX8_stuck_20 : decode cX8_stuck 20 = .ok (.invokevirtual 152, 3) := by decide +kernel
theorem dX8_stuck_23 : decode cX8_stuck 23 = .ok (.ifCond .ne 20, 3) := by decide +kernel
theorem dX8_stuck_26 : decode cX8_stuck 26 = .ok (.aload_n 0, 1) := by decide +kernel
theorem dX8_stuck_27 : decode cX8_stuck 27 = .ok (.aload_n 0, 1) := by decide +kernel
theorem dX8_stuck_28 : decode cX8_stuck 28 = .ok (.getfield 27, 3) := by decide +kernel
theorem dX8_stuck_31 : decode cX8_stuck 31 = .ok (.iload_n 2, 1) := by decide +kernel
theorem dX8_stuck_32 : decode cX8_stuck 32 = .ok (.iaload, 1) := by decide +kernel
theorem dX8_stuck_33 : decode cX8_stuck 33 = .ok (.invokevirtual 139, 3) := by decide +kernel
theorem dX8_stuck_36 : decode cX8_stuck 36 = .ok (.ifCond .ne 7, 3) := by decide +kernel
theorem dX8_stuck_39 : decode cX8_stuck 39 = .ok (.iconst 1, 1) := by decide +kernel
theorem dX8_stuck_40 : decode cX8_stuck 40 = .ok (.goto 4, 3) := by decide +kernel
theorem dX8_stuck_43 : decode cX8_stuck 43 = .ok (.iconst 0, 1) := by decide +kernel
theorem dX8_stuck_44 : decode cX8_stuck 44 = .ok (.iadd, 1) := by decide +kernel
theorem dX8_stuck_45 : decode cX8_stuck 45 = .ok (.istore_n 1, 1) := by decide +kernel
theorem dX8_stuck_46 : decode cX8_stuck 46 = .ok (.iinc 2 1, 3) := by decide +kernel
theorem dX8_stuck_49 : decode cX8_stuck 49 = .ok (.goto (-45), 3) := by decide +kernel
theorem dX8_stuck_52 : decode cX8_stuck 52 = .ok (.iload_n 1, 1) := by decide +kernel
theorem dX8_stuck_53 : decode cX8_stuck 53 = .ok (.ireturn, 1) := by decide +kernel
set_option maxRecDepth 20000 in
theorem ggX8_meets_X8_isSchedule : GoodIn wsX8_meets wsX8_isSchedule := goodIn_r _ [7, 8, 9, 6, 10] (by decide +kernel) (by decide +kernel)
set_option maxRecDepth 20000 in
theorem gX8_meets_X8_isSchedule : GoodIn wsX8_meets (va_wsS RX8 168 yX8_isSchedule wsX8_isSchedule) := goodIn_app (goodIn_of _ (by decide +kernel)) ggX8_meets_X8_isSchedule
set_option maxRecDepth 20000 in
theorem ggX8_meets_X8_in : GoodIn wsX8_meets wsX8_in := goodIn_r _ [10] (by decide +kernel) (by decide +kernel)
set_option maxRecDepth 20000 in
theorem gX8_meets_X8_in : GoodIn wsX8_meets (va_wsS RX8 49 yX8_in wsX8_in) := goodIn_app (goodIn_of _ (by decide +kernel)) ggX8_meets_X8_in
set_option maxRecDepth 20000 in
theorem ggX8_meets_X8_now : GoodIn wsX8_meets wsX8_now := goodIn_r _ [14, 15, 16, 17, 18, 19, 6, 20, 121, 122, 123, 124, 125, 126, 127, 128, 129, 130, 131, 132, 133, 134] (by decide +kernel) (by decide +kernel)
set_option maxRecDepth 20000 in
theorem gX8_meets_X8_now : GoodIn wsX8_meets (wsV RX8 83 RX8 yX8_now wsX8_now) := goodIn_app (goodIn_of _ (by decide +kernel)) ggX8_meets_X8_now
set_option maxRecDepth 20000 in
theorem ggX8_meets_X8_layNow : GoodIn wsX8_meets wsX8_layNow := goodIn_r _ [24, 25, 26, 27, 6, 28, 29, 30, 3, 31, 32, 11, 12, 13, 14, 15, 16, 17, 18, 19, 20, 33, 34, 35, 36, 37, 38, 39, 40, 41, 42, 43, 44, 45, 46, 47, 48, 49, 50, 51, 52, 53, 54, 55, 56, 57, 58, 59, 60, 61, 62, 63, 64, 65, 66, 67, 68, 69, 70, 71, 72, 73, 74, 75, 76, 77, 78, 79, 80, 81, 82, 83, 84, 85, 86, 87, 88, 1, 2, 89, 90, 91, 92, 93, 94, 95, 96, 97, 98, 99, 100, 101, 102, 103, 104, 105, 106, 107, 108, 109, 110, 111, 112, 8, 9, 10, 121, 122, 123, 124, 125, 126, 127, 128, 129, 130, 131, 132, 133, 134] (by decide +kernel) (by decide +kernel)
set_option maxRecDepth 20000 in
theorem gX8_meets_X8_layNow : GoodIn wsX8_meets (wsV RX8 171 RX8 yX8_layNow wsX8_layNow) := goodIn_app (goodIn_of _ (by decide +kernel)) ggX8_meets_X8_layNow
set_option maxRecDepth 20000 in
theorem ggX8_meets_X8_kindOf : GoodIn wsX8_meets wsX8_kindOf := goodIn_r _ [116, 2, 1, 101, 102, 103, 6, 104, 39, 40, 41, 42, 16, 17, 18, 19, 20, 15, 54, 55, 56, 121, 122, 123, 124, 125, 126, 127, 128, 129, 130, 131, 132, 133, 134] (by decide +kernel) (by decide +kernel)
set_option maxRecDepth 20000 in
theorem gX8_meets_X8_kindOf : GoodIn wsX8_meets (wsV RX8 175 RX8 yX8_kindOf wsX8_kindOf) := goodIn_app (goodIn_of _ (by decide +kernel)) ggX8_meets_X8_kindOf
set_option maxRecDepth 20000 in
theorem ggX8_meets_X8_stuck : GoodIn wsX8_meets wsX8_stuck := goodIn_r _ [120, 3, 37, 101, 102, 103, 6, 104, 39, 40, 41, 42, 16, 17, 18, 19, 20, 15, 54, 55, 56, 89, 90, 91, 92, 38, 121, 122, 123, 124, 125, 126, 127, 128, 129, 130, 131, 132, 133, 134] (by decide +kernel) (by decide +kernel)
set_option maxRecDepth 20000 in
theorem gX8_meets_X8_stuck : GoodIn wsX8_meets (wsV RX8 178 RX8 yX8_stuck wsX8_stuck) := goodIn_app (goodIn_of _ (by decide +kernel)) ggX8_meets_X8_stuck
theorem dX8_meets_0 : decode cX8_meets 0 = .ok (.iload_n 1, 1) := by decide +kernel
theorem dX8_meets_1 : decode cX8_meets 1 = .ok (.invokestatic 168, 3) := by decide +kernel
theorem dX8_meets_4 : decode cX8_meets 4 = .ok (.ifCond .eq 12, 3) := by decide +kernel
theorem dX8_meets_7 : decode cX8_meets 7 = .ok (.iload_n 2, 1) := by decide +kernel
theorem dX8_meets_8 : decode cX8_meets 8 = .ok (.iconst 0, 1) := by decide +kernel
theorem dX8_meets_9 : decode cX8_meets 9 = .ok (.iconst 4, 1) := by decide +kernel
theorem dX8_meets_10 : decode cX8_meets 10 = .ok (.invokestatic 49, 3) := by decide +kernel
theorem dX8_meets_13 : decode cX8_meets 13 = .ok (.ifCond .ne 6, 3) := by decide +kernel
theorem dX8_meets_16 : decode cX8_meets 16 = .ok (.bipush (-2), 2) := by decide +kernel
theorem dX8_meets_18 : decode cX8_meets 18 = .ok (.ireturn, 1) := by decide +kernel
theorem dX8_meets_19 : decode cX8_meets 19 = .ok (.aload_n 0, 1) := by decide +kernel
theorem dX8_meets_20 : decode cX8_meets 20 = .ok (.invokevirtual 83, 3) := by decide +kernel
theorem dX8_meets_23 : decode cX8_meets 23 = .ok (.istore_n 3, 1) := by decide +kernel
theorem dX8_meets_24 : decode cX8_meets 24 = .ok (.iload_n 3, 1) := by decide +kernel
theorem dX8_meets_25 : decode cX8_meets 25 = .ok (.ifCond .ne 6, 3) := by decide +kernel
theorem dX8_meets_28 : decode cX8_meets 28 = .ok (.bipush (-3), 2) := by decide +kernel
theorem dX8_meets_30 : decode cX8_meets 30 = .ok (.ireturn, 1) := by decide +kernel
theorem dX8_meets_31 : decode cX8_meets 31 = .ok (.aload_n 0, 1) := by decide +kernel
theorem dX8_meets_32 : decode cX8_meets 32 = .ok (.iload_n 1, 1) := by decide +kernel
theorem dX8_meets_33 : decode cX8_meets 33 = .ok (.iconst 0, 1) := by decide +kernel
theorem dX8_meets_34 : decode cX8_meets 34 = .ok (.invokevirtual 171, 3) := by decide +kernel
theorem dX8_meets_37 : decode cX8_meets 37 = .ok (.iload_n 2, 1) := by decide +kernel
theorem dX8_meets_38 : decode cX8_meets 38 = .ok (.tableswitch 55 0 3 #[30, 37, 44, 50], 30) := by decide +kernel
theorem dX8_meets_68 : decode cX8_meets 68 = .ok (.aload_n 0, 1) := by decide +kernel
theorem dX8_meets_69 : decode cX8_meets 69 = .ok (.getfield 36, 3) := by decide +kernel
theorem dX8_meets_72 : decode cX8_meets 72 = .ok (.iload_n 3, 1) := by decide +kernel
theorem dX8_meets_73 : decode cX8_meets 73 = .ok (.iaload, 1) := by decide +kernel
theorem dX8_meets_74 : decode cX8_meets 74 = .ok (.ireturn, 1) := by decide +kernel
theorem dX8_meets_75 : decode cX8_meets 75 = .ok (.aload_n 0, 1) := by decide +kernel
theorem dX8_meets_76 : decode cX8_meets 76 = .ok (.getfield 39, 3) := by decide +kernel
theorem dX8_meets_79 : decode cX8_meets 79 = .ok (.iload_n 3, 1) := by decide +kernel
theorem dX8_meets_80 : decode cX8_meets 80 = .ok (.iaload, 1) := by decide +kernel
theorem dX8_meets_81 : decode cX8_meets 81 = .ok (.ireturn, 1) := by decide +kernel
theorem dX8_meets_82 : decode cX8_meets 82 = .ok (.aload_n 0, 1) := by decide +kernel
theorem dX8_meets_83 : decode cX8_meets 83 = .ok (.iload_n 3, 1) := by decide +kernel
theorem dX8_meets_84 : decode cX8_meets 84 = .ok (.invokevirtual 175, 3) := by decide +kernel
theorem dX8_meets_87 : decode cX8_meets 87 = .ok (.ireturn, 1) := by decide +kernel
theorem dX8_meets_88 : decode cX8_meets 88 = .ok (.aload_n 0, 1) := by decide +kernel
theorem dX8_meets_89 : decode cX8_meets 89 = .ok (.getfield 128, 3) := by decide +kernel
theorem dX8_meets_92 : decode cX8_meets 92 = .ok (.ireturn, 1) := by decide +kernel
theorem dX8_meets_93 : decode cX8_meets 93 = .ok (.aload_n 0, 1) := by decide +kernel
theorem dX8_meets_94 : decode cX8_meets 94 = .ok (.invokevirtual 178, 3) := by decide +kernel
theorem dX8_meets_97 : decode cX8_meets 97 = .ok (.ireturn, 1) := by decide +kernel
set_option maxRecDepth 20000 in
theorem ggX8_first_X8_isSchedule : GoodIn wsX8_first wsX8_isSchedule := goodIn_r _ [5, 6, 7, 4, 8] (by decide +kernel) (by decide +kernel)
set_option maxRecDepth 20000 in
theorem gX8_first_X8_isSchedule : GoodIn wsX8_first (va_wsS RX8 168 yX8_isSchedule wsX8_isSchedule) := goodIn_app (goodIn_of _ (by decide +kernel)) ggX8_first_X8_isSchedule
set_option maxRecDepth 20000 in
theorem ggX8_first_X8_now : GoodIn wsX8_first wsX8_now := goodIn_r _ [12, 13, 14, 15, 16, 17, 4, 18, 113, 114, 115, 116, 117, 118, 119, 120, 121, 122, 123, 124, 125, 126] (by decide +kernel) (by decide +kernel)
set_option maxRecDepth 20000 in
theorem gX8_first_X8_now : GoodIn wsX8_first (wsV RX8 83 RX8 yX8_now wsX8_now) := goodIn_app (goodIn_of _ (by decide +kernel)) ggX8_first_X8_now
set_option maxRecDepth 20000 in
theorem ggX8_first_X8_layNow : GoodIn wsX8_first wsX8_layNow := goodIn_r _ [22, 23, 24, 25, 4, 26, 27, 28, 29, 30, 31, 9, 10, 11, 12, 13, 14, 15, 16, 17, 18, 32, 33, 34, 35, 36, 37, 38, 39, 40, 41, 42, 43, 44, 45, 46, 47, 48, 49, 50, 51, 52, 53, 54, 55, 56, 57, 58, 59, 60, 61, 62, 63, 64, 65, 66, 67, 68, 69, 70, 71, 72, 73, 74, 75, 76, 77, 78, 79, 80, 81, 82, 83, 84, 85, 86, 87, 1, 88, 89, 90, 91, 92, 93, 94, 95, 96, 97, 98, 99, 100, 101, 102, 103, 104, 105, 106, 107, 108, 109, 110, 111, 112, 6, 7, 8, 113, 114, 115, 116, 117, 118, 119, 120, 121, 122, 123, 124, 125, 126] (by decide +kernel) (by decide +kernel)
set_option maxRecDepth 20000 in
theorem gX8_first_X8_layNow : GoodIn wsX8_first (wsV RX8 171 RX8 yX8_layNow wsX8_layNow) := goodIn_app (goodIn_of _ (by decide +kernel)) ggX8_first_X8_layNow
set_option maxRecDepth 20000 in
theorem ggX8_first_X8_movers : GoodIn wsX8_first wsX8_movers := goodIn_r _ [92, 37, 38, 39, 40, 4, 41, 14, 15, 16, 17, 18, 13, 113, 114, 115, 116, 117, 118, 119, 120, 121, 122, 123, 124, 125, 126] (by decide +kernel) (by decide +kernel)
set_option maxRecDepth 20000 in
theorem gX8_first_X8_movers : GoodIn wsX8_first (wsV RX8 139 RX8 yX8_movers wsX8_movers) := goodIn_app (goodIn_of _ (by decide +kernel)) ggX8_first_X8_movers
set_option maxRecDepth 20000 in
theorem ggX8_first_X8_mayBe : GoodIn wsX8_first wsX8_mayBe := goodIn_r _ [95] (by decide +kernel) (by decide +kernel)
set_option maxRecDepth 20000 in
theorem gX8_first_X8_mayBe : GoodIn wsX8_first (va_wsS RX8 142 yX8_mayBe wsX8_mayBe) := goodIn_app (goodIn_of _ (by decide +kernel)) ggX8_first_X8_mayBe
set_option maxRecDepth 20000 in
theorem ggX8_first_X8_behindStep : GoodIn wsX8_first wsX8_behindStep := goodIn_r _ [99, 100, 14, 37, 15, 16, 17, 4, 18, 13, 42, 43, 44, 72, 73, 74, 75, 113, 114, 115, 116, 117, 118, 119, 120, 121, 122, 123, 124, 125, 126] (by decide +kernel) (by decide +kernel)
set_option maxRecDepth 20000 in
theorem gX8_first_X8_behindStep : GoodIn wsX8_first (wsV RX8 145 RX8 yX8_behindStep wsX8_behindStep) := goodIn_app (goodIn_of _ (by decide +kernel)) ggX8_first_X8_behindStep
theorem dX8_first_0 : decode cX8_first 0 = .ok (.iload_n 1, 1) := by decide +kernel
theorem dX8_first_1 : decode cX8_first 1 = .ok (.invokestatic 168, 3) := by decide +kernel
theorem dX8_first_4 : decode cX8_first 4 = .ok (.ifCond .ne 6, 3) := by decide +kernel
theorem dX8_first_7 : decode cX8_first 7 = .ok (.bipush (-2), 2) := by decide +kernel
theorem dX8_first_9 : decode cX8_first 9 = .ok (.ireturn, 1) := by decide +kernel
theorem dX8_first_10 : decode cX8_first 10 = .ok (.aload_n 0, 1) := by decide +kernel
theorem dX8_first_11 : decode cX8_first 11 = .ok (.invokevirtual 83, 3) := by decide +kernel
theorem dX8_first_14 : decode cX8_first 14 = .ok (.istore_n 2, 1) := by decide +kernel
theorem dX8_first_15 : decode cX8_first 15 = .ok (.iload_n 2, 1) := by decide +kernel
theorem dX8_first_16 : decode cX8_first 16 = .ok (.ifCond .ne 6, 3) := by decide +kernel
theorem dX8_first_19 : decode cX8_first 19 = .ok (.bipush (-3), 2) := by decide +kernel
theorem dX8_first_21 : decode cX8_first 21 = .ok (.ireturn, 1) := by decide +kernel
theorem dX8_first_22 : decode cX8_first 22 = .ok (.aload_n 0, 1) := by decide +kernel
theorem dX8_first_23 : decode cX8_first 23 = .ok (.iload_n 1, 1) := by decide +kernel
theorem dX8_first_24 : decode cX8_first 24 = .ok (.iconst 0, 1) := by decide +kernel
theorem dX8_first_25 : decode cX8_first 25 = .ok (.invokevirtual 171, 3) := by decide +kernel
theorem dX8_first_28 : decode cX8_first 28 = .ok (.aload_n 0, 1) := by decide +kernel
theorem dX8_first_29 : decode cX8_first 29 = .ok (.iload_n 2, 1) := by decide +kernel
theorem dX8_first_30 : decode cX8_first 30 = .ok (.invokevirtual 139, 3) := by decide +kernel
theorem dX8_first_33 : decode cX8_first 33 = .ok (.istore_n 3, 1) := by decide +kernel
theorem dX8_first_34 : decode cX8_first 34 = .ok (.iload_n 3, 1) := by decide +kernel
theorem dX8_first_35 : decode cX8_first 35 = .ok (.ineg, 1) := by decide +kernel
theorem dX8_first_36 : decode cX8_first 36 = .ok (.iload_n 3, 1) := by decide +kernel
theorem dX8_first_37 : decode cX8_first 37 = .ok (.iand, 1) := by decide +kernel
theorem dX8_first_38 : decode cX8_first 38 = .ok (.istore 4, 2) := by decide +kernel
theorem dX8_first_40 : decode cX8_first 40 = .ok (.iload 4, 2) := by decide +kernel
theorem dX8_first_42 : decode cX8_first 42 = .ok (.ifCond .eq 59, 3) := by decide +kernel
theorem dX8_first_45 : decode cX8_first 45 = .ok (.aload_n 0, 1) := by decide +kernel
theorem dX8_first_46 : decode cX8_first 46 = .ok (.getfield 36, 3) := by decide +kernel
theorem dX8_first_49 : decode cX8_first 49 = .ok (.iload_n 2, 1) := by decide +kernel
theorem dX8_first_50 : decode cX8_first 50 = .ok (.iaload, 1) := by decide +kernel
theorem dX8_first_51 : decode cX8_first 51 = .ok (.ifCond .le 50, 3) := by decide +kernel
theorem dX8_first_54 : decode cX8_first 54 = .ok (.iload_n 1, 1) := by decide +kernel
theorem dX8_first_55 : decode cX8_first 55 = .ok (.iload 4, 2) := by decide +kernel
theorem dX8_first_57 : decode cX8_first 57 = .ok (.iload_n 3, 1) := by decide +kernel
theorem dX8_first_58 : decode cX8_first 58 = .ok (.invokestatic 142, 3) := by decide +kernel
theorem dX8_first_61 : decode cX8_first 61 = .ok (.ifCond .eq 29, 3) := by decide +kernel
theorem dX8_first_64 : decode cX8_first 64 = .ok (.aload_n 0, 1) := by decide +kernel
theorem dX8_first_65 : decode cX8_first 65 = .ok (.getfield 36, 3) := by decide +kernel
theorem dX8_first_68 : decode cX8_first 68 = .ok (.aload_n 0, 1) := by decide +kernel
theorem dX8_first_69 : decode cX8_first 69 = .ok (.iload_n 2, 1) := by decide +kernel
theorem dX8_first_70 : decode cX8_first 70 = .ok (.iload 4, 2) := by decide +kernel
theorem dX8_first_72 : decode cX8_first 72 = .ok (.invokevirtual 145, 3) := by decide +kernel
theorem dX8_first_75 : decode cX8_first 75 = .ok (.iaload, 1) := by decide +kernel
theorem dX8_first_76 : decode cX8_first 76 = .ok (.aload_n 0, 1) := by decide +kernel
theorem dX8_first_77 : decode cX8_first 77 = .ok (.getfield 36, 3) := by decide +kernel
theorem dX8_first_80 : decode cX8_first 80 = .ok (.iload_n 2, 1) := by decide +kernel
theorem dX8_first_81 : decode cX8_first 81 = .ok (.iaload, 1) := by decide +kernel
theorem dX8_first_82 : decode cX8_first 82 = .ok (.iconst 1, 1) := by decide +kernel
theorem dX8_first_83 : decode cX8_first 83 = .ok (.isub, 1) := by decide +kernel
theorem dX8_first_84 : decode cX8_first 84 = .ok (.if_icmp .ne 6, 3) := by decide +kernel
theorem dX8_first_87 : decode cX8_first 87 = .ok (.iload 4, 2) := by decide +kernel
theorem dX8_first_89 : decode cX8_first 89 = .ok (.ireturn, 1) := by decide +kernel
theorem dX8_first_90 : decode cX8_first 90 = .ok (.iload 4, 2) := by decide +kernel
theorem dX8_first_92 : decode cX8_first 92 = .ok (.iload_n 3, 1) := by decide +kernel
theorem dX8_first_93 : decode cX8_first 93 = .ok (.isub, 1) := by decide +kernel
theorem dX8_first_94 : decode cX8_first 94 = .ok (.iload_n 3, 1) := by decide +kernel
theorem dX8_first_95 : decode cX8_first 95 = .ok (.iand, 1) := by decide +kernel
theorem dX8_first_96 : decode cX8_first 96 = .ok (.istore 4, 2) := by decide +kernel
theorem dX8_first_98 : decode cX8_first 98 = .ok (.goto (-58), 3) := by decide +kernel
theorem dX8_first_101 : decode cX8_first 101 = .ok (.bipush (-6), 2) := by decide +kernel
theorem dX8_first_103 : decode cX8_first 103 = .ok (.ireturn, 1) := by decide +kernel
set_option maxRecDepth 20000 in
theorem ggX8_blind_X8_isSchedule : GoodIn wsX8_blind wsX8_isSchedule := goodIn_r _ [4, 5, 6, 3, 7] (by decide +kernel) (by decide +kernel)
set_option maxRecDepth 20000 in
theorem gX8_blind_X8_isSchedule : GoodIn wsX8_blind (va_wsS RX8 168 yX8_isSchedule wsX8_isSchedule) := goodIn_app (goodIn_of _ (by decide +kernel)) ggX8_blind_X8_isSchedule
set_option maxRecDepth 20000 in
theorem ggX8_blind_X8_now : GoodIn wsX8_blind wsX8_now := goodIn_r _ [11, 12, 13, 14, 15, 16, 3, 17, 117, 118, 119, 120, 121, 122, 123, 124, 125, 126, 127, 128, 129, 130] (by decide +kernel) (by decide +kernel)
set_option maxRecDepth 20000 in
theorem gX8_blind_X8_now : GoodIn wsX8_blind (wsV RX8 83 RX8 yX8_now wsX8_now) := goodIn_app (goodIn_of _ (by decide +kernel)) ggX8_blind_X8_now
set_option maxRecDepth 20000 in
theorem ggX8_blind_X8_layNow : GoodIn wsX8_blind wsX8_layNow := goodIn_r _ [21, 22, 23, 24, 3, 25, 26, 27, 28, 29, 30, 8, 9, 10, 11, 12, 13, 14, 15, 16, 17, 31, 32, 33, 34, 35, 36, 37, 38, 39, 40, 41, 42, 43, 44, 45, 46, 47, 48, 49, 50, 51, 52, 53, 54, 55, 56, 57, 58, 59, 60, 61, 62, 63, 64, 65, 66, 67, 68, 69, 70, 71, 72, 73, 74, 75, 76, 77, 78, 79, 80, 81, 82, 83, 84, 85, 86, 87, 88, 89, 90, 91, 92, 93, 94, 95, 96, 97, 98, 99, 100, 101, 102, 103, 104, 105, 106, 107, 108, 109, 110, 111, 112, 5, 6, 7, 117, 118, 119, 120, 121, 122, 123, 124, 125, 126, 127, 128, 129, 130] (by decide +kernel) (by decide +kernel)
set_option maxRecDepth 20000 in
theorem gX8_blind_X8_layNow : GoodIn wsX8_blind (wsV RX8 171 RX8 yX8_layNow wsX8_layNow) := goodIn_app (goodIn_of _ (by decide +kernel)) ggX8_blind_X8_layNow
set_option maxRecDepth 20000 in
theorem ggX8_blind_X8_kindOf : GoodIn wsX8_blind wsX8_kindOf := goodIn_r _ [116, 88, 87, 101, 102, 103, 3, 104, 37, 38, 39, 40, 13, 14, 15, 16, 17, 12, 52, 53, 54, 117, 118, 119, 120, 121, 122, 123, 124, 125, 126, 127, 128, 129, 130] (by decide +kernel) (by decide +kernel)
set_option maxRecDepth 20000 in
theorem gX8_blind_X8_kindOf : GoodIn wsX8_blind (wsV RX8 175 RX8 yX8_kindOf wsX8_kindOf) := goodIn_app (goodIn_of _ (by decide +kernel)) ggX8_blind_X8_kindOf
theorem dX8_blind_0 : decode cX8_blind 0 = .ok (.iload_n 1, 1) := by decide +kernel
theorem dX8_blind_1 : decode cX8_blind 1 = .ok (.invokestatic 168, 3) := by decide +kernel
theorem dX8_blind_4 : decode cX8_blind 4 = .ok (.ifCond .ne 6, 3) := by decide +kernel
theorem dX8_blind_7 : decode cX8_blind 7 = .ok (.bipush (-2), 2) := by decide +kernel
theorem dX8_blind_9 : decode cX8_blind 9 = .ok (.ireturn, 1) := by decide +kernel
theorem dX8_blind_10 : decode cX8_blind 10 = .ok (.aload_n 0, 1) := by decide +kernel
theorem dX8_blind_11 : decode cX8_blind 11 = .ok (.invokevirtual 83, 3) := by decide +kernel
theorem dX8_blind_14 : decode cX8_blind 14 = .ok (.istore_n 2, 1) := by decide +kernel
theorem dX8_blind_15 : decode cX8_blind 15 = .ok (.iload_n 2, 1) := by decide +kernel
theorem dX8_blind_16 : decode cX8_blind 16 = .ok (.ifCond .ne 6, 3) := by decide +kernel
theorem dX8_blind_19 : decode cX8_blind 19 = .ok (.bipush (-3), 2) := by decide +kernel
theorem dX8_blind_21 : decode cX8_blind 21 = .ok (.ireturn, 1) := by decide +kernel
theorem dX8_blind_22 : decode cX8_blind 22 = .ok (.aload_n 0, 1) := by decide +kernel
theorem dX8_blind_23 : decode cX8_blind 23 = .ok (.iload_n 1, 1) := by decide +kernel
theorem dX8_blind_24 : decode cX8_blind 24 = .ok (.iconst 1, 1) := by decide +kernel
theorem dX8_blind_25 : decode cX8_blind 25 = .ok (.invokevirtual 171, 3) := by decide +kernel
theorem dX8_blind_28 : decode cX8_blind 28 = .ok (.aload_n 0, 1) := by decide +kernel
theorem dX8_blind_29 : decode cX8_blind 29 = .ok (.iload_n 2, 1) := by decide +kernel
theorem dX8_blind_30 : decode cX8_blind 30 = .ok (.invokevirtual 175, 3) := by decide +kernel
theorem dX8_blind_33 : decode cX8_blind 33 = .ok (.ireturn, 1) := by decide +kernel
set_option maxRecDepth 20000 in
theorem ggX8_used_X8_isSchedule : GoodIn wsX8_used wsX8_isSchedule := goodIn_r _ [5, 6, 7, 4, 8] (by decide +kernel) (by decide +kernel)
set_option maxRecDepth 20000 in
theorem gX8_used_X8_isSchedule : GoodIn wsX8_used (va_wsS RX8 168 yX8_isSchedule wsX8_isSchedule) := goodIn_app (goodIn_of _ (by decide +kernel)) ggX8_used_X8_isSchedule
set_option maxRecDepth 20000 in
theorem ggX8_used_X8_now : GoodIn wsX8_used wsX8_now := goodIn_r _ [12, 13, 14, 15, 16, 17, 4, 18, 113, 114, 115, 116, 117, 118, 119, 120, 121, 122, 123, 124, 125, 126] (by decide +kernel) (by decide +kernel)
set_option maxRecDepth 20000 in
theorem gX8_used_X8_now : GoodIn wsX8_used (wsV RX8 83 RX8 yX8_now wsX8_now) := goodIn_app (goodIn_of _ (by decide +kernel)) ggX8_used_X8_now
set_option maxRecDepth 20000 in
theorem ggX8_used_X8_layNow : GoodIn wsX8_used wsX8_layNow := goodIn_r _ [22, 23, 24, 25, 4, 26, 27, 28, 29, 1, 30, 9, 10, 11, 12, 13, 14, 15, 16, 17, 18, 31, 32, 33, 34, 35, 36, 37, 38, 39, 40, 41, 42, 43, 44, 45, 46, 47, 48, 49, 50, 51, 52, 53, 54, 55, 56, 57, 58, 59, 60, 61, 62, 63, 64, 65, 66, 67, 68, 69, 70, 71, 72, 73, 74, 75, 76, 77, 78, 79, 80, 81, 82, 83, 84, 85, 86, 87, 88, 89, 90, 91, 92, 93, 94, 95, 96, 97, 98, 99, 100, 101, 102, 103, 104, 105, 106, 107, 108, 109, 110, 111, 112, 6, 7, 8, 113, 114, 115, 116, 117, 118, 119, 120, 121, 122, 123, 124, 125, 126] (by decide +kernel) (by decide +kernel)
set_option maxRecDepth 20000 in
theorem gX8_used_X8_layNow : GoodIn wsX8_used (wsV RX8 171 RX8 yX8_layNow wsX8_layNow) := goodIn_app (goodIn_of _ (by decide +kernel)) ggX8_used_X8_layNow
theorem dX8_used_0 : decode cX8_used 0 = .ok (.iload_n 1, 1) := by decide +kernel
theorem dX8_used_1 : decode cX8_used 1 = .ok (.invokestatic 168, 3) := by decide +kernel
theorem dX8_used_4 : decode cX8_used 4 = .ok (.ifCond .ne 6, 3) := by decide +kernel
theorem dX8_used_7 : decode cX8_used 7 = .ok (.bipush (-2), 2) := by decide +kernel
theorem dX8_used_9 : decode cX8_used 9 = .ok (.ireturn, 1) := by decide +kernel
theorem dX8_used_10 : decode cX8_used 10 = .ok (.aload_n 0, 1) := by decide +kernel
theorem dX8_used_11 : decode cX8_used 11 = .ok (.invokevirtual 83, 3) := by decide +kernel
theorem dX8_used_14 : decode cX8_used 14 = .ok (.ifCond .ne 6, 3) := by decide +kernel
theorem dX8_used_17 : decode cX8_used 17 = .ok (.bipush (-3), 2) := by decide +kernel
theorem dX8_used_19 : decode cX8_used 19 = .ok (.ireturn, 1) := by decide +kernel
theorem dX8_used_20 : decode cX8_used 20 = .ok (.aload_n 0, 1) := by decide +kernel
theorem dX8_used_21 : decode cX8_used 21 = .ok (.iload_n 1, 1) := by decide +kernel
theorem dX8_used_22 : decode cX8_used 22 = .ok (.iconst 0, 1) := by decide +kernel
theorem dX8_used_23 : decode cX8_used 23 = .ok (.invokevirtual 171, 3) := by decide +kernel
theorem dX8_used_26 : decode cX8_used 26 = .ok (.aload_n 0, 1) := by decide +kernel
theorem dX8_used_27 : decode cX8_used 27 = .ok (.getfield 136, 3) := by decide +kernel
theorem dX8_used_30 : decode cX8_used 30 = .ok (.ireturn, 1) := by decide +kernel
set_option maxRecDepth 20000 in
theorem ggX8_all_X8_in : GoodIn wsX8_all wsX8_in := goodIn_r _ [4] (by decide +kernel) (by decide +kernel)
set_option maxRecDepth 20000 in
theorem gX8_all_X8_in : GoodIn wsX8_all (va_wsS RX8 49 yX8_in wsX8_in) := goodIn_app (goodIn_of _ (by decide +kernel)) ggX8_all_X8_in
set_option maxRecDepth 20000 in
theorem ggX8_all_X8_cells : GoodIn wsX8_all wsX8_cells := goodIn_r _ [8, 9, 113, 114, 115, 116, 117, 118, 119, 120, 121, 122, 123, 124, 125, 126] (by decide +kernel) (by decide +kernel)
set_option maxRecDepth 20000 in
theorem gX8_all_X8_cells : GoodIn wsX8_all (wsV RX8 45 RX8 yX8_cells wsX8_cells) := goodIn_app (goodIn_of _ (by decide +kernel)) ggX8_all_X8_cells
set_option maxRecDepth 20000 in
theorem ggX8_all_X8_isSchedule : GoodIn wsX8_all wsX8_isSchedule := goodIn_r _ [12, 1, 2, 3, 4] (by decide +kernel) (by decide +kernel)
set_option maxRecDepth 20000 in
theorem gX8_all_X8_isSchedule : GoodIn wsX8_all (va_wsS RX8 168 yX8_isSchedule wsX8_isSchedule) := goodIn_app (goodIn_of _ (by decide +kernel)) ggX8_all_X8_isSchedule
set_option maxRecDepth 20000 in
theorem ggX8_all_X8_begin : GoodIn wsX8_all wsX8_begin := goodIn_r _ [16, 17, 18, 19, 20, 21, 113, 114, 115, 116, 117, 118, 119, 120, 121, 122, 123, 124, 125, 126] (by decide +kernel) (by decide +kernel)
set_option maxRecDepth 20000 in
theorem gX8_all_X8_begin : GoodIn wsX8_all (wsV RX8 161 RX8 yX8_begin wsX8_begin) := goodIn_app (goodIn_of _ (by decide +kernel)) ggX8_all_X8_begin
set_option maxRecDepth 20000 in
theorem ggX8_all_X8_size : GoodIn wsX8_all wsX8_size := goodIn_r _ [24] (by decide +kernel) (by decide +kernel)
set_option maxRecDepth 20000 in
theorem gX8_all_X8_size : GoodIn wsX8_all (va_wsS RX8 68 yX8_size wsX8_size) := goodIn_app (goodIn_of _ (by decide +kernel)) ggX8_all_X8_size
set_option maxRecDepth 20000 in
theorem ggX8_all_X8_singles : GoodIn wsX8_all wsX8_singles := goodIn_r _ [28, 29, 5, 6, 7, 3, 8, 9, 30, 31, 32, 113, 114, 115, 116, 117, 118, 119, 120, 121, 122, 123, 124, 125, 126] (by decide +kernel) (by decide +kernel)
set_option maxRecDepth 20000 in
theorem gX8_all_X8_singles : GoodIn wsX8_all (wsV RX8 181 RX8 yX8_singles wsX8_singles) := goodIn_app (goodIn_of _ (by decide +kernel)) ggX8_all_X8_singles
set_option maxRecDepth 20000 in
theorem ggX8_all_X8_note : GoodIn wsX8_all wsX8_note := goodIn_r _ [36, 18, 37, 19, 21, 29, 20, 38, 39, 40, 41, 3, 42, 5, 6, 7, 8, 9, 30, 31, 32, 43, 44, 45, 46, 47, 48, 49, 50, 22, 23, 24, 51, 52, 53, 54, 55, 56, 57, 58, 59, 60, 61, 62, 63, 64, 65, 66, 67, 68, 69, 70, 71, 72, 73, 74, 75, 76, 77, 78, 113, 114, 115, 116, 117, 118, 119, 120, 121, 122, 123, 124, 125, 126] (by decide +kernel) (by decide +kernel)
set_option maxRecDepth 20000 in
theorem gX8_all_X8_note : GoodIn wsX8_all (wsV RX8 148 RX8 yX8_note wsX8_note) := goodIn_app (goodIn_of _ (by decide +kernel)) ggX8_all_X8_note
set_option maxRecDepth 20000 in
theorem ggX8_all_X8_listAll : GoodIn wsX8_all wsX8_listAll := goodIn_r _ [82, 19, 37, 83, 84, 85, 86, 87, 3, 88, 38, 39, 40, 41, 42, 29, 5, 6, 7, 8, 9, 89, 90, 91, 92, 93, 94, 95, 96, 30, 31, 32, 67, 68, 69, 70, 33, 34, 35, 36, 18, 21, 20, 43, 44, 45, 46, 47, 48, 49, 50, 22, 23, 24, 51, 52, 53, 54, 55, 56, 57, 58, 59, 60, 61, 62, 63, 64, 65, 66, 71, 72, 73, 74, 75, 76, 77, 78, 97, 98, 99, 100, 101, 102, 103, 104, 105, 106, 107, 108, 1, 2, 4, 113, 114, 115, 116, 117, 118, 119, 120, 121, 122, 123, 124, 125, 126] (by decide +kernel) (by decide +kernel)
set_option maxRecDepth 20000 in
theorem gX8_all_X8_listAll : GoodIn wsX8_all (wsV RX8 165 RX8 yX8_listAll wsX8_listAll) := goodIn_app (goodIn_of _ (by decide +kernel)) ggX8_all_X8_listAll
set_option maxRecDepth 20000 in
theorem ggX8_all_X8_kindOf : GoodIn wsX8_all wsX8_kindOf := goodIn_r _ [112, 84, 83, 97, 98, 99, 3, 100, 39, 40, 41, 42, 29, 5, 6, 7, 8, 9, 22, 23, 24, 113, 114, 115, 116, 117, 118, 119, 120, 121, 122, 123, 124, 125, 126] (by decide +kernel) (by decide +kernel)
set_option maxRecDepth 20000 in
theorem gX8_all_X8_kindOf : GoodIn wsX8_all (wsV RX8 175 RX8 yX8_kindOf wsX8_kindOf) := goodIn_app (goodIn_of _ (by decide +kernel)) ggX8_all_X8_kindOf
theorem dX8_all_0 : decode cX8_all 0 = .ok (.iload_n 1, 1) := by decide +kernel
theorem dX8_all_1 : decode cX8_all 1 = .ok (.iconst 1, 1) := by decide +kernel
theorem dX8_all_2 : decode cX8_all 2 = .ok (.iconst 5, 1) := by decide +kernel
theorem dX8_all_3 : decode cX8_all 3 = .ok (.invokestatic 49, 3) := by decide +kernel
theorem dX8_all_6 : decode cX8_all 6 = .ok (.ifCond .eq 27, 3) := by decide +kernel
theorem dX8_all_9 : decode cX8_all 9 = .ok (.iload_n 1, 1) := by decide +kernel
theorem dX8_all_10 : decode cX8_all 10 = .ok (.aload_n 0, 1) := by decide +kernel
theorem dX8_all_11 : decode cX8_all 11 = .ok (.invokevirtual 45, 3) := by decide +kernel
theorem dX8_all_14 : decode cX8_all 14 = .ok (.if_icmp .gt 19, 3) := by decide +kernel
theorem dX8_all_17 : decode cX8_all 17 = .ok (.iload_n 2, 1) := by decide +kernel
theorem dX8_all_18 : decode cX8_all 18 = .ok (.invokestatic 168, 3) := by decide +kernel
theorem dX8_all_21 : decode cX8_all 21 = .ok (.ifCond .eq 12, 3) := by decide +kernel
theorem dX8_all_24 : decode cX8_all 24 = .ok (.iload_n 3, 1) := by decide +kernel
theorem dX8_all_25 : decode cX8_all 25 = .ok (.iconst 0, 1) := by decide +kernel
theorem dX8_all_26 : decode cX8_all 26 = .ok (.iconst 3, 1) := by decide +kernel
theorem dX8_all_27 : decode cX8_all 27 = .ok (.invokestatic 49, 3) := by decide +kernel
theorem dX8_all_30 : decode cX8_all 30 = .ok (.ifCond .ne 6, 3) := by decide +kernel
theorem dX8_all_33 : decode cX8_all 33 = .ok (.bipush (-2), 2) := by decide +kernel
theorem dX8_all_35 : decode cX8_all 35 = .ok (.ireturn, 1) := by decide +kernel
theorem dX8_all_36 : decode cX8_all 36 = .ok (.aload_n 0, 1) := by decide +kernel
theorem dX8_all_37 : decode cX8_all 37 = .ok (.iconst 0, 1) := by decide +kernel
theorem dX8_all_38 : decode cX8_all 38 = .ok (.invokevirtual 161, 3) := by decide +kernel
theorem dX8_all_41 : decode cX8_all 41 = .ok (.iconst 1, 1) := by decide +kernel
theorem dX8_all_42 : decode cX8_all 42 = .ok (.istore 4, 2) := by decide +kernel
theorem dX8_all_44 : decode cX8_all 44 = .ok (.iload 4, 2) := by decide +kernel
theorem dX8_all_46 : decode cX8_all 46 = .ok (.iconst 1, 1) := by decide +kernel
theorem dX8_all_47 : decode cX8_all 47 = .ok (.aload_n 0, 1) := by decide +kernel
theorem dX8_all_48 : decode cX8_all 48 = .ok (.invokevirtual 45, 3) := by decide +kernel
theorem dX8_all_51 : decode cX8_all 51 = .ok (.ishl, 1) := by decide +kernel
theorem dX8_all_52 : decode cX8_all 52 = .ok (.if_icmp .ge 28, 3) := by decide +kernel
theorem dX8_all_55 : decode cX8_all 55 = .ok (.iload 4, 2) := by decide +kernel
theorem dX8_all_57 : decode cX8_all 57 = .ok (.invokestatic 68, 3) := by decide +kernel
theorem dX8_all_60 : decode cX8_all 60 = .ok (.iload_n 1, 1) := by decide +kernel
theorem dX8_all_61 : decode cX8_all 61 = .ok (.if_icmp .ne 13, 3) := by decide +kernel
theorem dX8_all_64 : decode cX8_all 64 = .ok (.aload_n 0, 1) := by decide +kernel
theorem dX8_all_65 : decode cX8_all 65 = .ok (.aload_n 0, 1) := by decide +kernel
theorem dX8_all_66 : decode cX8_all 66 = .ok (.iload 4, 2) := by decide +kernel
theorem dX8_all_68 : decode cX8_all 68 = .ok (.invokevirtual 181, 3) := by decide +kernel
theorem dX8_all_71 : decode cX8_all 71 = .ok (.invokevirtual 148, 3) := by decide +kernel
theorem dX8_all_74 : decode cX8_all 74 = .ok (.iinc 4 1, 3) := by decide +kernel
theorem dX8_all_77 : decode cX8_all 77 = .ok (.goto (-33), 3) := by decide +kernel
theorem dX8_all_80 : decode cX8_all 80 = .ok (.aload_n 0, 1) := by decide +kernel
theorem dX8_all_81 : decode cX8_all 81 = .ok (.iload_n 2, 1) := by decide +kernel
theorem dX8_all_82 : decode cX8_all 82 = .ok (.invokevirtual 165, 3) := by decide +kernel
theorem dX8_all_85 : decode cX8_all 85 = .ok (.iconst 0, 1) := by decide +kernel
theorem dX8_all_86 : decode cX8_all 86 = .ok (.istore 4, 2) := by decide +kernel
theorem dX8_all_88 : decode cX8_all 88 = .ok (.iconst 1, 1) := by decide +kernel
theorem dX8_all_89 : decode cX8_all 89 = .ok (.istore 5, 2) := by decide +kernel
theorem dX8_all_91 : decode cX8_all 91 = .ok (.iload 5, 2) := by decide +kernel
theorem dX8_all_93 : decode cX8_all 93 = .ok (.iconst 1, 1) := by decide +kernel
theorem dX8_all_94 : decode cX8_all 94 = .ok (.aload_n 0, 1) := by decide +kernel
theorem dX8_all_95 : decode cX8_all 95 = .ok (.invokevirtual 45, 3) := by decide +kernel
theorem dX8_all_98 : decode cX8_all 98 = .ok (.ishl, 1) := by decide +kernel
theorem dX8_all_99 : decode cX8_all 99 = .ok (.if_icmp .ge 42, 3) := by decide +kernel
theorem dX8_all_102 : decode cX8_all 102 = .ok (.iload 4, 2) := by decide +kernel
theorem dX8_all_104 : decode cX8_all 104 = .ok (.iload 5, 2) := by decide +kernel
theorem dX8_all_106 : decode cX8_all 106 = .ok (.invokestatic 68, 3) := by decide +kernel
theorem dX8_all_109 : decode cX8_all 109 = .ok (.iload_n 1, 1) := by decide +kernel
theorem dX8_all_110 : decode cX8_all 110 = .ok (.if_icmp .ne 21, 3) := by decide +kernel
theorem dX8_all_113 : decode cX8_all 113 = .ok (.aload_n 0, 1) := by decide +kernel
theorem dX8_all_114 : decode cX8_all 114 = .ok (.aload_n 0, 1) := by decide +kernel
theorem dX8_all_115 : decode cX8_all 115 = .ok (.iload 5, 2) := by decide +kernel
theorem dX8_all_117 : decode cX8_all 117 = .ok (.invokevirtual 181, 3) := by decide +kernel
theorem dX8_all_120 : decode cX8_all 120 = .ok (.invokevirtual 175, 3) := by decide +kernel
theorem dX8_all_123 : decode cX8_all 123 = .ok (.iload_n 3, 1) := by decide +kernel
theorem dX8_all_124 : decode cX8_all 124 = .ok (.if_icmp .ne 7, 3) := by decide +kernel
theorem dX8_all_127 : decode cX8_all 127 = .ok (.iconst 1, 1) := by decide +kernel
theorem dX8_all_128 : decode cX8_all 128 = .ok (.goto 4, 3) := by decide +kernel
theorem dX8_all_131 : decode cX8_all 131 = .ok (.iconst 0, 1) := by decide +kernel
theorem dX8_all_132 : decode cX8_all 132 = .ok (.iadd, 1) := by decide +kernel
theorem dX8_all_133 : decode cX8_all 133 = .ok (.istore 4, 2) := by decide +kernel
theorem dX8_all_135 : decode cX8_all 135 = .ok (.iinc 5 1, 3) := by decide +kernel
theorem dX8_all_138 : decode cX8_all 138 = .ok (.goto (-47), 3) := by decide +kernel
theorem dX8_all_141 : decode cX8_all 141 = .ok (.iload 4, 2) := by decide +kernel
theorem dX8_all_143 : decode cX8_all 143 = .ok (.ireturn, 1) := by decide +kernel
set_option maxRecDepth 20000 in
theorem ggX8_singles_X8_cells : GoodIn wsX8_singles wsX8_cells := goodIn_r _ [6, 7, 11, 12, 13, 14, 15, 16, 17, 18, 19, 20, 21, 22, 23, 24] (by decide +kernel) (by decide +kernel)
set_option maxRecDepth 20000 in
theorem gX8_singles_X8_cells : GoodIn wsX8_singles (wsV RX8 45 RX8 yX8_cells wsX8_cells) := goodIn_app (goodIn_of _ (by decide +kernel)) ggX8_singles_X8_cells
set_option maxRecDepth 20000 in
theorem ggX8_singles_X8_has : GoodIn wsX8_singles wsX8_has := goodIn_r _ [10] (by decide +kernel) (by decide +kernel)
set_option maxRecDepth 20000 in
theorem gX8_singles_X8_has : GoodIn wsX8_singles (va_wsS RX8 92 yX8_has wsX8_has) := goodIn_app (goodIn_of _ (by decide +kernel)) ggX8_singles_X8_has
theorem dX8_singles_0 : decode cX8_singles 0 = .ok (.iconst 0, 1) := by decide +kernel
theorem dX8_singles_1 : decode cX8_singles 1 = .ok (.istore_n 2, 1) := by decide +kernel
theorem dX8_singles_2 : decode cX8_singles 2 = .ok (.iconst 0, 1) := by decide +kernel
theorem dX8_singles_3 : decode cX8_singles 3 = .ok (.istore_n 3, 1) := by decide +kernel
theorem dX8_singles_4 : decode cX8_singles 4 = .ok (.iload_n 3, 1) := by decide +kernel
theorem dX8_singles_5 : decode cX8_singles 5 = .ok (.aload_n 0, 1) := by decide +kernel
theorem dX8_singles_6 : decode cX8_singles 6 = .ok (.invokevirtual 45, 3) := by decide +kernel
theorem dX8_singles_9 : decode cX8_singles 9 = .ok (.if_icmp .ge 30, 3) := by decide +kernel
theorem dX8_singles_12 : decode cX8_singles 12 = .ok (.iload_n 2, 1) := by decide +kernel
theorem dX8_singles_13 : decode cX8_singles 13 = .ok (.iload_n 1, 1) := by decide +kernel
theorem dX8_singles_14 : decode cX8_singles 14 = .ok (.iload_n 3, 1) := by decide +kernel
theorem dX8_singles_15 : decode cX8_singles 15 = .ok (.invokestatic 92, 3) := by decide +kernel
theorem dX8_singles_18 : decode cX8_singles 18 = .ok (.ifCond .eq 12, 3) := by decide +kernel
theorem dX8_singles_21 : decode cX8_singles 21 = .ok (.aload_n 0, 1) := by decide +kernel
theorem dX8_singles_22 : decode cX8_singles 22 = .ok (.getfield 20, 3) := by decide +kernel
theorem dX8_singles_25 : decode cX8_singles 25 = .ok (.iload_n 3, 1) := by decide +kernel
theorem dX8_singles_26 : decode cX8_singles 26 = .ok (.iaload, 1) := by decide +kernel
theorem dX8_singles_27 : decode cX8_singles 27 = .ok (.goto 4, 3) := by decide +kernel
theorem dX8_singles_30 : decode cX8_singles 30 = .ok (.iconst 0, 1) := by decide +kernel
theorem dX8_singles_31 : decode cX8_singles 31 = .ok (.iadd, 1) := by decide +kernel
theorem dX8_singles_32 : decode cX8_singles 32 = .ok (.istore_n 2, 1) := by decide +kernel
theorem dX8_singles_33 : decode cX8_singles 33 = .ok (.iinc 3 1, 3) := by decide +kernel
theorem dX8_singles_36 : decode cX8_singles 36 = .ok (.goto (-32), 3) := by decide +kernel
theorem dX8_singles_39 : decode cX8_singles 39 = .ok (.iload_n 2, 1) := by decide +kernel
theorem dX8_singles_40 : decode cX8_singles 40 = .ok (.ireturn, 1) := by decide +kernel
set_option maxRecDepth 20000 in
theorem ggX8_image_X8_in : GoodIn wsX8_image wsX8_in := goodIn_r _ [7] (by decide +kernel) (by decide +kernel)
set_option maxRecDepth 20000 in
theorem gX8_image_X8_in : GoodIn wsX8_image (va_wsS RX8 49 yX8_in wsX8_in) := goodIn_app (goodIn_of _ (by decide +kernel)) ggX8_image_X8_in
theorem dX8_image_0 : decode cX8_image 0 = .ok (.iload_n 1, 1) := by decide +kernel
theorem dX8_image_1 : decode cX8_image 1 = .ok (.iconst 0, 1) := by decide +kernel
theorem dX8_image_2 : decode cX8_image 2 = .ok (.iconst 1, 1) := by decide +kernel
theorem dX8_image_3 : decode cX8_image 3 = .ok (.invokestatic 49, 3) := by decide +kernel
theorem dX8_image_6 : decode cX8_image 6 = .ok (.ifCond .ne 6, 3) := by decide +kernel
theorem dX8_image_9 : decode cX8_image 9 = .ok (.bipush (-2), 2) := by decide +kernel
theorem dX8_image_11 : decode cX8_image 11 = .ok (.ireturn, 1) := by decide +kernel
theorem dX8_image_12 : decode cX8_image 12 = .ok (.iconst 0, 1) := by decide +kernel
theorem dX8_image_13 : decode cX8_image 13 = .ok (.istore_n 2, 1) := by decide +kernel
theorem dX8_image_14 : decode cX8_image 14 = .ok (.iload_n 2, 1) := by decide +kernel
theorem dX8_image_15 : decode cX8_image 15 = .ok (.bipush 72, 2) := by decide +kernel
theorem dX8_image_17 : decode cX8_image 17 = .ok (.if_icmp .ge 26, 3) := by decide +kernel
theorem dX8_image_20 : decode cX8_image 20 = .ok (.aload_n 0, 1) := by decide +kernel
theorem dX8_image_21 : decode cX8_image 21 = .ok (.getfield 13, 3) := by decide +kernel
theorem dX8_image_24 : decode cX8_image 24 = .ok (.bipush 72, 2) := by decide +kernel
theorem dX8_image_26 : decode cX8_image 26 = .ok (.iload_n 1, 1) := by decide +kernel
theorem dX8_image_27 : decode cX8_image 27 = .ok (.imul, 1) := by decide +kernel
theorem dX8_image_28 : decode cX8_image 28 = .ok (.iload_n 2, 1) := by decide +kernel
theorem dX8_image_29 : decode cX8_image 29 = .ok (.iadd, 1) := by decide +kernel
theorem dX8_image_30 : decode cX8_image 30 = .ok (.aload_n 0, 1) := by decide +kernel
theorem dX8_image_31 : decode cX8_image 31 = .ok (.getfield 7, 3) := by decide +kernel
theorem dX8_image_34 : decode cX8_image 34 = .ok (.iload_n 2, 1) := by decide +kernel
theorem dX8_image_35 : decode cX8_image 35 = .ok (.iaload, 1) := by decide +kernel
theorem dX8_image_36 : decode cX8_image 36 = .ok (.iastore, 1) := by decide +kernel
theorem dX8_image_37 : decode cX8_image 37 = .ok (.iinc 2 1, 3) := by decide +kernel
theorem dX8_image_40 : decode cX8_image 40 = .ok (.goto (-26), 3) := by decide +kernel
theorem dX8_image_43 : decode cX8_image 43 = .ok (.aload_n 0, 1) := by decide +kernel
theorem dX8_image_44 : decode cX8_image 44 = .ok (.getfield 16, 3) := by decide +kernel
theorem dX8_image_47 : decode cX8_image 47 = .ok (.iload_n 1, 1) := by decide +kernel
theorem dX8_image_48 : decode cX8_image 48 = .ok (.iconst 1, 1) := by decide +kernel
theorem dX8_image_49 : decode cX8_image 49 = .ok (.bastore, 1) := by decide +kernel
theorem dX8_image_50 : decode cX8_image 50 = .ok (.iconst 1, 1) := by decide +kernel
theorem dX8_image_51 : decode cX8_image 51 = .ok (.ireturn, 1) := by decide +kernel
set_option maxRecDepth 20000 in
theorem ggX8_restore_X8_in : GoodIn wsX8_restore wsX8_in := goodIn_r _ [7] (by decide +kernel) (by decide +kernel)
set_option maxRecDepth 20000 in
theorem gX8_restore_X8_in : GoodIn wsX8_restore (va_wsS RX8 49 yX8_in wsX8_in) := goodIn_app (goodIn_of _ (by decide +kernel)) ggX8_restore_X8_in
theorem dX8_restore_0 : decode cX8_restore 0 = .ok (.iload_n 1, 1) := by decide +kernel
theorem dX8_restore_1 : decode cX8_restore 1 = .ok (.iconst 0, 1) := by decide +kernel
theorem dX8_restore_2 : decode cX8_restore 2 = .ok (.iconst 1, 1) := by decide +kernel
theorem dX8_restore_3 : decode cX8_restore 3 = .ok (.invokestatic 49, 3) := by decide +kernel
theorem dX8_restore_6 : decode cX8_restore 6 = .ok (.ifCond .ne 6, 3) := by decide +kernel
theorem dX8_restore_9 : decode cX8_restore 9 = .ok (.bipush (-2), 2) := by decide +kernel
theorem dX8_restore_11 : decode cX8_restore 11 = .ok (.ireturn, 1) := by decide +kernel
theorem dX8_restore_12 : decode cX8_restore 12 = .ok (.aload_n 0, 1) := by decide +kernel
theorem dX8_restore_13 : decode cX8_restore 13 = .ok (.getfield 16, 3) := by decide +kernel
theorem dX8_restore_16 : decode cX8_restore 16 = .ok (.iload_n 1, 1) := by decide +kernel
theorem dX8_restore_17 : decode cX8_restore 17 = .ok (.baload, 1) := by decide +kernel
theorem dX8_restore_18 : decode cX8_restore 18 = .ok (.ifCond .ne 6, 3) := by decide +kernel
theorem dX8_restore_21 : decode cX8_restore 21 = .ok (.bipush (-3), 2) := by decide +kernel
theorem dX8_restore_23 : decode cX8_restore 23 = .ok (.ireturn, 1) := by decide +kernel
theorem dX8_restore_24 : decode cX8_restore 24 = .ok (.iconst 0, 1) := by decide +kernel
theorem dX8_restore_25 : decode cX8_restore 25 = .ok (.istore_n 2, 1) := by decide +kernel
theorem dX8_restore_26 : decode cX8_restore 26 = .ok (.iload_n 2, 1) := by decide +kernel
theorem dX8_restore_27 : decode cX8_restore 27 = .ok (.bipush 72, 2) := by decide +kernel
theorem dX8_restore_29 : decode cX8_restore 29 = .ok (.if_icmp .ge 26, 3) := by decide +kernel
theorem dX8_restore_32 : decode cX8_restore 32 = .ok (.aload_n 0, 1) := by decide +kernel
theorem dX8_restore_33 : decode cX8_restore 33 = .ok (.getfield 7, 3) := by decide +kernel
theorem dX8_restore_36 : decode cX8_restore 36 = .ok (.iload_n 2, 1) := by decide +kernel
theorem dX8_restore_37 : decode cX8_restore 37 = .ok (.aload_n 0, 1) := by decide +kernel
theorem dX8_restore_38 : decode cX8_restore 38 = .ok (.getfield 13, 3) := by decide +kernel
theorem dX8_restore_41 : decode cX8_restore 41 = .ok (.bipush 72, 2) := by decide +kernel
theorem dX8_restore_43 : decode cX8_restore 43 = .ok (.iload_n 1, 1) := by decide +kernel
theorem dX8_restore_44 : decode cX8_restore 44 = .ok (.imul, 1) := by decide +kernel
theorem dX8_restore_45 : decode cX8_restore 45 = .ok (.iload_n 2, 1) := by decide +kernel
theorem dX8_restore_46 : decode cX8_restore 46 = .ok (.iadd, 1) := by decide +kernel
theorem dX8_restore_47 : decode cX8_restore 47 = .ok (.iaload, 1) := by decide +kernel
theorem dX8_restore_48 : decode cX8_restore 48 = .ok (.iastore, 1) := by decide +kernel
theorem dX8_restore_49 : decode cX8_restore 49 = .ok (.iinc 2 1, 3) := by decide +kernel
theorem dX8_restore_52 : decode cX8_restore 52 = .ok (.goto (-26), 3) := by decide +kernel
theorem dX8_restore_55 : decode cX8_restore 55 = .ok (.iconst 1, 1) := by decide +kernel
theorem dX8_restore_56 : decode cX8_restore 56 = .ok (.ireturn, 1) := by decide +kernel
set_option maxRecDepth 20000 in
theorem ggX8_towers_X8_cells : GoodIn wsX8_towers wsX8_cells := goodIn_r _ [6, 1, 7, 8, 9, 10, 11, 12, 13, 14, 15, 16, 17, 18, 19, 20] (by decide +kernel) (by decide +kernel)
set_option maxRecDepth 20000 in
theorem gX8_towers_X8_cells : GoodIn wsX8_towers (wsV RX8 45 RX8 yX8_cells wsX8_cells) := goodIn_app (goodIn_of _ (by decide +kernel)) ggX8_towers_X8_cells
theorem dX8_towers_0 : decode cX8_towers 0 = .ok (.iconst 0, 1) := by decide +kernel
theorem dX8_towers_1 : decode cX8_towers 1 = .ok (.istore_n 1, 1) := by decide +kernel
theorem dX8_towers_2 : decode cX8_towers 2 = .ok (.iconst 0, 1) := by decide +kernel
theorem dX8_towers_3 : decode cX8_towers 3 = .ok (.istore_n 2, 1) := by decide +kernel
theorem dX8_towers_4 : decode cX8_towers 4 = .ok (.iload_n 2, 1) := by decide +kernel
theorem dX8_towers_5 : decode cX8_towers 5 = .ok (.aload_n 0, 1) := by decide +kernel
theorem dX8_towers_6 : decode cX8_towers 6 = .ok (.invokevirtual 45, 3) := by decide +kernel
theorem dX8_towers_9 : decode cX8_towers 9 = .ok (.if_icmp .ge 31, 3) := by decide +kernel
theorem dX8_towers_12 : decode cX8_towers 12 = .ok (.iload_n 1, 1) := by decide +kernel
theorem dX8_towers_13 : decode cX8_towers 13 = .ok (.aload_n 0, 1) := by decide +kernel
theorem dX8_towers_14 : decode cX8_towers 14 = .ok (.getfield 7, 3) := by decide +kernel
theorem dX8_towers_17 : decode cX8_towers 17 = .ok (.iconst 1, 1) := by decide +kernel
theorem dX8_towers_18 : decode cX8_towers 18 = .ok (.iload_n 2, 1) := by decide +kernel
theorem dX8_towers_19 : decode cX8_towers 19 = .ok (.iadd, 1) := by decide +kernel
theorem dX8_towers_20 : decode cX8_towers 20 = .ok (.iaload, 1) := by decide +kernel
theorem dX8_towers_21 : decode cX8_towers 21 = .ok (.iconst 1, 1) := by decide +kernel
theorem dX8_towers_22 : decode cX8_towers 22 = .ok (.if_icmp .le 9, 3) := by decide +kernel
theorem dX8_towers_25 : decode cX8_towers 25 = .ok (.iconst 1, 1) := by decide +kernel
theorem dX8_towers_26 : decode cX8_towers 26 = .ok (.iload_n 2, 1) := by decide +kernel
theorem dX8_towers_27 : decode cX8_towers 27 = .ok (.ishl, 1) := by decide +kernel
theorem dX8_towers_28 : decode cX8_towers 28 = .ok (.goto 4, 3) := by decide +kernel
theorem dX8_towers_31 : decode cX8_towers 31 = .ok (.iconst 0, 1) := by decide +kernel
theorem dX8_towers_32 : decode cX8_towers 32 = .ok (.ior, 1) := by decide +kernel
theorem dX8_towers_33 : decode cX8_towers 33 = .ok (.istore_n 1, 1) := by decide +kernel
theorem dX8_towers_34 : decode cX8_towers 34 = .ok (.iinc 2 1, 3) := by decide +kernel
theorem dX8_towers_37 : decode cX8_towers 37 = .ok (.goto (-33), 3) := by decide +kernel
theorem dX8_towers_40 : decode cX8_towers 40 = .ok (.iload_n 1, 1) := by decide +kernel
theorem dX8_towers_41 : decode cX8_towers 41 = .ok (.ireturn, 1) := by decide +kernel
set_option maxRecDepth 20000 in
theorem ggX8_count_X8_in : GoodIn wsX8_count wsX8_in := goodIn_r _ [6] (by decide +kernel) (by decide +kernel)
set_option maxRecDepth 20000 in
theorem gX8_count_X8_in : GoodIn wsX8_count (va_wsS RX8 49 yX8_in wsX8_in) := goodIn_app (goodIn_of _ (by decide +kernel)) ggX8_count_X8_in
set_option maxRecDepth 20000 in
theorem ggX8_count_X8_cells : GoodIn wsX8_count wsX8_cells := goodIn_r _ [10, 1, 28, 29, 30, 31, 32, 33, 34, 35, 36, 37, 38, 39, 40, 41] (by decide +kernel) (by decide +kernel)
set_option maxRecDepth 20000 in
theorem gX8_count_X8_cells : GoodIn wsX8_count (wsV RX8 45 RX8 yX8_cells wsX8_cells) := goodIn_app (goodIn_of _ (by decide +kernel)) ggX8_count_X8_cells
set_option maxRecDepth 20000 in
theorem ggX8_count_X8_walkers : GoodIn wsX8_count wsX8_walkers := goodIn_r _ [14, 1, 28, 29, 30, 31, 32, 33, 34, 35, 36, 37, 38, 39, 40, 41] (by decide +kernel) (by decide +kernel)
set_option maxRecDepth 20000 in
theorem gX8_count_X8_walkers : GoodIn wsX8_count (wsV RX8 57 RX8 yX8_walkers wsX8_walkers) := goodIn_app (goodIn_of _ (by decide +kernel)) ggX8_count_X8_walkers
set_option maxRecDepth 20000 in
theorem ggX8_count_X8_now : GoodIn wsX8_count wsX8_now := goodIn_r _ [18, 1, 19, 7, 8, 9, 5, 10, 28, 29, 30, 31, 32, 33, 34, 35, 36, 37, 38, 39, 40, 41] (by decide +kernel) (by decide +kernel)
set_option maxRecDepth 20000 in
theorem gX8_count_X8_now : GoodIn wsX8_count (wsV RX8 83 RX8 yX8_now wsX8_now) := goodIn_app (goodIn_of _ (by decide +kernel)) ggX8_count_X8_now
set_option maxRecDepth 20000 in
theorem ggX8_count_X8_standsOf : GoodIn wsX8_count wsX8_standsOf := goodIn_r _ [23, 19, 7, 8, 9, 5, 10, 1, 28, 29, 30, 31, 32, 33, 34, 35, 36, 37, 38, 39, 40, 41] (by decide +kernel) (by decide +kernel)
set_option maxRecDepth 20000 in
theorem gX8_count_X8_standsOf : GoodIn wsX8_count (wsV RX8 86 RX8 yX8_standsOf wsX8_standsOf) := goodIn_app (goodIn_of _ (by decide +kernel)) ggX8_count_X8_standsOf
set_option maxRecDepth 20000 in
theorem ggX8_count_X8_towers : GoodIn wsX8_count wsX8_towers := goodIn_r _ [27, 1, 7, 8, 9, 5, 10, 28, 29, 30, 31, 32, 33, 34, 35, 36, 37, 38, 39, 40, 41] (by decide +kernel) (by decide +kernel)
set_option maxRecDepth 20000 in
theorem gX8_count_X8_towers : GoodIn wsX8_count (wsV RX8 184 RX8 yX8_towers wsX8_towers) := goodIn_app (goodIn_of _ (by decide +kernel)) ggX8_count_X8_towers
theorem dX8_count_0 : decode cX8_count 0 = .ok (.iload_n 1, 1) := by decide +kernel
theorem dX8_count_1 : decode cX8_count 1 = .ok (.bipush 10, 2) := by decide +kernel
theorem dX8_count_3 : decode cX8_count 3 = .ok (.bipush 19, 2) := by decide +kernel
theorem dX8_count_5 : decode cX8_count 5 = .ok (.invokestatic 49, 3) := by decide +kernel
theorem dX8_count_8 : decode cX8_count 8 = .ok (.ifCond .eq 15, 3) := by decide +kernel
theorem dX8_count_11 : decode cX8_count 11 = .ok (.aload_n 0, 1) := by decide +kernel
theorem dX8_count_12 : decode cX8_count 12 = .ok (.getfield 7, 3) := by decide +kernel
theorem dX8_count_15 : decode cX8_count 15 = .ok (.iconst 1, 1) := by decide +kernel
theorem dX8_count_16 : decode cX8_count 16 = .ok (.iload_n 1, 1) := by decide +kernel
theorem dX8_count_17 : decode cX8_count 17 = .ok (.iadd, 1) := by decide +kernel
theorem dX8_count_18 : decode cX8_count 18 = .ok (.bipush 10, 2) := by decide +kernel
theorem dX8_count_20 : decode cX8_count 20 = .ok (.isub, 1) := by decide +kernel
theorem dX8_count_21 : decode cX8_count 21 = .ok (.iaload, 1) := by decide +kernel
theorem dX8_count_22 : decode cX8_count 22 = .ok (.ireturn, 1) := by decide +kernel
theorem dX8_count_23 : decode cX8_count 23 = .ok (.iload_n 1, 1) := by decide +kernel
theorem dX8_count_24 : decode cX8_count 24 = .ok (.tableswitch 102 0 5 #[40, 45, 50, 59, 64, 72], 40) := by decide +kernel
theorem dX8_count_64 : decode cX8_count 64 = .ok (.aload_n 0, 1) := by decide +kernel
theorem dX8_count_65 : decode cX8_count 65 = .ok (.invokevirtual 45, 3) := by decide +kernel
theorem dX8_count_68 : decode cX8_count 68 = .ok (.ireturn, 1) := by decide +kernel
theorem dX8_count_69 : decode cX8_count 69 = .ok (.aload_n 0, 1) := by decide +kernel
theorem dX8_count_70 : decode cX8_count 70 = .ok (.invokevirtual 57, 3) := by decide +kernel
theorem dX8_count_73 : decode cX8_count 73 = .ok (.ireturn, 1) := by decide +kernel
theorem dX8_count_74 : decode cX8_count 74 = .ok (.aload_n 0, 1) := by decide +kernel
theorem dX8_count_75 : decode cX8_count 75 = .ok (.aload_n 0, 1) := by decide +kernel
theorem dX8_count_76 : decode cX8_count 76 = .ok (.invokevirtual 83, 3) := by decide +kernel
theorem dX8_count_79 : decode cX8_count 79 = .ok (.invokevirtual 86, 3) := by decide +kernel
theorem dX8_count_82 : decode cX8_count 82 = .ok (.ireturn, 1) := by decide +kernel
theorem dX8_count_83 : decode cX8_count 83 = .ok (.aload_n 0, 1) := by decide +kernel
theorem dX8_count_84 : decode cX8_count 84 = .ok (.invokevirtual 184, 3) := by decide +kernel
theorem dX8_count_87 : decode cX8_count 87 = .ok (.ireturn, 1) := by decide +kernel
theorem dX8_count_88 : decode cX8_count 88 = .ok (.aload_n 0, 1) := by decide +kernel
theorem dX8_count_89 : decode cX8_count 89 = .ok (.getfield 7, 3) := by decide +kernel
theorem dX8_count_92 : decode cX8_count 92 = .ok (.bipush 11, 2) := by decide +kernel
theorem dX8_count_94 : decode cX8_count 94 = .ok (.iaload, 1) := by decide +kernel
theorem dX8_count_95 : decode cX8_count 95 = .ok (.ireturn, 1) := by decide +kernel
theorem dX8_count_96 : decode cX8_count 96 = .ok (.aload_n 0, 1) := by decide +kernel
theorem dX8_count_97 : decode cX8_count 97 = .ok (.getfield 16, 3) := by decide +kernel
theorem dX8_count_100 : decode cX8_count 100 = .ok (.iconst 0, 1) := by decide +kernel
theorem dX8_count_101 : decode cX8_count 101 = .ok (.baload, 1) := by decide +kernel
theorem dX8_count_102 : decode cX8_count 102 = .ok (.ifCond .eq 7, 3) := by decide +kernel
theorem dX8_count_105 : decode cX8_count 105 = .ok (.iconst 1, 1) := by decide +kernel
theorem dX8_count_106 : decode cX8_count 106 = .ok (.goto 4, 3) := by decide +kernel
theorem dX8_count_109 : decode cX8_count 109 = .ok (.iconst 0, 1) := by decide +kernel
theorem dX8_count_110 : decode cX8_count 110 = .ok (.aload_n 0, 1) := by decide +kernel
theorem dX8_count_111 : decode cX8_count 111 = .ok (.getfield 16, 3) := by decide +kernel
theorem dX8_count_114 : decode cX8_count 114 = .ok (.iconst 1, 1) := by decide +kernel
theorem dX8_count_115 : decode cX8_count 115 = .ok (.baload, 1) := by decide +kernel
theorem dX8_count_116 : decode cX8_count 116 = .ok (.ifCond .eq 7, 3) := by decide +kernel
theorem dX8_count_119 : decode cX8_count 119 = .ok (.iconst 2, 1) := by decide +kernel
theorem dX8_count_120 : decode cX8_count 120 = .ok (.goto 4, 3) := by decide +kernel
theorem dX8_count_123 : decode cX8_count 123 = .ok (.iconst 0, 1) := by decide +kernel
theorem dX8_count_124 : decode cX8_count 124 = .ok (.iadd, 1) := by decide +kernel
theorem dX8_count_125 : decode cX8_count 125 = .ok (.ireturn, 1) := by decide +kernel
theorem dX8_count_126 : decode cX8_count 126 = .ok (.bipush (-2), 2) := by decide +kernel
theorem dX8_count_128 : decode cX8_count 128 = .ok (.ireturn, 1) := by decide +kernel
theorem dJ6_lowestOneBit_0f7a4_0 : decode cJ6_lowestOneBit_0f7a4 0 = .ok (.iload_n 0, 1) := by decide +kernel
theorem dJ6_lowestOneBit_0f7a4_1 : decode cJ6_lowestOneBit_0f7a4 1 = .ok (.iload_n 0, 1) := by decide +kernel
theorem dJ6_lowestOneBit_0f7a4_2 : decode cJ6_lowestOneBit_0f7a4 2 = .ok (.ineg, 1) := by decide +kernel
theorem dJ6_lowestOneBit_0f7a4_3 : decode cJ6_lowestOneBit_0f7a4 3 = .ok (.iand, 1) := by decide +kernel
theorem dJ6_lowestOneBit_0f7a4_4 : decode cJ6_lowestOneBit_0f7a4 4 = .ok (.ireturn, 1) := by decide +kernel
theorem dJ6_bitCount_0f7a4_0 : decode cJ6_bitCount_0f7a4 0 = .ok (.iload_n 0, 1) := by decide +kernel
theorem dJ6_bitCount_0f7a4_1 : decode cJ6_bitCount_0f7a4 1 = .ok (.iload_n 0, 1) := by decide +kernel
theorem dJ6_bitCount_0f7a4_2 : decode cJ6_bitCount_0f7a4 2 = .ok (.iconst 1, 1) := by decide +kernel
theorem dJ6_bitCount_0f7a4_3 : decode cJ6_bitCount_0f7a4 3 = .ok (.iushr, 1) := by decide +kernel
theorem dJ6_bitCount_0f7a4_4 : decode cJ6_bitCount_0f7a4 4 = .ok (.ldc_w 265, 3) := by decide +kernel
theorem dJ6_bitCount_0f7a4_7 : decode cJ6_bitCount_0f7a4 7 = .ok (.iand, 1) := by decide +kernel
theorem dJ6_bitCount_0f7a4_8 : decode cJ6_bitCount_0f7a4 8 = .ok (.isub, 1) := by decide +kernel
theorem dJ6_bitCount_0f7a4_9 : decode cJ6_bitCount_0f7a4 9 = .ok (.istore_n 0, 1) := by decide +kernel
theorem dJ6_bitCount_0f7a4_10 : decode cJ6_bitCount_0f7a4 10 = .ok (.iload_n 0, 1) := by decide +kernel
theorem dJ6_bitCount_0f7a4_11 : decode cJ6_bitCount_0f7a4 11 = .ok (.ldc_w 266, 3) := by decide +kernel
theorem dJ6_bitCount_0f7a4_14 : decode cJ6_bitCount_0f7a4 14 = .ok (.iand, 1) := by decide +kernel
theorem dJ6_bitCount_0f7a4_15 : decode cJ6_bitCount_0f7a4 15 = .ok (.iload_n 0, 1) := by decide +kernel
theorem dJ6_bitCount_0f7a4_16 : decode cJ6_bitCount_0f7a4 16 = .ok (.iconst 2, 1) := by decide +kernel
theorem dJ6_bitCount_0f7a4_17 : decode cJ6_bitCount_0f7a4 17 = .ok (.iushr, 1) := by decide +kernel
theorem dJ6_bitCount_0f7a4_18 : decode cJ6_bitCount_0f7a4 18 = .ok (.ldc_w 266, 3) := by decide +kernel
theorem dJ6_bitCount_0f7a4_21 : decode cJ6_bitCount_0f7a4 21 = .ok (.iand, 1) := by decide +kernel
theorem dJ6_bitCount_0f7a4_22 : decode cJ6_bitCount_0f7a4 22 = .ok (.iadd, 1) := by decide +kernel
theorem dJ6_bitCount_0f7a4_23 : decode cJ6_bitCount_0f7a4 23 = .ok (.istore_n 0, 1) := by decide +kernel
theorem dJ6_bitCount_0f7a4_24 : decode cJ6_bitCount_0f7a4 24 = .ok (.iload_n 0, 1) := by decide +kernel
theorem dJ6_bitCount_0f7a4_25 : decode cJ6_bitCount_0f7a4 25 = .ok (.iload_n 0, 1) := by decide +kernel
theorem dJ6_bitCount_0f7a4_26 : decode cJ6_bitCount_0f7a4 26 = .ok (.iconst 4, 1) := by decide +kernel
theorem dJ6_bitCount_0f7a4_27 : decode cJ6_bitCount_0f7a4 27 = .ok (.iushr, 1) := by decide +kernel
theorem dJ6_bitCount_0f7a4_28 : decode cJ6_bitCount_0f7a4 28 = .ok (.iadd, 1) := by decide +kernel
theorem dJ6_bitCount_0f7a4_29 : decode cJ6_bitCount_0f7a4 29 = .ok (.ldc_w 267, 3) := by decide +kernel
theorem dJ6_bitCount_0f7a4_32 : decode cJ6_bitCount_0f7a4 32 = .ok (.iand, 1) := by decide +kernel
theorem dJ6_bitCount_0f7a4_33 : decode cJ6_bitCount_0f7a4 33 = .ok (.istore_n 0, 1) := by decide +kernel
theorem dJ6_bitCount_0f7a4_34 : decode cJ6_bitCount_0f7a4 34 = .ok (.iload_n 0, 1) := by decide +kernel
theorem dJ6_bitCount_0f7a4_35 : decode cJ6_bitCount_0f7a4 35 = .ok (.iload_n 0, 1) := by decide +kernel
theorem dJ6_bitCount_0f7a4_36 : decode cJ6_bitCount_0f7a4 36 = .ok (.bipush 8, 2) := by decide +kernel
theorem dJ6_bitCount_0f7a4_38 : decode cJ6_bitCount_0f7a4 38 = .ok (.iushr, 1) := by decide +kernel
theorem dJ6_bitCount_0f7a4_39 : decode cJ6_bitCount_0f7a4 39 = .ok (.iadd, 1) := by decide +kernel
theorem dJ6_bitCount_0f7a4_40 : decode cJ6_bitCount_0f7a4 40 = .ok (.istore_n 0, 1) := by decide +kernel
theorem dJ6_bitCount_0f7a4_41 : decode cJ6_bitCount_0f7a4 41 = .ok (.iload_n 0, 1) := by decide +kernel
theorem dJ6_bitCount_0f7a4_42 : decode cJ6_bitCount_0f7a4 42 = .ok (.iload_n 0, 1) := by decide +kernel
theorem dJ6_bitCount_0f7a4_43 : decode cJ6_bitCount_0f7a4 43 = .ok (.bipush 16, 2) := by decide +kernel
theorem dJ6_bitCount_0f7a4_45 : decode cJ6_bitCount_0f7a4 45 = .ok (.iushr, 1) := by decide +kernel
theorem dJ6_bitCount_0f7a4_46 : decode cJ6_bitCount_0f7a4 46 = .ok (.iadd, 1) := by decide +kernel
theorem dJ6_bitCount_0f7a4_47 : decode cJ6_bitCount_0f7a4 47 = .ok (.istore_n 0, 1) := by decide +kernel
theorem dJ6_bitCount_0f7a4_48 : decode cJ6_bitCount_0f7a4 48 = .ok (.iload_n 0, 1) := by decide +kernel
theorem dJ6_bitCount_0f7a4_49 : decode cJ6_bitCount_0f7a4 49 = .ok (.bipush 63, 2) := by decide +kernel
theorem dJ6_bitCount_0f7a4_51 : decode cJ6_bitCount_0f7a4 51 = .ok (.iand, 1) := by decide +kernel
theorem dJ6_bitCount_0f7a4_52 : decode cJ6_bitCount_0f7a4 52 = .ok (.ireturn, 1) := by decide +kernel
theorem dJ9_min_7cf53_0 : decode cJ9_min_7cf53 0 = .ok (.iload_n 0, 1) := by decide +kernel
theorem dJ9_min_7cf53_1 : decode cJ9_min_7cf53 1 = .ok (.iload_n 1, 1) := by decide +kernel
theorem dJ9_min_7cf53_2 : decode cJ9_min_7cf53 2 = .ok (.if_icmp .gt 7, 3) := by decide +kernel
theorem dJ9_min_7cf53_5 : decode cJ9_min_7cf53 5 = .ok (.iload_n 0, 1) := by decide +kernel
theorem dJ9_min_7cf53_6 : decode cJ9_min_7cf53 6 = .ok (.goto 4, 3) := by decide +kernel
theorem dJ9_min_7cf53_9 : decode cJ9_min_7cf53 9 = .ok (.iload_n 1, 1) := by decide +kernel
theorem dJ9_min_7cf53_10 : decode cJ9_min_7cf53 10 = .ok (.ireturn, 1) := by decide +kernel
