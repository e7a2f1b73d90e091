theorem dX9_run_153 : decode cX9_run 153 = .ok (.getfield 25, 3) := by decide +kernel
theorem dX9_run_156 : decode cX9_run 156 = .ok (.iload 5, 2) := by decide +kernel
theorem dX9_run_158 : decode cX9_run 158 = .ok (.iaload, 1) := by decide +kernel
theorem dX9_run_159 : decode cX9_run 159 = .ok (.goto 5, 3) := by decide +kernel
theorem dX9_run_162 : decode cX9_run 162 = .ok (.iload 5, 2) := by decide +kernel
theorem dX9_run_164 : decode cX9_run 164 = .ok (.iload 6, 2) := by decide +kernel
theorem dX9_run_166 : decode cX9_run 166 = .ok (.iload_n 2, 1) := by decide +kernel
theorem dX9_run_167 : decode cX9_run 167 = .ok (.invokevirtual 140, 3) := by decide +kernel
theorem dX9_run_170 : decode cX9_run 170 = .ok (.iinc 2 1, 3) := by decide +kernel
theorem dX9_run_173 : decode cX9_run 173 = .ok (.iinc 7 1, 3) := by decide +kernel
theorem dX9_run_176 : decode cX9_run 176 = .ok (.goto (-52), 3) := by decide +kernel
theorem dX9_run_179 : decode cX9_run 179 = .ok (.iinc 4 1, 3) := by decide +kernel
theorem dX9_run_182 : decode cX9_run 182 = .ok (.goto (-159), 3) := by decide +kernel
theorem dX9_run_185 : decode cX9_run 185 = .ok (.return_, 1) := by decide +kernel
theorem dX9_runTold_0 : decode cX9_runTold 0 = .ok (.aload_n 0, 1) := by decide +kernel
theorem dX9_runTold_1 : decode cX9_runTold 1 = .ok (.invokevirtual 144, 3) := by decide +kernel
theorem dX9_runTold_4 : decode cX9_runTold 4 = .ok (.aload_n 0, 1) := by decide +kernel
theorem dX9_runTold_5 : decode cX9_runTold 5 = .ok (.iload_n 1, 1) := by decide +kernel
theorem dX9_runTold_6 : decode cX9_runTold 6 = .ok (.invokevirtual 147, 3) := by decide +kernel
theorem dX9_runTold_9 : decode cX9_runTold 9 = .ok (.return_, 1) := by decide +kernel
theorem dX9_coarse_0 : decode cX9_coarse 0 = .ok (.iconst 0, 1) := by decide +kernel
theorem dX9_coarse_1 : decode cX9_coarse 1 = .ok (.istore_n 1, 1) := by decide +kernel
theorem dX9_coarse_2 : decode cX9_coarse 2 = .ok (.iconst 0, 1) := by decide +kernel
theorem dX9_coarse_3 : decode cX9_coarse 3 = .ok (.istore_n 2, 1) := by decide +kernel
theorem dX9_coarse_4 : decode cX9_coarse 4 = .ok (.iconst 0, 1) := by decide +kernel
theorem dX9_coarse_5 : decode cX9_coarse 5 = .ok (.istore_n 3, 1) := by decide +kernel
theorem dX9_coarse_6 : decode cX9_coarse 6 = .ok (.iload_n 3, 1) := by decide +kernel
theorem dX9_coarse_7 : decode cX9_coarse 7 = .ok (.bipush 64, 2) := by decide +kernel
theorem dX9_coarse_9 : decode cX9_coarse 9 = .ok (.if_icmp .ge 37, 3) := by decide +kernel
theorem dX9_coarse_12 : decode cX9_coarse 12 = .ok (.iload_n 2, 1) := by decide +kernel
theorem dX9_coarse_13 : decode cX9_coarse 13 = .ok (.aload_n 0, 1) := by decide +kernel
theorem dX9_coarse_14 : decode cX9_coarse 14 = .ok (.getfield 28, 3) := by decide +kernel
theorem dX9_coarse_17 : decode cX9_coarse 17 = .ok (.iload_n 3, 1) := by decide +kernel
theorem dX9_coarse_18 : decode cX9_coarse 18 = .ok (.iaload, 1) := by decide +kernel
theorem dX9_coarse_19 : decode cX9_coarse 19 = .ok (.iadd, 1) := by decide +kernel
theorem dX9_coarse_20 : decode cX9_coarse 20 = .ok (.istore_n 2, 1) := by decide +kernel
theorem dX9_coarse_21 : decode cX9_coarse 21 = .ok (.iload_n 1, 1) := by decide +kernel
theorem dX9_coarse_22 : decode cX9_coarse 22 = .ok (.iload_n 3, 1) := by decide +kernel
theorem dX9_coarse_23 : decode cX9_coarse 23 = .ok (.bipush 29, 2) := by decide +kernel
theorem dX9_coarse_25 : decode cX9_coarse 25 = .ok (.if_icmp .le 12, 3) := by decide +kernel
theorem dX9_coarse_28 : decode cX9_coarse 28 = .ok (.aload_n 0, 1) := by decide +kernel
theorem dX9_coarse_29 : decode cX9_coarse 29 = .ok (.getfield 28, 3) := by decide +kernel
theorem dX9_coarse_32 : decode cX9_coarse 32 = .ok (.iload_n 3, 1) := by decide +kernel
theorem dX9_coarse_33 : decode cX9_coarse 33 = .ok (.iaload, 1) := by decide +kernel
theorem dX9_coarse_34 : decode cX9_coarse 34 = .ok (.goto 4, 3) := by decide +kernel
theorem dX9_coarse_37 : decode cX9_coarse 37 = .ok (.iconst 0, 1) := by decide +kernel
theorem dX9_coarse_38 : decode cX9_coarse 38 = .ok (.iadd, 1) := by decide +kernel
theorem dX9_coarse_39 : decode cX9_coarse 39 = .ok (.istore_n 1, 1) := by decide +kernel
theorem dX9_coarse_40 : decode cX9_coarse 40 = .ok (.iinc 3 1, 3) := by decide +kernel
theorem dX9_coarse_43 : decode cX9_coarse 43 = .ok (.goto (-37), 3) := by decide +kernel
theorem dX9_coarse_46 : decode cX9_coarse 46 = .ok (.iload_n 2, 1) := by decide +kernel
theorem dX9_coarse_47 : decode cX9_coarse 47 = .ok (.ifCond .ne 7, 3) := by decide +kernel
theorem dX9_coarse_50 : decode cX9_coarse 50 = .ok (.iconst 0, 1) := by decide +kernel
theorem dX9_coarse_51 : decode cX9_coarse 51 = .ok (.goto 10, 3) := by decide +kernel
theorem dX9_coarse_54 : decode cX9_coarse 54 = .ok (.sipush 1000, 3) := by decide +kernel
theorem dX9_coarse_57 : decode cX9_coarse 57 = .ok (.iload_n 1, 1) := by decide +kernel
theorem dX9_coarse_58 : decode cX9_coarse 58 = .ok (.imul, 1) := by decide +kernel
theorem dX9_coarse_59 : decode cX9_coarse 59 = .ok (.iload_n 2, 1) := by decide +kernel
theorem dX9_coarse_60 : decode cX9_coarse 60 = .ok (.idiv, 1) := by decide +kernel
theorem dX9_coarse_61 : decode cX9_coarse 61 = .ok (.ireturn, 1) := by decide +kernel
theorem dX9_after_0 : decode cX9_after 0 = .ok (.iload_n 1, 1) := by decide +kernel
theorem dX9_after_1 : decode cX9_after 1 = .ok (.iconst 0, 1) := by decide +kernel
theorem dX9_after_2 : decode cX9_after 2 = .ok (.aload_n 0, 1) := by decide +kernel
theorem dX9_after_3 : decode cX9_after 3 = .ok (.invokevirtual 73, 3) := by decide +kernel
theorem dX9_after_6 : decode cX9_after 6 = .ok (.invokestatic 41, 3) := by decide +kernel
theorem dX9_after_9 : decode cX9_after 9 = .ok (.ifCond .eq 13, 3) := by decide +kernel
theorem dX9_after_12 : decode cX9_after 12 = .ok (.iload_n 2, 1) := by decide +kernel
theorem dX9_after_13 : decode cX9_after 13 = .ok (.iconst 0, 1) := by decide +kernel
theorem dX9_after_14 : decode cX9_after 14 = .ok (.bipush 11, 2) := by decide +kernel
theorem dX9_after_16 : decode cX9_after 16 = .ok (.invokestatic 41, 3) := by decide +kernel
theorem dX9_after_19 : decode cX9_after 19 = .ok (.ifCond .ne 6, 3) := by decide +kernel
theorem dX9_after_22 : decode cX9_after 22 = .ok (.bipush (-2), 2) := by decide +kernel
theorem dX9_after_24 : decode cX9_after 24 = .ok (.ireturn, 1) := by decide +kernel
theorem dX9_after_25 : decode cX9_after 25 = .ok (.aload_n 0, 1) := by decide +kernel
theorem dX9_after_26 : decode cX9_after 26 = .ok (.iload_n 1, 1) := by decide +kernel
theorem dX9_after_27 : decode cX9_after 27 = .ok (.invokevirtual 151, 3) := by decide +kernel
theorem dX9_after_30 : decode cX9_after 30 = .ok (.iload_n 2, 1) := by decide +kernel
theorem dX9_after_31 : decode cX9_after 31 = .ok (.tableswitch 116 0 10 #[57, 62, 67, 72, 77, 86, 91, 96, 101, 106, 111], 57) := by decide +kernel
theorem dX9_after_88 : decode cX9_after 88 = .ok (.aload_n 0, 1) := by decide +kernel
theorem dX9_after_89 : decode cX9_after 89 = .ok (.getfield 94, 3) := by decide +kernel
theorem dX9_after_92 : decode cX9_after 92 = .ok (.ireturn, 1) := by decide +kernel
theorem dX9_after_93 : decode cX9_after 93 = .ok (.aload_n 0, 1) := by decide +kernel
theorem dX9_after_94 : decode cX9_after 94 = .ok (.getfield 91, 3) := by decide +kernel
theorem dX9_after_97 : decode cX9_after 97 = .ok (.ireturn, 1) := by decide +kernel
theorem dX9_after_98 : decode cX9_after 98 = .ok (.aload_n 0, 1) := by decide +kernel
theorem dX9_after_99 : decode cX9_after 99 = .ok (.getfield 97, 3) := by decide +kernel
theorem dX9_after_102 : decode cX9_after 102 = .ok (.ireturn, 1) := by decide +kernel
theorem dX9_after_103 : decode cX9_after 103 = .ok (.aload_n 0, 1) := by decide +kernel
theorem dX9_after_104 : decode cX9_after 104 = .ok (.getfield 103, 3) := by decide +kernel
theorem dX9_after_107 : decode cX9_after 107 = .ok (.ireturn, 1) := by decide +kernel
theorem dX9_after_108 : decode cX9_after 108 = .ok (.aload_n 0, 1) := by decide +kernel
theorem dX9_after_109 : decode cX9_after 109 = .ok (.getfield 106, 3) := by decide +kernel
theorem dX9_after_112 : decode cX9_after 112 = .ok (.sipush 1000, 3) := by decide +kernel
theorem dX9_after_115 : decode cX9_after 115 = .ok (.iadd, 1) := by decide +kernel
theorem dX9_after_116 : decode cX9_after 116 = .ok (.ireturn, 1) := by decide +kernel
theorem dX9_after_117 : decode cX9_after 117 = .ok (.aload_n 0, 1) := by decide +kernel
theorem dX9_after_118 : decode cX9_after 118 = .ok (.getfield 82, 3) := by decide +kernel
theorem dX9_after_121 : decode cX9_after 121 = .ok (.ireturn, 1) := by decide +kernel
theorem dX9_after_122 : decode cX9_after 122 = .ok (.aload_n 0, 1) := by decide +kernel
theorem dX9_after_123 : decode cX9_after 123 = .ok (.getfield 85, 3) := by decide +kernel
theorem dX9_after_126 : decode cX9_after 126 = .ok (.ireturn, 1) := by decide +kernel
theorem dX9_after_127 : decode cX9_after 127 = .ok (.aload_n 0, 1) := by decide +kernel
theorem dX9_after_128 : decode cX9_after 128 = .ok (.getfield 88, 3) := by decide +kernel
theorem dX9_after_131 : decode cX9_after 131 = .ok (.ireturn, 1) := by decide +kernel
theorem dX9_after_132 : decode cX9_after 132 = .ok (.aload_n 0, 1) := by decide +kernel
theorem dX9_after_133 : decode cX9_after 133 = .ok (.invokevirtual 124, 3) := by decide +kernel
theorem dX9_after_136 : decode cX9_after 136 = .ok (.ireturn, 1) := by decide +kernel
theorem dX9_after_137 : decode cX9_after 137 = .ok (.aload_n 0, 1) := by decide +kernel
theorem dX9_after_138 : decode cX9_after 138 = .ok (.getfield 109, 3) := by decide +kernel
theorem dX9_after_141 : decode cX9_after 141 = .ok (.ireturn, 1) := by decide +kernel
theorem dX9_after_142 : decode cX9_after 142 = .ok (.aload_n 0, 1) := by decide +kernel
theorem dX9_after_143 : decode cX9_after 143 = .ok (.invokevirtual 154, 3) := by decide +kernel
theorem dX9_after_146 : decode cX9_after 146 = .ok (.ireturn, 1) := by decide +kernel
theorem dX9_after_147 : decode cX9_after 147 = .ok (.aload_n 0, 1) := by decide +kernel
theorem dX9_after_148 : decode cX9_after 148 = .ok (.invokevirtual 121, 3) := by decide +kernel
theorem dX9_after_151 : decode cX9_after 151 = .ok (.ireturn, 1) := by decide +kernel
theorem dX9_flakes_0 : decode cX9_flakes 0 = .ok (.iload_n 1, 1) := by decide +kernel
theorem dX9_flakes_1 : decode cX9_flakes 1 = .ok (.iconst 0, 1) := by decide +kernel
theorem dX9_flakes_2 : decode cX9_flakes 2 = .ok (.aload_n 0, 1) := by decide +kernel
theorem dX9_flakes_3 : decode cX9_flakes 3 = .ok (.invokevirtual 73, 3) := by decide +kernel
theorem dX9_flakes_6 : decode cX9_flakes 6 = .ok (.invokestatic 41, 3) := by decide +kernel
theorem dX9_flakes_9 : decode cX9_flakes 9 = .ok (.ifCond .eq 14, 3) := by decide +kernel
theorem dX9_flakes_12 : decode cX9_flakes 12 = .ok (.iload_n 2, 1) := by decide +kernel
theorem dX9_flakes_13 : decode cX9_flakes 13 = .ok (.bipush 10, 2) := by decide +kernel
theorem dX9_flakes_15 : decode cX9_flakes 15 = .ok (.bipush 60, 2) := by decide +kernel
theorem dX9_flakes_17 : decode cX9_flakes 17 = .ok (.invokestatic 41, 3) := by decide +kernel
theorem dX9_flakes_20 : decode cX9_flakes 20 = .ok (.ifCond .ne 6, 3) := by decide +kernel
theorem dX9_flakes_23 : decode cX9_flakes 23 = .ok (.bipush (-2), 2) := by decide +kernel
theorem dX9_flakes_25 : decode cX9_flakes 25 = .ok (.ireturn, 1) := by decide +kernel
theorem dX9_flakes_26 : decode cX9_flakes 26 = .ok (.aload_n 0, 1) := by decide +kernel
theorem dX9_flakes_27 : decode cX9_flakes 27 = .ok (.iload_n 1, 1) := by decide +kernel
theorem dX9_flakes_28 : decode cX9_flakes 28 = .ok (.invokevirtual 151, 3) := by decide +kernel
theorem dX9_flakes_31 : decode cX9_flakes 31 = .ok (.aload_n 0, 1) := by decide +kernel
theorem dX9_flakes_32 : decode cX9_flakes 32 = .ok (.getfield 28, 3) := by decide +kernel
theorem dX9_flakes_35 : decode cX9_flakes 35 = .ok (.iload_n 2, 1) := by decide +kernel
theorem dX9_flakes_36 : decode cX9_flakes 36 = .ok (.iaload, 1) := by decide +kernel
theorem dX9_flakes_37 : decode cX9_flakes 37 = .ok (.ireturn, 1) := by decide +kernel
theorem dX9_tired_0 : decode cX9_tired 0 = .ok (.iload_n 1, 1) := by decide +kernel
theorem dX9_tired_1 : decode cX9_tired 1 = .ok (.iconst 0, 1) := by decide +kernel
theorem dX9_tired_2 : decode cX9_tired 2 = .ok (.iconst 3, 1) := by decide +kernel
theorem dX9_tired_3 : decode cX9_tired 3 = .ok (.invokestatic 41, 3) := by decide +kernel
theorem dX9_tired_6 : decode cX9_tired 6 = .ok (.ifCond .ne 5, 3) := by decide +kernel
theorem dX9_tired_9 : decode cX9_tired 9 = .ok (.iconst (-1), 1) := by decide +kernel
theorem dX9_tired_10 : decode cX9_tired 10 = .ok (.ireturn, 1) := by decide +kernel
theorem dX9_tired_11 : decode cX9_tired 11 = .ok (.iload_n 2, 1) := by decide +kernel
theorem dX9_tired_12 : decode cX9_tired 12 = .ok (.iconst 0, 1) := by decide +kernel
theorem dX9_tired_13 : decode cX9_tired 13 = .ok (.aload_n 0, 1) := by decide +kernel
theorem dX9_tired_14 : decode cX9_tired 14 = .ok (.invokevirtual 73, 3) := by decide +kernel
theorem dX9_tired_17 : decode cX9_tired 17 = .ok (.invokestatic 41, 3) := by decide +kernel
theorem dX9_tired_20 : decode cX9_tired 20 = .ok (.ifCond .ne 6, 3) := by decide +kernel
theorem dX9_tired_23 : decode cX9_tired 23 = .ok (.bipush (-2), 2) := by decide +kernel
theorem dX9_tired_25 : decode cX9_tired 25 = .ok (.ireturn, 1) := by decide +kernel
theorem dX9_tired_26 : decode cX9_tired 26 = .ok (.aload_n 0, 1) := by decide +kernel
theorem dX9_tired_27 : decode cX9_tired 27 = .ok (.iload_n 2, 1) := by decide +kernel
theorem dX9_tired_28 : decode cX9_tired 28 = .ok (.invokevirtual 151, 3) := by decide +kernel
theorem dX9_tired_31 : decode cX9_tired 31 = .ok (.aload_n 0, 1) := by decide +kernel
theorem dX9_tired_32 : decode cX9_tired 32 = .ok (.getfield 31, 3) := by decide +kernel
theorem dX9_tired_35 : decode cX9_tired 35 = .ok (.iload_n 1, 1) := by decide +kernel
theorem dX9_tired_36 : decode cX9_tired 36 = .ok (.iaload, 1) := by decide +kernel
theorem dX9_tired_37 : decode cX9_tired 37 = .ok (.ireturn, 1) := by decide +kernel
theorem dX9_held_0 : decode cX9_held 0 = .ok (.iload_n 1, 1) := by decide +kernel
theorem dX9_held_1 : decode cX9_held 1 = .ok (.iconst 0, 1) := by decide +kernel
theorem dX9_held_2 : decode cX9_held 2 = .ok (.iconst 1, 1) := by decide +kernel
theorem dX9_held_3 : decode cX9_held 3 = .ok (.invokestatic 41, 3) := by decide +kernel
theorem dX9_held_6 : decode cX9_held 6 = .ok (.ifCond .ne 6, 3) := by decide +kernel
theorem dX9_held_9 : decode cX9_held 9 = .ok (.bipush (-2), 2) := by decide +kernel
theorem dX9_held_11 : decode cX9_held 11 = .ok (.ireturn, 1) := by decide +kernel
theorem dX9_held_12 : decode cX9_held 12 = .ok (.aload_n 0, 1) := by decide +kernel
theorem dX9_held_13 : decode cX9_held 13 = .ok (.aload_n 0, 1) := by decide +kernel
theorem dX9_held_14 : decode cX9_held 14 = .ok (.invokevirtual 73, 3) := by decide +kernel
theorem dX9_held_17 : decode cX9_held 17 = .ok (.invokevirtual 151, 3) := by decide +kernel
theorem dX9_held_20 : decode cX9_held 20 = .ok (.iload_n 1, 1) := by decide +kernel
theorem dX9_held_21 : decode cX9_held 21 = .ok (.ifCond .ne 10, 3) := by decide +kernel
theorem dX9_held_24 : decode cX9_held 24 = .ok (.aload_n 0, 1) := by decide +kernel
theorem dX9_held_25 : decode cX9_held 25 = .ok (.getfield 112, 3) := by decide +kernel
theorem dX9_held_28 : decode cX9_held 28 = .ok (.goto 7, 3) := by decide +kernel
theorem dX9_held_31 : decode cX9_held 31 = .ok (.aload_n 0, 1) := by decide +kernel
theorem dX9_held_32 : decode cX9_held 32 = .ok (.getfield 115, 3) := by decide +kernel
theorem dX9_held_35 : decode cX9_held 35 = .ok (.ireturn, 1) := by decide +kernel
theorem dX9_order_0 : decode cX9_order 0 = .ok (.iload_n 1, 1) := by decide +kernel
theorem dX9_order_1 : decode cX9_order 1 = .ok (.bipush (-2), 2) := by decide +kernel
theorem dX9_order_3 : decode cX9_order 3 = .ok (.iconst 3, 1) := by decide +kernel
theorem dX9_order_4 : decode cX9_order 4 = .ok (.invokestatic 41, 3) := by decide +kernel
theorem dX9_order_7 : decode cX9_order 7 = .ok (.ifCond .ne 5, 3) := by decide +kernel
theorem dX9_order_10 : decode cX9_order 10 = .ok (.iconst (-1), 1) := by decide +kernel
theorem dX9_order_11 : decode cX9_order 11 = .ok (.ireturn, 1) := by decide +kernel
theorem dX9_order_12 : decode cX9_order 12 = .ok (.aload_n 0, 1) := by decide +kernel
theorem dX9_order_13 : decode cX9_order 13 = .ok (.invokevirtual 144, 3) := by decide +kernel
theorem dX9_order_16 : decode cX9_order 16 = .ok (.bipush (-6), 2) := by decide +kernel
theorem dX9_order_18 : decode cX9_order 18 = .ok (.istore_n 2, 1) := by decide +kernel
theorem dX9_order_19 : decode cX9_order 19 = .ok (.iconst 0, 1) := by decide +kernel
theorem dX9_order_20 : decode cX9_order 20 = .ok (.istore_n 3, 1) := by decide +kernel
theorem dX9_order_21 : decode cX9_order 21 = .ok (.iconst 0, 1) := by decide +kernel
theorem dX9_order_22 : decode cX9_order 22 = .ok (.istore 4, 2) := by decide +kernel
theorem dX9_order_24 : decode cX9_order 24 = .ok (.iconst 0, 1) := by decide +kernel
theorem dX9_order_25 : decode cX9_order 25 = .ok (.istore 5, 2) := by decide +kernel
theorem dX9_order_27 : decode cX9_order 27 = .ok (.iload 5, 2) := by decide +kernel
theorem dX9_order_29 : decode cX9_order 29 = .ok (.sipush 256, 3) := by decide +kernel
theorem dX9_order_32 : decode cX9_order 32 = .ok (.if_icmp .ge 146, 3) := by decide +kernel
theorem dX9_order_35 : decode cX9_order 35 = .ok (.iload 5, 2) := by decide +kernel
theorem dX9_order_37 : decode cX9_order 37 = .ok (.bipush 64, 2) := by decide +kernel
theorem dX9_order_39 : decode cX9_order 39 = .ok (.idiv, 1) := by decide +kernel
theorem dX9_order_40 : decode cX9_order 40 = .ok (.istore 6, 2) := by decide +kernel
theorem dX9_order_42 : decode cX9_order 42 = .ok (.iload 5, 2) := by decide +kernel
theorem dX9_order_44 : decode cX9_order 44 = .ok (.bipush 16, 2) := by decide +kernel
theorem dX9_order_46 : decode cX9_order 46 = .ok (.idiv, 1) := by decide +kernel
theorem dX9_order_47 : decode cX9_order 47 = .ok (.iconst 4, 1) := by decide +kernel
theorem dX9_order_48 : decode cX9_order 48 = .ok (.irem, 1) := by decide +kernel
theorem dX9_order_49 : decode cX9_order 49 = .ok (.istore 7, 2) := by decide +kernel
theorem dX9_order_51 : decode cX9_order 51 = .ok (.iload 5, 2) := by decide +kernel
theorem dX9_order_53 : decode cX9_order 53 = .ok (.iconst 4, 1) := by decide +kernel
theorem dX9_order_54 : decode cX9_order 54 = .ok (.idiv, 1) := by decide +kernel
theorem dX9_order_55 : decode cX9_order 55 = .ok (.iconst 4, 1) := by decide +kernel
theorem dX9_order_56 : decode cX9_order 56 = .ok (.irem, 1) := by decide +kernel
theorem dX9_order_57 : decode cX9_order 57 = .ok (.istore 8, 2) := by decide +kernel
theorem dX9_order_59 : decode cX9_order 59 = .ok (.iload 5, 2) := by decide +kernel
theorem dX9_order_61 : decode cX9_order 61 = .ok (.iconst 4, 1) := by decide +kernel
theorem dX9_order_62 : decode cX9_order 62 = .ok (.irem, 1) := by decide +kernel
theorem dX9_order_63 : decode cX9_order 63 = .ok (.istore 9, 2) := by decide +kernel
theorem dX9_order_65 : decode cX9_order 65 = .ok (.iconst 1, 1) := by decide +kernel
theorem dX9_order_66 : decode cX9_order 66 = .ok (.iload 6, 2) := by decide +kernel
theorem dX9_order_68 : decode cX9_order 68 = .ok (.ishl, 1) := by decide +kernel
theorem dX9_order_69 : decode cX9_order 69 = .ok (.iconst 1, 1) := by decide +kernel
theorem dX9_order_70 : decode cX9_order 70 = .ok (.iload 7, 2) := by decide +kernel
theorem dX9_order_72 : decode cX9_order 72 = .ok (.ishl, 1) := by decide +kernel
theorem dX9_order_73 : decode cX9_order 73 = .ok (.ior, 1) := by decide +kernel
theorem dX9_order_74 : decode cX9_order 74 = .ok (.iconst 1, 1) := by decide +kernel
theorem dX9_order_75 : decode cX9_order 75 = .ok (.iload 8, 2) := by decide +kernel
theorem dX9_order_77 : decode cX9_order 77 = .ok (.ishl, 1) := by decide +kernel
theorem dX9_order_78 : decode cX9_order 78 = .ok (.ior, 1) := by decide +kernel
theorem dX9_order_79 : decode cX9_order 79 = .ok (.iconst 1, 1) := by decide +kernel
theorem dX9_order_80 : decode cX9_order 80 = .ok (.iload 9, 2) := by decide +kernel
theorem dX9_order_82 : decode cX9_order 82 = .ok (.ishl, 1) := by decide +kernel
theorem dX9_order_83 : decode cX9_order 83 = .ok (.ior, 1) := by decide +kernel
theorem dX9_order_84 : decode cX9_order 84 = .ok (.bipush 15, 2) := by decide +kernel
theorem dX9_order_86 : decode cX9_order 86 = .ok (.if_icmp .ne 86, 3) := by decide +kernel
theorem dX9_order_89 : decode cX9_order 89 = .ok (.aload_n 0, 1) := by decide +kernel
theorem dX9_order_90 : decode cX9_order 90 = .ok (.getfield 25, 3) := by decide +kernel
theorem dX9_order_93 : decode cX9_order 93 = .ok (.iconst 0, 1) := by decide +kernel
theorem dX9_order_94 : decode cX9_order 94 = .ok (.iload 6, 2) := by decide +kernel
theorem dX9_order_96 : decode cX9_order 96 = .ok (.iastore, 1) := by decide +kernel
theorem dX9_order_97 : decode cX9_order 97 = .ok (.aload_n 0, 1) := by decide +kernel
theorem dX9_order_98 : decode cX9_order 98 = .ok (.getfield 25, 3) := by decide +kernel
theorem dX9_order_101 : decode cX9_order 101 = .ok (.iconst 1, 1) := by decide +kernel
theorem dX9_order_102 : decode cX9_order 102 = .ok (.iload 7, 2) := by decide +kernel
theorem dX9_order_104 : decode cX9_order 104 = .ok (.iastore, 1) := by decide +kernel
theorem dX9_order_105 : decode cX9_order 105 = .ok (.aload_n 0, 1) := by decide +kernel
theorem dX9_order_106 : decode cX9_order 106 = .ok (.getfield 25, 3) := by decide +kernel
theorem dX9_order_109 : decode cX9_order 109 = .ok (.iconst 2, 1) := by decide +kernel
theorem dX9_order_110 : decode cX9_order 110 = .ok (.iload 8, 2) := by decide +kernel
theorem dX9_order_112 : decode cX9_order 112 = .ok (.iastore, 1) := by decide +kernel
theorem dX9_order_113 : decode cX9_order 113 = .ok (.aload_n 0, 1) := by decide +kernel
theorem dX9_order_114 : decode cX9_order 114 = .ok (.getfield 25, 3) := by decide +kernel
theorem dX9_order_117 : decode cX9_order 117 = .ok (.iconst 3, 1) := by decide +kernel
theorem dX9_order_118 : decode cX9_order 118 = .ok (.iload 9, 2) := by decide +kernel
theorem dX9_order_120 : decode cX9_order 120 = .ok (.iastore, 1) := by decide +kernel
theorem dX9_order_121 : decode cX9_order 121 = .ok (.aload_n 0, 1) := by decide +kernel
theorem dX9_order_122 : decode cX9_order 122 = .ok (.aload_n 0, 1) := by decide +kernel
theorem dX9_order_123 : decode cX9_order 123 = .ok (.invokevirtual 73, 3) := by decide +kernel
theorem dX9_order_126 : decode cX9_order 126 = .ok (.invokevirtual 147, 3) := by decide +kernel
theorem dX9_order_129 : decode cX9_order 129 = .ok (.iload_n 2, 1) := by decide +kernel
theorem dX9_order_130 : decode cX9_order 130 = .ok (.ifCond .lt 28, 3) := by decide +kernel
theorem dX9_order_133 : decode cX9_order 133 = .ok (.aload_n 0, 1) := by decide +kernel
theorem dX9_order_134 : decode cX9_order 134 = .ok (.getfield 112, 3) := by decide +kernel
theorem dX9_order_137 : decode cX9_order 137 = .ok (.iload_n 3, 1) := by decide +kernel
theorem dX9_order_138 : decode cX9_order 138 = .ok (.if_icmp .lt 20, 3) := by decide +kernel
theorem dX9_order_141 : decode cX9_order 141 = .ok (.aload_n 0, 1) := by decide +kernel
theorem dX9_order_142 : decode cX9_order 142 = .ok (.getfield 112, 3) := by decide +kernel
theorem dX9_order_145 : decode cX9_order 145 = .ok (.iload_n 3, 1) := by decide +kernel
theorem dX9_order_146 : decode cX9_order 146 = .ok (.if_icmp .ne 26, 3) := by decide +kernel
theorem dX9_order_149 : decode cX9_order 149 = .ok (.aload_n 0, 1) := by decide +kernel
theorem dX9_order_150 : decode cX9_order 150 = .ok (.getfield 82, 3) := by decide +kernel
theorem dX9_order_153 : decode cX9_order 153 = .ok (.iload 4, 2) := by decide +kernel
theorem dX9_order_155 : decode cX9_order 155 = .ok (.if_icmp .le 17, 3) := by decide +kernel
theorem dX9_order_158 : decode cX9_order 158 = .ok (.iload 5, 2) := by decide +kernel
theorem dX9_order_160 : decode cX9_order 160 = .ok (.istore_n 2, 1) := by decide +kernel
theorem dX9_order_161 : decode cX9_order 161 = .ok (.aload_n 0, 1) := by decide +kernel
theorem dX9_order_162 : decode cX9_order 162 = .ok (.getfield 112, 3) := by decide +kernel
theorem dX9_order_165 : decode cX9_order 165 = .ok (.istore_n 3, 1) := by decide +kernel
theorem dX9_order_166 : decode cX9_order 166 = .ok (.aload_n 0, 1) := by decide +kernel
theorem dX9_order_167 : decode cX9_order 167 = .ok (.getfield 82, 3) := by decide +kernel
theorem dX9_order_170 : decode cX9_order 170 = .ok (.istore 4, 2) := by decide +kernel
theorem dX9_order_172 : decode cX9_order 172 = .ok (.iinc 5 1, 3) := by decide +kernel
theorem dX9_order_175 : decode cX9_order 175 = .ok (.goto (-148), 3) := by decide +kernel
theorem dX9_order_178 : decode cX9_order 178 = .ok (.iload_n 1, 1) := by decide +kernel
theorem dX9_order_179 : decode cX9_order 179 = .ok (.iconst (-1), 1) := by decide +kernel
theorem dX9_order_180 : decode cX9_order 180 = .ok (.if_icmp .ne 7, 3) := by decide +kernel
theorem dX9_order_183 : decode cX9_order 183 = .ok (.iload_n 3, 1) := by decide +kernel
theorem dX9_order_184 : decode cX9_order 184 = .ok (.goto 55, 3) := by decide +kernel
theorem dX9_order_187 : decode cX9_order 187 = .ok (.iload_n 1, 1) := by decide +kernel
theorem dX9_order_188 : decode cX9_order 188 = .ok (.bipush (-2), 2) := by decide +kernel
theorem dX9_order_190 : decode cX9_order 190 = .ok (.if_icmp .ne 8, 3) := by decide +kernel
theorem dX9_order_193 : decode cX9_order 193 = .ok (.iload 4, 2) := by decide +kernel
theorem dX9_order_195 : decode cX9_order 195 = .ok (.goto 44, 3) := by decide +kernel
theorem dX9_order_198 : decode cX9_order 198 = .ok (.iload_n 1, 1) := by decide +kernel
theorem dX9_order_199 : decode cX9_order 199 = .ok (.ifCond .ne 10, 3) := by decide +kernel
theorem dX9_order_202 : decode cX9_order 202 = .ok (.iload_n 2, 1) := by decide +kernel
theorem dX9_order_203 : decode cX9_order 203 = .ok (.bipush 64, 2) := by decide +kernel
theorem dX9_order_205 : decode cX9_order 205 = .ok (.idiv, 1) := by decide +kernel
theorem dX9_order_206 : decode cX9_order 206 = .ok (.goto 33, 3) := by decide +kernel
theorem dX9_order_209 : decode cX9_order 209 = .ok (.iload_n 1, 1) := by decide +kernel
theorem dX9_order_210 : decode cX9_order 210 = .ok (.iconst 1, 1) := by decide +kernel
theorem dX9_order_211 : decode cX9_order 211 = .ok (.if_icmp .ne 12, 3) := by decide +kernel
theorem dX9_order_214 : decode cX9_order 214 = .ok (.iload_n 2, 1) := by decide +kernel
theorem dX9_order_215 : decode cX9_order 215 = .ok (.bipush 16, 2) := by decide +kernel
theorem dX9_order_217 : decode cX9_order 217 = .ok (.idiv, 1) := by decide +kernel
theorem dX9_order_218 : decode cX9_order 218 = .ok (.iconst 4, 1) := by decide +kernel
theorem dX9_order_219 : decode cX9_order 219 = .ok (.irem, 1) := by decide +kernel
theorem dX9_order_220 : decode cX9_order 220 = .ok (.goto 19, 3) := by decide +kernel
theorem dX9_order_223 : decode cX9_order 223 = .ok (.iload_n 1, 1) := by decide +kernel
theorem dX9_order_224 : decode cX9_order 224 = .ok (.iconst 2, 1) := by decide +kernel
theorem dX9_order_225 : decode cX9_order 225 = .ok (.if_icmp .ne 11, 3) := by decide +kernel
theorem dX9_order_228 : decode cX9_order 228 = .ok (.iload_n 2, 1) := by decide +kernel
theorem dX9_order_229 : decode cX9_order 229 = .ok (.iconst 4, 1) := by decide +kernel
theorem dX9_order_230 : decode cX9_order 230 = .ok (.idiv, 1) := by decide +kernel
theorem dX9_order_231 : decode cX9_order 231 = .ok (.iconst 4, 1) := by decide +kernel
theorem dX9_order_232 : decode cX9_order 232 = .ok (.irem, 1) := by decide +kernel
theorem dX9_order_233 : decode cX9_order 233 = .ok (.goto 6, 3) := by decide +kernel
theorem dX9_order_236 : decode cX9_order 236 = .ok (.iload_n 2, 1) := by decide +kernel
theorem dX9_order_237 : decode cX9_order 237 = .ok (.iconst 4, 1) := by decide +kernel
theorem dX9_order_238 : decode cX9_order 238 = .ok (.irem, 1) := by decide +kernel
theorem dX9_order_239 : decode cX9_order 239 = .ok (.ireturn, 1) := by decide +kernel
theorem dX9_isEnough_0 : decode cX9_isEnough 0 = .ok (.sipush 1000, 3) := by decide +kernel
theorem dX9_isEnough_3 : decode cX9_isEnough 3 = .ok (.aload_n 0, 1) := by decide +kernel
theorem dX9_isEnough_4 : decode cX9_isEnough 4 = .ok (.getfield 82, 3) := by decide +kernel
theorem dX9_isEnough_7 : decode cX9_isEnough 7 = .ok (.imul, 1) := by decide +kernel
theorem dX9_isEnough_8 : decode cX9_isEnough 8 = .ok (.aload_n 0, 1) := by decide +kernel
theorem dX9_isEnough_9 : decode cX9_isEnough 9 = .ok (.getfield 7, 3) := by decide +kernel
theorem dX9_isEnough_12 : decode cX9_isEnough 12 = .ok (.bipush 6, 2) := by decide +kernel
theorem dX9_isEnough_14 : decode cX9_isEnough 14 = .ok (.iaload, 1) := by decide +kernel
theorem dX9_isEnough_15 : decode cX9_isEnough 15 = .ok (.aload_n 0, 1) := by decide +kernel
theorem dX9_isEnough_16 : decode cX9_isEnough 16 = .ok (.getfield 7, 3) := by decide +kernel
theorem dX9_isEnough_19 : decode cX9_isEnough 19 = .ok (.iconst 2, 1) := by decide +kernel
theorem dX9_isEnough_20 : decode cX9_isEnough 20 = .ok (.iaload, 1) := by decide +kernel
theorem dX9_isEnough_21 : decode cX9_isEnough 21 = .ok (.imul, 1) := by decide +kernel
theorem dX9_isEnough_22 : decode cX9_isEnough 22 = .ok (.if_icmp .lt 7, 3) := by decide +kernel
theorem dX9_isEnough_25 : decode cX9_isEnough 25 = .ok (.iconst 1, 1) := by decide +kernel
theorem dX9_isEnough_26 : decode cX9_isEnough 26 = .ok (.goto 4, 3) := by decide +kernel
theorem dX9_isEnough_29 : decode cX9_isEnough 29 = .ok (.iconst 0, 1) := by decide +kernel
theorem dX9_isEnough_30 : decode cX9_isEnough 30 = .ok (.ireturn, 1) := by decide +kernel
theorem dX9_bestSalt_0 : decode cX9_bestSalt 0 = .ok (.iload_n 1, 1) := by decide +kernel
theorem dX9_bestSalt_1 : decode cX9_bestSalt 1 = .ok (.iconst 0, 1) := by decide +kernel
theorem dX9_bestSalt_2 : decode cX9_bestSalt 2 = .ok (.iconst 1, 1) := by decide +kernel
theorem dX9_bestSalt_3 : decode cX9_bestSalt 3 = .ok (.invokestatic 41, 3) := by decide +kernel
theorem dX9_bestSalt_6 : decode cX9_bestSalt 6 = .ok (.ifCond .ne 6, 3) := by decide +kernel
theorem dX9_bestSalt_9 : decode cX9_bestSalt 9 = .ok (.bipush (-2), 2) := by decide +kernel
theorem dX9_bestSalt_11 : decode cX9_bestSalt 11 = .ok (.ireturn, 1) := by decide +kernel
theorem dX9_bestSalt_12 : decode cX9_bestSalt 12 = .ok (.aload_n 0, 1) := by decide +kernel
theorem dX9_bestSalt_13 : decode cX9_bestSalt 13 = .ok (.invokevirtual 144, 3) := by decide +kernel
theorem dX9_bestSalt_16 : decode cX9_bestSalt 16 = .ok (.bipush (-6), 2) := by decide +kernel
theorem dX9_bestSalt_18 : decode cX9_bestSalt 18 = .ok (.istore_n 2, 1) := by decide +kernel
theorem dX9_bestSalt_19 : decode cX9_bestSalt 19 = .ok (.iconst 0, 1) := by decide +kernel
theorem dX9_bestSalt_20 : decode cX9_bestSalt 20 = .ok (.istore_n 3, 1) := by decide +kernel
theorem dX9_bestSalt_21 : decode cX9_bestSalt 21 = .ok (.iconst 0, 1) := by decide +kernel
theorem dX9_bestSalt_22 : decode cX9_bestSalt 22 = .ok (.istore 4, 2) := by decide +kernel
theorem dX9_bestSalt_24 : decode cX9_bestSalt 24 = .ok (.iload 4, 2) := by decide +kernel
theorem dX9_bestSalt_26 : decode cX9_bestSalt 26 = .ok (.sipush 3000, 3) := by decide +kernel
theorem dX9_bestSalt_29 : decode cX9_bestSalt 29 = .ok (.if_icmp .gt 50, 3) := by decide +kernel
theorem dX9_bestSalt_32 : decode cX9_bestSalt 32 = .ok (.aload_n 0, 1) := by decide +kernel
theorem dX9_bestSalt_33 : decode cX9_bestSalt 33 = .ok (.iload 4, 2) := by decide +kernel
theorem dX9_bestSalt_35 : decode cX9_bestSalt 35 = .ok (.putfield 76, 3) := by decide +kernel
theorem dX9_bestSalt_38 : decode cX9_bestSalt 38 = .ok (.aload_n 0, 1) := by decide +kernel
theorem dX9_bestSalt_39 : decode cX9_bestSalt 39 = .ok (.aload_n 0, 1) := by decide +kernel
theorem dX9_bestSalt_40 : decode cX9_bestSalt 40 = .ok (.invokevirtual 73, 3) := by decide +kernel
theorem dX9_bestSalt_43 : decode cX9_bestSalt 43 = .ok (.invokevirtual 147, 3) := by decide +kernel
theorem dX9_bestSalt_46 : decode cX9_bestSalt 46 = .ok (.aload_n 0, 1) := by decide +kernel
theorem dX9_bestSalt_47 : decode cX9_bestSalt 47 = .ok (.invokevirtual 157, 3) := by decide +kernel
theorem dX9_bestSalt_50 : decode cX9_bestSalt 50 = .ok (.ifCond .eq 23, 3) := by decide +kernel
theorem dX9_bestSalt_53 : decode cX9_bestSalt 53 = .ok (.iload_n 2, 1) := by decide +kernel
theorem dX9_bestSalt_54 : decode cX9_bestSalt 54 = .ok (.ifCond .lt 11, 3) := by decide +kernel
theorem dX9_bestSalt_57 : decode cX9_bestSalt 57 = .ok (.aload_n 0, 1) := by decide +kernel
theorem dX9_bestSalt_58 : decode cX9_bestSalt 58 = .ok (.invokevirtual 154, 3) := by decide +kernel
theorem dX9_bestSalt_61 : decode cX9_bestSalt 61 = .ok (.iload_n 3, 1) := by decide +kernel
theorem dX9_bestSalt_62 : decode cX9_bestSalt 62 = .ok (.if_icmp .ge 11, 3) := by decide +kernel
theorem dX9_bestSalt_65 : decode cX9_bestSalt 65 = .ok (.iload 4, 2) := by decide +kernel
theorem dX9_bestSalt_67 : decode cX9_bestSalt 67 = .ok (.istore_n 2, 1) := by decide +kernel
theorem dX9_bestSalt_68 : decode cX9_bestSalt 68 = .ok (.aload_n 0, 1) := by decide +kernel
theorem dX9_bestSalt_69 : decode cX9_bestSalt 69 = .ok (.invokevirtual 154, 3) := by decide +kernel
theorem dX9_bestSalt_72 : decode cX9_bestSalt 72 = .ok (.istore_n 3, 1) := by decide +kernel
theorem dX9_bestSalt_73 : decode cX9_bestSalt 73 = .ok (.iinc 4 100, 3) := by decide +kernel
theorem dX9_bestSalt_76 : decode cX9_bestSalt 76 = .ok (.goto (-52), 3) := by decide +kernel
theorem dX9_bestSalt_79 : decode cX9_bestSalt 79 = .ok (.iload_n 2, 1) := by decide +kernel
theorem dX9_bestSalt_80 : decode cX9_bestSalt 80 = .ok (.ifCond .lt 7, 3) := by decide +kernel
theorem dX9_bestSalt_83 : decode cX9_bestSalt 83 = .ok (.iload_n 1, 1) := by decide +kernel
theorem dX9_bestSalt_84 : decode cX9_bestSalt 84 = .ok (.ifCond .ne 7, 3) := by decide +kernel
theorem dX9_bestSalt_87 : decode cX9_bestSalt 87 = .ok (.iload_n 2, 1) := by decide +kernel
theorem dX9_bestSalt_88 : decode cX9_bestSalt 88 = .ok (.goto 4, 3) := by decide +kernel
theorem dX9_bestSalt_91 : decode cX9_bestSalt 91 = .ok (.iload_n 3, 1) := by decide +kernel
theorem dX9_bestSalt_92 : decode cX9_bestSalt 92 = .ok (.ireturn, 1) := by decide +kernel
theorem dX9_bestPace_0 : decode cX9_bestPace 0 = .ok (.iload_n 1, 1) := by decide +kernel
theorem dX9_bestPace_1 : decode cX9_bestPace 1 = .ok (.iconst 0, 1) := by decide +kernel
theorem dX9_bestPace_2 : decode cX9_bestPace 2 = .ok (.iconst 1, 1) := by decide +kernel
theorem dX9_bestPace_3 : decode cX9_bestPace 3 = .ok (.invokestatic 41, 3) := by decide +kernel
theorem dX9_bestPace_6 : decode cX9_bestPace 6 = .ok (.ifCond .ne 6, 3) := by decide +kernel
theorem dX9_bestPace_9 : decode cX9_bestPace 9 = .ok (.bipush (-2), 2) := by decide +kernel
theorem dX9_bestPace_11 : decode cX9_bestPace 11 = .ok (.ireturn, 1) := by decide +kernel
theorem dX9_bestPace_12 : decode cX9_bestPace 12 = .ok (.aload_n 0, 1) := by decide +kernel
theorem dX9_bestPace_13 : decode cX9_bestPace 13 = .ok (.invokevirtual 144, 3) := by decide +kernel
theorem dX9_bestPace_16 : decode cX9_bestPace 16 = .ok (.bipush (-6), 2) := by decide +kernel
theorem dX9_bestPace_18 : decode cX9_bestPace 18 = .ok (.istore_n 2, 1) := by decide +kernel
theorem dX9_bestPace_19 : decode cX9_bestPace 19 = .ok (.iconst 0, 1) := by decide +kernel
theorem dX9_bestPace_20 : decode cX9_bestPace 20 = .ok (.istore_n 3, 1) := by decide +kernel
theorem dX9_bestPace_21 : decode cX9_bestPace 21 = .ok (.iconst 1, 1) := by decide +kernel
theorem dX9_bestPace_22 : decode cX9_bestPace 22 = .ok (.istore 4, 2) := by decide +kernel
theorem dX9_bestPace_24 : decode cX9_bestPace 24 = .ok (.iload 4, 2) := by decide +kernel
theorem dX9_bestPace_26 : decode cX9_bestPace 26 = .ok (.bipush 10, 2) := by decide +kernel
theorem dX9_bestPace_28 : decode cX9_bestPace 28 = .ok (.if_icmp .ge 50, 3) := by decide +kernel
theorem dX9_bestPace_31 : decode cX9_bestPace 31 = .ok (.aload_n 0, 1) := by decide +kernel
theorem dX9_bestPace_32 : decode cX9_bestPace 32 = .ok (.iload 4, 2) := by decide +kernel
theorem dX9_bestPace_34 : decode cX9_bestPace 34 = .ok (.putfield 79, 3) := by decide +kernel
theorem dX9_bestPace_37 : decode cX9_bestPace 37 = .ok (.aload_n 0, 1) := by decide +kernel
theorem dX9_bestPace_38 : decode cX9_bestPace 38 = .ok (.aload_n 0, 1) := by decide +kernel
theorem dX9_bestPace_39 : decode cX9_bestPace 39 = .ok (.invokevirtual 73, 3) := by decide +kernel
theorem dX9_bestPace_42 : decode cX9_bestPace 42 = .ok (.invokevirtual 147, 3) := by decide +kernel
theorem dX9_bestPace_45 : decode cX9_bestPace 45 = .ok (.aload_n 0, 1) := by decide +kernel
theorem dX9_bestPace_46 : decode cX9_bestPace 46 = .ok (.invokevirtual 157, 3) := by decide +kernel
theorem dX9_bestPace_49 : decode cX9_bestPace 49 = .ok (.ifCond .eq 23, 3) := by decide +kernel
theorem dX9_bestPace_52 : decode cX9_bestPace 52 = .ok (.iload_n 2, 1) := by decide +kernel
theorem dX9_bestPace_53 : decode cX9_bestPace 53 = .ok (.ifCond .lt 11, 3) := by decide +kernel
theorem dX9_bestPace_56 : decode cX9_bestPace 56 = .ok (.aload_n 0, 1) := by decide +kernel
theorem dX9_bestPace_57 : decode cX9_bestPace 57 = .ok (.invokevirtual 154, 3) := by decide +kernel
theorem dX9_bestPace_60 : decode cX9_bestPace 60 = .ok (.iload_n 3, 1) := by decide +kernel
theorem dX9_bestPace_61 : decode cX9_bestPace 61 = .ok (.if_icmp .ge 11, 3) := by decide +kernel
theorem dX9_bestPace_64 : decode cX9_bestPace 64 = .ok (.iload 4, 2) := by decide +kernel
theorem dX9_bestPace_66 : decode cX9_bestPace 66 = .ok (.istore_n 2, 1) := by decide +kernel
theorem dX9_bestPace_67 : decode cX9_bestPace 67 = .ok (.aload_n 0, 1) := by decide +kernel
theorem dX9_bestPace_68 : decode cX9_bestPace 68 = .ok (.invokevirtual 154, 3) := by decide +kernel
theorem dX9_bestPace_71 : decode cX9_bestPace 71 = .ok (.istore_n 3, 1) := by decide +kernel
theorem dX9_bestPace_72 : decode cX9_bestPace 72 = .ok (.iinc 4 1, 3) := by decide +kernel
theorem dX9_bestPace_75 : decode cX9_bestPace 75 = .ok (.goto (-51), 3) := by decide +kernel
theorem dX9_bestPace_78 : decode cX9_bestPace 78 = .ok (.iload_n 2, 1) := by decide +kernel
theorem dX9_bestPace_79 : decode cX9_bestPace 79 = .ok (.ifCond .lt 7, 3) := by decide +kernel
theorem dX9_bestPace_82 : decode cX9_bestPace 82 = .ok (.iload_n 1, 1) := by decide +kernel
theorem dX9_bestPace_83 : decode cX9_bestPace 83 = .ok (.ifCond .ne 7, 3) := by decide +kernel
theorem dX9_bestPace_86 : decode cX9_bestPace 86 = .ok (.iload_n 2, 1) := by decide +kernel
theorem dX9_bestPace_87 : decode cX9_bestPace 87 = .ok (.goto 4, 3) := by decide +kernel
theorem dX9_bestPace_90 : decode cX9_bestPace 90 = .ok (.iload_n 3, 1) := by decide +kernel
theorem dX9_bestPace_91 : decode cX9_bestPace 91 = .ok (.ireturn, 1) := by decide +kernel
theorem dX9_leaveOff_0 : decode cX9_leaveOff 0 = .ok (.iload_n 1, 1) := by decide +kernel
theorem dX9_leaveOff_1 : decode cX9_leaveOff 1 = .ok (.iconst 0, 1) := by decide +kernel
theorem dX9_leaveOff_2 : decode cX9_leaveOff 2 = .ok (.bipush 120, 2) := by decide +kernel
theorem dX9_leaveOff_4 : decode cX9_leaveOff 4 = .ok (.invokestatic 41, 3) := by decide +kernel
theorem dX9_leaveOff_7 : decode cX9_leaveOff 7 = .ok (.ifCond .ne 6, 3) := by decide +kernel
theorem dX9_leaveOff_10 : decode cX9_leaveOff 10 = .ok (.bipush (-2), 2) := by decide +kernel
theorem dX9_leaveOff_12 : decode cX9_leaveOff 12 = .ok (.ireturn, 1) := by decide +kernel
theorem dX9_leaveOff_13 : decode cX9_leaveOff 13 = .ok (.aload_n 0, 1) := by decide +kernel
theorem dX9_leaveOff_14 : decode cX9_leaveOff 14 = .ok (.iload_n 1, 1) := by decide +kernel
theorem dX9_leaveOff_15 : decode cX9_leaveOff 15 = .ok (.putfield 134, 3) := by decide +kernel
theorem dX9_leaveOff_18 : decode cX9_leaveOff 18 = .ok (.aload_n 0, 1) := by decide +kernel
theorem dX9_leaveOff_19 : decode cX9_leaveOff 19 = .ok (.aload_n 0, 1) := by decide +kernel
theorem dX9_leaveOff_20 : decode cX9_leaveOff 20 = .ok (.invokevirtual 73, 3) := by decide +kernel
theorem dX9_leaveOff_23 : decode cX9_leaveOff 23 = .ok (.invokevirtual 151, 3) := by decide +kernel
theorem dX9_leaveOff_26 : decode cX9_leaveOff 26 = .ok (.aload_n 0, 1) := by decide +kernel
theorem dX9_leaveOff_27 : decode cX9_leaveOff 27 = .ok (.getfield 118, 3) := by decide +kernel
theorem dX9_leaveOff_30 : decode cX9_leaveOff 30 = .ok (.ireturn, 1) := by decide +kernel
theorem dX9_box_0 : decode cX9_box 0 = .ok (.aload_n 0, 1) := by decide +kernel
theorem dX9_box_1 : decode cX9_box 1 = .ok (.invokevirtual 67, 3) := by decide +kernel
theorem dX9_box_4 : decode cX9_box 4 = .ok (.ifCond .lt 6, 3) := by decide +kernel
theorem dX9_box_7 : decode cX9_box 7 = .ok (.bipush (-5), 2) := by decide +kernel
theorem dX9_box_9 : decode cX9_box 9 = .ok (.ireturn, 1) := by decide +kernel
theorem dX9_box_10 : decode cX9_box 10 = .ok (.aload_n 0, 1) := by decide +kernel
theorem dX9_box_11 : decode cX9_box 11 = .ok (.aload_n 0, 1) := by decide +kernel
theorem dX9_box_12 : decode cX9_box 12 = .ok (.getfield 52, 3) := by decide +kernel
theorem dX9_box_15 : decode cX9_box 15 = .ok (.putfield 161, 3) := by decide +kernel
theorem dX9_box_18 : decode cX9_box 18 = .ok (.iconst 0, 1) := by decide +kernel
theorem dX9_box_19 : decode cX9_box 19 = .ok (.istore_n 1, 1) := by decide +kernel
theorem dX9_box_20 : decode cX9_box 20 = .ok (.iload_n 1, 1) := by decide +kernel
theorem dX9_box_21 : decode cX9_box 21 = .ok (.aload_n 0, 1) := by decide +kernel
theorem dX9_box_22 : decode cX9_box 22 = .ok (.getfield 52, 3) := by decide +kernel
theorem dX9_box_25 : decode cX9_box 25 = .ok (.if_icmp .ge 24, 3) := by decide +kernel
theorem dX9_box_28 : decode cX9_box 28 = .ok (.aload_n 0, 1) := by decide +kernel
theorem dX9_box_29 : decode cX9_box 29 = .ok (.getfield 22, 3) := by decide +kernel
theorem dX9_box_32 : decode cX9_box 32 = .ok (.iload_n 1, 1) := by decide +kernel
theorem dX9_box_33 : decode cX9_box 33 = .ok (.aload_n 0, 1) := by decide +kernel
theorem dX9_box_34 : decode cX9_box 34 = .ok (.getfield 16, 3) := by decide +kernel
theorem dX9_box_37 : decode cX9_box 37 = .ok (.iload_n 1, 1) := by decide +kernel
theorem dX9_box_38 : decode cX9_box 38 = .ok (.iaload, 1) := by decide +kernel
theorem dX9_box_39 : decode cX9_box 39 = .ok (.bipush 48, 2) := by decide +kernel
theorem dX9_box_41 : decode cX9_box 41 = .ok (.isub, 1) := by decide +kernel
theorem dX9_box_42 : decode cX9_box 42 = .ok (.iastore, 1) := by decide +kernel
theorem dX9_box_43 : decode cX9_box 43 = .ok (.iinc 1 1, 3) := by decide +kernel
theorem dX9_box_46 : decode cX9_box 46 = .ok (.goto (-26), 3) := by decide +kernel
theorem dX9_box_49 : decode cX9_box 49 = .ok (.aload_n 0, 1) := by decide +kernel
theorem dX9_box_50 : decode cX9_box 50 = .ok (.iconst 0, 1) := by decide +kernel
theorem dX9_box_51 : decode cX9_box 51 = .ok (.putfield 52, 3) := by decide +kernel
theorem dX9_box_54 : decode cX9_box 54 = .ok (.aload_n 0, 1) := by decide +kernel
theorem dX9_box_55 : decode cX9_box 55 = .ok (.getfield 161, 3) := by decide +kernel
theorem dX9_box_58 : decode cX9_box 58 = .ok (.ireturn, 1) := by decide +kernel
theorem dX9_goDay_0 : decode cX9_goDay 0 = .ok (.bipush 63, 2) := by decide +kernel
theorem dX9_goDay_2 : decode cX9_goDay 2 = .ok (.istore_n 2, 1) := by decide +kernel
theorem dX9_goDay_3 : decode cX9_goDay 3 = .ok (.iload_n 2, 1) := by decide +kernel
theorem dX9_goDay_4 : decode cX9_goDay 4 = .ok (.bipush 9, 2) := by decide +kernel
theorem dX9_goDay_6 : decode cX9_goDay 6 = .ok (.if_icmp .le 80, 3) := by decide +kernel
theorem dX9_goDay_9 : decode cX9_goDay 9 = .ok (.aload_n 0, 1) := by decide +kernel
theorem dX9_goDay_10 : decode cX9_goDay 10 = .ok (.getfield 28, 3) := by decide +kernel
theorem dX9_goDay_13 : decode cX9_goDay 13 = .ok (.iload_n 2, 1) := by decide +kernel
theorem dX9_goDay_14 : decode cX9_goDay 14 = .ok (.iaload, 1) := by decide +kernel
theorem dX9_goDay_15 : decode cX9_goDay 15 = .ok (.iload_n 1, 1) := by decide +kernel
theorem dX9_goDay_16 : decode cX9_goDay 16 = .ok (.imul, 1) := by decide +kernel
theorem dX9_goDay_17 : decode cX9_goDay 17 = .ok (.bipush 10, 2) := by decide +kernel
theorem dX9_goDay_19 : decode cX9_goDay 19 = .ok (.iconst 5, 1) := by decide +kernel
theorem dX9_goDay_20 : decode cX9_goDay 20 = .ok (.aload_n 0, 1) := by decide +kernel
theorem dX9_goDay_21 : decode cX9_goDay 21 = .ok (.getfield 7, 3) := by decide +kernel
theorem dX9_goDay_24 : decode cX9_goDay 24 = .ok (.bipush 7, 2) := by decide +kernel
theorem dX9_goDay_26 : decode cX9_goDay 26 = .ok (.iaload, 1) := by decide +kernel
theorem dX9_goDay_27 : decode cX9_goDay 27 = .ok (.imul, 1) := by decide +kernel
theorem dX9_goDay_28 : decode cX9_goDay 28 = .ok (.iadd, 1) := by decide +kernel
theorem dX9_goDay_29 : decode cX9_goDay 29 = .ok (.idiv, 1) := by decide +kernel
theorem dX9_goDay_30 : decode cX9_goDay 30 = .ok (.istore_n 3, 1) := by decide +kernel
theorem dX9_goDay_31 : decode cX9_goDay 31 = .ok (.iload_n 2, 1) := by decide +kernel
theorem dX9_goDay_32 : decode cX9_goDay 32 = .ok (.iconst 1, 1) := by decide +kernel
theorem dX9_goDay_33 : decode cX9_goDay 33 = .ok (.iadd, 1) := by decide +kernel
theorem dX9_goDay_34 : decode cX9_goDay 34 = .ok (.bipush 100, 2) := by decide +kernel
theorem dX9_goDay_36 : decode cX9_goDay 36 = .ok (.iload_n 2, 1) := by decide +kernel
theorem dX9_goDay_37 : decode cX9_goDay 37 = .ok (.idiv, 1) := by decide +kernel
theorem dX9_goDay_38 : decode cX9_goDay 38 = .ok (.iadd, 1) := by decide +kernel
theorem dX9_goDay_39 : decode cX9_goDay 39 = .ok (.bipush 63, 2) := by decide +kernel
theorem dX9_goDay_41 : decode cX9_goDay 41 = .ok (.if_icmp .le 8, 3) := by decide +kernel
theorem dX9_goDay_44 : decode cX9_goDay 44 = .ok (.bipush 63, 2) := by decide +kernel
theorem dX9_goDay_46 : decode cX9_goDay 46 = .ok (.goto 11, 3) := by decide +kernel
theorem dX9_goDay_49 : decode cX9_goDay 49 = .ok (.iload_n 2, 1) := by decide +kernel
theorem dX9_goDay_50 : decode cX9_goDay 50 = .ok (.iconst 1, 1) := by decide +kernel
theorem dX9_goDay_51 : decode cX9_goDay 51 = .ok (.iadd, 1) := by decide +kernel
theorem dX9_goDay_52 : decode cX9_goDay 52 = .ok (.bipush 100, 2) := by decide +kernel
theorem dX9_goDay_54 : decode cX9_goDay 54 = .ok (.iload_n 2, 1) := by decide +kernel
theorem dX9_goDay_55 : decode cX9_goDay 55 = .ok (.idiv, 1) := by decide +kernel
theorem dX9_goDay_56 : decode cX9_goDay 56 = .ok (.iadd, 1) := by decide +kernel
theorem dX9_goDay_57 : decode cX9_goDay 57 = .ok (.istore 4, 2) := by decide +kernel
theorem dX9_goDay_59 : decode cX9_goDay 59 = .ok (.aload_n 0, 1) := by decide +kernel
theorem dX9_goDay_60 : decode cX9_goDay 60 = .ok (.getfield 28, 3) := by decide +kernel
theorem dX9_goDay_63 : decode cX9_goDay 63 = .ok (.iload_n 2, 1) := by decide +kernel
theorem dX9_goDay_64 : decode cX9_goDay 64 = .ok (.dup2, 1) := by decide +kernel
theorem dX9_goDay_65 : decode cX9_goDay 65 = .ok (.iaload, 1) := by decide +kernel
theorem dX9_goDay_66 : decode cX9_goDay 66 = .ok (.iload_n 3, 1) := by decide +kernel
theorem dX9_goDay_67 : decode cX9_goDay 67 = .ok (.isub, 1) := by decide +kernel
theorem dX9_goDay_68 : decode cX9_goDay 68 = .ok (.iastore, 1) := by decide +kernel
theorem dX9_goDay_69 : decode cX9_goDay 69 = .ok (.aload_n 0, 1) := by decide +kernel
theorem dX9_goDay_70 : decode cX9_goDay 70 = .ok (.getfield 28, 3) := by decide +kernel
theorem dX9_goDay_73 : decode cX9_goDay 73 = .ok (.iload 4, 2) := by decide +kernel
theorem dX9_goDay_75 : decode cX9_goDay 75 = .ok (.dup2, 1) := by decide +kernel
theorem dX9_goDay_76 : decode cX9_goDay 76 = .ok (.iaload, 1) := by decide +kernel
theorem dX9_goDay_77 : decode cX9_goDay 77 = .ok (.iload_n 3, 1) := by decide +kernel
theorem dX9_goDay_78 : decode cX9_goDay 78 = .ok (.iadd, 1) := by decide +kernel
theorem dX9_goDay_79 : decode cX9_goDay 79 = .ok (.iastore, 1) := by decide +kernel
theorem dX9_goDay_80 : decode cX9_goDay 80 = .ok (.iinc 2 (-1), 3) := by decide +kernel
theorem dX9_goDay_83 : decode cX9_goDay 83 = .ok (.goto (-80), 3) := by decide +kernel
theorem dX9_goDay_86 : decode cX9_goDay 86 = .ok (.return_, 1) := by decide +kernel
theorem dX9_runDays_0 : decode cX9_runDays 0 = .ok (.aload_n 0, 1) := by decide +kernel
theorem dX9_runDays_1 : decode cX9_runDays 1 = .ok (.aload_n 0, 1) := by decide +kernel
theorem dX9_runDays_2 : decode cX9_runDays 2 = .ok (.invokevirtual 73, 3) := by decide +kernel
theorem dX9_runDays_5 : decode cX9_runDays 5 = .ok (.invokevirtual 151, 3) := by decide +kernel
theorem dX9_runDays_8 : decode cX9_runDays 8 = .ok (.iconst 0, 1) := by decide +kernel
theorem dX9_runDays_9 : decode cX9_runDays 9 = .ok (.istore_n 2, 1) := by decide +kernel
theorem dX9_runDays_10 : decode cX9_runDays 10 = .ok (.iload_n 2, 1) := by decide +kernel
theorem dX9_runDays_11 : decode cX9_runDays 11 = .ok (.iload_n 1, 1) := by decide +kernel
theorem dX9_runDays_12 : decode cX9_runDays 12 = .ok (.if_icmp .ge 24, 3) := by decide +kernel
theorem dX9_runDays_15 : decode cX9_runDays 15 = .ok (.aload_n 0, 1) := by decide +kernel
theorem dX9_runDays_16 : decode cX9_runDays 16 = .ok (.aload_n 0, 1) := by decide +kernel
theorem dX9_runDays_17 : decode cX9_runDays 17 = .ok (.getfield 22, 3) := by decide +kernel
theorem dX9_runDays_20 : decode cX9_runDays 20 = .ok (.iload_n 2, 1) := by decide +kernel
theorem dX9_runDays_21 : decode cX9_runDays 21 = .ok (.aload_n 0, 1) := by decide +kernel
theorem dX9_runDays_22 : decode cX9_runDays 22 = .ok (.getfield 161, 3) := by decide +kernel
theorem dX9_runDays_25 : decode cX9_runDays 25 = .ok (.irem, 1) := by decide +kernel
theorem dX9_runDays_26 : decode cX9_runDays 26 = .ok (.iaload, 1) := by decide +kernel
theorem dX9_runDays_27 : decode cX9_runDays 27 = .ok (.invokevirtual 164, 3) := by decide +kernel
theorem dX9_runDays_30 : decode cX9_runDays 30 = .ok (.iinc 2 1, 3) := by decide +kernel
theorem dX9_runDays_33 : decode cX9_runDays 33 = .ok (.goto (-23), 3) := by decide +kernel
theorem dX9_runDays_36 : decode cX9_runDays 36 = .ok (.return_, 1) := by decide +kernel
theorem dX9_stored_0 : decode cX9_stored 0 = .ok (.iload_n 1, 1) := by decide +kernel
theorem dX9_stored_1 : decode cX9_stored 1 = .ok (.iconst 0, 1) := by decide +kernel
theorem dX9_stored_2 : decode cX9_stored 2 = .ok (.bipush 99, 2) := by decide +kernel
theorem dX9_stored_4 : decode cX9_stored 4 = .ok (.invokestatic 41, 3) := by decide +kernel
theorem dX9_stored_7 : decode cX9_stored 7 = .ok (.ifCond .ne 6, 3) := by decide +kernel
theorem dX9_stored_10 : decode cX9_stored 10 = .ok (.bipush (-2), 2) := by decide +kernel
theorem dX9_stored_12 : decode cX9_stored 12 = .ok (.ireturn, 1) := by decide +kernel
theorem dX9_stored_13 : decode cX9_stored 13 = .ok (.iload_n 1, 1) := by decide +kernel
theorem dX9_stored_14 : decode cX9_stored 14 = .ok (.ifCond .le 13, 3) := by decide +kernel
theorem dX9_stored_17 : decode cX9_stored 17 = .ok (.aload_n 0, 1) := by decide +kernel
theorem dX9_stored_18 : decode cX9_stored 18 = .ok (.getfield 161, 3) := by decide +kernel
theorem dX9_stored_21 : decode cX9_stored 21 = .ok (.ifCond .ne 6, 3) := by decide +kernel
theorem dX9_stored_24 : decode cX9_stored 24 = .ok (.bipush (-3), 2) := by decide +kernel
theorem dX9_stored_26 : decode cX9_stored 26 = .ok (.ireturn, 1) := by decide +kernel
theorem dX9_stored_27 : decode cX9_stored 27 = .ok (.aload_n 0, 1) := by decide +kernel
theorem dX9_stored_28 : decode cX9_stored 28 = .ok (.iload_n 1, 1) := by decide +kernel
theorem dX9_stored_29 : decode cX9_stored 29 = .ok (.invokevirtual 167, 3) := by decide +kernel
theorem dX9_stored_32 : decode cX9_stored 32 = .ok (.aload_n 0, 1) := by decide +kernel
theorem dX9_stored_33 : decode cX9_stored 33 = .ok (.invokevirtual 154, 3) := by decide +kernel
theorem dX9_stored_36 : decode cX9_stored 36 = .ok (.ireturn, 1) := by decide +kernel
theorem dX9_grown_0 : decode cX9_grown 0 = .ok (.iload_n 1, 1) := by decide +kernel
theorem dX9_grown_1 : decode cX9_grown 1 = .ok (.iconst 0, 1) := by decide +kernel
theorem dX9_grown_2 : decode cX9_grown 2 = .ok (.bipush 99, 2) := by decide +kernel
theorem dX9_grown_4 : decode cX9_grown 4 = .ok (.invokestatic 41, 3) := by decide +kernel
theorem dX9_grown_7 : decode cX9_grown 7 = .ok (.ifCond .eq 14, 3) := by decide +kernel
theorem dX9_grown_10 : decode cX9_grown 10 = .ok (.iload_n 2, 1) := by decide +kernel
theorem dX9_grown_11 : decode cX9_grown 11 = .ok (.bipush 10, 2) := by decide +kernel
theorem dX9_grown_13 : decode cX9_grown 13 = .ok (.bipush 63, 2) := by decide +kernel
theorem dX9_grown_15 : decode cX9_grown 15 = .ok (.invokestatic 41, 3) := by decide +kernel
theorem dX9_grown_18 : decode cX9_grown 18 = .ok (.ifCond .ne 6, 3) := by decide +kernel
theorem dX9_grown_21 : decode cX9_grown 21 = .ok (.bipush (-2), 2) := by decide +kernel
theorem dX9_grown_23 : decode cX9_grown 23 = .ok (.ireturn, 1) := by decide +kernel
theorem dX9_grown_24 : decode cX9_grown 24 = .ok (.iload_n 1, 1) := by decide +kernel
theorem dX9_grown_25 : decode cX9_grown 25 = .ok (.ifCond .le 13, 3) := by decide +kernel
theorem dX9_grown_28 : decode cX9_grown 28 = .ok (.aload_n 0, 1) := by decide +kernel
theorem dX9_grown_29 : decode cX9_grown 29 = .ok (.getfield 161, 3) := by decide +kernel
theorem dX9_grown_32 : decode cX9_grown 32 = .ok (.ifCond .ne 6, 3) := by decide +kernel
theorem dX9_grown_35 : decode cX9_grown 35 = .ok (.bipush (-3), 2) := by decide +kernel
theorem dX9_grown_37 : decode cX9_grown 37 = .ok (.ireturn, 1) := by decide +kernel
theorem dX9_grown_38 : decode cX9_grown 38 = .ok (.aload_n 0, 1) := by decide +kernel
theorem dX9_grown_39 : decode cX9_grown 39 = .ok (.iload_n 1, 1) := by decide +kernel
theorem dX9_grown_40 : decode cX9_grown 40 = .ok (.invokevirtual 167, 3) := by decide +kernel
theorem dX9_grown_43 : decode cX9_grown 43 = .ok (.aload_n 0, 1) := by decide +kernel
theorem dX9_grown_44 : decode cX9_grown 44 = .ok (.getfield 28, 3) := by decide +kernel
theorem dX9_grown_47 : decode cX9_grown 47 = .ok (.iload_n 2, 1) := by decide +kernel
theorem dX9_grown_48 : decode cX9_grown 48 = .ok (.iaload, 1) := by decide +kernel
theorem dX9_grown_49 : decode cX9_grown 49 = .ok (.ireturn, 1) := by decide +kernel
theorem dX9_sand_0 : decode cX9_sand 0 = .ok (.aload_n 0, 1) := by decide +kernel
theorem dX9_sand_1 : decode cX9_sand 1 = .ok (.getfield 161, 3) := by decide +kernel
theorem dX9_sand_4 : decode cX9_sand 4 = .ok (.ifCond .ne 6, 3) := by decide +kernel
theorem dX9_sand_7 : decode cX9_sand 7 = .ok (.bipush (-3), 2) := by decide +kernel
theorem dX9_sand_9 : decode cX9_sand 9 = .ok (.ireturn, 1) := by decide +kernel
theorem dX9_sand_10 : decode cX9_sand 10 = .ok (.aload_n 0, 1) := by decide +kernel
theorem dX9_sand_11 : decode cX9_sand 11 = .ok (.aload_n 0, 1) := by decide +kernel
theorem dX9_sand_12 : decode cX9_sand 12 = .ok (.invokevirtual 73, 3) := by decide +kernel
theorem dX9_sand_15 : decode cX9_sand 15 = .ok (.invokevirtual 151, 3) := by decide +kernel
theorem dX9_sand_18 : decode cX9_sand 18 = .ok (.iconst 1, 1) := by decide +kernel
theorem dX9_sand_19 : decode cX9_sand 19 = .ok (.istore_n 1, 1) := by decide +kernel
theorem dX9_sand_20 : decode cX9_sand 20 = .ok (.iload_n 1, 1) := by decide +kernel
theorem dX9_sand_21 : decode cX9_sand 21 = .ok (.bipush 100, 2) := by decide +kernel
theorem dX9_sand_23 : decode cX9_sand 23 = .ok (.if_icmp .ge 42, 3) := by decide +kernel
theorem dX9_sand_26 : decode cX9_sand 26 = .ok (.aload_n 0, 1) := by decide +kernel
theorem dX9_sand_27 : decode cX9_sand 27 = .ok (.aload_n 0, 1) := by decide +kernel
theorem dX9_sand_28 : decode cX9_sand 28 = .ok (.getfield 22, 3) := by decide +kernel
theorem dX9_sand_31 : decode cX9_sand 31 = .ok (.iload_n 1, 1) := by decide +kernel
theorem dX9_sand_32 : decode cX9_sand 32 = .ok (.iconst 1, 1) := by decide +kernel
theorem dX9_sand_33 : decode cX9_sand 33 = .ok (.isub, 1) := by decide +kernel
theorem dX9_sand_34 : decode cX9_sand 34 = .ok (.aload_n 0, 1) := by decide +kernel
theorem dX9_sand_35 : decode cX9_sand 35 = .ok (.getfield 161, 3) := by decide +kernel
theorem dX9_sand_38 : decode cX9_sand 38 = .ok (.irem, 1) := by decide +kernel
theorem dX9_sand_39 : decode cX9_sand 39 = .ok (.iaload, 1) := by decide +kernel
theorem dX9_sand_40 : decode cX9_sand 40 = .ok (.invokevirtual 164, 3) := by decide +kernel
theorem dX9_sand_43 : decode cX9_sand 43 = .ok (.aload_n 0, 1) := by decide +kernel
theorem dX9_sand_44 : decode cX9_sand 44 = .ok (.invokevirtual 154, 3) := by decide +kernel
theorem dX9_sand_47 : decode cX9_sand 47 = .ok (.aload_n 0, 1) := by decide +kernel
theorem dX9_sand_48 : decode cX9_sand 48 = .ok (.getfield 7, 3) := by decide +kernel
theorem dX9_sand_51 : decode cX9_sand 51 = .ok (.bipush 6, 2) := by decide +kernel
theorem dX9_sand_53 : decode cX9_sand 53 = .ok (.iaload, 1) := by decide +kernel
theorem dX9_sand_54 : decode cX9_sand 54 = .ok (.if_icmp .lt 5, 3) := by decide +kernel
theorem dX9_sand_57 : decode cX9_sand 57 = .ok (.iload_n 1, 1) := by decide +kernel
theorem dX9_sand_58 : decode cX9_sand 58 = .ok (.ireturn, 1) := by decide +kernel
theorem dX9_sand_59 : decode cX9_sand 59 = .ok (.iinc 1 1, 3) := by decide +kernel
theorem dX9_sand_62 : decode cX9_sand 62 = .ok (.goto (-42), 3) := by decide +kernel
theorem dX9_sand_65 : decode cX9_sand 65 = .ok (.bipush (-6), 2) := by decide +kernel
theorem dX9_sand_67 : decode cX9_sand 67 = .ok (.ireturn, 1) := by decide +kernel
theorem dX9_iceAt_0 : decode cX9_iceAt 0 = .ok (.iload_n 1, 1) := by decide +kernel
theorem dX9_iceAt_1 : decode cX9_iceAt 1 = .ok (.iconst 1, 1) := by decide +kernel
theorem dX9_iceAt_2 : decode cX9_iceAt 2 = .ok (.sipush 300, 3) := by decide +kernel
theorem dX9_iceAt_5 : decode cX9_iceAt 5 = .ok (.invokestatic 41, 3) := by decide +kernel
theorem dX9_iceAt_8 : decode cX9_iceAt 8 = .ok (.ifCond .eq 12, 3) := by decide +kernel
theorem dX9_iceAt_11 : decode cX9_iceAt 11 = .ok (.iload_n 2, 1) := by decide +kernel
theorem dX9_iceAt_12 : decode cX9_iceAt 12 = .ok (.iconst 0, 1) := by decide +kernel
theorem dX9_iceAt_13 : decode cX9_iceAt 13 = .ok (.iconst 1, 1) := by decide +kernel
theorem dX9_iceAt_14 : decode cX9_iceAt 14 = .ok (.invokestatic 41, 3) := by decide +kernel
theorem dX9_iceAt_17 : decode cX9_iceAt 17 = .ok (.ifCond .ne 7, 3) := by decide +kernel
theorem dX9_iceAt_20 : decode cX9_iceAt 20 = .ok (.ldc2_w 170, 3) := by decide +kernel
theorem dX9_iceAt_23 : decode cX9_iceAt 23 = .ok (.lreturn, 1) := by decide +kernel
theorem dX9_iceAt_24 : decode cX9_iceAt 24 = .ok (.iload_n 1, 1) := by decide +kernel
theorem dX9_iceAt_25 : decode cX9_iceAt 25 = .ok (.aload_n 0, 1) := by decide +kernel
theorem dX9_iceAt_26 : decode cX9_iceAt 26 = .ok (.getfield 7, 3) := by decide +kernel
theorem dX9_iceAt_29 : decode cX9_iceAt 29 = .ok (.iconst 2, 1) := by decide +kernel
theorem dX9_iceAt_30 : decode cX9_iceAt 30 = .ok (.iaload, 1) := by decide +kernel
theorem dX9_iceAt_31 : decode cX9_iceAt 31 = .ok (.imul, 1) := by decide +kernel
theorem dX9_iceAt_32 : decode cX9_iceAt 32 = .ok (.bipush 54, 2) := by decide +kernel
theorem dX9_iceAt_34 : decode cX9_iceAt 34 = .ok (.aload_n 0, 1) := by decide +kernel
theorem dX9_iceAt_35 : decode cX9_iceAt 35 = .ok (.getfield 7, 3) := by decide +kernel
theorem dX9_iceAt_38 : decode cX9_iceAt 38 = .ok (.iconst 3, 1) := by decide +kernel
theorem dX9_iceAt_39 : decode cX9_iceAt 39 = .ok (.iaload, 1) := by decide +kernel
theorem dX9_iceAt_40 : decode cX9_iceAt 40 = .ok (.imul, 1) := by decide +kernel
theorem dX9_iceAt_41 : decode cX9_iceAt 41 = .ok (.isub, 1) := by decide +kernel
theorem dX9_iceAt_42 : decode cX9_iceAt 42 = .ok (.istore_n 3, 1) := by decide +kernel
theorem dX9_iceAt_43 : decode cX9_iceAt 43 = .ok (.iload_n 3, 1) := by decide +kernel
theorem dX9_iceAt_44 : decode cX9_iceAt 44 = .ok (.ifCond .gt 6, 3) := by decide +kernel
theorem dX9_iceAt_47 : decode cX9_iceAt 47 = .ok (.iload_n 2, 1) := by decide +kernel
theorem dX9_iceAt_48 : decode cX9_iceAt 48 = .ok (.i2l, 1) := by decide +kernel
theorem dX9_iceAt_49 : decode cX9_iceAt 49 = .ok (.lreturn, 1) := by decide +kernel
theorem dX9_iceAt_50 : decode cX9_iceAt 50 = .ok (.iload_n 3, 1) := by decide +kernel
theorem dX9_iceAt_51 : decode cX9_iceAt 51 = .ok (.istore 4, 2) := by decide +kernel
theorem dX9_iceAt_53 : decode cX9_iceAt 53 = .ok (.iload_n 1, 1) := by decide +kernel
theorem dX9_iceAt_54 : decode cX9_iceAt 54 = .ok (.aload_n 0, 1) := by decide +kernel
theorem dX9_iceAt_55 : decode cX9_iceAt 55 = .ok (.getfield 7, 3) := by decide +kernel
theorem dX9_iceAt_58 : decode cX9_iceAt 58 = .ok (.iconst 2, 1) := by decide +kernel
theorem dX9_iceAt_59 : decode cX9_iceAt 59 = .ok (.iaload, 1) := by decide +kernel
theorem dX9_iceAt_60 : decode cX9_iceAt 60 = .ok (.imul, 1) := by decide +kernel
theorem dX9_iceAt_61 : decode cX9_iceAt 61 = .ok (.istore 5, 2) := by decide +kernel
theorem dX9_iceAt_63 : decode cX9_iceAt 63 = .ok (.iload 5, 2) := by decide +kernel
theorem dX9_iceAt_65 : decode cX9_iceAt 65 = .ok (.ifCond .eq 21, 3) := by decide +kernel
theorem dX9_iceAt_68 : decode cX9_iceAt 68 = .ok (.iload 4, 2) := by decide +kernel
theorem dX9_iceAt_70 : decode cX9_iceAt 70 = .ok (.iload 5, 2) := by decide +kernel
theorem dX9_iceAt_72 : decode cX9_iceAt 72 = .ok (.irem, 1) := by decide +kernel
theorem dX9_iceAt_73 : decode cX9_iceAt 73 = .ok (.istore 6, 2) := by decide +kernel
theorem dX9_iceAt_75 : decode cX9_iceAt 75 = .ok (.iload 5, 2) := by decide +kernel
theorem dX9_iceAt_77 : decode cX9_iceAt 77 = .ok (.istore 4, 2) := by decide +kernel
theorem dX9_iceAt_79 : decode cX9_iceAt 79 = .ok (.iload 6, 2) := by decide +kernel
theorem dX9_iceAt_81 : decode cX9_iceAt 81 = .ok (.istore 5, 2) := by decide +kernel
theorem dX9_iceAt_83 : decode cX9_iceAt 83 = .ok (.goto (-20), 3) := by decide +kernel
theorem dX9_iceAt_86 : decode cX9_iceAt 86 = .ok (.iload_n 2, 1) := by decide +kernel
theorem dX9_iceAt_87 : decode cX9_iceAt 87 = .ok (.ifCond .ne 11, 3) := by decide +kernel
theorem dX9_iceAt_90 : decode cX9_iceAt 90 = .ok (.iload_n 3, 1) := by decide +kernel
theorem dX9_iceAt_91 : decode cX9_iceAt 91 = .ok (.iload 4, 2) := by decide +kernel
theorem dX9_iceAt_93 : decode cX9_iceAt 93 = .ok (.idiv, 1) := by decide +kernel
theorem dX9_iceAt_94 : decode cX9_iceAt 94 = .ok (.i2l, 1) := by decide +kernel
theorem dX9_iceAt_95 : decode cX9_iceAt 95 = .ok (.goto 15, 3) := by decide +kernel
theorem dX9_iceAt_98 : decode cX9_iceAt 98 = .ok (.iload_n 1, 1) := by decide +kernel
theorem dX9_iceAt_99 : decode cX9_iceAt 99 = .ok (.aload_n 0, 1) := by decide +kernel
theorem dX9_iceAt_100 : decode cX9_iceAt 100 = .ok (.getfield 7, 3) := by decide +kernel
theorem dX9_iceAt_103 : decode cX9_iceAt 103 = .ok (.iconst 2, 1) := by decide +kernel
theorem dX9_iceAt_104 : decode cX9_iceAt 104 = .ok (.iaload, 1) := by decide +kernel
theorem dX9_iceAt_105 : decode cX9_iceAt 105 = .ok (.imul, 1) := by decide +kernel
theorem dX9_iceAt_106 : decode cX9_iceAt 106 = .ok (.iload 4, 2) := by decide +kernel
theorem dX9_iceAt_108 : decode cX9_iceAt 108 = .ok (.idiv, 1) := by decide +kernel
theorem dX9_iceAt_109 : decode cX9_iceAt 109 = .ok (.i2l, 1) := by decide +kernel
theorem dX9_iceAt_110 : decode cX9_iceAt 110 = .ok (.lreturn, 1) := by decide +kernel
theorem dX9_isSoft_0 : decode cX9_isSoft 0 = .ok (.iload_n 1, 1) := by decide +kernel
theorem dX9_isSoft_1 : decode cX9_isSoft 1 = .ok (.aload_n 0, 1) := by decide +kernel
theorem dX9_isSoft_2 : decode cX9_isSoft 2 = .ok (.getfield 7, 3) := by decide +kernel
theorem dX9_isSoft_5 : decode cX9_isSoft 5 = .ok (.iconst 2, 1) := by decide +kernel
theorem dX9_isSoft_6 : decode cX9_isSoft 6 = .ok (.iaload, 1) := by decide +kernel
theorem dX9_isSoft_7 : decode cX9_isSoft 7 = .ok (.imul, 1) := by decide +kernel
theorem dX9_isSoft_8 : decode cX9_isSoft 8 = .ok (.bipush 54, 2) := by decide +kernel
theorem dX9_isSoft_10 : decode cX9_isSoft 10 = .ok (.iload_n 2, 1) := by decide +kernel
theorem dX9_isSoft_11 : decode cX9_isSoft 11 = .ok (.imul, 1) := by decide +kernel
theorem dX9_isSoft_12 : decode cX9_isSoft 12 = .ok (.isub, 1) := by decide +kernel
theorem dX9_isSoft_13 : decode cX9_isSoft 13 = .ok (.istore_n 3, 1) := by decide +kernel
theorem dX9_isSoft_14 : decode cX9_isSoft 14 = .ok (.iload_n 3, 1) := by decide +kernel
theorem dX9_isSoft_15 : decode cX9_isSoft 15 = .ok (.ifCond .le 32, 3) := by decide +kernel
theorem dX9_isSoft_18 : decode cX9_isSoft 18 = .ok (.ldc2_w 172, 3) := by decide +kernel
theorem dX9_isSoft_21 : decode cX9_isSoft 21 = .ok (.iload_n 3, 1) := by decide +kernel
theorem dX9_isSoft_22 : decode cX9_isSoft 22 = .ok (.i2l, 1) := by decide +kernel
theorem dX9_isSoft_23 : decode cX9_isSoft 23 = .ok (.lmul, 1) := by decide +kernel
theorem dX9_isSoft_24 : decode cX9_isSoft 24 = .ok (.aload_n 0, 1) := by decide +kernel
theorem dX9_isSoft_25 : decode cX9_isSoft 25 = .ok (.getfield 7, 3) := by decide +kernel
theorem dX9_isSoft_28 : decode cX9_isSoft 28 = .ok (.bipush 6, 2) := by decide +kernel
theorem dX9_isSoft_30 : decode cX9_isSoft 30 = .ok (.iaload, 1) := by decide +kernel
theorem dX9_isSoft_31 : decode cX9_isSoft 31 = .ok (.i2l, 1) := by decide +kernel
theorem dX9_isSoft_32 : decode cX9_isSoft 32 = .ok (.iload_n 1, 1) := by decide +kernel
theorem dX9_isSoft_33 : decode cX9_isSoft 33 = .ok (.i2l, 1) := by decide +kernel
theorem dX9_isSoft_34 : decode cX9_isSoft 34 = .ok (.lmul, 1) := by decide +kernel
theorem dX9_isSoft_35 : decode cX9_isSoft 35 = .ok (.aload_n 0, 1) := by decide +kernel
theorem dX9_isSoft_36 : decode cX9_isSoft 36 = .ok (.getfield 7, 3) := by decide +kernel
theorem dX9_isSoft_39 : decode cX9_isSoft 39 = .ok (.iconst 2, 1) := by decide +kernel
theorem dX9_isSoft_40 : decode cX9_isSoft 40 = .ok (.iaload, 1) := by decide +kernel
theorem dX9_isSoft_41 : decode cX9_isSoft 41 = .ok (.i2l, 1) := by decide +kernel
theorem dX9_isSoft_42 : decode cX9_isSoft 42 = .ok (.lmul, 1) := by decide +kernel
theorem dX9_isSoft_43 : decode cX9_isSoft 43 = .ok (.lcmp, 1) := by decide +kernel
theorem dX9_isSoft_44 : decode cX9_isSoft 44 = .ok (.ifCond .gt 7, 3) := by decide +kernel
theorem dX9_isSoft_47 : decode cX9_isSoft 47 = .ok (.iconst 1, 1) := by decide +kernel
theorem dX9_isSoft_48 : decode cX9_isSoft 48 = .ok (.goto 4, 3) := by decide +kernel
theorem dX9_isSoft_51 : decode cX9_isSoft 51 = .ok (.iconst 0, 1) := by decide +kernel
theorem dX9_isSoft_52 : decode cX9_isSoft 52 = .ok (.ireturn, 1) := by decide +kernel
theorem dX9_soft_0 : decode cX9_soft 0 = .ok (.bipush (-6), 2) := by decide +kernel
theorem dX9_soft_2 : decode cX9_soft 2 = .ok (.istore_n 1, 1) := by decide +kernel
theorem dX9_soft_3 : decode cX9_soft 3 = .ok (.iconst 1, 1) := by decide +kernel
theorem dX9_soft_4 : decode cX9_soft 4 = .ok (.istore_n 2, 1) := by decide +kernel
theorem dX9_soft_5 : decode cX9_soft 5 = .ok (.iload_n 2, 1) := by decide +kernel
theorem dX9_soft_6 : decode cX9_soft 6 = .ok (.sipush 300, 3) := by decide +kernel
theorem dX9_soft_9 : decode cX9_soft 9 = .ok (.if_icmp .gt 29, 3) := by decide +kernel
theorem dX9_soft_12 : decode cX9_soft 12 = .ok (.aload_n 0, 1) := by decide +kernel
theorem dX9_soft_13 : decode cX9_soft 13 = .ok (.iload_n 2, 1) := by decide +kernel
theorem dX9_soft_14 : decode cX9_soft 14 = .ok (.aload_n 0, 1) := by decide +kernel
theorem dX9_soft_15 : decode cX9_soft 15 = .ok (.getfield 7, 3) := by decide +kernel
theorem dX9_soft_18 : decode cX9_soft 18 = .ok (.iconst 3, 1) := by decide +kernel
theorem dX9_soft_19 : decode cX9_soft 19 = .ok (.iaload, 1) := by decide +kernel
theorem dX9_soft_20 : decode cX9_soft 20 = .ok (.invokevirtual 174, 3) := by decide +kernel
theorem dX9_soft_23 : decode cX9_soft 23 = .ok (.ifCond .eq 7, 3) := by decide +kernel
theorem dX9_soft_26 : decode cX9_soft 26 = .ok (.iload_n 2, 1) := by decide +kernel
theorem dX9_soft_27 : decode cX9_soft 27 = .ok (.goto 4, 3) := by decide +kernel
theorem dX9_soft_30 : decode cX9_soft 30 = .ok (.iload_n 1, 1) := by decide +kernel
theorem dX9_soft_31 : decode cX9_soft 31 = .ok (.istore_n 1, 1) := by decide +kernel
theorem dX9_soft_32 : decode cX9_soft 32 = .ok (.iinc 2 1, 3) := by decide +kernel
theorem dX9_soft_35 : decode cX9_soft 35 = .ok (.goto (-30), 3) := by decide +kernel
theorem dX9_soft_38 : decode cX9_soft 38 = .ok (.iload_n 1, 1) := by decide +kernel
theorem dX9_soft_39 : decode cX9_soft 39 = .ok (.ireturn, 1) := by decide +kernel
theorem dX9_sugarFor_0 : decode cX9_sugarFor 0 = .ok (.iload_n 1, 1) := by decide +kernel
theorem dX9_sugarFor_1 : decode cX9_sugarFor 1 = .ok (.iconst 1, 1) := by decide +kernel
theorem dX9_sugarFor_2 : decode cX9_sugarFor 2 = .ok (.sipush 300, 3) := by decide +kernel
theorem dX9_sugarFor_5 : decode cX9_sugarFor 5 = .ok (.invokestatic 41, 3) := by decide +kernel
theorem dX9_sugarFor_8 : decode cX9_sugarFor 8 = .ok (.ifCond .ne 6, 3) := by decide +kernel
theorem dX9_sugarFor_11 : decode cX9_sugarFor 11 = .ok (.bipush (-2), 2) := by decide +kernel
theorem dX9_sugarFor_13 : decode cX9_sugarFor 13 = .ok (.ireturn, 1) := by decide +kernel
theorem dX9_sugarFor_14 : decode cX9_sugarFor 14 = .ok (.iconst 0, 1) := by decide +kernel
theorem dX9_sugarFor_15 : decode cX9_sugarFor 15 = .ok (.istore_n 2, 1) := by decide +kernel
theorem dX9_sugarFor_16 : decode cX9_sugarFor 16 = .ok (.iload_n 2, 1) := by decide +kernel
theorem dX9_sugarFor_17 : decode cX9_sugarFor 17 = .ok (.sipush 600, 3) := by decide +kernel
theorem dX9_sugarFor_20 : decode cX9_sugarFor 20 = .ok (.if_icmp .gt 20, 3) := by decide +kernel
theorem dX9_sugarFor_23 : decode cX9_sugarFor 23 = .ok (.aload_n 0, 1) := by decide +kernel
theorem dX9_sugarFor_24 : decode cX9_sugarFor 24 = .ok (.iload_n 1, 1) := by decide +kernel
theorem dX9_sugarFor_25 : decode cX9_sugarFor 25 = .ok (.iload_n 2, 1) := by decide +kernel
theorem dX9_sugarFor_26 : decode cX9_sugarFor 26 = .ok (.invokevirtual 174, 3) := by decide +kernel
theorem dX9_sugarFor_29 : decode cX9_sugarFor 29 = .ok (.ifCond .eq 5, 3) := by decide +kernel
theorem dX9_sugarFor_32 : decode cX9_sugarFor 32 = .ok (.iload_n 2, 1) := by decide +kernel
theorem dX9_sugarFor_33 : decode cX9_sugarFor 33 = .ok (.ireturn, 1) := by decide +kernel
theorem dX9_sugarFor_34 : decode cX9_sugarFor 34 = .ok (.iinc 2 1, 3) := by decide +kernel
theorem dX9_sugarFor_37 : decode cX9_sugarFor 37 = .ok (.goto (-21), 3) := by decide +kernel
theorem dX9_sugarFor_40 : decode cX9_sugarFor 40 = .ok (.bipush (-6), 2) := by decide +kernel
theorem dX9_sugarFor_42 : decode cX9_sugarFor 42 = .ok (.ireturn, 1) := by decide +kernel
theorem dX9_image_0 : decode cX9_image 0 = .ok (.iload_n 1, 1) := by decide +kernel
theorem dX9_image_1 : decode cX9_image 1 = .ok (.iconst 0, 1) := by decide +kernel
theorem dX9_image_2 : decode cX9_image 2 = .ok (.iconst 1, 1) := by decide +kernel
theorem dX9_image_3 : decode cX9_image 3 = .ok (.invokestatic 41, 3) := by decide +kernel
theorem dX9_image_6 : decode cX9_image 6 = .ok (.ifCond .ne 6, 3) := by decide +kernel
theorem dX9_image_9 : decode cX9_image 9 = .ok (.bipush (-2), 2) := by decide +kernel
theorem dX9_image_11 : decode cX9_image 11 = .ok (.ireturn, 1) := by decide +kernel
theorem dX9_image_12 : decode cX9_image 12 = .ok (.bipush 115, 2) := by decide +kernel
theorem dX9_image_14 : decode cX9_image 14 = .ok (.iload_n 1, 1) := by decide +kernel
theorem dX9_image_15 : decode cX9_image 15 = .ok (.imul, 1) := by decide +kernel
theorem dX9_image_16 : decode cX9_image 16 = .ok (.istore_n 2, 1) := by decide +kernel
theorem dX9_image_17 : decode cX9_image 17 = .ok (.iconst 0, 1) := by decide +kernel
theorem dX9_image_18 : decode cX9_image 18 = .ok (.istore_n 3, 1) := by decide +kernel
theorem dX9_image_19 : decode cX9_image 19 = .ok (.iload_n 3, 1) := by decide +kernel
theorem dX9_image_20 : decode cX9_image 20 = .ok (.bipush 8, 2) := by decide +kernel
theorem dX9_image_22 : decode cX9_image 22 = .ok (.if_icmp .ge 23, 3) := by decide +kernel
theorem dX9_image_25 : decode cX9_image 25 = .ok (.aload_n 0, 1) := by decide +kernel
theorem dX9_image_26 : decode cX9_image 26 = .ok (.getfield 34, 3) := by decide +kernel
theorem dX9_image_29 : decode cX9_image 29 = .ok (.iload_n 2, 1) := by decide +kernel
theorem dX9_image_30 : decode cX9_image 30 = .ok (.iload_n 3, 1) := by decide +kernel
theorem dX9_image_31 : decode cX9_image 31 = .ok (.iadd, 1) := by decide +kernel
theorem dX9_image_32 : decode cX9_image 32 = .ok (.aload_n 0, 1) := by decide +kernel
theorem dX9_image_33 : decode cX9_image 33 = .ok (.getfield 7, 3) := by decide +kernel
theorem dX9_image_36 : decode cX9_image 36 = .ok (.iload_n 3, 1) := by decide +kernel
theorem dX9_image_37 : decode cX9_image 37 = .ok (.iaload, 1) := by decide +kernel
theorem dX9_image_38 : decode cX9_image 38 = .ok (.iastore, 1) := by decide +kernel
theorem dX9_image_39 : decode cX9_image 39 = .ok (.iinc 3 1, 3) := by decide +kernel
theorem dX9_image_42 : decode cX9_image 42 = .ok (.goto (-23), 3) := by decide +kernel
theorem dX9_image_45 : decode cX9_image 45 = .ok (.iconst 0, 1) := by decide +kernel
theorem dX9_image_46 : decode cX9_image 46 = .ok (.istore_n 3, 1) := by decide +kernel
theorem dX9_image_47 : decode cX9_image 47 = .ok (.iload_n 3, 1) := by decide +kernel
theorem dX9_image_48 : decode cX9_image 48 = .ok (.iconst 4, 1) := by decide +kernel
theorem dX9_image_49 : decode cX9_image 49 = .ok (.if_icmp .ge 26, 3) := by decide +kernel
theorem dX9_image_52 : decode cX9_image 52 = .ok (.aload_n 0, 1) := by decide +kernel
theorem dX9_image_53 : decode cX9_image 53 = .ok (.getfield 34, 3) := by decide +kernel
theorem dX9_image_56 : decode cX9_image 56 = .ok (.iload_n 2, 1) := by decide +kernel
theorem dX9_image_57 : decode cX9_image 57 = .ok (.bipush 8, 2) := by decide +kernel
theorem dX9_image_59 : decode cX9_image 59 = .ok (.iadd, 1) := by decide +kernel
theorem dX9_image_60 : decode cX9_image 60 = .ok (.iload_n 3, 1) := by decide +kernel
theorem dX9_image_61 : decode cX9_image 61 = .ok (.iadd, 1) := by decide +kernel
theorem dX9_image_62 : decode cX9_image 62 = .ok (.aload_n 0, 1) := by decide +kernel
theorem dX9_image_63 : decode cX9_image 63 = .ok (.getfield 13, 3) := by decide +kernel
theorem dX9_image_66 : decode cX9_image 66 = .ok (.iload_n 3, 1) := by decide +kernel
theorem dX9_image_67 : decode cX9_image 67 = .ok (.iaload, 1) := by decide +kernel
theorem dX9_image_68 : decode cX9_image 68 = .ok (.iastore, 1) := by decide +kernel
theorem dX9_image_69 : decode cX9_image 69 = .ok (.iinc 3 1, 3) := by decide +kernel
theorem dX9_image_72 : decode cX9_image 72 = .ok (.goto (-25), 3) := by decide +kernel
theorem dX9_image_75 : decode cX9_image 75 = .ok (.iconst 0, 1) := by decide +kernel
theorem dX9_image_76 : decode cX9_image 76 = .ok (.istore_n 3, 1) := by decide +kernel
theorem dX9_image_77 : decode cX9_image 77 = .ok (.iload_n 3, 1) := by decide +kernel
theorem dX9_image_78 : decode cX9_image 78 = .ok (.bipush 60, 2) := by decide +kernel
theorem dX9_image_80 : decode cX9_image 80 = .ok (.if_icmp .ge 26, 3) := by decide +kernel
theorem dX9_image_83 : decode cX9_image 83 = .ok (.aload_n 0, 1) := by decide +kernel
theorem dX9_image_84 : decode cX9_image 84 = .ok (.getfield 34, 3) := by decide +kernel
theorem dX9_image_87 : decode cX9_image 87 = .ok (.iload_n 2, 1) := by decide +kernel
theorem dX9_image_88 : decode cX9_image 88 = .ok (.bipush 12, 2) := by decide +kernel
theorem dX9_image_90 : decode cX9_image 90 = .ok (.iadd, 1) := by decide +kernel
theorem dX9_image_91 : decode cX9_image 91 = .ok (.iload_n 3, 1) := by decide +kernel
theorem dX9_image_92 : decode cX9_image 92 = .ok (.iadd, 1) := by decide +kernel
theorem dX9_image_93 : decode cX9_image 93 = .ok (.aload_n 0, 1) := by decide +kernel
theorem dX9_image_94 : decode cX9_image 94 = .ok (.getfield 19, 3) := by decide +kernel
theorem dX9_image_97 : decode cX9_image 97 = .ok (.iload_n 3, 1) := by decide +kernel
theorem dX9_image_98 : decode cX9_image 98 = .ok (.iaload, 1) := by decide +kernel
theorem dX9_image_99 : decode cX9_image 99 = .ok (.iastore, 1) := by decide +kernel
theorem dX9_image_100 : decode cX9_image 100 = .ok (.iinc 3 1, 3) := by decide +kernel
theorem dX9_image_103 : decode cX9_image 103 = .ok (.goto (-26), 3) := by decide +kernel
theorem dX9_image_106 : decode cX9_image 106 = .ok (.iconst 0, 1) := by decide +kernel
theorem dX9_image_107 : decode cX9_image 107 = .ok (.istore_n 3, 1) := by decide +kernel
theorem dX9_image_108 : decode cX9_image 108 = .ok (.iload_n 3, 1) := by decide +kernel
theorem dX9_image_109 : decode cX9_image 109 = .ok (.bipush 40, 2) := by decide +kernel
theorem dX9_image_111 : decode cX9_image 111 = .ok (.if_icmp .ge 26, 3) := by decide +kernel
theorem dX9_image_114 : decode cX9_image 114 = .ok (.aload_n 0, 1) := by decide +kernel
theorem dX9_image_115 : decode cX9_image 115 = .ok (.getfield 34, 3) := by decide +kernel
theorem dX9_image_118 : decode cX9_image 118 = .ok (.iload_n 2, 1) := by decide +kernel
theorem dX9_image_119 : decode cX9_image 119 = .ok (.bipush 72, 2) := by decide +kernel
theorem dX9_image_121 : decode cX9_image 121 = .ok (.iadd, 1) := by decide +kernel
theorem dX9_image_122 : decode cX9_image 122 = .ok (.iload_n 3, 1) := by decide +kernel
theorem dX9_image_123 : decode cX9_image 123 = .ok (.iadd, 1) := by decide +kernel
theorem dX9_image_124 : decode cX9_image 124 = .ok (.aload_n 0, 1) := by decide +kernel
theorem dX9_image_125 : decode cX9_image 125 = .ok (.getfield 22, 3) := by decide +kernel
theorem dX9_image_128 : decode cX9_image 128 = .ok (.iload_n 3, 1) := by decide +kernel
theorem dX9_image_129 : decode cX9_image 129 = .ok (.iaload, 1) := by decide +kernel
theorem dX9_image_130 : decode cX9_image 130 = .ok (.iastore, 1) := by decide +kernel
theorem dX9_image_131 : decode cX9_image 131 = .ok (.iinc 3 1, 3) := by decide +kernel
theorem dX9_image_134 : decode cX9_image 134 = .ok (.goto (-26), 3) := by decide +kernel
theorem dX9_image_137 : decode cX9_image 137 = .ok (.aload_n 0, 1) := by decide +kernel
theorem dX9_image_138 : decode cX9_image 138 = .ok (.getfield 34, 3) := by decide +kernel
theorem dX9_image_141 : decode cX9_image 141 = .ok (.iload_n 2, 1) := by decide +kernel
theorem dX9_image_142 : decode cX9_image 142 = .ok (.bipush 112, 2) := by decide +kernel
theorem dX9_image_144 : decode cX9_image 144 = .ok (.iadd, 1) := by decide +kernel
theorem dX9_image_145 : decode cX9_image 145 = .ok (.aload_n 0, 1) := by decide +kernel
theorem dX9_image_146 : decode cX9_image 146 = .ok (.getfield 70, 3) := by decide +kernel
theorem dX9_image_149 : decode cX9_image 149 = .ok (.iastore, 1) := by decide +kernel
theorem dX9_image_150 : decode cX9_image 150 = .ok (.aload_n 0, 1) := by decide +kernel
theorem dX9_image_151 : decode cX9_image 151 = .ok (.getfield 34, 3) := by decide +kernel
theorem dX9_image_154 : decode cX9_image 154 = .ok (.iload_n 2, 1) := by decide +kernel
theorem dX9_image_155 : decode cX9_image 155 = .ok (.bipush 113, 2) := by decide +kernel
theorem dX9_image_157 : decode cX9_image 157 = .ok (.iadd, 1) := by decide +kernel
theorem dX9_image_158 : decode cX9_image 158 = .ok (.aload_n 0, 1) := by decide +kernel
theorem dX9_image_159 : decode cX9_image 159 = .ok (.getfield 161, 3) := by decide +kernel
theorem dX9_image_162 : decode cX9_image 162 = .ok (.iastore, 1) := by decide +kernel
theorem dX9_image_163 : decode cX9_image 163 = .ok (.aload_n 0, 1) := by decide +kernel
theorem dX9_image_164 : decode cX9_image 164 = .ok (.getfield 37, 3) := by decide +kernel
theorem dX9_image_167 : decode cX9_image 167 = .ok (.iload_n 1, 1) := by decide +kernel
theorem dX9_image_168 : decode cX9_image 168 = .ok (.iconst 1, 1) := by decide +kernel
theorem dX9_image_169 : decode cX9_image 169 = .ok (.bastore, 1) := by decide +kernel
theorem dX9_image_170 : decode cX9_image 170 = .ok (.iconst 1, 1) := by decide +kernel
theorem dX9_image_171 : decode cX9_image 171 = .ok (.ireturn, 1) := by decide +kernel
theorem dX9_restore_0 : decode cX9_restore 0 = .ok (.iload_n 1, 1) := by decide +kernel
theorem dX9_restore_1 : decode cX9_restore 1 = .ok (.iconst 0, 1) := by decide +kernel
theorem dX9_restore_2 : decode cX9_restore 2 = .ok (.iconst 1, 1) := by decide +kernel
theorem dX9_restore_3 : decode cX9_restore 3 = .ok (.invokestatic 41, 3) := by decide +kernel
theorem dX9_restore_6 : decode cX9_restore 6 = .ok (.ifCond .ne 6, 3) := by decide +kernel
theorem dX9_restore_9 : decode cX9_restore 9 = .ok (.bipush (-2), 2) := by decide +kernel
theorem dX9_restore_11 : decode cX9_restore 11 = .ok (.ireturn, 1) := by decide +kernel
theorem dX9_restore_12 : decode cX9_restore 12 = .ok (.aload_n 0, 1) := by decide +kernel
theorem dX9_restore_13 : decode cX9_restore 13 = .ok (.getfield 37, 3) := by decide +kernel
theorem dX9_restore_16 : decode cX9_restore 16 = .ok (.iload_n 1, 1) := by decide +kernel
theorem dX9_restore_17 : decode cX9_restore 17 = .ok (.baload, 1) := by decide +kernel
theorem dX9_restore_18 : decode cX9_restore 18 = .ok (.ifCond .ne 6, 3) := by decide +kernel
theorem dX9_restore_21 : decode cX9_restore 21 = .ok (.bipush (-3), 2) := by decide +kernel
theorem dX9_restore_23 : decode cX9_restore 23 = .ok (.ireturn, 1) := by decide +kernel
theorem dX9_restore_24 : decode cX9_restore 24 = .ok (.bipush 115, 2) := by decide +kernel
theorem dX9_restore_26 : decode cX9_restore 26 = .ok (.iload_n 1, 1) := by decide +kernel
theorem dX9_restore_27 : decode cX9_restore 27 = .ok (.imul, 1) := by decide +kernel
theorem dX9_restore_28 : decode cX9_restore 28 = .ok (.istore_n 2, 1) := by decide +kernel
theorem dX9_restore_29 : decode cX9_restore 29 = .ok (.iconst 0, 1) := by decide +kernel
theorem dX9_restore_30 : decode cX9_restore 30 = .ok (.istore_n 3, 1) := by decide +kernel
theorem dX9_restore_31 : decode cX9_restore 31 = .ok (.iload_n 3, 1) := by decide +kernel
theorem dX9_restore_32 : decode cX9_restore 32 = .ok (.bipush 8, 2) := by decide +kernel
theorem dX9_restore_34 : decode cX9_restore 34 = .ok (.if_icmp .ge 23, 3) := by decide +kernel
theorem dX9_restore_37 : decode cX9_restore 37 = .ok (.aload_n 0, 1) := by decide +kernel
theorem dX9_restore_38 : decode cX9_restore 38 = .ok (.getfield 7, 3) := by decide +kernel
theorem dX9_restore_41 : decode cX9_restore 41 = .ok (.iload_n 3, 1) := by decide +kernel
theorem dX9_restore_42 : decode cX9_restore 42 = .ok (.aload_n 0, 1) := by decide +kernel
theorem dX9_restore_43 : decode cX9_restore 43 = .ok (.getfield 34, 3) := by decide +kernel
theorem dX9_restore_46 : decode cX9_restore 46 = .ok (.iload_n 2, 1) := by decide +kernel
theorem dX9_restore_47 : decode cX9_restore 47 = .ok (.iload_n 3, 1) := by decide +kernel
theorem dX9_restore_48 : decode cX9_restore 48 = .ok (.iadd, 1) := by decide +kernel
theorem dX9_restore_49 : decode cX9_restore 49 = .ok (.iaload, 1) := by decide +kernel
theorem dX9_restore_50 : decode cX9_restore 50 = .ok (.iastore, 1) := by decide +kernel
theorem dX9_restore_51 : decode cX9_restore 51 = .ok (.iinc 3 1, 3) := by decide +kernel
theorem dX9_restore_54 : decode cX9_restore 54 = .ok (.goto (-23), 3) := by decide +kernel
theorem dX9_restore_57 : decode cX9_restore 57 = .ok (.iconst 0, 1) := by decide +kernel
theorem dX9_restore_58 : decode cX9_restore 58 = .ok (.istore_n 3, 1) := by decide +kernel
theorem dX9_restore_59 : decode cX9_restore 59 = .ok (.iload_n 3, 1) := by decide +kernel
theorem dX9_restore_60 : decode cX9_restore 60 = .ok (.iconst 4, 1) := by decide +kernel
theorem dX9_restore_61 : decode cX9_restore 61 = .ok (.if_icmp .ge 26, 3) := by decide +kernel
theorem dX9_restore_64 : decode cX9_restore 64 = .ok (.aload_n 0, 1) := by decide +kernel
theorem dX9_restore_65 : decode cX9_restore 65 = .ok (.getfield 13, 3) := by decide +kernel
theorem dX9_restore_68 : decode cX9_restore 68 = .ok (.iload_n 3, 1) := by decide +kernel
theorem dX9_restore_69 : decode cX9_restore 69 = .ok (.aload_n 0, 1) := by decide +kernel
theorem dX9_restore_70 : decode cX9_restore 70 = .ok (.getfield 34, 3) := by decide +kernel
theorem dX9_restore_73 : decode cX9_restore 73 = .ok (.iload_n 2, 1) := by decide +kernel
theorem dX9_restore_74 : decode cX9_restore 74 = .ok (.bipush 8, 2) := by decide +kernel
theorem dX9_restore_76 : decode cX9_restore 76 = .ok (.iadd, 1) := by decide +kernel
theorem dX9_restore_77 : decode cX9_restore 77 = .ok (.iload_n 3, 1) := by decide +kernel
theorem dX9_restore_78 : decode cX9_restore 78 = .ok (.iadd, 1) := by decide +kernel
theorem dX9_restore_79 : decode cX9_restore 79 = .ok (.iaload, 1) := by decide +kernel
theorem dX9_restore_80 : decode cX9_restore 80 = .ok (.iastore, 1) := by decide +kernel
theorem dX9_restore_81 : decode cX9_restore 81 = .ok (.iinc 3 1, 3) := by decide +kernel
theorem dX9_restore_84 : decode cX9_restore 84 = .ok (.goto (-25), 3) := by decide +kernel
theorem dX9_restore_87 : decode cX9_restore 87 = .ok (.iconst 0, 1) := by decide +kernel
theorem dX9_restore_88 : decode cX9_restore 88 = .ok (.istore_n 3, 1) := by decide +kernel
theorem dX9_restore_89 : decode cX9_restore 89 = .ok (.iload_n 3, 1) := by decide +kernel
theorem dX9_restore_90 : decode cX9_restore 90 = .ok (.bipush 60, 2) := by decide +kernel
theorem dX9_restore_92 : decode cX9_restore 92 = .ok (.if_icmp .ge 26, 3) := by decide +kernel
theorem dX9_restore_95 : decode cX9_restore 95 = .ok (.aload_n 0, 1) := by decide +kernel
theorem dX9_restore_96 : decode cX9_restore 96 = .ok (.getfield 19, 3) := by decide +kernel
theorem dX9_restore_99 : decode cX9_restore 99 = .ok (.iload_n 3, 1) := by decide +kernel
theorem dX9_restore_100 : decode cX9_restore 100 = .ok (.aload_n 0, 1) := by decide +kernel
theorem dX9_restore_101 : decode cX9_restore 101 = .ok (.getfield 34, 3) := by decide +kernel
theorem dX9_restore_104 : decode cX9_restore 104 = .ok (.iload_n 2, 1) := by decide +kernel
theorem dX9_restore_105 : decode cX9_restore 105 = .ok (.bipush 12, 2) := by decide +kernel
theorem dX9_restore_107 : decode cX9_restore 107 = .ok (.iadd, 1) := by decide +kernel
theorem dX9_restore_108 : decode cX9_restore 108 = .ok (.iload_n 3, 1) := by decide +kernel
theorem dX9_restore_109 : decode cX9_restore 109 = .ok (.iadd, 1) := by decide +kernel
theorem dX9_restore_110 : decode cX9_restore 110 = .ok (.iaload, 1) := by decide +kernel
theorem dX9_restore_111 : decode cX9_restore 111 = .ok (.iastore, 1) := by decide +kernel
theorem dX9_restore_112 : decode cX9_restore 112 = .ok (.iinc 3 1, 3) := by decide +kernel
theorem dX9_restore_115 : decode cX9_restore 115 = .ok (.goto (-26), 3) := by decide +kernel
theorem dX9_restore_118 : decode cX9_restore 118 = .ok (.iconst 0, 1) := by decide +kernel
theorem dX9_restore_119 : decode cX9_restore 119 = .ok (.istore_n 3, 1) := by decide +kernel
theorem dX9_restore_120 : decode cX9_restore 120 = .ok (.iload_n 3, 1) := by decide +kernel
theorem dX9_restore_121 : decode cX9_restore 121 = .ok (.bipush 40, 2) := by decide +kernel
theorem dX9_restore_123 : decode cX9_restore 123 = .ok (.if_icmp .ge 26, 3) := by decide +kernel
theorem dX9_restore_126 : decode cX9_restore 126 = .ok (.aload_n 0, 1) := by decide +kernel
theorem dX9_restore_127 : decode cX9_restore 127 = .ok (.getfield 22, 3) := by decide +kernel
theorem dX9_restore_130 : decode cX9_restore 130 = .ok (.iload_n 3, 1) := by decide +kernel
theorem dX9_restore_131 : decode cX9_restore 131 = .ok (.aload_n 0, 1) := by decide +kernel
theorem dX9_restore_132 : decode cX9_restore 132 = .ok (.getfield 34, 3) := by decide +kernel
theorem dX9_restore_135 : decode cX9_restore 135 = .ok (.iload_n 2, 1) := by decide +kernel
theorem dX9_restore_136 : decode cX9_restore 136 = .ok (.bipush 72, 2) := by decide +kernel
theorem dX9_restore_138 : decode cX9_restore 138 = .ok (.iadd, 1) := by decide +kernel
theorem dX9_restore_139 : decode cX9_restore 139 = .ok (.iload_n 3, 1) := by decide +kernel
theorem dX9_restore_140 : decode cX9_restore 140 = .ok (.iadd, 1) := by decide +kernel
theorem dX9_restore_141 : decode cX9_restore 141 = .ok (.iaload, 1) := by decide +kernel
theorem dX9_restore_142 : decode cX9_restore 142 = .ok (.iastore, 1) := by decide +kernel
theorem dX9_restore_143 : decode cX9_restore 143 = .ok (.iinc 3 1, 3) := by decide +kernel
theorem dX9_restore_146 : decode cX9_restore 146 = .ok (.goto (-26), 3) := by decide +kernel
theorem dX9_restore_149 : decode cX9_restore 149 = .ok (.aload_n 0, 1) := by decide +kernel
theorem dX9_restore_150 : decode cX9_restore 150 = .ok (.aload_n 0, 1) := by decide +kernel
theorem dX9_restore_151 : decode cX9_restore 151 = .ok (.getfield 34, 3) := by decide +kernel
theorem dX9_restore_154 : decode cX9_restore 154 = .ok (.iload_n 2, 1) := by decide +kernel
theorem dX9_restore_155 : decode cX9_restore 155 = .ok (.bipush 112, 2) := by decide +kernel
theorem dX9_restore_157 : decode cX9_restore 157 = .ok (.iadd, 1) := by decide +kernel
theorem dX9_restore_158 : decode cX9_restore 158 = .ok (.iaload, 1) := by decide +kernel
theorem dX9_restore_159 : decode cX9_restore 159 = .ok (.putfield 70, 3) := by decide +kernel
theorem dX9_restore_162 : decode cX9_restore 162 = .ok (.aload_n 0, 1) := by decide +kernel
theorem dX9_restore_163 : decode cX9_restore 163 = .ok (.aload_n 0, 1) := by decide +kernel
theorem dX9_restore_164 : decode cX9_restore 164 = .ok (.getfield 34, 3) := by decide +kernel
theorem dX9_restore_167 : decode cX9_restore 167 = .ok (.iload_n 2, 1) := by decide +kernel
theorem dX9_restore_168 : decode cX9_restore 168 = .ok (.bipush 113, 2) := by decide +kernel
theorem dX9_restore_170 : decode cX9_restore 170 = .ok (.iadd, 1) := by decide +kernel
theorem dX9_restore_171 : decode cX9_restore 171 = .ok (.iaload, 1) := by decide +kernel
theorem dX9_restore_172 : decode cX9_restore 172 = .ok (.putfield 161, 3) := by decide +kernel
theorem dX9_restore_175 : decode cX9_restore 175 = .ok (.iconst 1, 1) := by decide +kernel
theorem dX9_restore_176 : decode cX9_restore 176 = .ok (.ireturn, 1) := by decide +kernel
theorem dX9_told_0 : decode cX9_told 0 = .ok (.iload_n 1, 1) := by decide +kernel
theorem dX9_told_1 : decode cX9_told 1 = .ok (.bipush 10, 2) := by decide +kernel
theorem dX9_told_3 : decode cX9_told 3 = .ok (.bipush 17, 2) := by decide +kernel
theorem dX9_told_5 : decode cX9_told 5 = .ok (.invokestatic 41, 3) := by decide +kernel
theorem dX9_told_8 : decode cX9_told 8 = .ok (.ifCond .eq 13, 3) := by decide +kernel
theorem dX9_told_11 : decode cX9_told 11 = .ok (.aload_n 0, 1) := by decide +kernel
theorem dX9_told_12 : decode cX9_told 12 = .ok (.getfield 7, 3) := by decide +kernel
theorem dX9_told_15 : decode cX9_told 15 = .ok (.iload_n 1, 1) := by decide +kernel
theorem dX9_told_16 : decode cX9_told 16 = .ok (.bipush 10, 2) := by decide +kernel
theorem dX9_told_18 : decode cX9_told 18 = .ok (.isub, 1) := by decide +kernel
theorem dX9_told_19 : decode cX9_told 19 = .ok (.iaload, 1) := by decide +kernel
theorem dX9_told_20 : decode cX9_told 20 = .ok (.ireturn, 1) := by decide +kernel
theorem dX9_told_21 : decode cX9_told 21 = .ok (.iload_n 1, 1) := by decide +kernel
theorem dX9_told_22 : decode cX9_told 22 = .ok (.bipush 20, 2) := by decide +kernel
theorem dX9_told_24 : decode cX9_told 24 = .ok (.bipush 23, 2) := by decide +kernel
theorem dX9_told_26 : decode cX9_told 26 = .ok (.invokestatic 41, 3) := by decide +kernel
theorem dX9_told_29 : decode cX9_told 29 = .ok (.ifCond .eq 13, 3) := by decide +kernel
theorem dX9_told_32 : decode cX9_told 32 = .ok (.aload_n 0, 1) := by decide +kernel
theorem dX9_told_33 : decode cX9_told 33 = .ok (.getfield 13, 3) := by decide +kernel
theorem dX9_told_36 : decode cX9_told 36 = .ok (.iload_n 1, 1) := by decide +kernel
theorem dX9_told_37 : decode cX9_told 37 = .ok (.bipush 20, 2) := by decide +kernel
theorem dX9_told_39 : decode cX9_told 39 = .ok (.isub, 1) := by decide +kernel
theorem dX9_told_40 : decode cX9_told 40 = .ok (.iaload, 1) := by decide +kernel
theorem dX9_told_41 : decode cX9_told 41 = .ok (.ireturn, 1) := by decide +kernel
theorem dX9_told_42 : decode cX9_told 42 = .ok (.iload_n 1, 1) := by decide +kernel
theorem dX9_told_43 : decode cX9_told 43 = .ok (.ifCond .ne 10, 3) := by decide +kernel
theorem dX9_told_46 : decode cX9_told 46 = .ok (.aload_n 0, 1) := by decide +kernel
theorem dX9_told_47 : decode cX9_told 47 = .ok (.getfield 52, 3) := by decide +kernel
theorem dX9_told_50 : decode cX9_told 50 = .ok (.goto 41, 3) := by decide +kernel
theorem dX9_told_53 : decode cX9_told 53 = .ok (.iload_n 1, 1) := by decide +kernel
theorem dX9_told_54 : decode cX9_told 54 = .ok (.iconst 1, 1) := by decide +kernel
theorem dX9_told_55 : decode cX9_told 55 = .ok (.if_icmp .ne 10, 3) := by decide +kernel
theorem dX9_told_58 : decode cX9_told 58 = .ok (.aload_n 0, 1) := by decide +kernel
theorem dX9_told_59 : decode cX9_told 59 = .ok (.invokevirtual 73, 3) := by decide +kernel
theorem dX9_told_62 : decode cX9_told 62 = .ok (.goto 29, 3) := by decide +kernel
theorem dX9_told_65 : decode cX9_told 65 = .ok (.iload_n 1, 1) := by decide +kernel
theorem dX9_told_66 : decode cX9_told 66 = .ok (.iconst 2, 1) := by decide +kernel
theorem dX9_told_67 : decode cX9_told 67 = .ok (.if_icmp .ne 10, 3) := by decide +kernel
theorem dX9_told_70 : decode cX9_told 70 = .ok (.aload_n 0, 1) := by decide +kernel
theorem dX9_told_71 : decode cX9_told 71 = .ok (.getfield 70, 3) := by decide +kernel
theorem dX9_told_74 : decode cX9_told 74 = .ok (.goto 17, 3) := by decide +kernel
theorem dX9_told_77 : decode cX9_told 77 = .ok (.iload_n 1, 1) := by decide +kernel
theorem dX9_told_78 : decode cX9_told 78 = .ok (.iconst 3, 1) := by decide +kernel
theorem dX9_told_79 : decode cX9_told 79 = .ok (.if_icmp .ne 10, 3) := by decide +kernel
theorem dX9_told_82 : decode cX9_told 82 = .ok (.aload_n 0, 1) := by decide +kernel
theorem dX9_told_83 : decode cX9_told 83 = .ok (.getfield 161, 3) := by decide +kernel
theorem dX9_told_86 : decode cX9_told 86 = .ok (.goto 5, 3) := by decide +kernel
theorem dX9_told_89 : decode cX9_told 89 = .ok (.bipush (-2), 2) := by decide +kernel
theorem dX9_told_91 : decode cX9_told 91 = .ok (.ireturn, 1) := by decide +kernel
