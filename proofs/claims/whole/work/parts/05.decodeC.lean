theorem dX9_init_0 : decode cX9_init 0 = .ok (.aload_n 0, 1) := by decide +kernel
theorem dX9_init_1 : decode cX9_init 1 = .ok (.invokespecial 1, 3) := by decide +kernel
theorem dX9_init_4 : decode cX9_init 4 = .ok (.aload_n 0, 1) := by decide +kernel
theorem dX9_init_5 : decode cX9_init 5 = .ok (.bipush 8, 2) := by decide +kernel
theorem dX9_init_7 : decode cX9_init 7 = .ok (.newarray .int, 2) := by decide +kernel
theorem dX9_init_9 : decode cX9_init 9 = .ok (.putfield 7, 3) := by decide +kernel
theorem dX9_init_12 : decode cX9_init 12 = .ok (.aload_n 0, 1) := by decide +kernel
theorem dX9_init_13 : decode cX9_init 13 = .ok (.iconst 4, 1) := by decide +kernel
theorem dX9_init_14 : decode cX9_init 14 = .ok (.newarray .int, 2) := by decide +kernel
theorem dX9_init_16 : decode cX9_init 16 = .ok (.putfield 13, 3) := by decide +kernel
theorem dX9_init_19 : decode cX9_init 19 = .ok (.aload_n 0, 1) := by decide +kernel
theorem dX9_init_20 : decode cX9_init 20 = .ok (.bipush 40, 2) := by decide +kernel
theorem dX9_init_22 : decode cX9_init 22 = .ok (.newarray .int, 2) := by decide +kernel
theorem dX9_init_24 : decode cX9_init 24 = .ok (.putfield 16, 3) := by decide +kernel
theorem dX9_init_27 : decode cX9_init 27 = .ok (.aload_n 0, 1) := by decide +kernel
theorem dX9_init_28 : decode cX9_init 28 = .ok (.bipush 60, 2) := by decide +kernel
theorem dX9_init_30 : decode cX9_init 30 = .ok (.newarray .int, 2) := by decide +kernel
theorem dX9_init_32 : decode cX9_init 32 = .ok (.putfield 19, 3) := by decide +kernel
theorem dX9_init_35 : decode cX9_init 35 = .ok (.aload_n 0, 1) := by decide +kernel
theorem dX9_init_36 : decode cX9_init 36 = .ok (.bipush 40, 2) := by decide +kernel
theorem dX9_init_38 : decode cX9_init 38 = .ok (.newarray .int, 2) := by decide +kernel
theorem dX9_init_40 : decode cX9_init 40 = .ok (.putfield 22, 3) := by decide +kernel
theorem dX9_init_43 : decode cX9_init 43 = .ok (.aload_n 0, 1) := by decide +kernel
theorem dX9_init_44 : decode cX9_init 44 = .ok (.iconst 4, 1) := by decide +kernel
theorem dX9_init_45 : decode cX9_init 45 = .ok (.newarray .int, 2) := by decide +kernel
theorem dX9_init_47 : decode cX9_init 47 = .ok (.putfield 25, 3) := by decide +kernel
theorem dX9_init_50 : decode cX9_init 50 = .ok (.aload_n 0, 1) := by decide +kernel
theorem dX9_init_51 : decode cX9_init 51 = .ok (.bipush 64, 2) := by decide +kernel
theorem dX9_init_53 : decode cX9_init 53 = .ok (.newarray .int, 2) := by decide +kernel
theorem dX9_init_55 : decode cX9_init 55 = .ok (.putfield 28, 3) := by decide +kernel
theorem dX9_init_58 : decode cX9_init 58 = .ok (.aload_n 0, 1) := by decide +kernel
theorem dX9_init_59 : decode cX9_init 59 = .ok (.iconst 4, 1) := by decide +kernel
theorem dX9_init_60 : decode cX9_init 60 = .ok (.newarray .int, 2) := by decide +kernel
theorem dX9_init_62 : decode cX9_init 62 = .ok (.putfield 31, 3) := by decide +kernel
theorem dX9_init_65 : decode cX9_init 65 = .ok (.aload_n 0, 1) := by decide +kernel
theorem dX9_init_66 : decode cX9_init 66 = .ok (.sipush 230, 3) := by decide +kernel
theorem dX9_init_69 : decode cX9_init 69 = .ok (.newarray .int, 2) := by decide +kernel
theorem dX9_init_71 : decode cX9_init 71 = .ok (.putfield 34, 3) := by decide +kernel
theorem dX9_init_74 : decode cX9_init 74 = .ok (.aload_n 0, 1) := by decide +kernel
theorem dX9_init_75 : decode cX9_init 75 = .ok (.iconst 2, 1) := by decide +kernel
theorem dX9_init_76 : decode cX9_init 76 = .ok (.newarray .boolean, 2) := by decide +kernel
theorem dX9_init_78 : decode cX9_init 78 = .ok (.putfield 37, 3) := by decide +kernel
theorem dX9_init_81 : decode cX9_init 81 = .ok (.aload_n 0, 1) := by decide +kernel
theorem dX9_init_82 : decode cX9_init 82 = .ok (.getfield 7, 3) := by decide +kernel
theorem dX9_init_85 : decode cX9_init 85 = .ok (.iconst 0, 1) := by decide +kernel
theorem dX9_init_86 : decode cX9_init 86 = .ok (.sipush 3000, 3) := by decide +kernel
theorem dX9_init_89 : decode cX9_init 89 = .ok (.iastore, 1) := by decide +kernel
theorem dX9_init_90 : decode cX9_init 90 = .ok (.aload_n 0, 1) := by decide +kernel
theorem dX9_init_91 : decode cX9_init 91 = .ok (.getfield 7, 3) := by decide +kernel
theorem dX9_init_94 : decode cX9_init 94 = .ok (.iconst 1, 1) := by decide +kernel
theorem dX9_init_95 : decode cX9_init 95 = .ok (.sipush 1000, 3) := by decide +kernel
theorem dX9_init_98 : decode cX9_init 98 = .ok (.iastore, 1) := by decide +kernel
theorem dX9_init_99 : decode cX9_init 99 = .ok (.aload_n 0, 1) := by decide +kernel
theorem dX9_init_100 : decode cX9_init 100 = .ok (.getfield 7, 3) := by decide +kernel
theorem dX9_init_103 : decode cX9_init 103 = .ok (.iconst 2, 1) := by decide +kernel
theorem dX9_init_104 : decode cX9_init 104 = .ok (.sipush 600, 3) := by decide +kernel
theorem dX9_init_107 : decode cX9_init 107 = .ok (.iastore, 1) := by decide +kernel
theorem dX9_init_108 : decode cX9_init 108 = .ok (.aload_n 0, 1) := by decide +kernel
theorem dX9_init_109 : decode cX9_init 109 = .ok (.getfield 7, 3) := by decide +kernel
theorem dX9_init_112 : decode cX9_init 112 = .ok (.iconst 3, 1) := by decide +kernel
theorem dX9_init_113 : decode cX9_init 113 = .ok (.sipush 150, 3) := by decide +kernel
theorem dX9_init_116 : decode cX9_init 116 = .ok (.iastore, 1) := by decide +kernel
theorem dX9_init_117 : decode cX9_init 117 = .ok (.aload_n 0, 1) := by decide +kernel
theorem dX9_init_118 : decode cX9_init 118 = .ok (.getfield 7, 3) := by decide +kernel
theorem dX9_init_121 : decode cX9_init 121 = .ok (.iconst 4, 1) := by decide +kernel
theorem dX9_init_122 : decode cX9_init 122 = .ok (.bipush 120, 2) := by decide +kernel
theorem dX9_init_124 : decode cX9_init 124 = .ok (.iastore, 1) := by decide +kernel
theorem dX9_init_125 : decode cX9_init 125 = .ok (.aload_n 0, 1) := by decide +kernel
theorem dX9_init_126 : decode cX9_init 126 = .ok (.getfield 7, 3) := by decide +kernel
theorem dX9_init_129 : decode cX9_init 129 = .ok (.iconst 5, 1) := by decide +kernel
theorem dX9_init_130 : decode cX9_init 130 = .ok (.bipush 100, 2) := by decide +kernel
theorem dX9_init_132 : decode cX9_init 132 = .ok (.iastore, 1) := by decide +kernel
theorem dX9_init_133 : decode cX9_init 133 = .ok (.aload_n 0, 1) := by decide +kernel
theorem dX9_init_134 : decode cX9_init 134 = .ok (.getfield 7, 3) := by decide +kernel
theorem dX9_init_137 : decode cX9_init 137 = .ok (.bipush 6, 2) := by decide +kernel
theorem dX9_init_139 : decode cX9_init 139 = .ok (.sipush 300, 3) := by decide +kernel
theorem dX9_init_142 : decode cX9_init 142 = .ok (.iastore, 1) := by decide +kernel
theorem dX9_init_143 : decode cX9_init 143 = .ok (.aload_n 0, 1) := by decide +kernel
theorem dX9_init_144 : decode cX9_init 144 = .ok (.getfield 7, 3) := by decide +kernel
theorem dX9_init_147 : decode cX9_init 147 = .ok (.bipush 7, 2) := by decide +kernel
theorem dX9_init_149 : decode cX9_init 149 = .ok (.iconst 2, 1) := by decide +kernel
theorem dX9_init_150 : decode cX9_init 150 = .ok (.iastore, 1) := by decide +kernel
theorem dX9_init_151 : decode cX9_init 151 = .ok (.iconst 0, 1) := by decide +kernel
theorem dX9_init_152 : decode cX9_init 152 = .ok (.istore_n 1, 1) := by decide +kernel
theorem dX9_init_153 : decode cX9_init 153 = .ok (.iload_n 1, 1) := by decide +kernel
theorem dX9_init_154 : decode cX9_init 154 = .ok (.iconst 4, 1) := by decide +kernel
theorem dX9_init_155 : decode cX9_init 155 = .ok (.if_icmp .ge 22, 3) := by decide +kernel
theorem dX9_init_158 : decode cX9_init 158 = .ok (.aload_n 0, 1) := by decide +kernel
theorem dX9_init_159 : decode cX9_init 159 = .ok (.getfield 13, 3) := by decide +kernel
theorem dX9_init_162 : decode cX9_init 162 = .ok (.iload_n 1, 1) := by decide +kernel
theorem dX9_init_163 : decode cX9_init 163 = .ok (.bipush 90, 2) := by decide +kernel
theorem dX9_init_165 : decode cX9_init 165 = .ok (.bipush 10, 2) := by decide +kernel
theorem dX9_init_167 : decode cX9_init 167 = .ok (.iload_n 1, 1) := by decide +kernel
theorem dX9_init_168 : decode cX9_init 168 = .ok (.imul, 1) := by decide +kernel
theorem dX9_init_169 : decode cX9_init 169 = .ok (.isub, 1) := by decide +kernel
theorem dX9_init_170 : decode cX9_init 170 = .ok (.iastore, 1) := by decide +kernel
theorem dX9_init_171 : decode cX9_init 171 = .ok (.iinc 1 1, 3) := by decide +kernel
theorem dX9_init_174 : decode cX9_init 174 = .ok (.goto (-21), 3) := by decide +kernel
theorem dX9_init_177 : decode cX9_init 177 = .ok (.return_, 1) := by decide +kernel
theorem dX9_in_0 : decode cX9_in 0 = .ok (.iload_n 0, 1) := by decide +kernel
theorem dX9_in_1 : decode cX9_in 1 = .ok (.iload_n 1, 1) := by decide +kernel
theorem dX9_in_2 : decode cX9_in 2 = .ok (.if_icmp .lt 12, 3) := by decide +kernel
theorem dX9_in_5 : decode cX9_in 5 = .ok (.iload_n 0, 1) := by decide +kernel
theorem dX9_in_6 : decode cX9_in 6 = .ok (.iload_n 2, 1) := by decide +kernel
theorem dX9_in_7 : decode cX9_in 7 = .ok (.if_icmp .gt 7, 3) := by decide +kernel
theorem dX9_in_10 : decode cX9_in 10 = .ok (.iconst 1, 1) := by decide +kernel
theorem dX9_in_11 : decode cX9_in 11 = .ok (.goto 4, 3) := by decide +kernel
theorem dX9_in_14 : decode cX9_in 14 = .ok (.iconst 0, 1) := by decide +kernel
theorem dX9_in_15 : decode cX9_in 15 = .ok (.ireturn, 1) := by decide +kernel
theorem dX9_leastOf_0 : decode cX9_leastOf 0 = .ok (.iload_n 0, 1) := by decide +kernel
theorem dX9_leastOf_1 : decode cX9_leastOf 1 = .ok (.iconst 2, 1) := by decide +kernel
theorem dX9_leastOf_2 : decode cX9_leastOf 2 = .ok (.if_icmp .ne 8, 3) := by decide +kernel
theorem dX9_leastOf_5 : decode cX9_leastOf 5 = .ok (.bipush 100, 2) := by decide +kernel
theorem dX9_leastOf_7 : decode cX9_leastOf 7 = .ok (.goto 14, 3) := by decide +kernel
theorem dX9_leastOf_10 : decode cX9_leastOf 10 = .ok (.iload_n 0, 1) := by decide +kernel
theorem dX9_leastOf_11 : decode cX9_leastOf 11 = .ok (.bipush 6, 2) := by decide +kernel
theorem dX9_leastOf_13 : decode cX9_leastOf 13 = .ok (.if_icmp .ne 7, 3) := by decide +kernel
theorem dX9_leastOf_16 : decode cX9_leastOf 16 = .ok (.iconst 1, 1) := by decide +kernel
theorem dX9_leastOf_17 : decode cX9_leastOf 17 = .ok (.goto 4, 3) := by decide +kernel
theorem dX9_leastOf_20 : decode cX9_leastOf 20 = .ok (.iconst 0, 1) := by decide +kernel
theorem dX9_leastOf_21 : decode cX9_leastOf 21 = .ok (.ireturn, 1) := by decide +kernel
theorem dX9_mostOf_0 : decode cX9_mostOf 0 = .ok (.iload_n 0, 1) := by decide +kernel
theorem dX9_mostOf_1 : decode cX9_mostOf 1 = .ok (.tableswitch 71 0 6 #[43, 47, 51, 55, 59, 63, 67], 43) := by decide +kernel
theorem dX9_mostOf_44 : decode cX9_mostOf 44 = .ok (.sipush 9000, 3) := by decide +kernel
theorem dX9_mostOf_47 : decode cX9_mostOf 47 = .ok (.ireturn, 1) := by decide +kernel
theorem dX9_mostOf_48 : decode cX9_mostOf 48 = .ok (.sipush 3000, 3) := by decide +kernel
theorem dX9_mostOf_51 : decode cX9_mostOf 51 = .ok (.ireturn, 1) := by decide +kernel
theorem dX9_mostOf_52 : decode cX9_mostOf 52 = .ok (.sipush 2000, 3) := by decide +kernel
theorem dX9_mostOf_55 : decode cX9_mostOf 55 = .ok (.ireturn, 1) := by decide +kernel
theorem dX9_mostOf_56 : decode cX9_mostOf 56 = .ok (.sipush 600, 3) := by decide +kernel
theorem dX9_mostOf_59 : decode cX9_mostOf 59 = .ok (.ireturn, 1) := by decide +kernel
theorem dX9_mostOf_60 : decode cX9_mostOf 60 = .ok (.sipush 400, 3) := by decide +kernel
theorem dX9_mostOf_63 : decode cX9_mostOf 63 = .ok (.ireturn, 1) := by decide +kernel
theorem dX9_mostOf_64 : decode cX9_mostOf 64 = .ok (.sipush 300, 3) := by decide +kernel
theorem dX9_mostOf_67 : decode cX9_mostOf 67 = .ok (.ireturn, 1) := by decide +kernel
theorem dX9_mostOf_68 : decode cX9_mostOf 68 = .ok (.sipush 900, 3) := by decide +kernel
theorem dX9_mostOf_71 : decode cX9_mostOf 71 = .ok (.ireturn, 1) := by decide +kernel
theorem dX9_mostOf_72 : decode cX9_mostOf 72 = .ok (.bipush 9, 2) := by decide +kernel
theorem dX9_mostOf_74 : decode cX9_mostOf 74 = .ok (.ireturn, 1) := by decide +kernel
theorem dX9_set_0 : decode cX9_set 0 = .ok (.iload_n 1, 1) := by decide +kernel
theorem dX9_set_1 : decode cX9_set 1 = .ok (.iconst 0, 1) := by decide +kernel
theorem dX9_set_2 : decode cX9_set 2 = .ok (.bipush 7, 2) := by decide +kernel
theorem dX9_set_4 : decode cX9_set 4 = .ok (.invokestatic 41, 3) := by decide +kernel
theorem dX9_set_7 : decode cX9_set 7 = .ok (.ifCond .eq 18, 3) := by decide +kernel
theorem dX9_set_10 : decode cX9_set 10 = .ok (.iload_n 2, 1) := by decide +kernel
theorem dX9_set_11 : decode cX9_set 11 = .ok (.iload_n 1, 1) := by decide +kernel
theorem dX9_set_12 : decode cX9_set 12 = .ok (.invokestatic 45, 3) := by decide +kernel
theorem dX9_set_15 : decode cX9_set 15 = .ok (.iload_n 1, 1) := by decide +kernel
theorem dX9_set_16 : decode cX9_set 16 = .ok (.invokestatic 49, 3) := by decide +kernel
theorem dX9_set_19 : decode cX9_set 19 = .ok (.invokestatic 41, 3) := by decide +kernel
theorem dX9_set_22 : decode cX9_set 22 = .ok (.ifCond .ne 6, 3) := by decide +kernel
theorem dX9_set_25 : decode cX9_set 25 = .ok (.bipush (-2), 2) := by decide +kernel
theorem dX9_set_27 : decode cX9_set 27 = .ok (.ireturn, 1) := by decide +kernel
theorem dX9_set_28 : decode cX9_set 28 = .ok (.aload_n 0, 1) := by decide +kernel
theorem dX9_set_29 : decode cX9_set 29 = .ok (.getfield 7, 3) := by decide +kernel
theorem dX9_set_32 : decode cX9_set 32 = .ok (.iload_n 1, 1) := by decide +kernel
theorem dX9_set_33 : decode cX9_set 33 = .ok (.iaload, 1) := by decide +kernel
theorem dX9_set_34 : decode cX9_set 34 = .ok (.istore_n 3, 1) := by decide +kernel
theorem dX9_set_35 : decode cX9_set 35 = .ok (.aload_n 0, 1) := by decide +kernel
theorem dX9_set_36 : decode cX9_set 36 = .ok (.getfield 7, 3) := by decide +kernel
theorem dX9_set_39 : decode cX9_set 39 = .ok (.iload_n 1, 1) := by decide +kernel
theorem dX9_set_40 : decode cX9_set 40 = .ok (.iload_n 2, 1) := by decide +kernel
theorem dX9_set_41 : decode cX9_set 41 = .ok (.iastore, 1) := by decide +kernel
theorem dX9_set_42 : decode cX9_set 42 = .ok (.iload_n 3, 1) := by decide +kernel
theorem dX9_set_43 : decode cX9_set 43 = .ok (.ireturn, 1) := by decide +kernel
theorem dX9_strong_0 : decode cX9_strong 0 = .ok (.iload_n 1, 1) := by decide +kernel
theorem dX9_strong_1 : decode cX9_strong 1 = .ok (.iconst 0, 1) := by decide +kernel
theorem dX9_strong_2 : decode cX9_strong 2 = .ok (.iconst 3, 1) := by decide +kernel
theorem dX9_strong_3 : decode cX9_strong 3 = .ok (.invokestatic 41, 3) := by decide +kernel
theorem dX9_strong_6 : decode cX9_strong 6 = .ok (.ifCond .ne 5, 3) := by decide +kernel
theorem dX9_strong_9 : decode cX9_strong 9 = .ok (.iconst (-1), 1) := by decide +kernel
theorem dX9_strong_10 : decode cX9_strong 10 = .ok (.ireturn, 1) := by decide +kernel
theorem dX9_strong_11 : decode cX9_strong 11 = .ok (.iload_n 2, 1) := by decide +kernel
theorem dX9_strong_12 : decode cX9_strong 12 = .ok (.iconst 0, 1) := by decide +kernel
theorem dX9_strong_13 : decode cX9_strong 13 = .ok (.sipush 200, 3) := by decide +kernel
theorem dX9_strong_16 : decode cX9_strong 16 = .ok (.invokestatic 41, 3) := by decide +kernel
theorem dX9_strong_19 : decode cX9_strong 19 = .ok (.ifCond .ne 6, 3) := by decide +kernel
theorem dX9_strong_22 : decode cX9_strong 22 = .ok (.bipush (-2), 2) := by decide +kernel
theorem dX9_strong_24 : decode cX9_strong 24 = .ok (.ireturn, 1) := by decide +kernel
theorem dX9_strong_25 : decode cX9_strong 25 = .ok (.aload_n 0, 1) := by decide +kernel
theorem dX9_strong_26 : decode cX9_strong 26 = .ok (.getfield 13, 3) := by decide +kernel
theorem dX9_strong_29 : decode cX9_strong 29 = .ok (.iload_n 1, 1) := by decide +kernel
theorem dX9_strong_30 : decode cX9_strong 30 = .ok (.iaload, 1) := by decide +kernel
theorem dX9_strong_31 : decode cX9_strong 31 = .ok (.istore_n 3, 1) := by decide +kernel
theorem dX9_strong_32 : decode cX9_strong 32 = .ok (.aload_n 0, 1) := by decide +kernel
theorem dX9_strong_33 : decode cX9_strong 33 = .ok (.getfield 13, 3) := by decide +kernel
theorem dX9_strong_36 : decode cX9_strong 36 = .ok (.iload_n 1, 1) := by decide +kernel
theorem dX9_strong_37 : decode cX9_strong 37 = .ok (.iload_n 2, 1) := by decide +kernel
theorem dX9_strong_38 : decode cX9_strong 38 = .ok (.iastore, 1) := by decide +kernel
theorem dX9_strong_39 : decode cX9_strong 39 = .ok (.iload_n 3, 1) := by decide +kernel
theorem dX9_strong_40 : decode cX9_strong 40 = .ok (.ireturn, 1) := by decide +kernel
theorem dX9_say_0 : decode cX9_say 0 = .ok (.iload_n 1, 1) := by decide +kernel
theorem dX9_say_1 : decode cX9_say 1 = .ok (.bipush 33, 2) := by decide +kernel
theorem dX9_say_3 : decode cX9_say 3 = .ok (.bipush 126, 2) := by decide +kernel
theorem dX9_say_5 : decode cX9_say 5 = .ok (.invokestatic 41, 3) := by decide +kernel
theorem dX9_say_8 : decode cX9_say 8 = .ok (.ifCond .ne 6, 3) := by decide +kernel
theorem dX9_say_11 : decode cX9_say 11 = .ok (.bipush (-2), 2) := by decide +kernel
theorem dX9_say_13 : decode cX9_say 13 = .ok (.ireturn, 1) := by decide +kernel
theorem dX9_say_14 : decode cX9_say 14 = .ok (.aload_n 0, 1) := by decide +kernel
theorem dX9_say_15 : decode cX9_say 15 = .ok (.getfield 52, 3) := by decide +kernel
theorem dX9_say_18 : decode cX9_say 18 = .ok (.bipush 40, 2) := by decide +kernel
theorem dX9_say_20 : decode cX9_say 20 = .ok (.if_icmp .ne 6, 3) := by decide +kernel
theorem dX9_say_23 : decode cX9_say 23 = .ok (.bipush (-4), 2) := by decide +kernel
theorem dX9_say_25 : decode cX9_say 25 = .ok (.ireturn, 1) := by decide +kernel
theorem dX9_say_26 : decode cX9_say 26 = .ok (.aload_n 0, 1) := by decide +kernel
theorem dX9_say_27 : decode cX9_say 27 = .ok (.getfield 16, 3) := by decide +kernel
theorem dX9_say_30 : decode cX9_say 30 = .ok (.aload_n 0, 1) := by decide +kernel
theorem dX9_say_31 : decode cX9_say 31 = .ok (.getfield 52, 3) := by decide +kernel
theorem dX9_say_34 : decode cX9_say 34 = .ok (.iload_n 1, 1) := by decide +kernel
theorem dX9_say_35 : decode cX9_say 35 = .ok (.iastore, 1) := by decide +kernel
theorem dX9_say_36 : decode cX9_say 36 = .ok (.aload_n 0, 1) := by decide +kernel
theorem dX9_say_37 : decode cX9_say 37 = .ok (.dup, 1) := by decide +kernel
theorem dX9_say_38 : decode cX9_say 38 = .ok (.getfield 52, 3) := by decide +kernel
theorem dX9_say_41 : decode cX9_say 41 = .ok (.iconst 1, 1) := by decide +kernel
theorem dX9_say_42 : decode cX9_say 42 = .ok (.iadd, 1) := by decide +kernel
theorem dX9_say_43 : decode cX9_say 43 = .ok (.putfield 52, 3) := by decide +kernel
theorem dX9_say_46 : decode cX9_say 46 = .ok (.aload_n 0, 1) := by decide +kernel
theorem dX9_say_47 : decode cX9_say 47 = .ok (.getfield 52, 3) := by decide +kernel
theorem dX9_say_50 : decode cX9_say 50 = .ok (.ireturn, 1) := by decide +kernel
theorem dX9_wipe_0 : decode cX9_wipe 0 = .ok (.aload_n 0, 1) := by decide +kernel
theorem dX9_wipe_1 : decode cX9_wipe 1 = .ok (.getfield 52, 3) := by decide +kernel
theorem dX9_wipe_4 : decode cX9_wipe 4 = .ok (.istore_n 1, 1) := by decide +kernel
theorem dX9_wipe_5 : decode cX9_wipe 5 = .ok (.aload_n 0, 1) := by decide +kernel
theorem dX9_wipe_6 : decode cX9_wipe 6 = .ok (.iconst 0, 1) := by decide +kernel
theorem dX9_wipe_7 : decode cX9_wipe 7 = .ok (.putfield 52, 3) := by decide +kernel
theorem dX9_wipe_10 : decode cX9_wipe 10 = .ok (.iload_n 1, 1) := by decide +kernel
theorem dX9_wipe_11 : decode cX9_wipe 11 = .ok (.ireturn, 1) := by decide +kernel
theorem dX9_isDigit_0 : decode cX9_isDigit 0 = .ok (.iload_n 0, 1) := by decide +kernel
theorem dX9_isDigit_1 : decode cX9_isDigit 1 = .ok (.bipush 48, 2) := by decide +kernel
theorem dX9_isDigit_3 : decode cX9_isDigit 3 = .ok (.bipush 57, 2) := by decide +kernel
theorem dX9_isDigit_5 : decode cX9_isDigit 5 = .ok (.invokestatic 41, 3) := by decide +kernel
theorem dX9_isDigit_8 : decode cX9_isDigit 8 = .ok (.ireturn, 1) := by decide +kernel
theorem dX9_isWho_0 : decode cX9_isWho 0 = .ok (.iload_n 0, 1) := by decide +kernel
theorem dX9_isWho_1 : decode cX9_isWho 1 = .ok (.bipush 97, 2) := by decide +kernel
theorem dX9_isWho_3 : decode cX9_isWho 3 = .ok (.bipush 100, 2) := by decide +kernel
theorem dX9_isWho_5 : decode cX9_isWho 5 = .ok (.invokestatic 41, 3) := by decide +kernel
theorem dX9_isWho_8 : decode cX9_isWho 8 = .ok (.ifCond .ne 9, 3) := by decide +kernel
theorem dX9_isWho_11 : decode cX9_isWho 11 = .ok (.iload_n 0, 1) := by decide +kernel
theorem dX9_isWho_12 : decode cX9_isWho 12 = .ok (.bipush 45, 2) := by decide +kernel
theorem dX9_isWho_14 : decode cX9_isWho 14 = .ok (.if_icmp .ne 7, 3) := by decide +kernel
theorem dX9_isWho_17 : decode cX9_isWho 17 = .ok (.iconst 1, 1) := by decide +kernel
theorem dX9_isWho_18 : decode cX9_isWho 18 = .ok (.goto 4, 3) := by decide +kernel
theorem dX9_isWho_21 : decode cX9_isWho 21 = .ok (.iconst 0, 1) := by decide +kernel
theorem dX9_isWho_22 : decode cX9_isWho 22 = .ok (.ireturn, 1) := by decide +kernel
theorem dX9_planFault_0 : decode cX9_planFault 0 = .ok (.iconst 0, 1) := by decide +kernel
theorem dX9_planFault_1 : decode cX9_planFault 1 = .ok (.istore_n 1, 1) := by decide +kernel
theorem dX9_planFault_2 : decode cX9_planFault 2 = .ok (.iconst 0, 1) := by decide +kernel
theorem dX9_planFault_3 : decode cX9_planFault 3 = .ok (.istore_n 2, 1) := by decide +kernel
theorem dX9_planFault_4 : decode cX9_planFault 4 = .ok (.iload_n 2, 1) := by decide +kernel
theorem dX9_planFault_5 : decode cX9_planFault 5 = .ok (.aload_n 0, 1) := by decide +kernel
theorem dX9_planFault_6 : decode cX9_planFault 6 = .ok (.getfield 52, 3) := by decide +kernel
theorem dX9_planFault_9 : decode cX9_planFault 9 = .ok (.if_icmp .ge 99, 3) := by decide +kernel
theorem dX9_planFault_12 : decode cX9_planFault 12 = .ok (.aload_n 0, 1) := by decide +kernel
theorem dX9_planFault_13 : decode cX9_planFault 13 = .ok (.getfield 16, 3) := by decide +kernel
theorem dX9_planFault_16 : decode cX9_planFault 16 = .ok (.iload_n 2, 1) := by decide +kernel
theorem dX9_planFault_17 : decode cX9_planFault 17 = .ok (.iaload, 1) := by decide +kernel
theorem dX9_planFault_18 : decode cX9_planFault 18 = .ok (.istore_n 3, 1) := by decide +kernel
theorem dX9_planFault_19 : decode cX9_planFault 19 = .ok (.iload_n 1, 1) := by decide +kernel
theorem dX9_planFault_20 : decode cX9_planFault 20 = .ok (.ifCond .ne 15, 3) := by decide +kernel
theorem dX9_planFault_23 : decode cX9_planFault 23 = .ok (.iload_n 3, 1) := by decide +kernel
theorem dX9_planFault_24 : decode cX9_planFault 24 = .ok (.invokestatic 56, 3) := by decide +kernel
theorem dX9_planFault_27 : decode cX9_planFault 27 = .ok (.ifCond .eq 8, 3) := by decide +kernel
theorem dX9_planFault_30 : decode cX9_planFault 30 = .ok (.iconst 1, 1) := by decide +kernel
theorem dX9_planFault_31 : decode cX9_planFault 31 = .ok (.istore_n 1, 1) := by decide +kernel
theorem dX9_planFault_32 : decode cX9_planFault 32 = .ok (.goto 70, 3) := by decide +kernel
theorem dX9_planFault_35 : decode cX9_planFault 35 = .ok (.iload_n 1, 1) := by decide +kernel
theorem dX9_planFault_36 : decode cX9_planFault 36 = .ok (.ifCond .ne 14, 3) := by decide +kernel
theorem dX9_planFault_39 : decode cX9_planFault 39 = .ok (.iload_n 3, 1) := by decide +kernel
theorem dX9_planFault_40 : decode cX9_planFault 40 = .ok (.bipush 115, 2) := by decide +kernel
theorem dX9_planFault_42 : decode cX9_planFault 42 = .ok (.if_icmp .ne 8, 3) := by decide +kernel
theorem dX9_planFault_45 : decode cX9_planFault 45 = .ok (.iconst 3, 1) := by decide +kernel
theorem dX9_planFault_46 : decode cX9_planFault 46 = .ok (.istore_n 1, 1) := by decide +kernel
theorem dX9_planFault_47 : decode cX9_planFault 47 = .ok (.goto 55, 3) := by decide +kernel
theorem dX9_planFault_50 : decode cX9_planFault 50 = .ok (.iload_n 1, 1) := by decide +kernel
theorem dX9_planFault_51 : decode cX9_planFault 51 = .ok (.iconst 1, 1) := by decide +kernel
theorem dX9_planFault_52 : decode cX9_planFault 52 = .ok (.if_icmp .ne 15, 3) := by decide +kernel
theorem dX9_planFault_55 : decode cX9_planFault 55 = .ok (.iload_n 3, 1) := by decide +kernel
theorem dX9_planFault_56 : decode cX9_planFault 56 = .ok (.invokestatic 60, 3) := by decide +kernel
theorem dX9_planFault_59 : decode cX9_planFault 59 = .ok (.ifCond .eq 8, 3) := by decide +kernel
theorem dX9_planFault_62 : decode cX9_planFault 62 = .ok (.iconst 2, 1) := by decide +kernel
theorem dX9_planFault_63 : decode cX9_planFault 63 = .ok (.istore_n 1, 1) := by decide +kernel
theorem dX9_planFault_64 : decode cX9_planFault 64 = .ok (.goto 38, 3) := by decide +kernel
theorem dX9_planFault_67 : decode cX9_planFault 67 = .ok (.iload_n 1, 1) := by decide +kernel
theorem dX9_planFault_68 : decode cX9_planFault 68 = .ok (.iconst 2, 1) := by decide +kernel
theorem dX9_planFault_69 : decode cX9_planFault 69 = .ok (.if_icmp .ne 14, 3) := by decide +kernel
theorem dX9_planFault_72 : decode cX9_planFault 72 = .ok (.iload_n 3, 1) := by decide +kernel
theorem dX9_planFault_73 : decode cX9_planFault 73 = .ok (.bipush 49, 2) := by decide +kernel
theorem dX9_planFault_75 : decode cX9_planFault 75 = .ok (.bipush 57, 2) := by decide +kernel
theorem dX9_planFault_77 : decode cX9_planFault 77 = .ok (.invokestatic 41, 3) := by decide +kernel
theorem dX9_planFault_80 : decode cX9_planFault 80 = .ok (.ifCond .ne 15, 3) := by decide +kernel
theorem dX9_planFault_83 : decode cX9_planFault 83 = .ok (.iload_n 1, 1) := by decide +kernel
theorem dX9_planFault_84 : decode cX9_planFault 84 = .ok (.iconst 3, 1) := by decide +kernel
theorem dX9_planFault_85 : decode cX9_planFault 85 = .ok (.if_icmp .ne 15, 3) := by decide +kernel
theorem dX9_planFault_88 : decode cX9_planFault 88 = .ok (.iload_n 3, 1) := by decide +kernel
theorem dX9_planFault_89 : decode cX9_planFault 89 = .ok (.invokestatic 60, 3) := by decide +kernel
theorem dX9_planFault_92 : decode cX9_planFault 92 = .ok (.ifCond .eq 8, 3) := by decide +kernel
theorem dX9_planFault_95 : decode cX9_planFault 95 = .ok (.iconst 0, 1) := by decide +kernel
theorem dX9_planFault_96 : decode cX9_planFault 96 = .ok (.istore_n 1, 1) := by decide +kernel
theorem dX9_planFault_97 : decode cX9_planFault 97 = .ok (.goto 5, 3) := by decide +kernel
theorem dX9_planFault_100 : decode cX9_planFault 100 = .ok (.iload_n 2, 1) := by decide +kernel
theorem dX9_planFault_101 : decode cX9_planFault 101 = .ok (.ireturn, 1) := by decide +kernel
theorem dX9_planFault_102 : decode cX9_planFault 102 = .ok (.iinc 2 1, 3) := by decide +kernel
theorem dX9_planFault_105 : decode cX9_planFault 105 = .ok (.goto (-101), 3) := by decide +kernel
theorem dX9_planFault_108 : decode cX9_planFault 108 = .ok (.iload_n 1, 1) := by decide +kernel
theorem dX9_planFault_109 : decode cX9_planFault 109 = .ok (.ifCond .ne 8, 3) := by decide +kernel
theorem dX9_planFault_112 : decode cX9_planFault 112 = .ok (.bipush (-6), 2) := by decide +kernel
theorem dX9_planFault_114 : decode cX9_planFault 114 = .ok (.goto 7, 3) := by decide +kernel
theorem dX9_planFault_117 : decode cX9_planFault 117 = .ok (.aload_n 0, 1) := by decide +kernel
theorem dX9_planFault_118 : decode cX9_planFault 118 = .ok (.getfield 52, 3) := by decide +kernel
theorem dX9_planFault_121 : decode cX9_planFault 121 = .ok (.ireturn, 1) := by decide +kernel
theorem dX9_boxFault_0 : decode cX9_boxFault 0 = .ok (.iconst 0, 1) := by decide +kernel
theorem dX9_boxFault_1 : decode cX9_boxFault 1 = .ok (.istore_n 1, 1) := by decide +kernel
theorem dX9_boxFault_2 : decode cX9_boxFault 2 = .ok (.iload_n 1, 1) := by decide +kernel
theorem dX9_boxFault_3 : decode cX9_boxFault 3 = .ok (.aload_n 0, 1) := by decide +kernel
theorem dX9_boxFault_4 : decode cX9_boxFault 4 = .ok (.getfield 52, 3) := by decide +kernel
theorem dX9_boxFault_7 : decode cX9_boxFault 7 = .ok (.if_icmp .ge 23, 3) := by decide +kernel
theorem dX9_boxFault_10 : decode cX9_boxFault 10 = .ok (.aload_n 0, 1) := by decide +kernel
theorem dX9_boxFault_11 : decode cX9_boxFault 11 = .ok (.getfield 16, 3) := by decide +kernel
theorem dX9_boxFault_14 : decode cX9_boxFault 14 = .ok (.iload_n 1, 1) := by decide +kernel
theorem dX9_boxFault_15 : decode cX9_boxFault 15 = .ok (.iaload, 1) := by decide +kernel
theorem dX9_boxFault_16 : decode cX9_boxFault 16 = .ok (.invokestatic 60, 3) := by decide +kernel
theorem dX9_boxFault_19 : decode cX9_boxFault 19 = .ok (.ifCond .ne 5, 3) := by decide +kernel
theorem dX9_boxFault_22 : decode cX9_boxFault 22 = .ok (.iload_n 1, 1) := by decide +kernel
theorem dX9_boxFault_23 : decode cX9_boxFault 23 = .ok (.ireturn, 1) := by decide +kernel
theorem dX9_boxFault_24 : decode cX9_boxFault 24 = .ok (.iinc 1 1, 3) := by decide +kernel
theorem dX9_boxFault_27 : decode cX9_boxFault 27 = .ok (.goto (-25), 3) := by decide +kernel
theorem dX9_boxFault_30 : decode cX9_boxFault 30 = .ok (.aload_n 0, 1) := by decide +kernel
theorem dX9_boxFault_31 : decode cX9_boxFault 31 = .ok (.getfield 52, 3) := by decide +kernel
theorem dX9_boxFault_34 : decode cX9_boxFault 34 = .ok (.ifCond .ne 7, 3) := by decide +kernel
theorem dX9_boxFault_37 : decode cX9_boxFault 37 = .ok (.iconst 0, 1) := by decide +kernel
theorem dX9_boxFault_38 : decode cX9_boxFault 38 = .ok (.goto 5, 3) := by decide +kernel
theorem dX9_boxFault_41 : decode cX9_boxFault 41 = .ok (.bipush (-6), 2) := by decide +kernel
theorem dX9_boxFault_43 : decode cX9_boxFault 43 = .ok (.ireturn, 1) := by decide +kernel
theorem dX9_fault_0 : decode cX9_fault 0 = .ok (.iload_n 1, 1) := by decide +kernel
theorem dX9_fault_1 : decode cX9_fault 1 = .ok (.ifCond .ne 10, 3) := by decide +kernel
theorem dX9_fault_4 : decode cX9_fault 4 = .ok (.aload_n 0, 1) := by decide +kernel
theorem dX9_fault_5 : decode cX9_fault 5 = .ok (.invokevirtual 63, 3) := by decide +kernel
theorem dX9_fault_8 : decode cX9_fault 8 = .ok (.goto 17, 3) := by decide +kernel
theorem dX9_fault_11 : decode cX9_fault 11 = .ok (.iload_n 1, 1) := by decide +kernel
theorem dX9_fault_12 : decode cX9_fault 12 = .ok (.iconst 1, 1) := by decide +kernel
theorem dX9_fault_13 : decode cX9_fault 13 = .ok (.if_icmp .ne 10, 3) := by decide +kernel
theorem dX9_fault_16 : decode cX9_fault 16 = .ok (.aload_n 0, 1) := by decide +kernel
theorem dX9_fault_17 : decode cX9_fault 17 = .ok (.invokevirtual 67, 3) := by decide +kernel
theorem dX9_fault_20 : decode cX9_fault 20 = .ok (.goto 5, 3) := by decide +kernel
theorem dX9_fault_23 : decode cX9_fault 23 = .ok (.bipush (-2), 2) := by decide +kernel
theorem dX9_fault_25 : decode cX9_fault 25 = .ok (.ireturn, 1) := by decide +kernel
theorem dX9_minutesOf_0 : decode cX9_minutesOf 0 = .ok (.iconst 0, 1) := by decide +kernel
theorem dX9_minutesOf_1 : decode cX9_minutesOf 1 = .ok (.istore_n 1, 1) := by decide +kernel
theorem dX9_minutesOf_2 : decode cX9_minutesOf 2 = .ok (.iconst 0, 1) := by decide +kernel
theorem dX9_minutesOf_3 : decode cX9_minutesOf 3 = .ok (.istore_n 2, 1) := by decide +kernel
theorem dX9_minutesOf_4 : decode cX9_minutesOf 4 = .ok (.iload_n 2, 1) := by decide +kernel
theorem dX9_minutesOf_5 : decode cX9_minutesOf 5 = .ok (.aload_n 0, 1) := by decide +kernel
theorem dX9_minutesOf_6 : decode cX9_minutesOf 6 = .ok (.getfield 70, 3) := by decide +kernel
theorem dX9_minutesOf_9 : decode cX9_minutesOf 9 = .ok (.if_icmp .ge 38, 3) := by decide +kernel
theorem dX9_minutesOf_12 : decode cX9_minutesOf 12 = .ok (.iload_n 1, 1) := by decide +kernel
theorem dX9_minutesOf_13 : decode cX9_minutesOf 13 = .ok (.aload_n 0, 1) := by decide +kernel
theorem dX9_minutesOf_14 : decode cX9_minutesOf 14 = .ok (.getfield 19, 3) := by decide +kernel
theorem dX9_minutesOf_17 : decode cX9_minutesOf 17 = .ok (.iconst 3, 1) := by decide +kernel
theorem dX9_minutesOf_18 : decode cX9_minutesOf 18 = .ok (.iload_n 2, 1) := by decide +kernel
theorem dX9_minutesOf_19 : decode cX9_minutesOf 19 = .ok (.imul, 1) := by decide +kernel
theorem dX9_minutesOf_20 : decode cX9_minutesOf 20 = .ok (.iaload, 1) := by decide +kernel
theorem dX9_minutesOf_21 : decode cX9_minutesOf 21 = .ok (.iconst 5, 1) := by decide +kernel
theorem dX9_minutesOf_22 : decode cX9_minutesOf 22 = .ok (.if_icmp .ne 7, 3) := by decide +kernel
theorem dX9_minutesOf_25 : decode cX9_minutesOf 25 = .ok (.iconst 0, 1) := by decide +kernel
theorem dX9_minutesOf_26 : decode cX9_minutesOf 26 = .ok (.goto 13, 3) := by decide +kernel
theorem dX9_minutesOf_29 : decode cX9_minutesOf 29 = .ok (.aload_n 0, 1) := by decide +kernel
theorem dX9_minutesOf_30 : decode cX9_minutesOf 30 = .ok (.getfield 19, 3) := by decide +kernel
theorem dX9_minutesOf_33 : decode cX9_minutesOf 33 = .ok (.iconst 3, 1) := by decide +kernel
theorem dX9_minutesOf_34 : decode cX9_minutesOf 34 = .ok (.iload_n 2, 1) := by decide +kernel
theorem dX9_minutesOf_35 : decode cX9_minutesOf 35 = .ok (.imul, 1) := by decide +kernel
theorem dX9_minutesOf_36 : decode cX9_minutesOf 36 = .ok (.iconst 2, 1) := by decide +kernel
theorem dX9_minutesOf_37 : decode cX9_minutesOf 37 = .ok (.iadd, 1) := by decide +kernel
theorem dX9_minutesOf_38 : decode cX9_minutesOf 38 = .ok (.iaload, 1) := by decide +kernel
theorem dX9_minutesOf_39 : decode cX9_minutesOf 39 = .ok (.iadd, 1) := by decide +kernel
theorem dX9_minutesOf_40 : decode cX9_minutesOf 40 = .ok (.istore_n 1, 1) := by decide +kernel
theorem dX9_minutesOf_41 : decode cX9_minutesOf 41 = .ok (.iinc 2 1, 3) := by decide +kernel
theorem dX9_minutesOf_44 : decode cX9_minutesOf 44 = .ok (.goto (-40), 3) := by decide +kernel
theorem dX9_minutesOf_47 : decode cX9_minutesOf 47 = .ok (.iload_n 1, 1) := by decide +kernel
theorem dX9_minutesOf_48 : decode cX9_minutesOf 48 = .ok (.ireturn, 1) := by decide +kernel
theorem dX9_plan_0 : decode cX9_plan 0 = .ok (.aload_n 0, 1) := by decide +kernel
theorem dX9_plan_1 : decode cX9_plan 1 = .ok (.invokevirtual 63, 3) := by decide +kernel
theorem dX9_plan_4 : decode cX9_plan 4 = .ok (.ifCond .lt 6, 3) := by decide +kernel
theorem dX9_plan_7 : decode cX9_plan 7 = .ok (.bipush (-5), 2) := by decide +kernel
theorem dX9_plan_9 : decode cX9_plan 9 = .ok (.ireturn, 1) := by decide +kernel
theorem dX9_plan_10 : decode cX9_plan 10 = .ok (.aload_n 0, 1) := by decide +kernel
theorem dX9_plan_11 : decode cX9_plan 11 = .ok (.iconst 0, 1) := by decide +kernel
theorem dX9_plan_12 : decode cX9_plan 12 = .ok (.putfield 70, 3) := by decide +kernel
theorem dX9_plan_15 : decode cX9_plan 15 = .ok (.iconst 0, 1) := by decide +kernel
theorem dX9_plan_16 : decode cX9_plan 16 = .ok (.istore_n 1, 1) := by decide +kernel
theorem dX9_plan_17 : decode cX9_plan 17 = .ok (.iload_n 1, 1) := by decide +kernel
theorem dX9_plan_18 : decode cX9_plan 18 = .ok (.aload_n 0, 1) := by decide +kernel
theorem dX9_plan_19 : decode cX9_plan 19 = .ok (.getfield 52, 3) := by decide +kernel
theorem dX9_plan_22 : decode cX9_plan 22 = .ok (.if_icmp .ge 144, 3) := by decide +kernel
theorem dX9_plan_25 : decode cX9_plan 25 = .ok (.aload_n 0, 1) := by decide +kernel
theorem dX9_plan_26 : decode cX9_plan 26 = .ok (.getfield 16, 3) := by decide +kernel
theorem dX9_plan_29 : decode cX9_plan 29 = .ok (.iload_n 1, 1) := by decide +kernel
theorem dX9_plan_30 : decode cX9_plan 30 = .ok (.iaload, 1) := by decide +kernel
theorem dX9_plan_31 : decode cX9_plan 31 = .ok (.bipush 115, 2) := by decide +kernel
theorem dX9_plan_33 : decode cX9_plan 33 = .ok (.if_icmp .ne 7, 3) := by decide +kernel
theorem dX9_plan_36 : decode cX9_plan 36 = .ok (.iconst 1, 1) := by decide +kernel
theorem dX9_plan_37 : decode cX9_plan 37 = .ok (.goto 4, 3) := by decide +kernel
theorem dX9_plan_40 : decode cX9_plan 40 = .ok (.iconst 0, 1) := by decide +kernel
theorem dX9_plan_41 : decode cX9_plan 41 = .ok (.istore_n 2, 1) := by decide +kernel
theorem dX9_plan_42 : decode cX9_plan 42 = .ok (.aload_n 0, 1) := by decide +kernel
theorem dX9_plan_43 : decode cX9_plan 43 = .ok (.getfield 19, 3) := by decide +kernel
theorem dX9_plan_46 : decode cX9_plan 46 = .ok (.iconst 3, 1) := by decide +kernel
theorem dX9_plan_47 : decode cX9_plan 47 = .ok (.aload_n 0, 1) := by decide +kernel
theorem dX9_plan_48 : decode cX9_plan 48 = .ok (.getfield 70, 3) := by decide +kernel
theorem dX9_plan_51 : decode cX9_plan 51 = .ok (.imul, 1) := by decide +kernel
theorem dX9_plan_52 : decode cX9_plan 52 = .ok (.iload_n 2, 1) := by decide +kernel
theorem dX9_plan_53 : decode cX9_plan 53 = .ok (.ifCond .eq 7, 3) := by decide +kernel
theorem dX9_plan_56 : decode cX9_plan 56 = .ok (.iconst 5, 1) := by decide +kernel
theorem dX9_plan_57 : decode cX9_plan 57 = .ok (.goto 27, 3) := by decide +kernel
theorem dX9_plan_60 : decode cX9_plan 60 = .ok (.aload_n 0, 1) := by decide +kernel
theorem dX9_plan_61 : decode cX9_plan 61 = .ok (.getfield 16, 3) := by decide +kernel
theorem dX9_plan_64 : decode cX9_plan 64 = .ok (.iload_n 1, 1) := by decide +kernel
theorem dX9_plan_65 : decode cX9_plan 65 = .ok (.iaload, 1) := by decide +kernel
theorem dX9_plan_66 : decode cX9_plan 66 = .ok (.bipush 45, 2) := by decide +kernel
theorem dX9_plan_68 : decode cX9_plan 68 = .ok (.if_icmp .ne 7, 3) := by decide +kernel
theorem dX9_plan_71 : decode cX9_plan 71 = .ok (.iconst 4, 1) := by decide +kernel
theorem dX9_plan_72 : decode cX9_plan 72 = .ok (.goto 12, 3) := by decide +kernel
theorem dX9_plan_75 : decode cX9_plan 75 = .ok (.aload_n 0, 1) := by decide +kernel
theorem dX9_plan_76 : decode cX9_plan 76 = .ok (.getfield 16, 3) := by decide +kernel
theorem dX9_plan_79 : decode cX9_plan 79 = .ok (.iload_n 1, 1) := by decide +kernel
theorem dX9_plan_80 : decode cX9_plan 80 = .ok (.iaload, 1) := by decide +kernel
theorem dX9_plan_81 : decode cX9_plan 81 = .ok (.bipush 97, 2) := by decide +kernel
theorem dX9_plan_83 : decode cX9_plan 83 = .ok (.isub, 1) := by decide +kernel
theorem dX9_plan_84 : decode cX9_plan 84 = .ok (.iastore, 1) := by decide +kernel
theorem dX9_plan_85 : decode cX9_plan 85 = .ok (.aload_n 0, 1) := by decide +kernel
theorem dX9_plan_86 : decode cX9_plan 86 = .ok (.getfield 19, 3) := by decide +kernel
theorem dX9_plan_89 : decode cX9_plan 89 = .ok (.iconst 3, 1) := by decide +kernel
theorem dX9_plan_90 : decode cX9_plan 90 = .ok (.aload_n 0, 1) := by decide +kernel
theorem dX9_plan_91 : decode cX9_plan 91 = .ok (.getfield 70, 3) := by decide +kernel
theorem dX9_plan_94 : decode cX9_plan 94 = .ok (.imul, 1) := by decide +kernel
theorem dX9_plan_95 : decode cX9_plan 95 = .ok (.iconst 1, 1) := by decide +kernel
theorem dX9_plan_96 : decode cX9_plan 96 = .ok (.iadd, 1) := by decide +kernel
theorem dX9_plan_97 : decode cX9_plan 97 = .ok (.aload_n 0, 1) := by decide +kernel
theorem dX9_plan_98 : decode cX9_plan 98 = .ok (.getfield 16, 3) := by decide +kernel
theorem dX9_plan_101 : decode cX9_plan 101 = .ok (.iload_n 1, 1) := by decide +kernel
theorem dX9_plan_102 : decode cX9_plan 102 = .ok (.iconst 1, 1) := by decide +kernel
theorem dX9_plan_103 : decode cX9_plan 103 = .ok (.iadd, 1) := by decide +kernel
theorem dX9_plan_104 : decode cX9_plan 104 = .ok (.iaload, 1) := by decide +kernel
theorem dX9_plan_105 : decode cX9_plan 105 = .ok (.bipush 48, 2) := by decide +kernel
theorem dX9_plan_107 : decode cX9_plan 107 = .ok (.isub, 1) := by decide +kernel
theorem dX9_plan_108 : decode cX9_plan 108 = .ok (.iastore, 1) := by decide +kernel
theorem dX9_plan_109 : decode cX9_plan 109 = .ok (.aload_n 0, 1) := by decide +kernel
theorem dX9_plan_110 : decode cX9_plan 110 = .ok (.getfield 19, 3) := by decide +kernel
theorem dX9_plan_113 : decode cX9_plan 113 = .ok (.iconst 3, 1) := by decide +kernel
theorem dX9_plan_114 : decode cX9_plan 114 = .ok (.aload_n 0, 1) := by decide +kernel
theorem dX9_plan_115 : decode cX9_plan 115 = .ok (.getfield 70, 3) := by decide +kernel
theorem dX9_plan_118 : decode cX9_plan 118 = .ok (.imul, 1) := by decide +kernel
theorem dX9_plan_119 : decode cX9_plan 119 = .ok (.iconst 2, 1) := by decide +kernel
theorem dX9_plan_120 : decode cX9_plan 120 = .ok (.iadd, 1) := by decide +kernel
theorem dX9_plan_121 : decode cX9_plan 121 = .ok (.iload_n 2, 1) := by decide +kernel
theorem dX9_plan_122 : decode cX9_plan 122 = .ok (.ifCond .eq 7, 3) := by decide +kernel
theorem dX9_plan_125 : decode cX9_plan 125 = .ok (.iconst 0, 1) := by decide +kernel
theorem dX9_plan_126 : decode cX9_plan 126 = .ok (.goto 14, 3) := by decide +kernel
theorem dX9_plan_129 : decode cX9_plan 129 = .ok (.aload_n 0, 1) := by decide +kernel
theorem dX9_plan_130 : decode cX9_plan 130 = .ok (.getfield 16, 3) := by decide +kernel
theorem dX9_plan_133 : decode cX9_plan 133 = .ok (.iload_n 1, 1) := by decide +kernel
theorem dX9_plan_134 : decode cX9_plan 134 = .ok (.iconst 2, 1) := by decide +kernel
theorem dX9_plan_135 : decode cX9_plan 135 = .ok (.iadd, 1) := by decide +kernel
theorem dX9_plan_136 : decode cX9_plan 136 = .ok (.iaload, 1) := by decide +kernel
theorem dX9_plan_137 : decode cX9_plan 137 = .ok (.bipush 48, 2) := by decide +kernel
theorem dX9_plan_139 : decode cX9_plan 139 = .ok (.isub, 1) := by decide +kernel
theorem dX9_plan_140 : decode cX9_plan 140 = .ok (.iastore, 1) := by decide +kernel
theorem dX9_plan_141 : decode cX9_plan 141 = .ok (.iload_n 1, 1) := by decide +kernel
theorem dX9_plan_142 : decode cX9_plan 142 = .ok (.iload_n 2, 1) := by decide +kernel
theorem dX9_plan_143 : decode cX9_plan 143 = .ok (.ifCond .eq 7, 3) := by decide +kernel
theorem dX9_plan_146 : decode cX9_plan 146 = .ok (.iconst 2, 1) := by decide +kernel
theorem dX9_plan_147 : decode cX9_plan 147 = .ok (.goto 4, 3) := by decide +kernel
theorem dX9_plan_150 : decode cX9_plan 150 = .ok (.iconst 3, 1) := by decide +kernel
theorem dX9_plan_151 : decode cX9_plan 151 = .ok (.iadd, 1) := by decide +kernel
theorem dX9_plan_152 : decode cX9_plan 152 = .ok (.istore_n 1, 1) := by decide +kernel
theorem dX9_plan_153 : decode cX9_plan 153 = .ok (.aload_n 0, 1) := by decide +kernel
theorem dX9_plan_154 : decode cX9_plan 154 = .ok (.dup, 1) := by decide +kernel
theorem dX9_plan_155 : decode cX9_plan 155 = .ok (.getfield 70, 3) := by decide +kernel
theorem dX9_plan_158 : decode cX9_plan 158 = .ok (.iconst 1, 1) := by decide +kernel
theorem dX9_plan_159 : decode cX9_plan 159 = .ok (.iadd, 1) := by decide +kernel
theorem dX9_plan_160 : decode cX9_plan 160 = .ok (.putfield 70, 3) := by decide +kernel
theorem dX9_plan_163 : decode cX9_plan 163 = .ok (.goto (-146), 3) := by decide +kernel
theorem dX9_plan_166 : decode cX9_plan 166 = .ok (.aload_n 0, 1) := by decide +kernel
theorem dX9_plan_167 : decode cX9_plan 167 = .ok (.iconst 0, 1) := by decide +kernel
theorem dX9_plan_168 : decode cX9_plan 168 = .ok (.putfield 52, 3) := by decide +kernel
theorem dX9_plan_171 : decode cX9_plan 171 = .ok (.aload_n 0, 1) := by decide +kernel
theorem dX9_plan_172 : decode cX9_plan 172 = .ok (.invokevirtual 73, 3) := by decide +kernel
theorem dX9_plan_175 : decode cX9_plan 175 = .ok (.ireturn, 1) := by decide +kernel
theorem dX9_asTold_0 : decode cX9_asTold 0 = .ok (.iconst 0, 1) := by decide +kernel
theorem dX9_asTold_1 : decode cX9_asTold 1 = .ok (.istore_n 1, 1) := by decide +kernel
theorem dX9_asTold_2 : decode cX9_asTold 2 = .ok (.iload_n 1, 1) := by decide +kernel
theorem dX9_asTold_3 : decode cX9_asTold 3 = .ok (.iconst 4, 1) := by decide +kernel
theorem dX9_asTold_4 : decode cX9_asTold 4 = .ok (.if_icmp .ge 16, 3) := by decide +kernel
theorem dX9_asTold_7 : decode cX9_asTold 7 = .ok (.aload_n 0, 1) := by decide +kernel
theorem dX9_asTold_8 : decode cX9_asTold 8 = .ok (.getfield 25, 3) := by decide +kernel
theorem dX9_asTold_11 : decode cX9_asTold 11 = .ok (.iload_n 1, 1) := by decide +kernel
theorem dX9_asTold_12 : decode cX9_asTold 12 = .ok (.iload_n 1, 1) := by decide +kernel
theorem dX9_asTold_13 : decode cX9_asTold 13 = .ok (.iastore, 1) := by decide +kernel
theorem dX9_asTold_14 : decode cX9_asTold 14 = .ok (.iinc 1 1, 3) := by decide +kernel
theorem dX9_asTold_17 : decode cX9_asTold 17 = .ok (.goto (-15), 3) := by decide +kernel
theorem dX9_asTold_20 : decode cX9_asTold 20 = .ok (.aload_n 0, 1) := by decide +kernel
theorem dX9_asTold_21 : decode cX9_asTold 21 = .ok (.aload_n 0, 1) := by decide +kernel
theorem dX9_asTold_22 : decode cX9_asTold 22 = .ok (.getfield 7, 3) := by decide +kernel
theorem dX9_asTold_25 : decode cX9_asTold 25 = .ok (.iconst 1, 1) := by decide +kernel
theorem dX9_asTold_26 : decode cX9_asTold 26 = .ok (.iaload, 1) := by decide +kernel
theorem dX9_asTold_27 : decode cX9_asTold 27 = .ok (.putfield 76, 3) := by decide +kernel
theorem dX9_asTold_30 : decode cX9_asTold 30 = .ok (.aload_n 0, 1) := by decide +kernel
theorem dX9_asTold_31 : decode cX9_asTold 31 = .ok (.bipush (-6), 2) := by decide +kernel
theorem dX9_asTold_33 : decode cX9_asTold 33 = .ok (.putfield 79, 3) := by decide +kernel
theorem dX9_asTold_36 : decode cX9_asTold 36 = .ok (.return_, 1) := by decide +kernel
theorem dX9_lineNow_0 : decode cX9_lineNow 0 = .ok (.bipush 54, 2) := by decide +kernel
theorem dX9_lineNow_2 : decode cX9_lineNow 2 = .ok (.aload_n 0, 1) := by decide +kernel
theorem dX9_lineNow_3 : decode cX9_lineNow 3 = .ok (.getfield 7, 3) := by decide +kernel
theorem dX9_lineNow_6 : decode cX9_lineNow 6 = .ok (.iconst 3, 1) := by decide +kernel
theorem dX9_lineNow_7 : decode cX9_lineNow 7 = .ok (.iaload, 1) := by decide +kernel
theorem dX9_lineNow_8 : decode cX9_lineNow 8 = .ok (.imul, 1) := by decide +kernel
theorem dX9_lineNow_9 : decode cX9_lineNow 9 = .ok (.aload_n 0, 1) := by decide +kernel
theorem dX9_lineNow_10 : decode cX9_lineNow 10 = .ok (.getfield 7, 3) := by decide +kernel
theorem dX9_lineNow_13 : decode cX9_lineNow 13 = .ok (.iconst 2, 1) := by decide +kernel
theorem dX9_lineNow_14 : decode cX9_lineNow 14 = .ok (.iaload, 1) := by decide +kernel
theorem dX9_lineNow_15 : decode cX9_lineNow 15 = .ok (.aload_n 0, 1) := by decide +kernel
theorem dX9_lineNow_16 : decode cX9_lineNow 16 = .ok (.getfield 82, 3) := by decide +kernel
theorem dX9_lineNow_19 : decode cX9_lineNow 19 = .ok (.isub, 1) := by decide +kernel
theorem dX9_lineNow_20 : decode cX9_lineNow 20 = .ok (.aload_n 0, 1) := by decide +kernel
theorem dX9_lineNow_21 : decode cX9_lineNow 21 = .ok (.getfield 85, 3) := by decide +kernel
theorem dX9_lineNow_24 : decode cX9_lineNow 24 = .ok (.isub, 1) := by decide +kernel
theorem dX9_lineNow_25 : decode cX9_lineNow 25 = .ok (.idiv, 1) := by decide +kernel
theorem dX9_lineNow_26 : decode cX9_lineNow 26 = .ok (.ireturn, 1) := by decide +kernel
theorem dX9_stiffNow_0 : decode cX9_stiffNow 0 = .ok (.bipush 100, 2) := by decide +kernel
theorem dX9_stiffNow_2 : decode cX9_stiffNow 2 = .ok (.aload_n 0, 1) := by decide +kernel
theorem dX9_stiffNow_3 : decode cX9_stiffNow 3 = .ok (.getfield 82, 3) := by decide +kernel
theorem dX9_stiffNow_6 : decode cX9_stiffNow 6 = .ok (.imul, 1) := by decide +kernel
theorem dX9_stiffNow_7 : decode cX9_stiffNow 7 = .ok (.aload_n 0, 1) := by decide +kernel
theorem dX9_stiffNow_8 : decode cX9_stiffNow 8 = .ok (.getfield 7, 3) := by decide +kernel
theorem dX9_stiffNow_11 : decode cX9_stiffNow 11 = .ok (.iconst 2, 1) := by decide +kernel
theorem dX9_stiffNow_12 : decode cX9_stiffNow 12 = .ok (.iaload, 1) := by decide +kernel
theorem dX9_stiffNow_13 : decode cX9_stiffNow 13 = .ok (.idiv, 1) := by decide +kernel
theorem dX9_stiffNow_14 : decode cX9_stiffNow 14 = .ok (.aload_n 0, 1) := by decide +kernel
theorem dX9_stiffNow_15 : decode cX9_stiffNow 15 = .ok (.getfield 88, 3) := by decide +kernel
theorem dX9_stiffNow_18 : decode cX9_stiffNow 18 = .ok (.iconst 5, 1) := by decide +kernel
theorem dX9_stiffNow_19 : decode cX9_stiffNow 19 = .ok (.idiv, 1) := by decide +kernel
theorem dX9_stiffNow_20 : decode cX9_stiffNow 20 = .ok (.iadd, 1) := by decide +kernel
theorem dX9_stiffNow_21 : decode cX9_stiffNow 21 = .ok (.ireturn, 1) := by decide +kernel
theorem dX9_coldOf_0 : decode cX9_coldOf 0 = .ok (.sipush 900, 3) := by decide +kernel
theorem dX9_coldOf_3 : decode cX9_coldOf 3 = .ok (.aload_n 0, 1) := by decide +kernel
theorem dX9_coldOf_4 : decode cX9_coldOf 4 = .ok (.getfield 91, 3) := by decide +kernel
theorem dX9_coldOf_7 : decode cX9_coldOf 7 = .ok (.imul, 1) := by decide +kernel
theorem dX9_coldOf_8 : decode cX9_coldOf 8 = .ok (.aload_n 0, 1) := by decide +kernel
theorem dX9_coldOf_9 : decode cX9_coldOf 9 = .ok (.getfield 94, 3) := by decide +kernel
theorem dX9_coldOf_12 : decode cX9_coldOf 12 = .ok (.aload_n 0, 1) := by decide +kernel
theorem dX9_coldOf_13 : decode cX9_coldOf 13 = .ok (.getfield 97, 3) := by decide +kernel
theorem dX9_coldOf_16 : decode cX9_coldOf 16 = .ok (.iadd, 1) := by decide +kernel
theorem dX9_coldOf_17 : decode cX9_coldOf 17 = .ok (.aload_n 0, 1) := by decide +kernel
theorem dX9_coldOf_18 : decode cX9_coldOf 18 = .ok (.getfield 91, 3) := by decide +kernel
theorem dX9_coldOf_21 : decode cX9_coldOf 21 = .ok (.iadd, 1) := by decide +kernel
theorem dX9_coldOf_22 : decode cX9_coldOf 22 = .ok (.idiv, 1) := by decide +kernel
theorem dX9_coldOf_23 : decode cX9_coldOf 23 = .ok (.istore_n 1, 1) := by decide +kernel
theorem dX9_coldOf_24 : decode cX9_coldOf 24 = .ok (.iload_n 1, 1) := by decide +kernel
theorem dX9_coldOf_25 : decode cX9_coldOf 25 = .ok (.sipush 210, 3) := by decide +kernel
theorem dX9_coldOf_28 : decode cX9_coldOf 28 = .ok (.if_icmp .le 9, 3) := by decide +kernel
theorem dX9_coldOf_31 : decode cX9_coldOf 31 = .ok (.sipush 210, 3) := by decide +kernel
theorem dX9_coldOf_34 : decode cX9_coldOf 34 = .ok (.goto 4, 3) := by decide +kernel
theorem dX9_coldOf_37 : decode cX9_coldOf 37 = .ok (.iload_n 1, 1) := by decide +kernel
theorem dX9_coldOf_38 : decode cX9_coldOf 38 = .ok (.ireturn, 1) := by decide +kernel
theorem dX9_begin_0 : decode cX9_begin 0 = .ok (.aload_n 0, 1) := by decide +kernel
theorem dX9_begin_1 : decode cX9_begin 1 = .ok (.aload_n 0, 1) := by decide +kernel
theorem dX9_begin_2 : decode cX9_begin 2 = .ok (.getfield 7, 3) := by decide +kernel
theorem dX9_begin_5 : decode cX9_begin 5 = .ok (.iconst 0, 1) := by decide +kernel
theorem dX9_begin_6 : decode cX9_begin 6 = .ok (.iaload, 1) := by decide +kernel
theorem dX9_begin_7 : decode cX9_begin 7 = .ok (.putfield 94, 3) := by decide +kernel
theorem dX9_begin_10 : decode cX9_begin 10 = .ok (.aload_n 0, 1) := by decide +kernel
theorem dX9_begin_11 : decode cX9_begin 11 = .ok (.aload_n 0, 1) := by decide +kernel
theorem dX9_begin_12 : decode cX9_begin 12 = .ok (.getfield 76, 3) := by decide +kernel
theorem dX9_begin_15 : decode cX9_begin 15 = .ok (.putfield 91, 3) := by decide +kernel
theorem dX9_begin_18 : decode cX9_begin 18 = .ok (.aload_n 0, 1) := by decide +kernel
theorem dX9_begin_19 : decode cX9_begin 19 = .ok (.iconst 0, 1) := by decide +kernel
theorem dX9_begin_20 : decode cX9_begin 20 = .ok (.putfield 97, 3) := by decide +kernel
theorem dX9_begin_23 : decode cX9_begin 23 = .ok (.aload_n 0, 1) := by decide +kernel
theorem dX9_begin_24 : decode cX9_begin 24 = .ok (.aload_n 0, 1) := by decide +kernel
theorem dX9_begin_25 : decode cX9_begin 25 = .ok (.getfield 94, 3) := by decide +kernel
theorem dX9_begin_28 : decode cX9_begin 28 = .ok (.ifCond .le 10, 3) := by decide +kernel
theorem dX9_begin_31 : decode cX9_begin 31 = .ok (.aload_n 0, 1) := by decide +kernel
theorem dX9_begin_32 : decode cX9_begin 32 = .ok (.invokevirtual 100, 3) := by decide +kernel
theorem dX9_begin_35 : decode cX9_begin 35 = .ok (.goto 4, 3) := by decide +kernel
theorem dX9_begin_38 : decode cX9_begin 38 = .ok (.iconst 0, 1) := by decide +kernel
theorem dX9_begin_39 : decode cX9_begin 39 = .ok (.putfield 103, 3) := by decide +kernel
theorem dX9_begin_42 : decode cX9_begin 42 = .ok (.aload_n 0, 1) := by decide +kernel
theorem dX9_begin_43 : decode cX9_begin 43 = .ok (.aload_n 0, 1) := by decide +kernel
theorem dX9_begin_44 : decode cX9_begin 44 = .ok (.getfield 7, 3) := by decide +kernel
theorem dX9_begin_47 : decode cX9_begin 47 = .ok (.iconst 5, 1) := by decide +kernel
theorem dX9_begin_48 : decode cX9_begin 48 = .ok (.iaload, 1) := by decide +kernel
theorem dX9_begin_49 : decode cX9_begin 49 = .ok (.putfield 106, 3) := by decide +kernel
theorem dX9_begin_52 : decode cX9_begin 52 = .ok (.aload_n 0, 1) := by decide +kernel
theorem dX9_begin_53 : decode cX9_begin 53 = .ok (.iconst 0, 1) := by decide +kernel
theorem dX9_begin_54 : decode cX9_begin 54 = .ok (.putfield 82, 3) := by decide +kernel
theorem dX9_begin_57 : decode cX9_begin 57 = .ok (.aload_n 0, 1) := by decide +kernel
theorem dX9_begin_58 : decode cX9_begin 58 = .ok (.iconst 0, 1) := by decide +kernel
theorem dX9_begin_59 : decode cX9_begin 59 = .ok (.putfield 85, 3) := by decide +kernel
theorem dX9_begin_62 : decode cX9_begin 62 = .ok (.aload_n 0, 1) := by decide +kernel
theorem dX9_begin_63 : decode cX9_begin 63 = .ok (.iconst 0, 1) := by decide +kernel
theorem dX9_begin_64 : decode cX9_begin 64 = .ok (.putfield 88, 3) := by decide +kernel
theorem dX9_begin_67 : decode cX9_begin 67 = .ok (.aload_n 0, 1) := by decide +kernel
theorem dX9_begin_68 : decode cX9_begin 68 = .ok (.iconst 0, 1) := by decide +kernel
theorem dX9_begin_69 : decode cX9_begin 69 = .ok (.putfield 109, 3) := by decide +kernel
theorem dX9_begin_72 : decode cX9_begin 72 = .ok (.aload_n 0, 1) := by decide +kernel
theorem dX9_begin_73 : decode cX9_begin 73 = .ok (.iconst 0, 1) := by decide +kernel
theorem dX9_begin_74 : decode cX9_begin 74 = .ok (.putfield 112, 3) := by decide +kernel
theorem dX9_begin_77 : decode cX9_begin 77 = .ok (.aload_n 0, 1) := by decide +kernel
theorem dX9_begin_78 : decode cX9_begin 78 = .ok (.bipush (-6), 2) := by decide +kernel
theorem dX9_begin_80 : decode cX9_begin 80 = .ok (.putfield 115, 3) := by decide +kernel
theorem dX9_begin_83 : decode cX9_begin 83 = .ok (.aload_n 0, 1) := by decide +kernel
theorem dX9_begin_84 : decode cX9_begin 84 = .ok (.bipush (-6), 2) := by decide +kernel
theorem dX9_begin_86 : decode cX9_begin 86 = .ok (.putfield 118, 3) := by decide +kernel
theorem dX9_begin_89 : decode cX9_begin 89 = .ok (.iconst 0, 1) := by decide +kernel
theorem dX9_begin_90 : decode cX9_begin 90 = .ok (.istore_n 1, 1) := by decide +kernel
theorem dX9_begin_91 : decode cX9_begin 91 = .ok (.iload_n 1, 1) := by decide +kernel
theorem dX9_begin_92 : decode cX9_begin 92 = .ok (.bipush 64, 2) := by decide +kernel
theorem dX9_begin_94 : decode cX9_begin 94 = .ok (.if_icmp .ge 16, 3) := by decide +kernel
theorem dX9_begin_97 : decode cX9_begin 97 = .ok (.aload_n 0, 1) := by decide +kernel
theorem dX9_begin_98 : decode cX9_begin 98 = .ok (.getfield 28, 3) := by decide +kernel
theorem dX9_begin_101 : decode cX9_begin 101 = .ok (.iload_n 1, 1) := by decide +kernel
theorem dX9_begin_102 : decode cX9_begin 102 = .ok (.iconst 0, 1) := by decide +kernel
theorem dX9_begin_103 : decode cX9_begin 103 = .ok (.iastore, 1) := by decide +kernel
theorem dX9_begin_104 : decode cX9_begin 104 = .ok (.iinc 1 1, 3) := by decide +kernel
theorem dX9_begin_107 : decode cX9_begin 107 = .ok (.goto (-16), 3) := by decide +kernel
theorem dX9_begin_110 : decode cX9_begin 110 = .ok (.iconst 0, 1) := by decide +kernel
theorem dX9_begin_111 : decode cX9_begin 111 = .ok (.istore_n 1, 1) := by decide +kernel
theorem dX9_begin_112 : decode cX9_begin 112 = .ok (.iload_n 1, 1) := by decide +kernel
theorem dX9_begin_113 : decode cX9_begin 113 = .ok (.iconst 4, 1) := by decide +kernel
theorem dX9_begin_114 : decode cX9_begin 114 = .ok (.if_icmp .ge 16, 3) := by decide +kernel
theorem dX9_begin_117 : decode cX9_begin 117 = .ok (.aload_n 0, 1) := by decide +kernel
theorem dX9_begin_118 : decode cX9_begin 118 = .ok (.getfield 31, 3) := by decide +kernel
theorem dX9_begin_121 : decode cX9_begin 121 = .ok (.iload_n 1, 1) := by decide +kernel
theorem dX9_begin_122 : decode cX9_begin 122 = .ok (.iconst 0, 1) := by decide +kernel
theorem dX9_begin_123 : decode cX9_begin 123 = .ok (.iastore, 1) := by decide +kernel
theorem dX9_begin_124 : decode cX9_begin 124 = .ok (.iinc 1 1, 3) := by decide +kernel
theorem dX9_begin_127 : decode cX9_begin 127 = .ok (.goto (-15), 3) := by decide +kernel
theorem dX9_begin_130 : decode cX9_begin 130 = .ok (.return_, 1) := by decide +kernel
theorem dX9_freeze_0 : decode cX9_freeze 0 = .ok (.bipush 120, 2) := by decide +kernel
theorem dX9_freeze_2 : decode cX9_freeze 2 = .ok (.aload_n 0, 1) := by decide +kernel
theorem dX9_freeze_3 : decode cX9_freeze 3 = .ok (.getfield 106, 3) := by decide +kernel
theorem dX9_freeze_6 : decode cX9_freeze 6 = .ok (.aload_n 0, 1) := by decide +kernel
theorem dX9_freeze_7 : decode cX9_freeze 7 = .ok (.getfield 103, 3) := by decide +kernel
theorem dX9_freeze_10 : decode cX9_freeze 10 = .ok (.iadd, 1) := by decide +kernel
theorem dX9_freeze_11 : decode cX9_freeze 11 = .ok (.imul, 1) := by decide +kernel
theorem dX9_freeze_12 : decode cX9_freeze 12 = .ok (.bipush 10, 2) := by decide +kernel
theorem dX9_freeze_14 : decode cX9_freeze 14 = .ok (.aload_n 0, 1) := by decide +kernel
theorem dX9_freeze_15 : decode cX9_freeze 15 = .ok (.getfield 85, 3) := by decide +kernel
theorem dX9_freeze_18 : decode cX9_freeze 18 = .ok (.iadd, 1) := by decide +kernel
theorem dX9_freeze_19 : decode cX9_freeze 19 = .ok (.idiv, 1) := by decide +kernel
theorem dX9_freeze_20 : decode cX9_freeze 20 = .ok (.istore_n 1, 1) := by decide +kernel
theorem dX9_freeze_21 : decode cX9_freeze 21 = .ok (.iload_n 1, 1) := by decide +kernel
theorem dX9_freeze_22 : decode cX9_freeze 22 = .ok (.ifCond .ge 7, 3) := by decide +kernel
theorem dX9_freeze_25 : decode cX9_freeze 25 = .ok (.iconst 0, 1) := by decide +kernel
theorem dX9_freeze_26 : decode cX9_freeze 26 = .ok (.goto 4, 3) := by decide +kernel
theorem dX9_freeze_29 : decode cX9_freeze 29 = .ok (.iload_n 1, 1) := by decide +kernel
theorem dX9_freeze_30 : decode cX9_freeze 30 = .ok (.istore_n 1, 1) := by decide +kernel
theorem dX9_freeze_31 : decode cX9_freeze 31 = .ok (.iload_n 1, 1) := by decide +kernel
theorem dX9_freeze_32 : decode cX9_freeze 32 = .ok (.bipush 80, 2) := by decide +kernel
theorem dX9_freeze_34 : decode cX9_freeze 34 = .ok (.idiv, 1) := by decide +kernel
theorem dX9_freeze_35 : decode cX9_freeze 35 = .ok (.iconst 3, 1) := by decide +kernel
theorem dX9_freeze_36 : decode cX9_freeze 36 = .ok (.iadd, 1) := by decide +kernel
theorem dX9_freeze_37 : decode cX9_freeze 37 = .ok (.istore_n 2, 1) := by decide +kernel
theorem dX9_freeze_38 : decode cX9_freeze 38 = .ok (.iload_n 2, 1) := by decide +kernel
theorem dX9_freeze_39 : decode cX9_freeze 39 = .ok (.aload_n 0, 1) := by decide +kernel
theorem dX9_freeze_40 : decode cX9_freeze 40 = .ok (.getfield 94, 3) := by decide +kernel
theorem dX9_freeze_43 : decode cX9_freeze 43 = .ok (.if_icmp .le 10, 3) := by decide +kernel
theorem dX9_freeze_46 : decode cX9_freeze 46 = .ok (.aload_n 0, 1) := by decide +kernel
theorem dX9_freeze_47 : decode cX9_freeze 47 = .ok (.getfield 94, 3) := by decide +kernel
theorem dX9_freeze_50 : decode cX9_freeze 50 = .ok (.goto 4, 3) := by decide +kernel
theorem dX9_freeze_53 : decode cX9_freeze 53 = .ok (.iload_n 2, 1) := by decide +kernel
theorem dX9_freeze_54 : decode cX9_freeze 54 = .ok (.istore_n 2, 1) := by decide +kernel
theorem dX9_freeze_55 : decode cX9_freeze 55 = .ok (.aload_n 0, 1) := by decide +kernel
theorem dX9_freeze_56 : decode cX9_freeze 56 = .ok (.dup, 1) := by decide +kernel
theorem dX9_freeze_57 : decode cX9_freeze 57 = .ok (.getfield 94, 3) := by decide +kernel
theorem dX9_freeze_60 : decode cX9_freeze 60 = .ok (.iload_n 2, 1) := by decide +kernel
theorem dX9_freeze_61 : decode cX9_freeze 61 = .ok (.isub, 1) := by decide +kernel
theorem dX9_freeze_62 : decode cX9_freeze 62 = .ok (.putfield 94, 3) := by decide +kernel
theorem dX9_freeze_65 : decode cX9_freeze 65 = .ok (.aload_n 0, 1) := by decide +kernel
theorem dX9_freeze_66 : decode cX9_freeze 66 = .ok (.dup, 1) := by decide +kernel
theorem dX9_freeze_67 : decode cX9_freeze 67 = .ok (.getfield 97, 3) := by decide +kernel
theorem dX9_freeze_70 : decode cX9_freeze 70 = .ok (.iload_n 2, 1) := by decide +kernel
theorem dX9_freeze_71 : decode cX9_freeze 71 = .ok (.iadd, 1) := by decide +kernel
theorem dX9_freeze_72 : decode cX9_freeze 72 = .ok (.putfield 97, 3) := by decide +kernel
theorem dX9_freeze_75 : decode cX9_freeze 75 = .ok (.aload_n 0, 1) := by decide +kernel
theorem dX9_freeze_76 : decode cX9_freeze 76 = .ok (.getfield 106, 3) := by decide +kernel
theorem dX9_freeze_79 : decode cX9_freeze 79 = .ok (.aload_n 0, 1) := by decide +kernel
theorem dX9_freeze_80 : decode cX9_freeze 80 = .ok (.invokevirtual 121, 3) := by decide +kernel
theorem dX9_freeze_83 : decode cX9_freeze 83 = .ok (.ineg, 1) := by decide +kernel
theorem dX9_freeze_84 : decode cX9_freeze 84 = .ok (.if_icmp .le 59, 3) := by decide +kernel
theorem dX9_freeze_87 : decode cX9_freeze 87 = .ok (.aload_n 0, 1) := by decide +kernel
theorem dX9_freeze_88 : decode cX9_freeze 88 = .ok (.getfield 106, 3) := by decide +kernel
theorem dX9_freeze_91 : decode cX9_freeze 91 = .ok (.bipush 10, 2) := by decide +kernel
theorem dX9_freeze_93 : decode cX9_freeze 93 = .ok (.iload_n 1, 1) := by decide +kernel
theorem dX9_freeze_94 : decode cX9_freeze 94 = .ok (.imul, 1) := by decide +kernel
theorem dX9_freeze_95 : decode cX9_freeze 95 = .ok (.aload_n 0, 1) := by decide +kernel
theorem dX9_freeze_96 : decode cX9_freeze 96 = .ok (.getfield 7, 3) := by decide +kernel
theorem dX9_freeze_99 : decode cX9_freeze 99 = .ok (.iconst 2, 1) := by decide +kernel
theorem dX9_freeze_100 : decode cX9_freeze 100 = .ok (.iaload, 1) := by decide +kernel
theorem dX9_freeze_101 : decode cX9_freeze 101 = .ok (.aload_n 0, 1) := by decide +kernel
theorem dX9_freeze_102 : decode cX9_freeze 102 = .ok (.getfield 7, 3) := by decide +kernel
theorem dX9_freeze_105 : decode cX9_freeze 105 = .ok (.iconst 3, 1) := by decide +kernel
theorem dX9_freeze_106 : decode cX9_freeze 106 = .ok (.iaload, 1) := by decide +kernel
theorem dX9_freeze_107 : decode cX9_freeze 107 = .ok (.iadd, 1) := by decide +kernel
theorem dX9_freeze_108 : decode cX9_freeze 108 = .ok (.aload_n 0, 1) := by decide +kernel
theorem dX9_freeze_109 : decode cX9_freeze 109 = .ok (.getfield 7, 3) := by decide +kernel
theorem dX9_freeze_112 : decode cX9_freeze 112 = .ok (.iconst 4, 1) := by decide +kernel
theorem dX9_freeze_113 : decode cX9_freeze 113 = .ok (.iaload, 1) := by decide +kernel
theorem dX9_freeze_114 : decode cX9_freeze 114 = .ok (.iadd, 1) := by decide +kernel
theorem dX9_freeze_115 : decode cX9_freeze 115 = .ok (.idiv, 1) := by decide +kernel
theorem dX9_freeze_116 : decode cX9_freeze 116 = .ok (.isub, 1) := by decide +kernel
theorem dX9_freeze_117 : decode cX9_freeze 117 = .ok (.istore_n 3, 1) := by decide +kernel
theorem dX9_freeze_118 : decode cX9_freeze 118 = .ok (.aload_n 0, 1) := by decide +kernel
theorem dX9_freeze_119 : decode cX9_freeze 119 = .ok (.iload_n 3, 1) := by decide +kernel
theorem dX9_freeze_120 : decode cX9_freeze 120 = .ok (.aload_n 0, 1) := by decide +kernel
theorem dX9_freeze_121 : decode cX9_freeze 121 = .ok (.invokevirtual 121, 3) := by decide +kernel
theorem dX9_freeze_124 : decode cX9_freeze 124 = .ok (.ineg, 1) := by decide +kernel
theorem dX9_freeze_125 : decode cX9_freeze 125 = .ok (.if_icmp .ge 11, 3) := by decide +kernel
theorem dX9_freeze_128 : decode cX9_freeze 128 = .ok (.aload_n 0, 1) := by decide +kernel
theorem dX9_freeze_129 : decode cX9_freeze 129 = .ok (.invokevirtual 121, 3) := by decide +kernel
theorem dX9_freeze_132 : decode cX9_freeze 132 = .ok (.ineg, 1) := by decide +kernel
theorem dX9_freeze_133 : decode cX9_freeze 133 = .ok (.goto 4, 3) := by decide +kernel
theorem dX9_freeze_136 : decode cX9_freeze 136 = .ok (.iload_n 3, 1) := by decide +kernel
theorem dX9_freeze_137 : decode cX9_freeze 137 = .ok (.putfield 106, 3) := by decide +kernel
theorem dX9_freeze_140 : decode cX9_freeze 140 = .ok (.goto 56, 3) := by decide +kernel
theorem dX9_freeze_143 : decode cX9_freeze 143 = .ok (.aload_n 0, 1) := by decide +kernel
theorem dX9_freeze_144 : decode cX9_freeze 144 = .ok (.getfield 7, 3) := by decide +kernel
theorem dX9_freeze_147 : decode cX9_freeze 147 = .ok (.iconst 2, 1) := by decide +kernel
theorem dX9_freeze_148 : decode cX9_freeze 148 = .ok (.iaload, 1) := by decide +kernel
theorem dX9_freeze_149 : decode cX9_freeze 149 = .ok (.aload_n 0, 1) := by decide +kernel
theorem dX9_freeze_150 : decode cX9_freeze 150 = .ok (.getfield 82, 3) := by decide +kernel
theorem dX9_freeze_153 : decode cX9_freeze 153 = .ok (.isub, 1) := by decide +kernel
theorem dX9_freeze_154 : decode cX9_freeze 154 = .ok (.aload_n 0, 1) := by decide +kernel
theorem dX9_freeze_155 : decode cX9_freeze 155 = .ok (.getfield 85, 3) := by decide +kernel
theorem dX9_freeze_158 : decode cX9_freeze 158 = .ok (.isub, 1) := by decide +kernel
theorem dX9_freeze_159 : decode cX9_freeze 159 = .ok (.iconst 1, 1) := by decide +kernel
theorem dX9_freeze_160 : decode cX9_freeze 160 = .ok (.isub, 1) := by decide +kernel
theorem dX9_freeze_161 : decode cX9_freeze 161 = .ok (.istore_n 3, 1) := by decide +kernel
theorem dX9_freeze_162 : decode cX9_freeze 162 = .ok (.aload_n 0, 1) := by decide +kernel
theorem dX9_freeze_163 : decode cX9_freeze 163 = .ok (.dup, 1) := by decide +kernel
theorem dX9_freeze_164 : decode cX9_freeze 164 = .ok (.getfield 85, 3) := by decide +kernel
theorem dX9_freeze_167 : decode cX9_freeze 167 = .ok (.iload_n 1, 1) := by decide +kernel
theorem dX9_freeze_168 : decode cX9_freeze 168 = .ok (.bipush 80, 2) := by decide +kernel
theorem dX9_freeze_170 : decode cX9_freeze 170 = .ok (.idiv, 1) := by decide +kernel
theorem dX9_freeze_171 : decode cX9_freeze 171 = .ok (.iload_n 3, 1) := by decide +kernel
theorem dX9_freeze_172 : decode cX9_freeze 172 = .ok (.if_icmp .le 7, 3) := by decide +kernel
theorem dX9_freeze_175 : decode cX9_freeze 175 = .ok (.iload_n 3, 1) := by decide +kernel
theorem dX9_freeze_176 : decode cX9_freeze 176 = .ok (.goto 7, 3) := by decide +kernel
theorem dX9_freeze_179 : decode cX9_freeze 179 = .ok (.iload_n 1, 1) := by decide +kernel
theorem dX9_freeze_180 : decode cX9_freeze 180 = .ok (.bipush 80, 2) := by decide +kernel
theorem dX9_freeze_182 : decode cX9_freeze 182 = .ok (.idiv, 1) := by decide +kernel
theorem dX9_freeze_183 : decode cX9_freeze 183 = .ok (.iadd, 1) := by decide +kernel
theorem dX9_freeze_184 : decode cX9_freeze 184 = .ok (.putfield 85, 3) := by decide +kernel
theorem dX9_freeze_187 : decode cX9_freeze 187 = .ok (.aload_n 0, 1) := by decide +kernel
theorem dX9_freeze_188 : decode cX9_freeze 188 = .ok (.aload_n 0, 1) := by decide +kernel
theorem dX9_freeze_189 : decode cX9_freeze 189 = .ok (.invokevirtual 121, 3) := by decide +kernel
theorem dX9_freeze_192 : decode cX9_freeze 192 = .ok (.ineg, 1) := by decide +kernel
theorem dX9_freeze_193 : decode cX9_freeze 193 = .ok (.putfield 106, 3) := by decide +kernel
theorem dX9_freeze_196 : decode cX9_freeze 196 = .ok (.return_, 1) := by decide +kernel
theorem dX9_scrape_0 : decode cX9_scrape 0 = .ok (.iconst 4, 1) := by decide +kernel
theorem dX9_scrape_1 : decode cX9_scrape 1 = .ok (.iload_n 1, 1) := by decide +kernel
theorem dX9_scrape_2 : decode cX9_scrape 2 = .ok (.imul, 1) := by decide +kernel
theorem dX9_scrape_3 : decode cX9_scrape 3 = .ok (.aload_n 0, 1) := by decide +kernel
theorem dX9_scrape_4 : decode cX9_scrape 4 = .ok (.getfield 85, 3) := by decide +kernel
theorem dX9_scrape_7 : decode cX9_scrape 7 = .ok (.if_icmp .le 10, 3) := by decide +kernel
theorem dX9_scrape_10 : decode cX9_scrape 10 = .ok (.aload_n 0, 1) := by decide +kernel
theorem dX9_scrape_11 : decode cX9_scrape 11 = .ok (.getfield 85, 3) := by decide +kernel
theorem dX9_scrape_14 : decode cX9_scrape 14 = .ok (.goto 6, 3) := by decide +kernel
theorem dX9_scrape_17 : decode cX9_scrape 17 = .ok (.iconst 4, 1) := by decide +kernel
theorem dX9_scrape_18 : decode cX9_scrape 18 = .ok (.iload_n 1, 1) := by decide +kernel
theorem dX9_scrape_19 : decode cX9_scrape 19 = .ok (.imul, 1) := by decide +kernel
theorem dX9_scrape_20 : decode cX9_scrape 20 = .ok (.istore_n 3, 1) := by decide +kernel
theorem dX9_scrape_21 : decode cX9_scrape 21 = .ok (.bipush 10, 2) := by decide +kernel
theorem dX9_scrape_23 : decode cX9_scrape 23 = .ok (.aload_n 0, 1) := by decide +kernel
theorem dX9_scrape_24 : decode cX9_scrape 24 = .ok (.getfield 85, 3) := by decide +kernel
theorem dX9_scrape_27 : decode cX9_scrape 27 = .ok (.iadd, 1) := by decide +kernel
theorem dX9_scrape_28 : decode cX9_scrape 28 = .ok (.bipush 60, 2) := by decide +kernel
theorem dX9_scrape_30 : decode cX9_scrape 30 = .ok (.if_icmp .le 8, 3) := by decide +kernel
theorem dX9_scrape_33 : decode cX9_scrape 33 = .ok (.bipush 60, 2) := by decide +kernel
theorem dX9_scrape_35 : decode cX9_scrape 35 = .ok (.goto 10, 3) := by decide +kernel
theorem dX9_scrape_38 : decode cX9_scrape 38 = .ok (.bipush 10, 2) := by decide +kernel
theorem dX9_scrape_40 : decode cX9_scrape 40 = .ok (.aload_n 0, 1) := by decide +kernel
theorem dX9_scrape_41 : decode cX9_scrape 41 = .ok (.getfield 85, 3) := by decide +kernel
theorem dX9_scrape_44 : decode cX9_scrape 44 = .ok (.iadd, 1) := by decide +kernel
theorem dX9_scrape_45 : decode cX9_scrape 45 = .ok (.istore 4, 2) := by decide +kernel
theorem dX9_scrape_47 : decode cX9_scrape 47 = .ok (.aload_n 0, 1) := by decide +kernel
theorem dX9_scrape_48 : decode cX9_scrape 48 = .ok (.getfield 28, 3) := by decide +kernel
theorem dX9_scrape_51 : decode cX9_scrape 51 = .ok (.iload 4, 2) := by decide +kernel
theorem dX9_scrape_53 : decode cX9_scrape 53 = .ok (.dup2, 1) := by decide +kernel
theorem dX9_scrape_54 : decode cX9_scrape 54 = .ok (.iaload, 1) := by decide +kernel
theorem dX9_scrape_55 : decode cX9_scrape 55 = .ok (.iload_n 3, 1) := by decide +kernel
theorem dX9_scrape_56 : decode cX9_scrape 56 = .ok (.iadd, 1) := by decide +kernel
theorem dX9_scrape_57 : decode cX9_scrape 57 = .ok (.iastore, 1) := by decide +kernel
theorem dX9_scrape_58 : decode cX9_scrape 58 = .ok (.aload_n 0, 1) := by decide +kernel
theorem dX9_scrape_59 : decode cX9_scrape 59 = .ok (.dup, 1) := by decide +kernel
theorem dX9_scrape_60 : decode cX9_scrape 60 = .ok (.getfield 85, 3) := by decide +kernel
theorem dX9_scrape_63 : decode cX9_scrape 63 = .ok (.iload_n 3, 1) := by decide +kernel
theorem dX9_scrape_64 : decode cX9_scrape 64 = .ok (.isub, 1) := by decide +kernel
theorem dX9_scrape_65 : decode cX9_scrape 65 = .ok (.putfield 85, 3) := by decide +kernel
theorem dX9_scrape_68 : decode cX9_scrape 68 = .ok (.aload_n 0, 1) := by decide +kernel
theorem dX9_scrape_69 : decode cX9_scrape 69 = .ok (.dup, 1) := by decide +kernel
theorem dX9_scrape_70 : decode cX9_scrape 70 = .ok (.getfield 82, 3) := by decide +kernel
theorem dX9_scrape_73 : decode cX9_scrape 73 = .ok (.iload_n 3, 1) := by decide +kernel
theorem dX9_scrape_74 : decode cX9_scrape 74 = .ok (.iadd, 1) := by decide +kernel
theorem dX9_scrape_75 : decode cX9_scrape 75 = .ok (.putfield 82, 3) := by decide +kernel
theorem dX9_scrape_78 : decode cX9_scrape 78 = .ok (.aload_n 0, 1) := by decide +kernel
theorem dX9_scrape_79 : decode cX9_scrape 79 = .ok (.getfield 7, 3) := by decide +kernel
theorem dX9_scrape_82 : decode cX9_scrape 82 = .ok (.iconst 4, 1) := by decide +kernel
theorem dX9_scrape_83 : decode cX9_scrape 83 = .ok (.iaload, 1) := by decide +kernel
theorem dX9_scrape_84 : decode cX9_scrape 84 = .ok (.bipush 50, 2) := by decide +kernel
theorem dX9_scrape_86 : decode cX9_scrape 86 = .ok (.if_icmp .lt 48, 3) := by decide +kernel
theorem dX9_scrape_89 : decode cX9_scrape 89 = .ok (.iload_n 2, 1) := by decide +kernel
theorem dX9_scrape_90 : decode cX9_scrape 90 = .ok (.bipush 10, 2) := by decide +kernel
theorem dX9_scrape_92 : decode cX9_scrape 92 = .ok (.if_icmp .lt 42, 3) := by decide +kernel
theorem dX9_scrape_95 : decode cX9_scrape 95 = .ok (.aload_n 0, 1) := by decide +kernel
theorem dX9_scrape_96 : decode cX9_scrape 96 = .ok (.getfield 109, 3) := by decide +kernel
theorem dX9_scrape_99 : decode cX9_scrape 99 = .ok (.bipush 8, 2) := by decide +kernel
theorem dX9_scrape_101 : decode cX9_scrape 101 = .ok (.if_icmp .ge 33, 3) := by decide +kernel
theorem dX9_scrape_104 : decode cX9_scrape 104 = .ok (.aload_n 0, 1) := by decide +kernel
theorem dX9_scrape_105 : decode cX9_scrape 105 = .ok (.aload_n 0, 1) := by decide +kernel
theorem dX9_scrape_106 : decode cX9_scrape 106 = .ok (.getfield 88, 3) := by decide +kernel
theorem dX9_scrape_109 : decode cX9_scrape 109 = .ok (.iload_n 1, 1) := by decide +kernel
theorem dX9_scrape_110 : decode cX9_scrape 110 = .ok (.iconst 3, 1) := by decide +kernel
theorem dX9_scrape_111 : decode cX9_scrape 111 = .ok (.idiv, 1) := by decide +kernel
theorem dX9_scrape_112 : decode cX9_scrape 112 = .ok (.iadd, 1) := by decide +kernel
theorem dX9_scrape_113 : decode cX9_scrape 113 = .ok (.bipush 100, 2) := by decide +kernel
theorem dX9_scrape_115 : decode cX9_scrape 115 = .ok (.if_icmp .le 8, 3) := by decide +kernel
theorem dX9_scrape_118 : decode cX9_scrape 118 = .ok (.bipush 100, 2) := by decide +kernel
theorem dX9_scrape_120 : decode cX9_scrape 120 = .ok (.goto 11, 3) := by decide +kernel
theorem dX9_scrape_123 : decode cX9_scrape 123 = .ok (.aload_n 0, 1) := by decide +kernel
theorem dX9_scrape_124 : decode cX9_scrape 124 = .ok (.getfield 88, 3) := by decide +kernel
theorem dX9_scrape_127 : decode cX9_scrape 127 = .ok (.iload_n 1, 1) := by decide +kernel
theorem dX9_scrape_128 : decode cX9_scrape 128 = .ok (.iconst 3, 1) := by decide +kernel
theorem dX9_scrape_129 : decode cX9_scrape 129 = .ok (.idiv, 1) := by decide +kernel
theorem dX9_scrape_130 : decode cX9_scrape 130 = .ok (.iadd, 1) := by decide +kernel
theorem dX9_scrape_131 : decode cX9_scrape 131 = .ok (.putfield 88, 3) := by decide +kernel
theorem dX9_scrape_134 : decode cX9_scrape 134 = .ok (.aload_n 0, 1) := by decide +kernel
theorem dX9_scrape_135 : decode cX9_scrape 135 = .ok (.dup, 1) := by decide +kernel
theorem dX9_scrape_136 : decode cX9_scrape 136 = .ok (.getfield 109, 3) := by decide +kernel
theorem dX9_scrape_139 : decode cX9_scrape 139 = .ok (.iload_n 1, 1) := by decide +kernel
theorem dX9_scrape_140 : decode cX9_scrape 140 = .ok (.bipush 6, 2) := by decide +kernel
theorem dX9_scrape_142 : decode cX9_scrape 142 = .ok (.if_icmp .lt 13, 3) := by decide +kernel
theorem dX9_scrape_145 : decode cX9_scrape 145 = .ok (.iload_n 2, 1) := by decide +kernel
theorem dX9_scrape_146 : decode cX9_scrape 146 = .ok (.bipush 50, 2) := by decide +kernel
theorem dX9_scrape_148 : decode cX9_scrape 148 = .ok (.if_icmp .lt 7, 3) := by decide +kernel
theorem dX9_scrape_151 : decode cX9_scrape 151 = .ok (.iconst 1, 1) := by decide +kernel
theorem dX9_scrape_152 : decode cX9_scrape 152 = .ok (.goto 4, 3) := by decide +kernel
theorem dX9_scrape_155 : decode cX9_scrape 155 = .ok (.iconst 0, 1) := by decide +kernel
theorem dX9_scrape_156 : decode cX9_scrape 156 = .ok (.iadd, 1) := by decide +kernel
theorem dX9_scrape_157 : decode cX9_scrape 157 = .ok (.putfield 109, 3) := by decide +kernel
theorem dX9_scrape_160 : decode cX9_scrape 160 = .ok (.return_, 1) := by decide +kernel
theorem dX9_minute_0 : decode cX9_minute 0 = .ok (.aload_n 0, 1) := by decide +kernel
theorem dX9_minute_1 : decode cX9_minute 1 = .ok (.invokevirtual 124, 3) := by decide +kernel
theorem dX9_minute_4 : decode cX9_minute 4 = .ok (.istore 4, 2) := by decide +kernel
theorem dX9_minute_6 : decode cX9_minute 6 = .ok (.iload_n 1, 1) := by decide +kernel
theorem dX9_minute_7 : decode cX9_minute 7 = .ok (.iconst 4, 1) := by decide +kernel
theorem dX9_minute_8 : decode cX9_minute 8 = .ok (.if_icmp .ge 33, 3) := by decide +kernel
theorem dX9_minute_11 : decode cX9_minute 11 = .ok (.iload_n 2, 1) := by decide +kernel
theorem dX9_minute_12 : decode cX9_minute 12 = .ok (.ifCond .le 29, 3) := by decide +kernel
theorem dX9_minute_15 : decode cX9_minute 15 = .ok (.iload 4, 2) := by decide +kernel
theorem dX9_minute_17 : decode cX9_minute 17 = .ok (.iconst 4, 1) := by decide +kernel
theorem dX9_minute_18 : decode cX9_minute 18 = .ok (.iload_n 2, 1) := by decide +kernel
theorem dX9_minute_19 : decode cX9_minute 19 = .ok (.imul, 1) := by decide +kernel
theorem dX9_minute_20 : decode cX9_minute 20 = .ok (.iadd, 1) := by decide +kernel
theorem dX9_minute_21 : decode cX9_minute 21 = .ok (.aload_n 0, 1) := by decide +kernel
theorem dX9_minute_22 : decode cX9_minute 22 = .ok (.getfield 13, 3) := by decide +kernel
theorem dX9_minute_25 : decode cX9_minute 25 = .ok (.iload_n 1, 1) := by decide +kernel
theorem dX9_minute_26 : decode cX9_minute 26 = .ok (.iaload, 1) := by decide +kernel
theorem dX9_minute_27 : decode cX9_minute 27 = .ok (.aload_n 0, 1) := by decide +kernel
theorem dX9_minute_28 : decode cX9_minute 28 = .ok (.getfield 31, 3) := by decide +kernel
theorem dX9_minute_31 : decode cX9_minute 31 = .ok (.iload_n 1, 1) := by decide +kernel
theorem dX9_minute_32 : decode cX9_minute 32 = .ok (.iaload, 1) := by decide +kernel
theorem dX9_minute_33 : decode cX9_minute 33 = .ok (.isub, 1) := by decide +kernel
theorem dX9_minute_34 : decode cX9_minute 34 = .ok (.if_icmp .gt 7, 3) := by decide +kernel
theorem dX9_minute_37 : decode cX9_minute 37 = .ok (.iconst 1, 1) := by decide +kernel
theorem dX9_minute_38 : decode cX9_minute 38 = .ok (.goto 4, 3) := by decide +kernel
theorem dX9_minute_41 : decode cX9_minute 41 = .ok (.iconst 0, 1) := by decide +kernel
theorem dX9_minute_42 : decode cX9_minute 42 = .ok (.istore 5, 2) := by decide +kernel
theorem dX9_minute_44 : decode cX9_minute 44 = .ok (.iload 5, 2) := by decide +kernel
theorem dX9_minute_46 : decode cX9_minute 46 = .ok (.ifCond .eq 7, 3) := by decide +kernel
theorem dX9_minute_49 : decode cX9_minute 49 = .ok (.iload_n 2, 1) := by decide +kernel
theorem dX9_minute_50 : decode cX9_minute 50 = .ok (.goto 4, 3) := by decide +kernel
theorem dX9_minute_53 : decode cX9_minute 53 = .ok (.iconst 0, 1) := by decide +kernel
theorem dX9_minute_54 : decode cX9_minute 54 = .ok (.istore 6, 2) := by decide +kernel
theorem dX9_minute_56 : decode cX9_minute 56 = .ok (.iload_n 1, 1) := by decide +kernel
theorem dX9_minute_57 : decode cX9_minute 57 = .ok (.iconst 4, 1) := by decide +kernel
theorem dX9_minute_58 : decode cX9_minute 58 = .ok (.if_icmp .ge 41, 3) := by decide +kernel
theorem dX9_minute_61 : decode cX9_minute 61 = .ok (.iload_n 2, 1) := by decide +kernel
theorem dX9_minute_62 : decode cX9_minute 62 = .ok (.ifCond .le 37, 3) := by decide +kernel
theorem dX9_minute_65 : decode cX9_minute 65 = .ok (.iload 5, 2) := by decide +kernel
theorem dX9_minute_67 : decode cX9_minute 67 = .ok (.ifCond .ne 32, 3) := by decide +kernel
theorem dX9_minute_70 : decode cX9_minute 70 = .ok (.aload_n 0, 1) := by decide +kernel
theorem dX9_minute_71 : decode cX9_minute 71 = .ok (.dup, 1) := by decide +kernel
theorem dX9_minute_72 : decode cX9_minute 72 = .ok (.getfield 112, 3) := by decide +kernel
theorem dX9_minute_75 : decode cX9_minute 75 = .ok (.iconst 1, 1) := by decide +kernel
theorem dX9_minute_76 : decode cX9_minute 76 = .ok (.iadd, 1) := by decide +kernel
theorem dX9_minute_77 : decode cX9_minute 77 = .ok (.putfield 112, 3) := by decide +kernel
theorem dX9_minute_80 : decode cX9_minute 80 = .ok (.aload_n 0, 1) := by decide +kernel
theorem dX9_minute_81 : decode cX9_minute 81 = .ok (.aload_n 0, 1) := by decide +kernel
theorem dX9_minute_82 : decode cX9_minute 82 = .ok (.getfield 115, 3) := by decide +kernel
theorem dX9_minute_85 : decode cX9_minute 85 = .ok (.ifCond .ge 7, 3) := by decide +kernel
theorem dX9_minute_88 : decode cX9_minute 88 = .ok (.iload_n 3, 1) := by decide +kernel
theorem dX9_minute_89 : decode cX9_minute 89 = .ok (.goto 7, 3) := by decide +kernel
theorem dX9_minute_92 : decode cX9_minute 92 = .ok (.aload_n 0, 1) := by decide +kernel
theorem dX9_minute_93 : decode cX9_minute 93 = .ok (.getfield 115, 3) := by decide +kernel
theorem dX9_minute_96 : decode cX9_minute 96 = .ok (.putfield 115, 3) := by decide +kernel
theorem dX9_minute_99 : decode cX9_minute 99 = .ok (.aload_n 0, 1) := by decide +kernel
theorem dX9_minute_100 : decode cX9_minute 100 = .ok (.aload_n 0, 1) := by decide +kernel
theorem dX9_minute_101 : decode cX9_minute 101 = .ok (.getfield 94, 3) := by decide +kernel
theorem dX9_minute_104 : decode cX9_minute 104 = .ok (.ifCond .le 10, 3) := by decide +kernel
theorem dX9_minute_107 : decode cX9_minute 107 = .ok (.aload_n 0, 1) := by decide +kernel
theorem dX9_minute_108 : decode cX9_minute 108 = .ok (.invokevirtual 100, 3) := by decide +kernel
theorem dX9_minute_111 : decode cX9_minute 111 = .ok (.goto 21, 3) := by decide +kernel
theorem dX9_minute_114 : decode cX9_minute 114 = .ok (.aload_n 0, 1) := by decide +kernel
theorem dX9_minute_115 : decode cX9_minute 115 = .ok (.getfield 103, 3) := by decide +kernel
theorem dX9_minute_118 : decode cX9_minute 118 = .ok (.iconst 5, 1) := by decide +kernel
theorem dX9_minute_119 : decode cX9_minute 119 = .ok (.if_icmp .ge 7, 3) := by decide +kernel
theorem dX9_minute_122 : decode cX9_minute 122 = .ok (.iconst 0, 1) := by decide +kernel
theorem dX9_minute_123 : decode cX9_minute 123 = .ok (.goto 9, 3) := by decide +kernel
theorem dX9_minute_126 : decode cX9_minute 126 = .ok (.aload_n 0, 1) := by decide +kernel
theorem dX9_minute_127 : decode cX9_minute 127 = .ok (.getfield 103, 3) := by decide +kernel
theorem dX9_minute_130 : decode cX9_minute 130 = .ok (.iconst 5, 1) := by decide +kernel
theorem dX9_minute_131 : decode cX9_minute 131 = .ok (.isub, 1) := by decide +kernel
theorem dX9_minute_132 : decode cX9_minute 132 = .ok (.putfield 103, 3) := by decide +kernel
theorem dX9_minute_135 : decode cX9_minute 135 = .ok (.aload_n 0, 1) := by decide +kernel
theorem dX9_minute_136 : decode cX9_minute 136 = .ok (.invokevirtual 127, 3) := by decide +kernel
theorem dX9_minute_139 : decode cX9_minute 139 = .ok (.aload_n 0, 1) := by decide +kernel
theorem dX9_minute_140 : decode cX9_minute 140 = .ok (.iload 6, 2) := by decide +kernel
theorem dX9_minute_142 : decode cX9_minute 142 = .ok (.iload 4, 2) := by decide +kernel
theorem dX9_minute_144 : decode cX9_minute 144 = .ok (.invokevirtual 130, 3) := by decide +kernel
theorem dX9_minute_147 : decode cX9_minute 147 = .ok (.iconst 0, 1) := by decide +kernel
theorem dX9_minute_148 : decode cX9_minute 148 = .ok (.istore 7, 2) := by decide +kernel
theorem dX9_minute_150 : decode cX9_minute 150 = .ok (.iload 7, 2) := by decide +kernel
theorem dX9_minute_152 : decode cX9_minute 152 = .ok (.iconst 4, 1) := by decide +kernel
theorem dX9_minute_153 : decode cX9_minute 153 = .ok (.if_icmp .ge 65, 3) := by decide +kernel
theorem dX9_minute_156 : decode cX9_minute 156 = .ok (.aload_n 0, 1) := by decide +kernel
theorem dX9_minute_157 : decode cX9_minute 157 = .ok (.getfield 31, 3) := by decide +kernel
theorem dX9_minute_160 : decode cX9_minute 160 = .ok (.iload 7, 2) := by decide +kernel
theorem dX9_minute_162 : decode cX9_minute 162 = .ok (.iload 7, 2) := by decide +kernel
theorem dX9_minute_164 : decode cX9_minute 164 = .ok (.iload_n 1, 1) := by decide +kernel
theorem dX9_minute_165 : decode cX9_minute 165 = .ok (.if_icmp .ne 23, 3) := by decide +kernel
theorem dX9_minute_168 : decode cX9_minute 168 = .ok (.iload 5, 2) := by decide +kernel
theorem dX9_minute_170 : decode cX9_minute 170 = .ok (.ifCond .eq 18, 3) := by decide +kernel
theorem dX9_minute_173 : decode cX9_minute 173 = .ok (.aload_n 0, 1) := by decide +kernel
theorem dX9_minute_174 : decode cX9_minute 174 = .ok (.getfield 31, 3) := by decide +kernel
theorem dX9_minute_177 : decode cX9_minute 177 = .ok (.iload 7, 2) := by decide +kernel
theorem dX9_minute_179 : decode cX9_minute 179 = .ok (.iaload, 1) := by decide +kernel
theorem dX9_minute_180 : decode cX9_minute 180 = .ok (.iload 6, 2) := by decide +kernel
theorem dX9_minute_182 : decode cX9_minute 182 = .ok (.iconst 2, 1) := by decide +kernel
theorem dX9_minute_183 : decode cX9_minute 183 = .ok (.idiv, 1) := by decide +kernel
theorem dX9_minute_184 : decode cX9_minute 184 = .ok (.iadd, 1) := by decide +kernel
theorem dX9_minute_185 : decode cX9_minute 185 = .ok (.goto 26, 3) := by decide +kernel
theorem dX9_minute_188 : decode cX9_minute 188 = .ok (.aload_n 0, 1) := by decide +kernel
theorem dX9_minute_189 : decode cX9_minute 189 = .ok (.getfield 31, 3) := by decide +kernel
theorem dX9_minute_192 : decode cX9_minute 192 = .ok (.iload 7, 2) := by decide +kernel
theorem dX9_minute_194 : decode cX9_minute 194 = .ok (.iaload, 1) := by decide +kernel
theorem dX9_minute_195 : decode cX9_minute 195 = .ok (.ifCond .le 15, 3) := by decide +kernel
theorem dX9_minute_198 : decode cX9_minute 198 = .ok (.aload_n 0, 1) := by decide +kernel
theorem dX9_minute_199 : decode cX9_minute 199 = .ok (.getfield 31, 3) := by decide +kernel
theorem dX9_minute_202 : decode cX9_minute 202 = .ok (.iload 7, 2) := by decide +kernel
theorem dX9_minute_204 : decode cX9_minute 204 = .ok (.iaload, 1) := by decide +kernel
theorem dX9_minute_205 : decode cX9_minute 205 = .ok (.iconst 1, 1) := by decide +kernel
theorem dX9_minute_206 : decode cX9_minute 206 = .ok (.isub, 1) := by decide +kernel
theorem dX9_minute_207 : decode cX9_minute 207 = .ok (.goto 4, 3) := by decide +kernel
theorem dX9_minute_210 : decode cX9_minute 210 = .ok (.iconst 0, 1) := by decide +kernel
theorem dX9_minute_211 : decode cX9_minute 211 = .ok (.iastore, 1) := by decide +kernel
theorem dX9_minute_212 : decode cX9_minute 212 = .ok (.iinc 7 1, 3) := by decide +kernel
theorem dX9_minute_215 : decode cX9_minute 215 = .ok (.goto (-65), 3) := by decide +kernel
theorem dX9_minute_218 : decode cX9_minute 218 = .ok (.aload_n 0, 1) := by decide +kernel
theorem dX9_minute_219 : decode cX9_minute 219 = .ok (.aload_n 0, 1) := by decide +kernel
theorem dX9_minute_220 : decode cX9_minute 220 = .ok (.getfield 118, 3) := by decide +kernel
theorem dX9_minute_223 : decode cX9_minute 223 = .ok (.ifCond .ge 18, 3) := by decide +kernel
theorem dX9_minute_226 : decode cX9_minute 226 = .ok (.aload_n 0, 1) := by decide +kernel
theorem dX9_minute_227 : decode cX9_minute 227 = .ok (.invokevirtual 124, 3) := by decide +kernel
theorem dX9_minute_230 : decode cX9_minute 230 = .ok (.aload_n 0, 1) := by decide +kernel
theorem dX9_minute_231 : decode cX9_minute 231 = .ok (.getfield 134, 3) := by decide +kernel
theorem dX9_minute_234 : decode cX9_minute 234 = .ok (.if_icmp .lt 7, 3) := by decide +kernel
theorem dX9_minute_237 : decode cX9_minute 237 = .ok (.iload_n 3, 1) := by decide +kernel
theorem dX9_minute_238 : decode cX9_minute 238 = .ok (.goto 7, 3) := by decide +kernel
theorem dX9_minute_241 : decode cX9_minute 241 = .ok (.aload_n 0, 1) := by decide +kernel
theorem dX9_minute_242 : decode cX9_minute 242 = .ok (.getfield 118, 3) := by decide +kernel
theorem dX9_minute_245 : decode cX9_minute 245 = .ok (.putfield 118, 3) := by decide +kernel
theorem dX9_minute_248 : decode cX9_minute 248 = .ok (.return_, 1) := by decide +kernel
theorem dX9_run_0 : decode cX9_run 0 = .ok (.aload_n 0, 1) := by decide +kernel
theorem dX9_run_1 : decode cX9_run 1 = .ok (.invokevirtual 137, 3) := by decide +kernel
theorem dX9_run_4 : decode cX9_run 4 = .ok (.iconst 0, 1) := by decide +kernel
theorem dX9_run_5 : decode cX9_run 5 = .ok (.istore_n 2, 1) := by decide +kernel
theorem dX9_run_6 : decode cX9_run 6 = .ok (.iload_n 1, 1) := by decide +kernel
theorem dX9_run_7 : decode cX9_run 7 = .ok (.aload_n 0, 1) := by decide +kernel
theorem dX9_run_8 : decode cX9_run 8 = .ok (.invokevirtual 73, 3) := by decide +kernel
theorem dX9_run_11 : decode cX9_run 11 = .ok (.if_icmp .ne 7, 3) := by decide +kernel
theorem dX9_run_14 : decode cX9_run 14 = .ok (.iconst 1, 1) := by decide +kernel
theorem dX9_run_15 : decode cX9_run 15 = .ok (.goto 4, 3) := by decide +kernel
theorem dX9_run_18 : decode cX9_run 18 = .ok (.iconst 0, 1) := by decide +kernel
theorem dX9_run_19 : decode cX9_run 19 = .ok (.istore_n 3, 1) := by decide +kernel
theorem dX9_run_20 : decode cX9_run 20 = .ok (.iconst 0, 1) := by decide +kernel
theorem dX9_run_21 : decode cX9_run 21 = .ok (.istore 4, 2) := by decide +kernel
theorem dX9_run_23 : decode cX9_run 23 = .ok (.iload 4, 2) := by decide +kernel
theorem dX9_run_25 : decode cX9_run 25 = .ok (.aload_n 0, 1) := by decide +kernel
theorem dX9_run_26 : decode cX9_run 26 = .ok (.getfield 70, 3) := by decide +kernel
theorem dX9_run_29 : decode cX9_run 29 = .ok (.if_icmp .ge 156, 3) := by decide +kernel
theorem dX9_run_32 : decode cX9_run 32 = .ok (.aload_n 0, 1) := by decide +kernel
theorem dX9_run_33 : decode cX9_run 33 = .ok (.getfield 19, 3) := by decide +kernel
theorem dX9_run_36 : decode cX9_run 36 = .ok (.iconst 3, 1) := by decide +kernel
theorem dX9_run_37 : decode cX9_run 37 = .ok (.iload 4, 2) := by decide +kernel
theorem dX9_run_39 : decode cX9_run 39 = .ok (.imul, 1) := by decide +kernel
theorem dX9_run_40 : decode cX9_run 40 = .ok (.iaload, 1) := by decide +kernel
theorem dX9_run_41 : decode cX9_run 41 = .ok (.istore 5, 2) := by decide +kernel
theorem dX9_run_43 : decode cX9_run 43 = .ok (.iload 5, 2) := by decide +kernel
theorem dX9_run_45 : decode cX9_run 45 = .ok (.iconst 5, 1) := by decide +kernel
theorem dX9_run_46 : decode cX9_run 46 = .ok (.if_icmp .ne 42, 3) := by decide +kernel
theorem dX9_run_49 : decode cX9_run 49 = .ok (.aload_n 0, 1) := by decide +kernel
theorem dX9_run_50 : decode cX9_run 50 = .ok (.dup, 1) := by decide +kernel
theorem dX9_run_51 : decode cX9_run 51 = .ok (.getfield 91, 3) := by decide +kernel
theorem dX9_run_54 : decode cX9_run 54 = .ok (.iload_n 2, 1) := by decide +kernel
theorem dX9_run_55 : decode cX9_run 55 = .ok (.iload_n 1, 1) := by decide +kernel
theorem dX9_run_56 : decode cX9_run 56 = .ok (.if_icmp .lt 7, 3) := by decide +kernel
theorem dX9_run_59 : decode cX9_run 59 = .ok (.iload_n 3, 1) := by decide +kernel
theorem dX9_run_60 : decode cX9_run 60 = .ok (.ifCond .eq 20, 3) := by decide +kernel
theorem dX9_run_63 : decode cX9_run 63 = .ok (.bipush 100, 2) := by decide +kernel
theorem dX9_run_65 : decode cX9_run 65 = .ok (.aload_n 0, 1) := by decide +kernel
theorem dX9_run_66 : decode cX9_run 66 = .ok (.getfield 19, 3) := by decide +kernel
theorem dX9_run_69 : decode cX9_run 69 = .ok (.iconst 3, 1) := by decide +kernel
theorem dX9_run_70 : decode cX9_run 70 = .ok (.iload 4, 2) := by decide +kernel
theorem dX9_run_72 : decode cX9_run 72 = .ok (.imul, 1) := by decide +kernel
theorem dX9_run_73 : decode cX9_run 73 = .ok (.iconst 1, 1) := by decide +kernel
theorem dX9_run_74 : decode cX9_run 74 = .ok (.iadd, 1) := by decide +kernel
theorem dX9_run_75 : decode cX9_run 75 = .ok (.iaload, 1) := by decide +kernel
theorem dX9_run_76 : decode cX9_run 76 = .ok (.imul, 1) := by decide +kernel
theorem dX9_run_77 : decode cX9_run 77 = .ok (.goto 4, 3) := by decide +kernel
theorem dX9_run_80 : decode cX9_run 80 = .ok (.iconst 0, 1) := by decide +kernel
theorem dX9_run_81 : decode cX9_run 81 = .ok (.iadd, 1) := by decide +kernel
theorem dX9_run_82 : decode cX9_run 82 = .ok (.putfield 91, 3) := by decide +kernel
theorem dX9_run_85 : decode cX9_run 85 = .ok (.goto 94, 3) := by decide +kernel
theorem dX9_run_88 : decode cX9_run 88 = .ok (.iload 5, 2) := by decide +kernel
theorem dX9_run_90 : decode cX9_run 90 = .ok (.iconst 4, 1) := by decide +kernel
theorem dX9_run_91 : decode cX9_run 91 = .ok (.if_icmp .ge 17, 3) := by decide +kernel
theorem dX9_run_94 : decode cX9_run 94 = .ok (.aload_n 0, 1) := by decide +kernel
theorem dX9_run_95 : decode cX9_run 95 = .ok (.getfield 79, 3) := by decide +kernel
theorem dX9_run_98 : decode cX9_run 98 = .ok (.ifCond .lt 10, 3) := by decide +kernel
theorem dX9_run_101 : decode cX9_run 101 = .ok (.aload_n 0, 1) := by decide +kernel
theorem dX9_run_102 : decode cX9_run 102 = .ok (.getfield 79, 3) := by decide +kernel
theorem dX9_run_105 : decode cX9_run 105 = .ok (.goto 14, 3) := by decide +kernel
theorem dX9_run_108 : decode cX9_run 108 = .ok (.aload_n 0, 1) := by decide +kernel
theorem dX9_run_109 : decode cX9_run 109 = .ok (.getfield 19, 3) := by decide +kernel
theorem dX9_run_112 : decode cX9_run 112 = .ok (.iconst 3, 1) := by decide +kernel
theorem dX9_run_113 : decode cX9_run 113 = .ok (.iload 4, 2) := by decide +kernel
theorem dX9_run_115 : decode cX9_run 115 = .ok (.imul, 1) := by decide +kernel
theorem dX9_run_116 : decode cX9_run 116 = .ok (.iconst 1, 1) := by decide +kernel
theorem dX9_run_117 : decode cX9_run 117 = .ok (.iadd, 1) := by decide +kernel
theorem dX9_run_118 : decode cX9_run 118 = .ok (.iaload, 1) := by decide +kernel
theorem dX9_run_119 : decode cX9_run 119 = .ok (.istore 6, 2) := by decide +kernel
theorem dX9_run_121 : decode cX9_run 121 = .ok (.iconst 0, 1) := by decide +kernel
theorem dX9_run_122 : decode cX9_run 122 = .ok (.istore 7, 2) := by decide +kernel
theorem dX9_run_124 : decode cX9_run 124 = .ok (.iload 7, 2) := by decide +kernel
theorem dX9_run_126 : decode cX9_run 126 = .ok (.aload_n 0, 1) := by decide +kernel
theorem dX9_run_127 : decode cX9_run 127 = .ok (.getfield 19, 3) := by decide +kernel
theorem dX9_run_130 : decode cX9_run 130 = .ok (.iconst 3, 1) := by decide +kernel
theorem dX9_run_131 : decode cX9_run 131 = .ok (.iload 4, 2) := by decide +kernel
theorem dX9_run_133 : decode cX9_run 133 = .ok (.imul, 1) := by decide +kernel
theorem dX9_run_134 : decode cX9_run 134 = .ok (.iconst 2, 1) := by decide +kernel
theorem dX9_run_135 : decode cX9_run 135 = .ok (.iadd, 1) := by decide +kernel
theorem dX9_run_136 : decode cX9_run 136 = .ok (.iaload, 1) := by decide +kernel
theorem dX9_run_137 : decode cX9_run 137 = .ok (.if_icmp .ge 42, 3) := by decide +kernel
theorem dX9_run_140 : decode cX9_run 140 = .ok (.iload_n 2, 1) := by decide +kernel
theorem dX9_run_141 : decode cX9_run 141 = .ok (.iload_n 1, 1) := by decide +kernel
theorem dX9_run_142 : decode cX9_run 142 = .ok (.if_icmp .ge 37, 3) := by decide +kernel
theorem dX9_run_145 : decode cX9_run 145 = .ok (.aload_n 0, 1) := by decide +kernel
theorem dX9_run_146 : decode cX9_run 146 = .ok (.iload 5, 2) := by decide +kernel
theorem dX9_run_148 : decode cX9_run 148 = .ok (.iconst 4, 1) := by decide +kernel
theorem dX9_run_149 : decode cX9_run 149 = .ok (.if_icmp .ge 13, 3) := by decide +kernel
theorem dX9_run_152 : decode cX9_run 152 = .ok (.aload_n 0, 1) := by decide +kernel
