theorem dX0_init_0 : decode cX0_init 0 = .ok (.aload_n 0, 1) := by decide +kernel
theorem dX0_init_1 : decode cX0_init 1 = .ok (.invokespecial 3, 3) := by decide +kernel
theorem dX0_init_4 : decode cX0_init 4 = .ok (.aload_n 0, 1) := by decide +kernel
theorem dX0_init_5 : decode cX0_init 5 = .ok (.iconst 0, 1) := by decide +kernel
theorem dX0_init_6 : decode cX0_init 6 = .ok (.putfield 9, 3) := by decide +kernel
theorem dX0_init_9 : decode cX0_init 9 = .ok (.aload_n 0, 1) := by decide +kernel
theorem dX0_init_10 : decode cX0_init 10 = .ok (.iconst 0, 1) := by decide +kernel
theorem dX0_init_11 : decode cX0_init 11 = .ok (.putfield 15, 3) := by decide +kernel
theorem dX0_init_14 : decode cX0_init 14 = .ok (.aload_n 0, 1) := by decide +kernel
theorem dX0_init_15 : decode cX0_init 15 = .ok (.iconst 0, 1) := by decide +kernel
theorem dX0_init_16 : decode cX0_init 16 = .ok (.putfield 18, 3) := by decide +kernel
theorem dX0_init_19 : decode cX0_init 19 = .ok (.aload_n 0, 1) := by decide +kernel
theorem dX0_init_20 : decode cX0_init 20 = .ok (.iconst 0, 1) := by decide +kernel
theorem dX0_init_21 : decode cX0_init 21 = .ok (.putfield 21, 3) := by decide +kernel
theorem dX0_init_24 : decode cX0_init 24 = .ok (.aload_n 0, 1) := by decide +kernel
theorem dX0_init_25 : decode cX0_init 25 = .ok (.iconst 0, 1) := by decide +kernel
theorem dX0_init_26 : decode cX0_init 26 = .ok (.putfield 24, 3) := by decide +kernel
theorem dX0_init_29 : decode cX0_init 29 = .ok (.aload_n 0, 1) := by decide +kernel
theorem dX0_init_30 : decode cX0_init 30 = .ok (.iconst 0, 1) := by decide +kernel
theorem dX0_init_31 : decode cX0_init 31 = .ok (.putfield 27, 3) := by decide +kernel
theorem dX0_init_34 : decode cX0_init 34 = .ok (.aload_n 0, 1) := by decide +kernel
theorem dX0_init_35 : decode cX0_init 35 = .ok (.iconst 0, 1) := by decide +kernel
theorem dX0_init_36 : decode cX0_init 36 = .ok (.putfield 30, 3) := by decide +kernel
theorem dX0_init_39 : decode cX0_init 39 = .ok (.aload_n 0, 1) := by decide +kernel
theorem dX0_init_40 : decode cX0_init 40 = .ok (.new 33, 3) := by decide +kernel
theorem dX0_init_43 : decode cX0_init 43 = .ok (.dup, 1) := by decide +kernel
theorem dX0_init_44 : decode cX0_init 44 = .ok (.invokespecial 35, 3) := by decide +kernel
theorem dX0_init_47 : decode cX0_init 47 = .ok (.putfield 36, 3) := by decide +kernel
theorem dX0_init_50 : decode cX0_init 50 = .ok (.return_, 1) := by decide +kernel
theorem dX0_begin_0 : decode cX0_begin 0 = .ok (.aload_n 0, 1) := by decide +kernel
theorem dX0_begin_1 : decode cX0_begin 1 = .ok (.aload_n 1, 1) := by decide +kernel
theorem dX0_begin_2 : decode cX0_begin 2 = .ok (.iconst 2, 1) := by decide +kernel
theorem dX0_begin_3 : decode cX0_begin 3 = .ok (.invokevirtual 40, 3) := by decide +kernel
theorem dX0_begin_6 : decode cX0_begin 6 = .ok (.putfield 9, 3) := by decide +kernel
theorem dX0_begin_9 : decode cX0_begin 9 = .ok (.aload_n 0, 1) := by decide +kernel
theorem dX0_begin_10 : decode cX0_begin 10 = .ok (.aload_n 1, 1) := by decide +kernel
theorem dX0_begin_11 : decode cX0_begin 11 = .ok (.iconst 3, 1) := by decide +kernel
theorem dX0_begin_12 : decode cX0_begin 12 = .ok (.invokevirtual 40, 3) := by decide +kernel
theorem dX0_begin_15 : decode cX0_begin 15 = .ok (.putfield 15, 3) := by decide +kernel
theorem dX0_begin_18 : decode cX0_begin 18 = .ok (.aload_n 0, 1) := by decide +kernel
theorem dX0_begin_19 : decode cX0_begin 19 = .ok (.aload_n 1, 1) := by decide +kernel
theorem dX0_begin_20 : decode cX0_begin 20 = .ok (.iconst 4, 1) := by decide +kernel
theorem dX0_begin_21 : decode cX0_begin 21 = .ok (.invokevirtual 40, 3) := by decide +kernel
theorem dX0_begin_24 : decode cX0_begin 24 = .ok (.putfield 18, 3) := by decide +kernel
theorem dX0_begin_27 : decode cX0_begin 27 = .ok (.aload_n 0, 1) := by decide +kernel
theorem dX0_begin_28 : decode cX0_begin 28 = .ok (.aload_n 1, 1) := by decide +kernel
theorem dX0_begin_29 : decode cX0_begin 29 = .ok (.iconst 5, 1) := by decide +kernel
theorem dX0_begin_30 : decode cX0_begin 30 = .ok (.invokevirtual 40, 3) := by decide +kernel
theorem dX0_begin_33 : decode cX0_begin 33 = .ok (.putfield 21, 3) := by decide +kernel
theorem dX0_begin_36 : decode cX0_begin 36 = .ok (.aload_n 0, 1) := by decide +kernel
theorem dX0_begin_37 : decode cX0_begin 37 = .ok (.iconst 0, 1) := by decide +kernel
theorem dX0_begin_38 : decode cX0_begin 38 = .ok (.putfield 24, 3) := by decide +kernel
theorem dX0_begin_41 : decode cX0_begin 41 = .ok (.aload_n 0, 1) := by decide +kernel
theorem dX0_begin_42 : decode cX0_begin 42 = .ok (.iconst 0, 1) := by decide +kernel
theorem dX0_begin_43 : decode cX0_begin 43 = .ok (.putfield 27, 3) := by decide +kernel
theorem dX0_begin_46 : decode cX0_begin 46 = .ok (.aload_n 0, 1) := by decide +kernel
theorem dX0_begin_47 : decode cX0_begin 47 = .ok (.iconst 0, 1) := by decide +kernel
theorem dX0_begin_48 : decode cX0_begin 48 = .ok (.putfield 30, 3) := by decide +kernel
theorem dX0_begin_51 : decode cX0_begin 51 = .ok (.aload_n 0, 1) := by decide +kernel
theorem dX0_begin_52 : decode cX0_begin 52 = .ok (.getfield 36, 3) := by decide +kernel
theorem dX0_begin_55 : decode cX0_begin 55 = .ok (.invokevirtual 46, 3) := by decide +kernel
theorem dX0_begin_58 : decode cX0_begin 58 = .ok (.return_, 1) := by decide +kernel
theorem dX0_liquid_0 : decode cX0_liquid 0 = .ok (.aload_n 0, 1) := by decide +kernel
theorem dX0_liquid_1 : decode cX0_liquid 1 = .ok (.getfield 9, 3) := by decide +kernel
theorem dX0_liquid_4 : decode cX0_liquid 4 = .ok (.aload_n 0, 1) := by decide +kernel
theorem dX0_liquid_5 : decode cX0_liquid 5 = .ok (.getfield 36, 3) := by decide +kernel
theorem dX0_liquid_8 : decode cX0_liquid 8 = .ok (.getfield 49, 3) := by decide +kernel
theorem dX0_liquid_11 : decode cX0_liquid 11 = .ok (.isub, 1) := by decide +kernel
theorem dX0_liquid_12 : decode cX0_liquid 12 = .ok (.aload_n 0, 1) := by decide +kernel
theorem dX0_liquid_13 : decode cX0_liquid 13 = .ok (.getfield 24, 3) := by decide +kernel
theorem dX0_liquid_16 : decode cX0_liquid 16 = .ok (.isub, 1) := by decide +kernel
theorem dX0_liquid_17 : decode cX0_liquid 17 = .ok (.ireturn, 1) := by decide +kernel
theorem dX0_line_0 : decode cX0_line 0 = .ok (.bipush 54, 2) := by decide +kernel
theorem dX0_line_2 : decode cX0_line 2 = .ok (.aload_n 0, 1) := by decide +kernel
theorem dX0_line_3 : decode cX0_line 3 = .ok (.getfield 15, 3) := by decide +kernel
theorem dX0_line_6 : decode cX0_line 6 = .ok (.imul, 1) := by decide +kernel
theorem dX0_line_7 : decode cX0_line 7 = .ok (.aload_n 0, 1) := by decide +kernel
theorem dX0_line_8 : decode cX0_line 8 = .ok (.invokevirtual 52, 3) := by decide +kernel
theorem dX0_line_11 : decode cX0_line 11 = .ok (.invokestatic 56, 3) := by decide +kernel
theorem dX0_line_14 : decode cX0_line 14 = .ok (.ireturn, 1) := by decide +kernel
theorem dX0_stiff_0 : decode cX0_stiff 0 = .ok (.bipush 100, 2) := by decide +kernel
theorem dX0_stiff_2 : decode cX0_stiff 2 = .ok (.aload_n 0, 1) := by decide +kernel
theorem dX0_stiff_3 : decode cX0_stiff 3 = .ok (.getfield 36, 3) := by decide +kernel
theorem dX0_stiff_6 : decode cX0_stiff 6 = .ok (.getfield 49, 3) := by decide +kernel
theorem dX0_stiff_9 : decode cX0_stiff 9 = .ok (.imul, 1) := by decide +kernel
theorem dX0_stiff_10 : decode cX0_stiff 10 = .ok (.aload_n 0, 1) := by decide +kernel
theorem dX0_stiff_11 : decode cX0_stiff 11 = .ok (.getfield 9, 3) := by decide +kernel
theorem dX0_stiff_14 : decode cX0_stiff 14 = .ok (.invokestatic 56, 3) := by decide +kernel
theorem dX0_stiff_17 : decode cX0_stiff 17 = .ok (.aload_n 0, 1) := by decide +kernel
theorem dX0_stiff_18 : decode cX0_stiff 18 = .ok (.getfield 27, 3) := by decide +kernel
theorem dX0_stiff_21 : decode cX0_stiff 21 = .ok (.iconst 5, 1) := by decide +kernel
theorem dX0_stiff_22 : decode cX0_stiff 22 = .ok (.idiv, 1) := by decide +kernel
theorem dX0_stiff_23 : decode cX0_stiff 23 = .ok (.iadd, 1) := by decide +kernel
theorem dX0_stiff_24 : decode cX0_stiff 24 = .ok (.ireturn, 1) := by decide +kernel
theorem dX0_flow_0 : decode cX0_flow 0 = .ok (.iconst 0, 1) := by decide +kernel
theorem dX0_flow_1 : decode cX0_flow 1 = .ok (.bipush 120, 2) := by decide +kernel
theorem dX0_flow_3 : decode cX0_flow 3 = .ok (.aload_n 0, 1) := by decide +kernel
theorem dX0_flow_4 : decode cX0_flow 4 = .ok (.getfield 21, 3) := by decide +kernel
theorem dX0_flow_7 : decode cX0_flow 7 = .ok (.iload_n 1, 1) := by decide +kernel
theorem dX0_flow_8 : decode cX0_flow 8 = .ok (.iadd, 1) := by decide +kernel
theorem dX0_flow_9 : decode cX0_flow 9 = .ok (.imul, 1) := by decide +kernel
theorem dX0_flow_10 : decode cX0_flow 10 = .ok (.bipush 10, 2) := by decide +kernel
theorem dX0_flow_12 : decode cX0_flow 12 = .ok (.aload_n 0, 1) := by decide +kernel
theorem dX0_flow_13 : decode cX0_flow 13 = .ok (.getfield 24, 3) := by decide +kernel
theorem dX0_flow_16 : decode cX0_flow 16 = .ok (.iadd, 1) := by decide +kernel
theorem dX0_flow_17 : decode cX0_flow 17 = .ok (.invokestatic 56, 3) := by decide +kernel
theorem dX0_flow_20 : decode cX0_flow 20 = .ok (.invokestatic 60, 3) := by decide +kernel
theorem dX0_flow_23 : decode cX0_flow 23 = .ok (.ireturn, 1) := by decide +kernel
theorem dX0_giveWarmth_0 : decode cX0_giveWarmth 0 = .ok (.aload_n 0, 1) := by decide +kernel
theorem dX0_giveWarmth_1 : decode cX0_giveWarmth 1 = .ok (.getfield 21, 3) := by decide +kernel
theorem dX0_giveWarmth_4 : decode cX0_giveWarmth 4 = .ok (.aload_n 0, 1) := by decide +kernel
theorem dX0_giveWarmth_5 : decode cX0_giveWarmth 5 = .ok (.invokevirtual 65, 3) := by decide +kernel
theorem dX0_giveWarmth_8 : decode cX0_giveWarmth 8 = .ok (.ineg, 1) := by decide +kernel
theorem dX0_giveWarmth_9 : decode cX0_giveWarmth 9 = .ok (.if_icmp .le 44, 3) := by decide +kernel
theorem dX0_giveWarmth_12 : decode cX0_giveWarmth 12 = .ok (.aload_n 0, 1) := by decide +kernel
theorem dX0_giveWarmth_13 : decode cX0_giveWarmth 13 = .ok (.aload_n 0, 1) := by decide +kernel
theorem dX0_giveWarmth_14 : decode cX0_giveWarmth 14 = .ok (.invokevirtual 65, 3) := by decide +kernel
theorem dX0_giveWarmth_17 : decode cX0_giveWarmth 17 = .ok (.ineg, 1) := by decide +kernel
theorem dX0_giveWarmth_18 : decode cX0_giveWarmth 18 = .ok (.aload_n 0, 1) := by decide +kernel
theorem dX0_giveWarmth_19 : decode cX0_giveWarmth 19 = .ok (.getfield 21, 3) := by decide +kernel
theorem dX0_giveWarmth_22 : decode cX0_giveWarmth 22 = .ok (.bipush 10, 2) := by decide +kernel
theorem dX0_giveWarmth_24 : decode cX0_giveWarmth 24 = .ok (.iload_n 1, 1) := by decide +kernel
theorem dX0_giveWarmth_25 : decode cX0_giveWarmth 25 = .ok (.imul, 1) := by decide +kernel
theorem dX0_giveWarmth_26 : decode cX0_giveWarmth 26 = .ok (.aload_n 0, 1) := by decide +kernel
theorem dX0_giveWarmth_27 : decode cX0_giveWarmth 27 = .ok (.getfield 9, 3) := by decide +kernel
theorem dX0_giveWarmth_30 : decode cX0_giveWarmth 30 = .ok (.aload_n 0, 1) := by decide +kernel
theorem dX0_giveWarmth_31 : decode cX0_giveWarmth 31 = .ok (.getfield 15, 3) := by decide +kernel
theorem dX0_giveWarmth_34 : decode cX0_giveWarmth 34 = .ok (.iadd, 1) := by decide +kernel
theorem dX0_giveWarmth_35 : decode cX0_giveWarmth 35 = .ok (.aload_n 0, 1) := by decide +kernel
theorem dX0_giveWarmth_36 : decode cX0_giveWarmth 36 = .ok (.getfield 18, 3) := by decide +kernel
theorem dX0_giveWarmth_39 : decode cX0_giveWarmth 39 = .ok (.iadd, 1) := by decide +kernel
theorem dX0_giveWarmth_40 : decode cX0_giveWarmth 40 = .ok (.invokestatic 56, 3) := by decide +kernel
theorem dX0_giveWarmth_43 : decode cX0_giveWarmth 43 = .ok (.isub, 1) := by decide +kernel
theorem dX0_giveWarmth_44 : decode cX0_giveWarmth 44 = .ok (.invokestatic 60, 3) := by decide +kernel
theorem dX0_giveWarmth_47 : decode cX0_giveWarmth 47 = .ok (.putfield 21, 3) := by decide +kernel
theorem dX0_giveWarmth_50 : decode cX0_giveWarmth 50 = .ok (.goto 34, 3) := by decide +kernel
theorem dX0_giveWarmth_53 : decode cX0_giveWarmth 53 = .ok (.aload_n 0, 1) := by decide +kernel
theorem dX0_giveWarmth_54 : decode cX0_giveWarmth 54 = .ok (.dup, 1) := by decide +kernel
theorem dX0_giveWarmth_55 : decode cX0_giveWarmth 55 = .ok (.getfield 24, 3) := by decide +kernel
theorem dX0_giveWarmth_58 : decode cX0_giveWarmth 58 = .ok (.iload_n 1, 1) := by decide +kernel
theorem dX0_giveWarmth_59 : decode cX0_giveWarmth 59 = .ok (.bipush 80, 2) := by decide +kernel
theorem dX0_giveWarmth_61 : decode cX0_giveWarmth 61 = .ok (.idiv, 1) := by decide +kernel
theorem dX0_giveWarmth_62 : decode cX0_giveWarmth 62 = .ok (.aload_n 0, 1) := by decide +kernel
theorem dX0_giveWarmth_63 : decode cX0_giveWarmth 63 = .ok (.invokevirtual 52, 3) := by decide +kernel
theorem dX0_giveWarmth_66 : decode cX0_giveWarmth 66 = .ok (.iconst 1, 1) := by decide +kernel
theorem dX0_giveWarmth_67 : decode cX0_giveWarmth 67 = .ok (.isub, 1) := by decide +kernel
theorem dX0_giveWarmth_68 : decode cX0_giveWarmth 68 = .ok (.invokestatic 68, 3) := by decide +kernel
theorem dX0_giveWarmth_71 : decode cX0_giveWarmth 71 = .ok (.iadd, 1) := by decide +kernel
theorem dX0_giveWarmth_72 : decode cX0_giveWarmth 72 = .ok (.putfield 24, 3) := by decide +kernel
theorem dX0_giveWarmth_75 : decode cX0_giveWarmth 75 = .ok (.aload_n 0, 1) := by decide +kernel
theorem dX0_giveWarmth_76 : decode cX0_giveWarmth 76 = .ok (.aload_n 0, 1) := by decide +kernel
theorem dX0_giveWarmth_77 : decode cX0_giveWarmth 77 = .ok (.invokevirtual 65, 3) := by decide +kernel
theorem dX0_giveWarmth_80 : decode cX0_giveWarmth 80 = .ok (.ineg, 1) := by decide +kernel
theorem dX0_giveWarmth_81 : decode cX0_giveWarmth 81 = .ok (.putfield 21, 3) := by decide +kernel
theorem dX0_giveWarmth_84 : decode cX0_giveWarmth 84 = .ok (.return_, 1) := by decide +kernel
theorem dX0_scrape_0 : decode cX0_scrape 0 = .ok (.iconst 4, 1) := by decide +kernel
theorem dX0_scrape_1 : decode cX0_scrape 1 = .ok (.iload_n 1, 1) := by decide +kernel
theorem dX0_scrape_2 : decode cX0_scrape 2 = .ok (.imul, 1) := by decide +kernel
theorem dX0_scrape_3 : decode cX0_scrape 3 = .ok (.aload_n 0, 1) := by decide +kernel
theorem dX0_scrape_4 : decode cX0_scrape 4 = .ok (.getfield 24, 3) := by decide +kernel
theorem dX0_scrape_7 : decode cX0_scrape 7 = .ok (.invokestatic 68, 3) := by decide +kernel
theorem dX0_scrape_10 : decode cX0_scrape 10 = .ok (.istore_n 2, 1) := by decide +kernel
theorem dX0_scrape_11 : decode cX0_scrape 11 = .ok (.aload_n 0, 1) := by decide +kernel
theorem dX0_scrape_12 : decode cX0_scrape 12 = .ok (.getfield 36, 3) := by decide +kernel
theorem dX0_scrape_15 : decode cX0_scrape 15 = .ok (.bipush 60, 2) := by decide +kernel
theorem dX0_scrape_17 : decode cX0_scrape 17 = .ok (.bipush 10, 2) := by decide +kernel
theorem dX0_scrape_19 : decode cX0_scrape 19 = .ok (.aload_n 0, 1) := by decide +kernel
theorem dX0_scrape_20 : decode cX0_scrape 20 = .ok (.getfield 24, 3) := by decide +kernel
theorem dX0_scrape_23 : decode cX0_scrape 23 = .ok (.iadd, 1) := by decide +kernel
theorem dX0_scrape_24 : decode cX0_scrape 24 = .ok (.invokestatic 68, 3) := by decide +kernel
theorem dX0_scrape_27 : decode cX0_scrape 27 = .ok (.iload_n 2, 1) := by decide +kernel
theorem dX0_scrape_28 : decode cX0_scrape 28 = .ok (.invokevirtual 71, 3) := by decide +kernel
theorem dX0_scrape_31 : decode cX0_scrape 31 = .ok (.aload_n 0, 1) := by decide +kernel
theorem dX0_scrape_32 : decode cX0_scrape 32 = .ok (.dup, 1) := by decide +kernel
theorem dX0_scrape_33 : decode cX0_scrape 33 = .ok (.getfield 24, 3) := by decide +kernel
theorem dX0_scrape_36 : decode cX0_scrape 36 = .ok (.iload_n 2, 1) := by decide +kernel
theorem dX0_scrape_37 : decode cX0_scrape 37 = .ok (.isub, 1) := by decide +kernel
theorem dX0_scrape_38 : decode cX0_scrape 38 = .ok (.putfield 24, 3) := by decide +kernel
theorem dX0_scrape_41 : decode cX0_scrape 41 = .ok (.return_, 1) := by decide +kernel
theorem dX0_beat_0 : decode cX0_beat 0 = .ok (.aload_n 0, 1) := by decide +kernel
theorem dX0_beat_1 : decode cX0_beat 1 = .ok (.getfield 18, 3) := by decide +kernel
theorem dX0_beat_4 : decode cX0_beat 4 = .ok (.bipush 50, 2) := by decide +kernel
theorem dX0_beat_6 : decode cX0_beat 6 = .ok (.if_icmp .lt 35, 3) := by decide +kernel
theorem dX0_beat_9 : decode cX0_beat 9 = .ok (.iload_n 2, 1) := by decide +kernel
theorem dX0_beat_10 : decode cX0_beat 10 = .ok (.bipush 10, 2) := by decide +kernel
theorem dX0_beat_12 : decode cX0_beat 12 = .ok (.if_icmp .lt 29, 3) := by decide +kernel
theorem dX0_beat_15 : decode cX0_beat 15 = .ok (.aload_n 0, 1) := by decide +kernel
theorem dX0_beat_16 : decode cX0_beat 16 = .ok (.getfield 30, 3) := by decide +kernel
theorem dX0_beat_19 : decode cX0_beat 19 = .ok (.bipush 8, 2) := by decide +kernel
theorem dX0_beat_21 : decode cX0_beat 21 = .ok (.if_icmp .ge 20, 3) := by decide +kernel
theorem dX0_beat_24 : decode cX0_beat 24 = .ok (.aload_n 0, 1) := by decide +kernel
theorem dX0_beat_25 : decode cX0_beat 25 = .ok (.bipush 100, 2) := by decide +kernel
theorem dX0_beat_27 : decode cX0_beat 27 = .ok (.aload_n 0, 1) := by decide +kernel
theorem dX0_beat_28 : decode cX0_beat 28 = .ok (.getfield 27, 3) := by decide +kernel
theorem dX0_beat_31 : decode cX0_beat 31 = .ok (.iload_n 1, 1) := by decide +kernel
theorem dX0_beat_32 : decode cX0_beat 32 = .ok (.iconst 3, 1) := by decide +kernel
theorem dX0_beat_33 : decode cX0_beat 33 = .ok (.idiv, 1) := by decide +kernel
theorem dX0_beat_34 : decode cX0_beat 34 = .ok (.iadd, 1) := by decide +kernel
theorem dX0_beat_35 : decode cX0_beat 35 = .ok (.invokestatic 68, 3) := by decide +kernel
theorem dX0_beat_38 : decode cX0_beat 38 = .ok (.putfield 27, 3) := by decide +kernel
theorem dX0_beat_41 : decode cX0_beat 41 = .ok (.iload_n 1, 1) := by decide +kernel
theorem dX0_beat_42 : decode cX0_beat 42 = .ok (.bipush 6, 2) := by decide +kernel
theorem dX0_beat_44 : decode cX0_beat 44 = .ok (.if_icmp .lt 19, 3) := by decide +kernel
theorem dX0_beat_47 : decode cX0_beat 47 = .ok (.iload_n 2, 1) := by decide +kernel
theorem dX0_beat_48 : decode cX0_beat 48 = .ok (.bipush 50, 2) := by decide +kernel
theorem dX0_beat_50 : decode cX0_beat 50 = .ok (.if_icmp .lt 13, 3) := by decide +kernel
theorem dX0_beat_53 : decode cX0_beat 53 = .ok (.aload_n 0, 1) := by decide +kernel
theorem dX0_beat_54 : decode cX0_beat 54 = .ok (.dup, 1) := by decide +kernel
theorem dX0_beat_55 : decode cX0_beat 55 = .ok (.getfield 30, 3) := by decide +kernel
theorem dX0_beat_58 : decode cX0_beat 58 = .ok (.iconst 1, 1) := by decide +kernel
theorem dX0_beat_59 : decode cX0_beat 59 = .ok (.iadd, 1) := by decide +kernel
theorem dX0_beat_60 : decode cX0_beat 60 = .ok (.putfield 30, 3) := by decide +kernel
theorem dX0_beat_63 : decode cX0_beat 63 = .ok (.return_, 1) := by decide +kernel
theorem dX1_init_0 : decode cX1_init 0 = .ok (.aload_n 0, 1) := by decide +kernel
theorem dX1_init_1 : decode cX1_init 1 = .ok (.invokespecial 3, 3) := by decide +kernel
theorem dX1_init_4 : decode cX1_init 4 = .ok (.aload_n 0, 1) := by decide +kernel
theorem dX1_init_5 : decode cX1_init 5 = .ok (.iconst 4, 1) := by decide +kernel
theorem dX1_init_6 : decode cX1_init 6 = .ok (.newarray .int, 2) := by decide +kernel
theorem dX1_init_8 : decode cX1_init 8 = .ok (.putfield 9, 3) := by decide +kernel
theorem dX1_init_11 : decode cX1_init 11 = .ok (.return_, 1) := by decide +kernel
theorem dX1_begin_0 : decode cX1_begin 0 = .ok (.iconst 0, 1) := by decide +kernel
theorem dX1_begin_1 : decode cX1_begin 1 = .ok (.istore_n 1, 1) := by decide +kernel
theorem dX1_begin_2 : decode cX1_begin 2 = .ok (.iload_n 1, 1) := by decide +kernel
theorem dX1_begin_3 : decode cX1_begin 3 = .ok (.aload_n 0, 1) := by decide +kernel
theorem dX1_begin_4 : decode cX1_begin 4 = .ok (.getfield 9, 3) := by decide +kernel
theorem dX1_begin_7 : decode cX1_begin 7 = .ok (.arraylength, 1) := by decide +kernel
theorem dX1_begin_8 : decode cX1_begin 8 = .ok (.if_icmp .ge 16, 3) := by decide +kernel
theorem dX1_begin_11 : decode cX1_begin 11 = .ok (.aload_n 0, 1) := by decide +kernel
theorem dX1_begin_12 : decode cX1_begin 12 = .ok (.getfield 9, 3) := by decide +kernel
theorem dX1_begin_15 : decode cX1_begin 15 = .ok (.iload_n 1, 1) := by decide +kernel
theorem dX1_begin_16 : decode cX1_begin 16 = .ok (.iconst 0, 1) := by decide +kernel
theorem dX1_begin_17 : decode cX1_begin 17 = .ok (.iastore, 1) := by decide +kernel
theorem dX1_begin_18 : decode cX1_begin 18 = .ok (.iinc 1 1, 3) := by decide +kernel
theorem dX1_begin_21 : decode cX1_begin 21 = .ok (.goto (-19), 3) := by decide +kernel
theorem dX1_begin_24 : decode cX1_begin 24 = .ok (.return_, 1) := by decide +kernel
theorem dX1_weariness_0 : decode cX1_weariness 0 = .ok (.aload_n 0, 1) := by decide +kernel
theorem dX1_weariness_1 : decode cX1_weariness 1 = .ok (.getfield 9, 3) := by decide +kernel
theorem dX1_weariness_4 : decode cX1_weariness 4 = .ok (.iload_n 1, 1) := by decide +kernel
theorem dX1_weariness_5 : decode cX1_weariness 5 = .ok (.invokestatic 15, 3) := by decide +kernel
theorem dX1_weariness_8 : decode cX1_weariness 8 = .ok (.ireturn, 1) := by decide +kernel
theorem dX1_pass_0 : decode cX1_pass 0 = .ok (.iconst 0, 1) := by decide +kernel
theorem dX1_pass_1 : decode cX1_pass 1 = .ok (.istore_n 3, 1) := by decide +kernel
theorem dX1_pass_2 : decode cX1_pass 2 = .ok (.iload_n 3, 1) := by decide +kernel
theorem dX1_pass_3 : decode cX1_pass 3 = .ok (.iconst 4, 1) := by decide +kernel
theorem dX1_pass_4 : decode cX1_pass 4 = .ok (.if_icmp .ge 43, 3) := by decide +kernel
theorem dX1_pass_7 : decode cX1_pass 7 = .ok (.iload_n 3, 1) := by decide +kernel
theorem dX1_pass_8 : decode cX1_pass 8 = .ok (.iload_n 1, 1) := by decide +kernel
theorem dX1_pass_9 : decode cX1_pass 9 = .ok (.if_icmp .ne 9, 3) := by decide +kernel
theorem dX1_pass_12 : decode cX1_pass 12 = .ok (.iload_n 2, 1) := by decide +kernel
theorem dX1_pass_13 : decode cX1_pass 13 = .ok (.iconst 2, 1) := by decide +kernel
theorem dX1_pass_14 : decode cX1_pass 14 = .ok (.idiv, 1) := by decide +kernel
theorem dX1_pass_15 : decode cX1_pass 15 = .ok (.goto 4, 3) := by decide +kernel
theorem dX1_pass_18 : decode cX1_pass 18 = .ok (.iconst (-1), 1) := by decide +kernel
theorem dX1_pass_19 : decode cX1_pass 19 = .ok (.istore 4, 2) := by decide +kernel
theorem dX1_pass_21 : decode cX1_pass 21 = .ok (.aload_n 0, 1) := by decide +kernel
theorem dX1_pass_22 : decode cX1_pass 22 = .ok (.getfield 9, 3) := by decide +kernel
theorem dX1_pass_25 : decode cX1_pass 25 = .ok (.iload_n 3, 1) := by decide +kernel
theorem dX1_pass_26 : decode cX1_pass 26 = .ok (.iconst 0, 1) := by decide +kernel
theorem dX1_pass_27 : decode cX1_pass 27 = .ok (.aload_n 0, 1) := by decide +kernel
theorem dX1_pass_28 : decode cX1_pass 28 = .ok (.iload_n 3, 1) := by decide +kernel
theorem dX1_pass_29 : decode cX1_pass 29 = .ok (.invokevirtual 19, 3) := by decide +kernel
theorem dX1_pass_32 : decode cX1_pass 32 = .ok (.iload 4, 2) := by decide +kernel
theorem dX1_pass_34 : decode cX1_pass 34 = .ok (.iadd, 1) := by decide +kernel
theorem dX1_pass_35 : decode cX1_pass 35 = .ok (.invokestatic 23, 3) := by decide +kernel
theorem dX1_pass_38 : decode cX1_pass 38 = .ok (.invokestatic 29, 3) := by decide +kernel
theorem dX1_pass_41 : decode cX1_pass 41 = .ok (.iinc 3 1, 3) := by decide +kernel
theorem dX1_pass_44 : decode cX1_pass 44 = .ok (.goto (-42), 3) := by decide +kernel
theorem dX1_pass_47 : decode cX1_pass 47 = .ok (.return_, 1) := by decide +kernel
theorem dX2_init_0 : decode cX2_init 0 = .ok (.aload_n 0, 1) := by decide +kernel
theorem dX2_init_1 : decode cX2_init 1 = .ok (.invokespecial 3, 3) := by decide +kernel
theorem dX2_init_4 : decode cX2_init 4 = .ok (.aload_n 0, 1) := by decide +kernel
theorem dX2_init_5 : decode cX2_init 5 = .ok (.bipush 64, 2) := by decide +kernel
theorem dX2_init_7 : decode cX2_init 7 = .ok (.newarray .int, 2) := by decide +kernel
theorem dX2_init_9 : decode cX2_init 9 = .ok (.putfield 9, 3) := by decide +kernel
theorem dX2_init_12 : decode cX2_init 12 = .ok (.aload_n 0, 1) := by decide +kernel
theorem dX2_init_13 : decode cX2_init 13 = .ok (.iconst 0, 1) := by decide +kernel
theorem dX2_init_14 : decode cX2_init 14 = .ok (.putfield 15, 3) := by decide +kernel
theorem dX2_init_17 : decode cX2_init 17 = .ok (.return_, 1) := by decide +kernel
theorem dX2_clear_0 : decode cX2_clear 0 = .ok (.iconst 0, 1) := by decide +kernel
theorem dX2_clear_1 : decode cX2_clear 1 = .ok (.istore_n 1, 1) := by decide +kernel
theorem dX2_clear_2 : decode cX2_clear 2 = .ok (.iload_n 1, 1) := by decide +kernel
theorem dX2_clear_3 : decode cX2_clear 3 = .ok (.aload_n 0, 1) := by decide +kernel
theorem dX2_clear_4 : decode cX2_clear 4 = .ok (.getfield 9, 3) := by decide +kernel
theorem dX2_clear_7 : decode cX2_clear 7 = .ok (.arraylength, 1) := by decide +kernel
theorem dX2_clear_8 : decode cX2_clear 8 = .ok (.if_icmp .ge 16, 3) := by decide +kernel
theorem dX2_clear_11 : decode cX2_clear 11 = .ok (.aload_n 0, 1) := by decide +kernel
theorem dX2_clear_12 : decode cX2_clear 12 = .ok (.getfield 9, 3) := by decide +kernel
theorem dX2_clear_15 : decode cX2_clear 15 = .ok (.iload_n 1, 1) := by decide +kernel
theorem dX2_clear_16 : decode cX2_clear 16 = .ok (.iconst 0, 1) := by decide +kernel
theorem dX2_clear_17 : decode cX2_clear 17 = .ok (.iastore, 1) := by decide +kernel
theorem dX2_clear_18 : decode cX2_clear 18 = .ok (.iinc 1 1, 3) := by decide +kernel
theorem dX2_clear_21 : decode cX2_clear 21 = .ok (.goto (-19), 3) := by decide +kernel
theorem dX2_clear_24 : decode cX2_clear 24 = .ok (.aload_n 0, 1) := by decide +kernel
theorem dX2_clear_25 : decode cX2_clear 25 = .ok (.iconst 0, 1) := by decide +kernel
theorem dX2_clear_26 : decode cX2_clear 26 = .ok (.putfield 15, 3) := by decide +kernel
theorem dX2_clear_29 : decode cX2_clear 29 = .ok (.return_, 1) := by decide +kernel
theorem dX2_gramsOf_0 : decode cX2_gramsOf 0 = .ok (.aload_n 0, 1) := by decide +kernel
theorem dX2_gramsOf_1 : decode cX2_gramsOf 1 = .ok (.getfield 9, 3) := by decide +kernel
theorem dX2_gramsOf_4 : decode cX2_gramsOf 4 = .ok (.iload_n 1, 1) := by decide +kernel
theorem dX2_gramsOf_5 : decode cX2_gramsOf 5 = .ok (.invokestatic 19, 3) := by decide +kernel
theorem dX2_gramsOf_8 : decode cX2_gramsOf 8 = .ok (.ireturn, 1) := by decide +kernel
theorem dX2_add_0 : decode cX2_add 0 = .ok (.aload_n 0, 1) := by decide +kernel
theorem dX2_add_1 : decode cX2_add 1 = .ok (.getfield 9, 3) := by decide +kernel
theorem dX2_add_4 : decode cX2_add 4 = .ok (.iload_n 1, 1) := by decide +kernel
theorem dX2_add_5 : decode cX2_add 5 = .ok (.aload_n 0, 1) := by decide +kernel
theorem dX2_add_6 : decode cX2_add 6 = .ok (.getfield 9, 3) := by decide +kernel
theorem dX2_add_9 : decode cX2_add 9 = .ok (.iload_n 1, 1) := by decide +kernel
theorem dX2_add_10 : decode cX2_add 10 = .ok (.invokestatic 19, 3) := by decide +kernel
theorem dX2_add_13 : decode cX2_add 13 = .ok (.iload_n 2, 1) := by decide +kernel
theorem dX2_add_14 : decode cX2_add 14 = .ok (.iadd, 1) := by decide +kernel
theorem dX2_add_15 : decode cX2_add 15 = .ok (.invokestatic 23, 3) := by decide +kernel
theorem dX2_add_18 : decode cX2_add 18 = .ok (.aload_n 0, 1) := by decide +kernel
theorem dX2_add_19 : decode cX2_add 19 = .ok (.dup, 1) := by decide +kernel
theorem dX2_add_20 : decode cX2_add 20 = .ok (.getfield 15, 3) := by decide +kernel
theorem dX2_add_23 : decode cX2_add 23 = .ok (.iload_n 2, 1) := by decide +kernel
theorem dX2_add_24 : decode cX2_add 24 = .ok (.iadd, 1) := by decide +kernel
theorem dX2_add_25 : decode cX2_add 25 = .ok (.putfield 15, 3) := by decide +kernel
theorem dX2_add_28 : decode cX2_add 28 = .ok (.return_, 1) := by decide +kernel
theorem dX2_coarse_0 : decode cX2_coarse 0 = .ok (.iconst 0, 1) := by decide +kernel
theorem dX2_coarse_1 : decode cX2_coarse 1 = .ok (.istore_n 1, 1) := by decide +kernel
theorem dX2_coarse_2 : decode cX2_coarse 2 = .ok (.bipush 30, 2) := by decide +kernel
theorem dX2_coarse_4 : decode cX2_coarse 4 = .ok (.istore_n 2, 1) := by decide +kernel
theorem dX2_coarse_5 : decode cX2_coarse 5 = .ok (.iload_n 2, 1) := by decide +kernel
theorem dX2_coarse_6 : decode cX2_coarse 6 = .ok (.bipush 63, 2) := by decide +kernel
theorem dX2_coarse_8 : decode cX2_coarse 8 = .ok (.if_icmp .gt 17, 3) := by decide +kernel
theorem dX2_coarse_11 : decode cX2_coarse 11 = .ok (.iload_n 1, 1) := by decide +kernel
theorem dX2_coarse_12 : decode cX2_coarse 12 = .ok (.aload_n 0, 1) := by decide +kernel
theorem dX2_coarse_13 : decode cX2_coarse 13 = .ok (.iload_n 2, 1) := by decide +kernel
theorem dX2_coarse_14 : decode cX2_coarse 14 = .ok (.invokevirtual 27, 3) := by decide +kernel
theorem dX2_coarse_17 : decode cX2_coarse 17 = .ok (.iadd, 1) := by decide +kernel
theorem dX2_coarse_18 : decode cX2_coarse 18 = .ok (.istore_n 1, 1) := by decide +kernel
theorem dX2_coarse_19 : decode cX2_coarse 19 = .ok (.iinc 2 1, 3) := by decide +kernel
theorem dX2_coarse_22 : decode cX2_coarse 22 = .ok (.goto (-17), 3) := by decide +kernel
theorem dX2_coarse_25 : decode cX2_coarse 25 = .ok (.sipush 1000, 3) := by decide +kernel
theorem dX2_coarse_28 : decode cX2_coarse 28 = .ok (.iload_n 1, 1) := by decide +kernel
theorem dX2_coarse_29 : decode cX2_coarse 29 = .ok (.imul, 1) := by decide +kernel
theorem dX2_coarse_30 : decode cX2_coarse 30 = .ok (.aload_n 0, 1) := by decide +kernel
theorem dX2_coarse_31 : decode cX2_coarse 31 = .ok (.getfield 15, 3) := by decide +kernel
theorem dX2_coarse_34 : decode cX2_coarse 34 = .ok (.invokestatic 31, 3) := by decide +kernel
theorem dX2_coarse_37 : decode cX2_coarse 37 = .ok (.ireturn, 1) := by decide +kernel
theorem dX2_grow_0 : decode cX2_grow 0 = .ok (.bipush 63, 2) := by decide +kernel
theorem dX2_grow_2 : decode cX2_grow 2 = .ok (.istore_n 3, 1) := by decide +kernel
theorem dX2_grow_3 : decode cX2_grow 3 = .ok (.iload_n 3, 1) := by decide +kernel
theorem dX2_grow_4 : decode cX2_grow 4 = .ok (.bipush 10, 2) := by decide +kernel
theorem dX2_grow_6 : decode cX2_grow 6 = .ok (.if_icmp .lt 54, 3) := by decide +kernel
theorem dX2_grow_9 : decode cX2_grow 9 = .ok (.aload_n 0, 1) := by decide +kernel
theorem dX2_grow_10 : decode cX2_grow 10 = .ok (.iload_n 3, 1) := by decide +kernel
theorem dX2_grow_11 : decode cX2_grow 11 = .ok (.invokevirtual 27, 3) := by decide +kernel
theorem dX2_grow_14 : decode cX2_grow 14 = .ok (.iload_n 1, 1) := by decide +kernel
theorem dX2_grow_15 : decode cX2_grow 15 = .ok (.imul, 1) := by decide +kernel
theorem dX2_grow_16 : decode cX2_grow 16 = .ok (.bipush 10, 2) := by decide +kernel
theorem dX2_grow_18 : decode cX2_grow 18 = .ok (.iconst 5, 1) := by decide +kernel
theorem dX2_grow_19 : decode cX2_grow 19 = .ok (.iload_n 2, 1) := by decide +kernel
theorem dX2_grow_20 : decode cX2_grow 20 = .ok (.imul, 1) := by decide +kernel
theorem dX2_grow_21 : decode cX2_grow 21 = .ok (.iadd, 1) := by decide +kernel
theorem dX2_grow_22 : decode cX2_grow 22 = .ok (.invokestatic 31, 3) := by decide +kernel
theorem dX2_grow_25 : decode cX2_grow 25 = .ok (.istore 4, 2) := by decide +kernel
theorem dX2_grow_27 : decode cX2_grow 27 = .ok (.aload_n 0, 1) := by decide +kernel
theorem dX2_grow_28 : decode cX2_grow 28 = .ok (.iload_n 3, 1) := by decide +kernel
theorem dX2_grow_29 : decode cX2_grow 29 = .ok (.iload 4, 2) := by decide +kernel
theorem dX2_grow_31 : decode cX2_grow 31 = .ok (.ineg, 1) := by decide +kernel
theorem dX2_grow_32 : decode cX2_grow 32 = .ok (.invokevirtual 35, 3) := by decide +kernel
theorem dX2_grow_35 : decode cX2_grow 35 = .ok (.aload_n 0, 1) := by decide +kernel
theorem dX2_grow_36 : decode cX2_grow 36 = .ok (.bipush 63, 2) := by decide +kernel
theorem dX2_grow_38 : decode cX2_grow 38 = .ok (.iload_n 3, 1) := by decide +kernel
theorem dX2_grow_39 : decode cX2_grow 39 = .ok (.iconst 1, 1) := by decide +kernel
theorem dX2_grow_40 : decode cX2_grow 40 = .ok (.iadd, 1) := by decide +kernel
theorem dX2_grow_41 : decode cX2_grow 41 = .ok (.bipush 100, 2) := by decide +kernel
theorem dX2_grow_43 : decode cX2_grow 43 = .ok (.iload_n 3, 1) := by decide +kernel
theorem dX2_grow_44 : decode cX2_grow 44 = .ok (.idiv, 1) := by decide +kernel
theorem dX2_grow_45 : decode cX2_grow 45 = .ok (.iadd, 1) := by decide +kernel
theorem dX2_grow_46 : decode cX2_grow 46 = .ok (.invokestatic 39, 3) := by decide +kernel
theorem dX2_grow_49 : decode cX2_grow 49 = .ok (.iload 4, 2) := by decide +kernel
theorem dX2_grow_51 : decode cX2_grow 51 = .ok (.invokevirtual 35, 3) := by decide +kernel
theorem dX2_grow_54 : decode cX2_grow 54 = .ok (.iinc 3 (-1), 3) := by decide +kernel
theorem dX2_grow_57 : decode cX2_grow 57 = .ok (.goto (-54), 3) := by decide +kernel
theorem dX2_grow_60 : decode cX2_grow 60 = .ok (.return_, 1) := by decide +kernel
theorem dX3_init_0 : decode cX3_init 0 = .ok (.aload_n 0, 1) := by decide +kernel
theorem dX3_init_1 : decode cX3_init 1 = .ok (.invokespecial 1, 3) := by decide +kernel
theorem dX3_init_4 : decode cX3_init 4 = .ok (.aload_n 0, 1) := by decide +kernel
theorem dX3_init_5 : decode cX3_init 5 = .ok (.iconst 0, 1) := by decide +kernel
theorem dX3_init_6 : decode cX3_init 6 = .ok (.putfield 7, 3) := by decide +kernel
theorem dX3_init_9 : decode cX3_init 9 = .ok (.aload_n 0, 1) := by decide +kernel
theorem dX3_init_10 : decode cX3_init 10 = .ok (.iconst 0, 1) := by decide +kernel
theorem dX3_init_11 : decode cX3_init 11 = .ok (.putfield 13, 3) := by decide +kernel
theorem dX3_init_14 : decode cX3_init 14 = .ok (.aload_n 0, 1) := by decide +kernel
theorem dX3_init_15 : decode cX3_init 15 = .ok (.iconst 0, 1) := by decide +kernel
theorem dX3_init_16 : decode cX3_init 16 = .ok (.putfield 16, 3) := by decide +kernel
theorem dX3_init_19 : decode cX3_init 19 = .ok (.aload_n 0, 1) := by decide +kernel
theorem dX3_init_20 : decode cX3_init 20 = .ok (.iconst 0, 1) := by decide +kernel
theorem dX3_init_21 : decode cX3_init 21 = .ok (.putfield 19, 3) := by decide +kernel
theorem dX3_init_24 : decode cX3_init 24 = .ok (.return_, 1) := by decide +kernel
theorem dX3_begin_0 : decode cX3_begin 0 = .ok (.aload_n 0, 1) := by decide +kernel
theorem dX3_begin_1 : decode cX3_begin 1 = .ok (.iload_n 1, 1) := by decide +kernel
theorem dX3_begin_2 : decode cX3_begin 2 = .ok (.putfield 7, 3) := by decide +kernel
theorem dX3_begin_5 : decode cX3_begin 5 = .ok (.aload_n 0, 1) := by decide +kernel
theorem dX3_begin_6 : decode cX3_begin 6 = .ok (.iload_n 2, 1) := by decide +kernel
theorem dX3_begin_7 : decode cX3_begin 7 = .ok (.putfield 13, 3) := by decide +kernel
theorem dX3_begin_10 : decode cX3_begin 10 = .ok (.aload_n 0, 1) := by decide +kernel
theorem dX3_begin_11 : decode cX3_begin 11 = .ok (.iconst 0, 1) := by decide +kernel
theorem dX3_begin_12 : decode cX3_begin 12 = .ok (.putfield 16, 3) := by decide +kernel
theorem dX3_begin_15 : decode cX3_begin 15 = .ok (.aload_n 0, 1) := by decide +kernel
theorem dX3_begin_16 : decode cX3_begin 16 = .ok (.iconst 0, 1) := by decide +kernel
theorem dX3_begin_17 : decode cX3_begin 17 = .ok (.putfield 19, 3) := by decide +kernel
theorem dX3_begin_20 : decode cX3_begin 20 = .ok (.aload_n 0, 1) := by decide +kernel
theorem dX3_begin_21 : decode cX3_begin 21 = .ok (.invokevirtual 22, 3) := by decide +kernel
theorem dX3_begin_24 : decode cX3_begin 24 = .ok (.return_, 1) := by decide +kernel
theorem dX3_settle_0 : decode cX3_settle 0 = .ok (.aload_n 0, 1) := by decide +kernel
theorem dX3_settle_1 : decode cX3_settle 1 = .ok (.getfield 7, 3) := by decide +kernel
theorem dX3_settle_4 : decode cX3_settle 4 = .ok (.ifCond .le 41, 3) := by decide +kernel
theorem dX3_settle_7 : decode cX3_settle 7 = .ok (.aload_n 0, 1) := by decide +kernel
theorem dX3_settle_8 : decode cX3_settle 8 = .ok (.sipush 210, 3) := by decide +kernel
theorem dX3_settle_11 : decode cX3_settle 11 = .ok (.sipush 900, 3) := by decide +kernel
theorem dX3_settle_14 : decode cX3_settle 14 = .ok (.aload_n 0, 1) := by decide +kernel
theorem dX3_settle_15 : decode cX3_settle 15 = .ok (.getfield 13, 3) := by decide +kernel
theorem dX3_settle_18 : decode cX3_settle 18 = .ok (.imul, 1) := by decide +kernel
theorem dX3_settle_19 : decode cX3_settle 19 = .ok (.aload_n 0, 1) := by decide +kernel
theorem dX3_settle_20 : decode cX3_settle 20 = .ok (.getfield 7, 3) := by decide +kernel
theorem dX3_settle_23 : decode cX3_settle 23 = .ok (.aload_n 0, 1) := by decide +kernel
theorem dX3_settle_24 : decode cX3_settle 24 = .ok (.getfield 16, 3) := by decide +kernel
theorem dX3_settle_27 : decode cX3_settle 27 = .ok (.iadd, 1) := by decide +kernel
theorem dX3_settle_28 : decode cX3_settle 28 = .ok (.aload_n 0, 1) := by decide +kernel
theorem dX3_settle_29 : decode cX3_settle 29 = .ok (.getfield 13, 3) := by decide +kernel
theorem dX3_settle_32 : decode cX3_settle 32 = .ok (.iadd, 1) := by decide +kernel
theorem dX3_settle_33 : decode cX3_settle 33 = .ok (.invokestatic 25, 3) := by decide +kernel
theorem dX3_settle_36 : decode cX3_settle 36 = .ok (.invokestatic 31, 3) := by decide +kernel
theorem dX3_settle_39 : decode cX3_settle 39 = .ok (.putfield 19, 3) := by decide +kernel
theorem dX3_settle_42 : decode cX3_settle 42 = .ok (.goto 17, 3) := by decide +kernel
theorem dX3_settle_45 : decode cX3_settle 45 = .ok (.aload_n 0, 1) := by decide +kernel
theorem dX3_settle_46 : decode cX3_settle 46 = .ok (.iconst 0, 1) := by decide +kernel
theorem dX3_settle_47 : decode cX3_settle 47 = .ok (.aload_n 0, 1) := by decide +kernel
theorem dX3_settle_48 : decode cX3_settle 48 = .ok (.getfield 19, 3) := by decide +kernel
theorem dX3_settle_51 : decode cX3_settle 51 = .ok (.iconst 5, 1) := by decide +kernel
theorem dX3_settle_52 : decode cX3_settle 52 = .ok (.isub, 1) := by decide +kernel
theorem dX3_settle_53 : decode cX3_settle 53 = .ok (.invokestatic 36, 3) := by decide +kernel
theorem dX3_settle_56 : decode cX3_settle 56 = .ok (.putfield 19, 3) := by decide +kernel
theorem dX3_settle_59 : decode cX3_settle 59 = .ok (.return_, 1) := by decide +kernel
theorem dX3_melt_0 : decode cX3_melt 0 = .ok (.aload_n 0, 1) := by decide +kernel
theorem dX3_melt_1 : decode cX3_melt 1 = .ok (.getfield 7, 3) := by decide +kernel
theorem dX3_melt_4 : decode cX3_melt 4 = .ok (.iload_n 1, 1) := by decide +kernel
theorem dX3_melt_5 : decode cX3_melt 5 = .ok (.bipush 80, 2) := by decide +kernel
theorem dX3_melt_7 : decode cX3_melt 7 = .ok (.idiv, 1) := by decide +kernel
theorem dX3_melt_8 : decode cX3_melt 8 = .ok (.iconst 3, 1) := by decide +kernel
theorem dX3_melt_9 : decode cX3_melt 9 = .ok (.iadd, 1) := by decide +kernel
theorem dX3_melt_10 : decode cX3_melt 10 = .ok (.invokestatic 31, 3) := by decide +kernel
theorem dX3_melt_13 : decode cX3_melt 13 = .ok (.istore_n 2, 1) := by decide +kernel
theorem dX3_melt_14 : decode cX3_melt 14 = .ok (.aload_n 0, 1) := by decide +kernel
theorem dX3_melt_15 : decode cX3_melt 15 = .ok (.dup, 1) := by decide +kernel
theorem dX3_melt_16 : decode cX3_melt 16 = .ok (.getfield 7, 3) := by decide +kernel
theorem dX3_melt_19 : decode cX3_melt 19 = .ok (.iload_n 2, 1) := by decide +kernel
theorem dX3_melt_20 : decode cX3_melt 20 = .ok (.isub, 1) := by decide +kernel
theorem dX3_melt_21 : decode cX3_melt 21 = .ok (.putfield 7, 3) := by decide +kernel
theorem dX3_melt_24 : decode cX3_melt 24 = .ok (.aload_n 0, 1) := by decide +kernel
theorem dX3_melt_25 : decode cX3_melt 25 = .ok (.dup, 1) := by decide +kernel
theorem dX3_melt_26 : decode cX3_melt 26 = .ok (.getfield 16, 3) := by decide +kernel
theorem dX3_melt_29 : decode cX3_melt 29 = .ok (.iload_n 2, 1) := by decide +kernel
theorem dX3_melt_30 : decode cX3_melt 30 = .ok (.iadd, 1) := by decide +kernel
theorem dX3_melt_31 : decode cX3_melt 31 = .ok (.putfield 16, 3) := by decide +kernel
theorem dX3_melt_34 : decode cX3_melt 34 = .ok (.return_, 1) := by decide +kernel
theorem dX4_init_0 : decode cX4_init 0 = .ok (.aload_n 0, 1) := by decide +kernel
theorem dX4_init_1 : decode cX4_init 1 = .ok (.invokespecial 1, 3) := by decide +kernel
theorem dX4_init_4 : decode cX4_init 4 = .ok (.aload_n 0, 1) := by decide +kernel
theorem dX4_init_5 : decode cX4_init 5 = .ok (.iconst 0, 1) := by decide +kernel
theorem dX4_init_6 : decode cX4_init 6 = .ok (.putfield 7, 3) := by decide +kernel
theorem dX4_init_9 : decode cX4_init 9 = .ok (.aload_n 0, 1) := by decide +kernel
theorem dX4_init_10 : decode cX4_init 10 = .ok (.getstatic 13, 3) := by decide +kernel
theorem dX4_init_13 : decode cX4_init 13 = .ok (.invokevirtual 19, 3) := by decide +kernel
theorem dX4_init_16 : decode cX4_init 16 = .ok (.checkcast 20, 3) := by decide +kernel
theorem dX4_init_19 : decode cX4_init 19 = .ok (.putfield 24, 3) := by decide +kernel
theorem dX4_init_22 : decode cX4_init 22 = .ok (.aload_n 0, 1) := by decide +kernel
theorem dX4_init_23 : decode cX4_init 23 = .ok (.getstatic 27, 3) := by decide +kernel
theorem dX4_init_26 : decode cX4_init 26 = .ok (.invokevirtual 19, 3) := by decide +kernel
theorem dX4_init_29 : decode cX4_init 29 = .ok (.checkcast 20, 3) := by decide +kernel
theorem dX4_init_32 : decode cX4_init 32 = .ok (.putfield 30, 3) := by decide +kernel
theorem dX4_init_35 : decode cX4_init 35 = .ok (.aload_n 0, 1) := by decide +kernel
theorem dX4_init_36 : decode cX4_init 36 = .ok (.new 33, 3) := by decide +kernel
theorem dX4_init_39 : decode cX4_init 39 = .ok (.dup, 1) := by decide +kernel
theorem dX4_init_40 : decode cX4_init 40 = .ok (.invokespecial 35, 3) := by decide +kernel
theorem dX4_init_43 : decode cX4_init 43 = .ok (.putfield 36, 3) := by decide +kernel
theorem dX4_init_46 : decode cX4_init 46 = .ok (.aload_n 0, 1) := by decide +kernel
theorem dX4_init_47 : decode cX4_init 47 = .ok (.new 40, 3) := by decide +kernel
theorem dX4_init_50 : decode cX4_init 50 = .ok (.dup, 1) := by decide +kernel
theorem dX4_init_51 : decode cX4_init 51 = .ok (.invokespecial 42, 3) := by decide +kernel
theorem dX4_init_54 : decode cX4_init 54 = .ok (.putfield 43, 3) := by decide +kernel
theorem dX4_init_57 : decode cX4_init 57 = .ok (.return_, 1) := by decide +kernel
theorem dX4_number_0 : decode cX4_number 0 = .ok (.aload_n 0, 1) := by decide +kernel
theorem dX4_number_1 : decode cX4_number 1 = .ok (.getfield 24, 3) := by decide +kernel
theorem dX4_number_4 : decode cX4_number 4 = .ok (.iload_n 1, 1) := by decide +kernel
theorem dX4_number_5 : decode cX4_number 5 = .ok (.invokestatic 47, 3) := by decide +kernel
theorem dX4_number_8 : decode cX4_number 8 = .ok (.ireturn, 1) := by decide +kernel
theorem dX4_copyFrom_0 : decode cX4_copyFrom 0 = .ok (.aload_n 1, 1) := by decide +kernel
theorem dX4_copyFrom_1 : decode cX4_copyFrom 1 = .ok (.getfield 24, 3) := by decide +kernel
theorem dX4_copyFrom_4 : decode cX4_copyFrom 4 = .ok (.aload_n 0, 1) := by decide +kernel
theorem dX4_copyFrom_5 : decode cX4_copyFrom 5 = .ok (.getfield 24, 3) := by decide +kernel
theorem dX4_copyFrom_8 : decode cX4_copyFrom 8 = .ok (.invokestatic 51, 3) := by decide +kernel
theorem dX4_copyFrom_11 : decode cX4_copyFrom 11 = .ok (.aload_n 1, 1) := by decide +kernel
theorem dX4_copyFrom_12 : decode cX4_copyFrom 12 = .ok (.getfield 30, 3) := by decide +kernel
theorem dX4_copyFrom_15 : decode cX4_copyFrom 15 = .ok (.aload_n 0, 1) := by decide +kernel
theorem dX4_copyFrom_16 : decode cX4_copyFrom 16 = .ok (.getfield 30, 3) := by decide +kernel
theorem dX4_copyFrom_19 : decode cX4_copyFrom 19 = .ok (.invokestatic 51, 3) := by decide +kernel
theorem dX4_copyFrom_22 : decode cX4_copyFrom 22 = .ok (.aload_n 0, 1) := by decide +kernel
theorem dX4_copyFrom_23 : decode cX4_copyFrom 23 = .ok (.getfield 36, 3) := by decide +kernel
theorem dX4_copyFrom_26 : decode cX4_copyFrom 26 = .ok (.aload_n 1, 1) := by decide +kernel
theorem dX4_copyFrom_27 : decode cX4_copyFrom 27 = .ok (.getfield 36, 3) := by decide +kernel
theorem dX4_copyFrom_30 : decode cX4_copyFrom 30 = .ok (.invokevirtual 55, 3) := by decide +kernel
theorem dX4_copyFrom_33 : decode cX4_copyFrom 33 = .ok (.aload_n 0, 1) := by decide +kernel
theorem dX4_copyFrom_34 : decode cX4_copyFrom 34 = .ok (.getfield 43, 3) := by decide +kernel
theorem dX4_copyFrom_37 : decode cX4_copyFrom 37 = .ok (.aload_n 1, 1) := by decide +kernel
theorem dX4_copyFrom_38 : decode cX4_copyFrom 38 = .ok (.getfield 43, 3) := by decide +kernel
theorem dX4_copyFrom_41 : decode cX4_copyFrom 41 = .ok (.invokevirtual 59, 3) := by decide +kernel
theorem dX4_copyFrom_44 : decode cX4_copyFrom 44 = .ok (.return_, 1) := by decide +kernel
theorem dX5_init_0 : decode cX5_init 0 = .ok (.aload_n 0, 1) := by decide +kernel
theorem dX5_init_1 : decode cX5_init 1 = .ok (.invokespecial 3, 3) := by decide +kernel
theorem dX5_init_4 : decode cX5_init 4 = .ok (.aload_n 0, 1) := by decide +kernel
theorem dX5_init_5 : decode cX5_init 5 = .ok (.new 9, 3) := by decide +kernel
theorem dX5_init_8 : decode cX5_init 8 = .ok (.dup, 1) := by decide +kernel
theorem dX5_init_9 : decode cX5_init 9 = .ok (.invokespecial 11, 3) := by decide +kernel
theorem dX5_init_12 : decode cX5_init 12 = .ok (.putfield 12, 3) := by decide +kernel
theorem dX5_init_15 : decode cX5_init 15 = .ok (.aload_n 0, 1) := by decide +kernel
theorem dX5_init_16 : decode cX5_init 16 = .ok (.new 18, 3) := by decide +kernel
theorem dX5_init_19 : decode cX5_init 19 = .ok (.dup, 1) := by decide +kernel
theorem dX5_init_20 : decode cX5_init 20 = .ok (.invokespecial 20, 3) := by decide +kernel
theorem dX5_init_23 : decode cX5_init 23 = .ok (.putfield 21, 3) := by decide +kernel
theorem dX5_init_26 : decode cX5_init 26 = .ok (.aload_n 0, 1) := by decide +kernel
theorem dX5_init_27 : decode cX5_init 27 = .ok (.new 25, 3) := by decide +kernel
theorem dX5_init_30 : decode cX5_init 30 = .ok (.dup, 1) := by decide +kernel
theorem dX5_init_31 : decode cX5_init 31 = .ok (.invokespecial 27, 3) := by decide +kernel
theorem dX5_init_34 : decode cX5_init 34 = .ok (.putfield 28, 3) := by decide +kernel
theorem dX5_init_37 : decode cX5_init 37 = .ok (.aload_n 0, 1) := by decide +kernel
theorem dX5_init_38 : decode cX5_init 38 = .ok (.bipush 117, 2) := by decide +kernel
theorem dX5_init_40 : decode cX5_init 40 = .ok (.newarray .int, 2) := by decide +kernel
theorem dX5_init_42 : decode cX5_init 42 = .ok (.putfield 32, 3) := by decide +kernel
theorem dX5_init_45 : decode cX5_init 45 = .ok (.aload_n 0, 1) := by decide +kernel
theorem dX5_init_46 : decode cX5_init 46 = .ok (.iconst 0, 1) := by decide +kernel
theorem dX5_init_47 : decode cX5_init 47 = .ok (.putfield 36, 3) := by decide +kernel
theorem dX5_init_50 : decode cX5_init 50 = .ok (.aload_n 0, 1) := by decide +kernel
theorem dX5_init_51 : decode cX5_init 51 = .ok (.iconst 0, 1) := by decide +kernel
theorem dX5_init_52 : decode cX5_init 52 = .ok (.putfield 40, 3) := by decide +kernel
theorem dX5_init_55 : decode cX5_init 55 = .ok (.aload_n 0, 1) := by decide +kernel
theorem dX5_init_56 : decode cX5_init 56 = .ok (.bipush (-6), 2) := by decide +kernel
theorem dX5_init_58 : decode cX5_init 58 = .ok (.putfield 43, 3) := by decide +kernel
theorem dX5_init_61 : decode cX5_init 61 = .ok (.return_, 1) := by decide +kernel
theorem dX5_go_0 : decode cX5_go 0 = .ok (.aload_n 0, 1) := by decide +kernel
theorem dX5_go_1 : decode cX5_go 1 = .ok (.aload_n 1, 1) := by decide +kernel
theorem dX5_go_2 : decode cX5_go 2 = .ok (.iload_n 3, 1) := by decide +kernel
theorem dX5_go_3 : decode cX5_go 3 = .ok (.invokevirtual 46, 3) := by decide +kernel
theorem dX5_go_6 : decode cX5_go 6 = .ok (.aload_n 1, 1) := by decide +kernel
theorem dX5_go_7 : decode cX5_go 7 = .ok (.getfield 50, 3) := by decide +kernel
theorem dX5_go_10 : decode cX5_go 10 = .ok (.astore 6, 2) := by decide +kernel
theorem dX5_go_12 : decode cX5_go 12 = .ok (.iconst 0, 1) := by decide +kernel
theorem dX5_go_13 : decode cX5_go 13 = .ok (.istore 7, 2) := by decide +kernel
theorem dX5_go_15 : decode cX5_go 15 = .ok (.iload 7, 2) := by decide +kernel
theorem dX5_go_17 : decode cX5_go 17 = .ok (.aload 6, 2) := by decide +kernel
theorem dX5_go_19 : decode cX5_go 19 = .ok (.getfield 56, 3) := by decide +kernel
theorem dX5_go_22 : decode cX5_go 22 = .ok (.if_icmp .ge 184, 3) := by decide +kernel
theorem dX5_go_25 : decode cX5_go 25 = .ok (.aload 6, 2) := by decide +kernel
theorem dX5_go_27 : decode cX5_go 27 = .ok (.getfield 61, 3) := by decide +kernel
theorem dX5_go_30 : decode cX5_go 30 = .ok (.iload 7, 2) := by decide +kernel
theorem dX5_go_32 : decode cX5_go 32 = .ok (.invokestatic 64, 3) := by decide +kernel
theorem dX5_go_35 : decode cX5_go 35 = .ok (.istore 8, 2) := by decide +kernel
theorem dX5_go_37 : decode cX5_go 37 = .ok (.aload 6, 2) := by decide +kernel
theorem dX5_go_39 : decode cX5_go 39 = .ok (.getfield 68, 3) := by decide +kernel
theorem dX5_go_42 : decode cX5_go 42 = .ok (.iload 7, 2) := by decide +kernel
theorem dX5_go_44 : decode cX5_go 44 = .ok (.invokestatic 64, 3) := by decide +kernel
theorem dX5_go_47 : decode cX5_go 47 = .ok (.istore 9, 2) := by decide +kernel
theorem dX5_go_49 : decode cX5_go 49 = .ok (.iload 8, 2) := by decide +kernel
theorem dX5_go_51 : decode cX5_go 51 = .ok (.iconst 5, 1) := by decide +kernel
theorem dX5_go_52 : decode cX5_go 52 = .ok (.if_icmp .ne 56, 3) := by decide +kernel
theorem dX5_go_55 : decode cX5_go 55 = .ok (.aload_n 0, 1) := by decide +kernel
theorem dX5_go_56 : decode cX5_go 56 = .ok (.getfield 36, 3) := by decide +kernel
theorem dX5_go_59 : decode cX5_go 59 = .ok (.iload_n 2, 1) := by decide +kernel
theorem dX5_go_60 : decode cX5_go 60 = .ok (.if_icmp .lt 12, 3) := by decide +kernel
theorem dX5_go_63 : decode cX5_go 63 = .ok (.iload_n 2, 1) := by decide +kernel
theorem dX5_go_64 : decode cX5_go 64 = .ok (.aload 6, 2) := by decide +kernel
theorem dX5_go_66 : decode cX5_go 66 = .ok (.getfield 71, 3) := by decide +kernel
theorem dX5_go_69 : decode cX5_go 69 = .ok (.if_icmp .ne 7, 3) := by decide +kernel
theorem dX5_go_72 : decode cX5_go 72 = .ok (.iconst 1, 1) := by decide +kernel
theorem dX5_go_73 : decode cX5_go 73 = .ok (.goto 4, 3) := by decide +kernel
theorem dX5_go_76 : decode cX5_go 76 = .ok (.iconst 0, 1) := by decide +kernel
theorem dX5_go_77 : decode cX5_go 77 = .ok (.istore 10, 2) := by decide +kernel
theorem dX5_go_79 : decode cX5_go 79 = .ok (.aload_n 0, 1) := by decide +kernel
theorem dX5_go_80 : decode cX5_go 80 = .ok (.getfield 12, 3) := by decide +kernel
theorem dX5_go_83 : decode cX5_go 83 = .ok (.dup, 1) := by decide +kernel
theorem dX5_go_84 : decode cX5_go 84 = .ok (.getfield 72, 3) := by decide +kernel
theorem dX5_go_87 : decode cX5_go 87 = .ok (.iload 10, 2) := by decide +kernel
theorem dX5_go_89 : decode cX5_go 89 = .ok (.ifCond .eq 11, 3) := by decide +kernel
theorem dX5_go_92 : decode cX5_go 92 = .ok (.bipush 100, 2) := by decide +kernel
theorem dX5_go_94 : decode cX5_go 94 = .ok (.iload 9, 2) := by decide +kernel
theorem dX5_go_96 : decode cX5_go 96 = .ok (.imul, 1) := by decide +kernel
theorem dX5_go_97 : decode cX5_go 97 = .ok (.goto 4, 3) := by decide +kernel
theorem dX5_go_100 : decode cX5_go 100 = .ok (.iconst 0, 1) := by decide +kernel
theorem dX5_go_101 : decode cX5_go 101 = .ok (.iadd, 1) := by decide +kernel
theorem dX5_go_102 : decode cX5_go 102 = .ok (.putfield 72, 3) := by decide +kernel
theorem dX5_go_105 : decode cX5_go 105 = .ok (.goto 95, 3) := by decide +kernel
theorem dX5_go_108 : decode cX5_go 108 = .ok (.iload 8, 2) := by decide +kernel
theorem dX5_go_110 : decode cX5_go 110 = .ok (.invokestatic 75, 3) := by decide +kernel
theorem dX5_go_113 : decode cX5_go 113 = .ok (.ifCond .eq 13, 3) := by decide +kernel
theorem dX5_go_116 : decode cX5_go 116 = .ok (.iload 4, 2) := by decide +kernel
theorem dX5_go_118 : decode cX5_go 118 = .ok (.iload 8, 2) := by decide +kernel
theorem dX5_go_120 : decode cX5_go 120 = .ok (.invokestatic 79, 3) := by decide +kernel
theorem dX5_go_123 : decode cX5_go 123 = .ok (.goto 4, 3) := by decide +kernel
theorem dX5_go_126 : decode cX5_go 126 = .ok (.iconst 4, 1) := by decide +kernel
theorem dX5_go_127 : decode cX5_go 127 = .ok (.istore 10, 2) := by decide +kernel
theorem dX5_go_129 : decode cX5_go 129 = .ok (.iload 5, 2) := by decide +kernel
theorem dX5_go_131 : decode cX5_go 131 = .ok (.ifCond .ne 8, 3) := by decide +kernel
theorem dX5_go_134 : decode cX5_go 134 = .ok (.iload 9, 2) := by decide +kernel
theorem dX5_go_136 : decode cX5_go 136 = .ok (.goto 5, 3) := by decide +kernel
theorem dX5_go_139 : decode cX5_go 139 = .ok (.iload 5, 2) := by decide +kernel
theorem dX5_go_141 : decode cX5_go 141 = .ok (.istore 11, 2) := by decide +kernel
theorem dX5_go_143 : decode cX5_go 143 = .ok (.iload_n 2, 1) := by decide +kernel
theorem dX5_go_144 : decode cX5_go 144 = .ok (.aload_n 0, 1) := by decide +kernel
theorem dX5_go_145 : decode cX5_go 145 = .ok (.getfield 36, 3) := by decide +kernel
theorem dX5_go_148 : decode cX5_go 148 = .ok (.aload 6, 2) := by decide +kernel
theorem dX5_go_150 : decode cX5_go 150 = .ok (.getfield 83, 3) := by decide +kernel
theorem dX5_go_153 : decode cX5_go 153 = .ok (.iload 7, 2) := by decide +kernel
theorem dX5_go_155 : decode cX5_go 155 = .ok (.invokestatic 64, 3) := by decide +kernel
theorem dX5_go_158 : decode cX5_go 158 = .ok (.iadd, 1) := by decide +kernel
theorem dX5_go_159 : decode cX5_go 159 = .ok (.invokestatic 86, 3) := by decide +kernel
theorem dX5_go_162 : decode cX5_go 162 = .ok (.istore 12, 2) := by decide +kernel
theorem dX5_go_164 : decode cX5_go 164 = .ok (.aload_n 0, 1) := by decide +kernel
theorem dX5_go_165 : decode cX5_go 165 = .ok (.getfield 36, 3) := by decide +kernel
theorem dX5_go_168 : decode cX5_go 168 = .ok (.istore 13, 2) := by decide +kernel
theorem dX5_go_170 : decode cX5_go 170 = .ok (.iload 13, 2) := by decide +kernel
theorem dX5_go_172 : decode cX5_go 172 = .ok (.iload 12, 2) := by decide +kernel
theorem dX5_go_174 : decode cX5_go 174 = .ok (.if_icmp .ge 26, 3) := by decide +kernel
theorem dX5_go_177 : decode cX5_go 177 = .ok (.aload_n 0, 1) := by decide +kernel
theorem dX5_go_178 : decode cX5_go 178 = .ok (.iload 10, 2) := by decide +kernel
theorem dX5_go_180 : decode cX5_go 180 = .ok (.iload 11, 2) := by decide +kernel
theorem dX5_go_182 : decode cX5_go 182 = .ok (.aload_n 1, 1) := by decide +kernel
theorem dX5_go_183 : decode cX5_go 183 = .ok (.getfield 91, 3) := by decide +kernel
theorem dX5_go_186 : decode cX5_go 186 = .ok (.iload 10, 2) := by decide +kernel
theorem dX5_go_188 : decode cX5_go 188 = .ok (.invokestatic 64, 3) := by decide +kernel
theorem dX5_go_191 : decode cX5_go 191 = .ok (.invokevirtual 94, 3) := by decide +kernel
theorem dX5_go_194 : decode cX5_go 194 = .ok (.iinc 13 1, 3) := by decide +kernel
theorem dX5_go_197 : decode cX5_go 197 = .ok (.goto (-27), 3) := by decide +kernel
theorem dX5_go_200 : decode cX5_go 200 = .ok (.iinc 7 1, 3) := by decide +kernel
theorem dX5_go_203 : decode cX5_go 203 = .ok (.goto (-188), 3) := by decide +kernel
theorem dX5_go_206 : decode cX5_go 206 = .ok (.return_, 1) := by decide +kernel
theorem dX5_begin_0 : decode cX5_begin 0 = .ok (.aload_n 0, 1) := by decide +kernel
theorem dX5_begin_1 : decode cX5_begin 1 = .ok (.getfield 12, 3) := by decide +kernel
theorem dX5_begin_4 : decode cX5_begin 4 = .ok (.aload_n 1, 1) := by decide +kernel
theorem dX5_begin_5 : decode cX5_begin 5 = .ok (.iconst 0, 1) := by decide +kernel
theorem dX5_begin_6 : decode cX5_begin 6 = .ok (.invokevirtual 98, 3) := by decide +kernel
theorem dX5_begin_9 : decode cX5_begin 9 = .ok (.iload_n 2, 1) := by decide +kernel
theorem dX5_begin_10 : decode cX5_begin 10 = .ok (.invokevirtual 102, 3) := by decide +kernel
theorem dX5_begin_13 : decode cX5_begin 13 = .ok (.aload_n 0, 1) := by decide +kernel
theorem dX5_begin_14 : decode cX5_begin 14 = .ok (.getfield 21, 3) := by decide +kernel
theorem dX5_begin_17 : decode cX5_begin 17 = .ok (.aload_n 1, 1) := by decide +kernel
theorem dX5_begin_18 : decode cX5_begin 18 = .ok (.invokevirtual 105, 3) := by decide +kernel
theorem dX5_begin_21 : decode cX5_begin 21 = .ok (.aload_n 0, 1) := by decide +kernel
theorem dX5_begin_22 : decode cX5_begin 22 = .ok (.getfield 28, 3) := by decide +kernel
theorem dX5_begin_25 : decode cX5_begin 25 = .ok (.invokevirtual 108, 3) := by decide +kernel
theorem dX5_begin_28 : decode cX5_begin 28 = .ok (.aload_n 0, 1) := by decide +kernel
theorem dX5_begin_29 : decode cX5_begin 29 = .ok (.iconst 0, 1) := by decide +kernel
theorem dX5_begin_30 : decode cX5_begin 30 = .ok (.putfield 36, 3) := by decide +kernel
theorem dX5_begin_33 : decode cX5_begin 33 = .ok (.aload_n 0, 1) := by decide +kernel
theorem dX5_begin_34 : decode cX5_begin 34 = .ok (.iconst 0, 1) := by decide +kernel
theorem dX5_begin_35 : decode cX5_begin 35 = .ok (.putfield 40, 3) := by decide +kernel
theorem dX5_begin_38 : decode cX5_begin 38 = .ok (.aload_n 0, 1) := by decide +kernel
theorem dX5_begin_39 : decode cX5_begin 39 = .ok (.bipush (-6), 2) := by decide +kernel
theorem dX5_begin_41 : decode cX5_begin 41 = .ok (.putfield 43, 3) := by decide +kernel
theorem dX5_begin_44 : decode cX5_begin 44 = .ok (.return_, 1) := by decide +kernel
theorem dX5_passMinute_0 : decode cX5_passMinute 0 = .ok (.aload_n 0, 1) := by decide +kernel
theorem dX5_passMinute_1 : decode cX5_passMinute 1 = .ok (.getfield 21, 3) := by decide +kernel
theorem dX5_passMinute_4 : decode cX5_passMinute 4 = .ok (.invokevirtual 110, 3) := by decide +kernel
theorem dX5_passMinute_7 : decode cX5_passMinute 7 = .ok (.istore 4, 2) := by decide +kernel
theorem dX5_passMinute_9 : decode cX5_passMinute 9 = .ok (.iload_n 1, 1) := by decide +kernel
theorem dX5_passMinute_10 : decode cX5_passMinute 10 = .ok (.iconst 4, 1) := by decide +kernel
theorem dX5_passMinute_11 : decode cX5_passMinute 11 = .ok (.if_icmp .eq 11, 3) := by decide +kernel
theorem dX5_passMinute_14 : decode cX5_passMinute 14 = .ok (.iload_n 2, 1) := by decide +kernel
theorem dX5_passMinute_15 : decode cX5_passMinute 15 = .ok (.ifCond .le 7, 3) := by decide +kernel
theorem dX5_passMinute_18 : decode cX5_passMinute 18 = .ok (.iconst 1, 1) := by decide +kernel
theorem dX5_passMinute_19 : decode cX5_passMinute 19 = .ok (.goto 4, 3) := by decide +kernel
theorem dX5_passMinute_22 : decode cX5_passMinute 22 = .ok (.iconst 0, 1) := by decide +kernel
theorem dX5_passMinute_23 : decode cX5_passMinute 23 = .ok (.istore 5, 2) := by decide +kernel
theorem dX5_passMinute_25 : decode cX5_passMinute 25 = .ok (.iload 5, 2) := by decide +kernel
theorem dX5_passMinute_27 : decode cX5_passMinute 27 = .ok (.ifCond .eq 26, 3) := by decide +kernel
theorem dX5_passMinute_30 : decode cX5_passMinute 30 = .ok (.iload 4, 2) := by decide +kernel
theorem dX5_passMinute_32 : decode cX5_passMinute 32 = .ok (.iconst 4, 1) := by decide +kernel
theorem dX5_passMinute_33 : decode cX5_passMinute 33 = .ok (.iload_n 2, 1) := by decide +kernel
theorem dX5_passMinute_34 : decode cX5_passMinute 34 = .ok (.imul, 1) := by decide +kernel
theorem dX5_passMinute_35 : decode cX5_passMinute 35 = .ok (.iadd, 1) := by decide +kernel
theorem dX5_passMinute_36 : decode cX5_passMinute 36 = .ok (.iload_n 3, 1) := by decide +kernel
theorem dX5_passMinute_37 : decode cX5_passMinute 37 = .ok (.aload_n 0, 1) := by decide +kernel
theorem dX5_passMinute_38 : decode cX5_passMinute 38 = .ok (.getfield 28, 3) := by decide +kernel
theorem dX5_passMinute_41 : decode cX5_passMinute 41 = .ok (.iload_n 1, 1) := by decide +kernel
theorem dX5_passMinute_42 : decode cX5_passMinute 42 = .ok (.invokevirtual 114, 3) := by decide +kernel
theorem dX5_passMinute_45 : decode cX5_passMinute 45 = .ok (.isub, 1) := by decide +kernel
theorem dX5_passMinute_46 : decode cX5_passMinute 46 = .ok (.if_icmp .gt 7, 3) := by decide +kernel
theorem dX5_passMinute_49 : decode cX5_passMinute 49 = .ok (.iconst 1, 1) := by decide +kernel
theorem dX5_passMinute_50 : decode cX5_passMinute 50 = .ok (.goto 4, 3) := by decide +kernel
theorem dX5_passMinute_53 : decode cX5_passMinute 53 = .ok (.iconst 0, 1) := by decide +kernel
theorem dX5_passMinute_54 : decode cX5_passMinute 54 = .ok (.istore 6, 2) := by decide +kernel
theorem dX5_passMinute_56 : decode cX5_passMinute 56 = .ok (.iload 5, 2) := by decide +kernel
theorem dX5_passMinute_58 : decode cX5_passMinute 58 = .ok (.ifCond .eq 40, 3) := by decide +kernel
theorem dX5_passMinute_61 : decode cX5_passMinute 61 = .ok (.iload 6, 2) := by decide +kernel
theorem dX5_passMinute_63 : decode cX5_passMinute 63 = .ok (.ifCond .ne 35, 3) := by decide +kernel
theorem dX5_passMinute_66 : decode cX5_passMinute 66 = .ok (.aload_n 0, 1) := by decide +kernel
theorem dX5_passMinute_67 : decode cX5_passMinute 67 = .ok (.aload_n 0, 1) := by decide +kernel
theorem dX5_passMinute_68 : decode cX5_passMinute 68 = .ok (.getfield 40, 3) := by decide +kernel
theorem dX5_passMinute_71 : decode cX5_passMinute 71 = .ok (.ifCond .ne 10, 3) := by decide +kernel
theorem dX5_passMinute_74 : decode cX5_passMinute 74 = .ok (.aload_n 0, 1) := by decide +kernel
theorem dX5_passMinute_75 : decode cX5_passMinute 75 = .ok (.getfield 36, 3) := by decide +kernel
theorem dX5_passMinute_78 : decode cX5_passMinute 78 = .ok (.goto 7, 3) := by decide +kernel
theorem dX5_passMinute_81 : decode cX5_passMinute 81 = .ok (.aload_n 0, 1) := by decide +kernel
theorem dX5_passMinute_82 : decode cX5_passMinute 82 = .ok (.getfield 43, 3) := by decide +kernel
theorem dX5_passMinute_85 : decode cX5_passMinute 85 = .ok (.putfield 43, 3) := by decide +kernel
theorem dX5_passMinute_88 : decode cX5_passMinute 88 = .ok (.aload_n 0, 1) := by decide +kernel
theorem dX5_passMinute_89 : decode cX5_passMinute 89 = .ok (.dup, 1) := by decide +kernel
theorem dX5_passMinute_90 : decode cX5_passMinute 90 = .ok (.getfield 40, 3) := by decide +kernel
theorem dX5_passMinute_93 : decode cX5_passMinute 93 = .ok (.iconst 1, 1) := by decide +kernel
theorem dX5_passMinute_94 : decode cX5_passMinute 94 = .ok (.iadd, 1) := by decide +kernel
theorem dX5_passMinute_95 : decode cX5_passMinute 95 = .ok (.putfield 40, 3) := by decide +kernel
theorem dX5_passMinute_98 : decode cX5_passMinute 98 = .ok (.iload 6, 2) := by decide +kernel
theorem dX5_passMinute_100 : decode cX5_passMinute 100 = .ok (.ifCond .eq 7, 3) := by decide +kernel
theorem dX5_passMinute_103 : decode cX5_passMinute 103 = .ok (.iload_n 2, 1) := by decide +kernel
theorem dX5_passMinute_104 : decode cX5_passMinute 104 = .ok (.goto 4, 3) := by decide +kernel
theorem dX5_passMinute_107 : decode cX5_passMinute 107 = .ok (.iconst 0, 1) := by decide +kernel
theorem dX5_passMinute_108 : decode cX5_passMinute 108 = .ok (.istore 7, 2) := by decide +kernel
theorem dX5_passMinute_110 : decode cX5_passMinute 110 = .ok (.aload_n 0, 1) := by decide +kernel
theorem dX5_passMinute_111 : decode cX5_passMinute 111 = .ok (.getfield 12, 3) := by decide +kernel
theorem dX5_passMinute_114 : decode cX5_passMinute 114 = .ok (.invokevirtual 117, 3) := by decide +kernel
theorem dX5_passMinute_117 : decode cX5_passMinute 117 = .ok (.aload_n 0, 1) := by decide +kernel
theorem dX5_passMinute_118 : decode cX5_passMinute 118 = .ok (.getfield 21, 3) := by decide +kernel
theorem dX5_passMinute_121 : decode cX5_passMinute 121 = .ok (.aload_n 0, 1) := by decide +kernel
theorem dX5_passMinute_122 : decode cX5_passMinute 122 = .ok (.getfield 12, 3) := by decide +kernel
theorem dX5_passMinute_125 : decode cX5_passMinute 125 = .ok (.getfield 120, 3) := by decide +kernel
theorem dX5_passMinute_128 : decode cX5_passMinute 128 = .ok (.invokevirtual 123, 3) := by decide +kernel
theorem dX5_passMinute_131 : decode cX5_passMinute 131 = .ok (.istore 8, 2) := by decide +kernel
theorem dX5_passMinute_133 : decode cX5_passMinute 133 = .ok (.aload_n 0, 1) := by decide +kernel
theorem dX5_passMinute_134 : decode cX5_passMinute 134 = .ok (.getfield 12, 3) := by decide +kernel
theorem dX5_passMinute_137 : decode cX5_passMinute 137 = .ok (.iload 8, 2) := by decide +kernel
theorem dX5_passMinute_139 : decode cX5_passMinute 139 = .ok (.invokevirtual 126, 3) := by decide +kernel
theorem dX5_passMinute_142 : decode cX5_passMinute 142 = .ok (.aload_n 0, 1) := by decide +kernel
theorem dX5_passMinute_143 : decode cX5_passMinute 143 = .ok (.getfield 21, 3) := by decide +kernel
theorem dX5_passMinute_146 : decode cX5_passMinute 146 = .ok (.iload 8, 2) := by decide +kernel
theorem dX5_passMinute_148 : decode cX5_passMinute 148 = .ok (.invokevirtual 130, 3) := by decide +kernel
theorem dX5_passMinute_151 : decode cX5_passMinute 151 = .ok (.aload_n 0, 1) := by decide +kernel
theorem dX5_passMinute_152 : decode cX5_passMinute 152 = .ok (.getfield 21, 3) := by decide +kernel
theorem dX5_passMinute_155 : decode cX5_passMinute 155 = .ok (.iload 7, 2) := by decide +kernel
theorem dX5_passMinute_157 : decode cX5_passMinute 157 = .ok (.invokevirtual 133, 3) := by decide +kernel
theorem dX5_passMinute_160 : decode cX5_passMinute 160 = .ok (.aload_n 0, 1) := by decide +kernel
theorem dX5_passMinute_161 : decode cX5_passMinute 161 = .ok (.getfield 21, 3) := by decide +kernel
theorem dX5_passMinute_164 : decode cX5_passMinute 164 = .ok (.iload 7, 2) := by decide +kernel
theorem dX5_passMinute_166 : decode cX5_passMinute 166 = .ok (.iload 4, 2) := by decide +kernel
theorem dX5_passMinute_168 : decode cX5_passMinute 168 = .ok (.invokevirtual 136, 3) := by decide +kernel
theorem dX5_passMinute_171 : decode cX5_passMinute 171 = .ok (.aload_n 0, 1) := by decide +kernel
theorem dX5_passMinute_172 : decode cX5_passMinute 172 = .ok (.getfield 28, 3) := by decide +kernel
theorem dX5_passMinute_175 : decode cX5_passMinute 175 = .ok (.iload 6, 2) := by decide +kernel
theorem dX5_passMinute_177 : decode cX5_passMinute 177 = .ok (.ifCond .eq 7, 3) := by decide +kernel
theorem dX5_passMinute_180 : decode cX5_passMinute 180 = .ok (.iload_n 1, 1) := by decide +kernel
theorem dX5_passMinute_181 : decode cX5_passMinute 181 = .ok (.goto 4, 3) := by decide +kernel
theorem dX5_passMinute_184 : decode cX5_passMinute 184 = .ok (.iconst 4, 1) := by decide +kernel
theorem dX5_passMinute_185 : decode cX5_passMinute 185 = .ok (.iload 7, 2) := by decide +kernel
theorem dX5_passMinute_187 : decode cX5_passMinute 187 = .ok (.invokevirtual 139, 3) := by decide +kernel
theorem dX5_passMinute_190 : decode cX5_passMinute 190 = .ok (.aload_n 0, 1) := by decide +kernel
theorem dX5_passMinute_191 : decode cX5_passMinute 191 = .ok (.getfield 32, 3) := by decide +kernel
theorem dX5_passMinute_194 : decode cX5_passMinute 194 = .ok (.aload_n 0, 1) := by decide +kernel
theorem dX5_passMinute_195 : decode cX5_passMinute 195 = .ok (.getfield 36, 3) := by decide +kernel
theorem dX5_passMinute_198 : decode cX5_passMinute 198 = .ok (.aload_n 0, 1) := by decide +kernel
theorem dX5_passMinute_199 : decode cX5_passMinute 199 = .ok (.getfield 21, 3) := by decide +kernel
theorem dX5_passMinute_202 : decode cX5_passMinute 202 = .ok (.invokevirtual 110, 3) := by decide +kernel
theorem dX5_passMinute_205 : decode cX5_passMinute 205 = .ok (.invokestatic 142, 3) := by decide +kernel
theorem dX5_passMinute_208 : decode cX5_passMinute 208 = .ok (.aload_n 0, 1) := by decide +kernel
theorem dX5_passMinute_209 : decode cX5_passMinute 209 = .ok (.dup, 1) := by decide +kernel
theorem dX5_passMinute_210 : decode cX5_passMinute 210 = .ok (.getfield 36, 3) := by decide +kernel
theorem dX5_passMinute_213 : decode cX5_passMinute 213 = .ok (.iconst 1, 1) := by decide +kernel
theorem dX5_passMinute_214 : decode cX5_passMinute 214 = .ok (.iadd, 1) := by decide +kernel
theorem dX5_passMinute_215 : decode cX5_passMinute 215 = .ok (.putfield 36, 3) := by decide +kernel
theorem dX5_passMinute_218 : decode cX5_passMinute 218 = .ok (.return_, 1) := by decide +kernel
theorem dX5_number_0 : decode cX5_number 0 = .ok (.iload_n 1, 1) := by decide +kernel
theorem dX5_number_1 : decode cX5_number 1 = .ok (.tableswitch 157 0 10 #[59, 67, 75, 83, 91, 103, 114, 122, 130, 138, 146], 59) := by decide +kernel
theorem dX5_number_60 : decode cX5_number 60 = .ok (.aload_n 0, 1) := by decide +kernel
theorem dX5_number_61 : decode cX5_number 61 = .ok (.getfield 12, 3) := by decide +kernel
theorem dX5_number_64 : decode cX5_number 64 = .ok (.getfield 146, 3) := by decide +kernel
theorem dX5_number_67 : decode cX5_number 67 = .ok (.ireturn, 1) := by decide +kernel
theorem dX5_number_68 : decode cX5_number 68 = .ok (.aload_n 0, 1) := by decide +kernel
theorem dX5_number_69 : decode cX5_number 69 = .ok (.getfield 12, 3) := by decide +kernel
theorem dX5_number_72 : decode cX5_number 72 = .ok (.getfield 72, 3) := by decide +kernel
theorem dX5_number_75 : decode cX5_number 75 = .ok (.ireturn, 1) := by decide +kernel
theorem dX5_number_76 : decode cX5_number 76 = .ok (.aload_n 0, 1) := by decide +kernel
theorem dX5_number_77 : decode cX5_number 77 = .ok (.getfield 12, 3) := by decide +kernel
theorem dX5_number_80 : decode cX5_number 80 = .ok (.getfield 149, 3) := by decide +kernel
theorem dX5_number_83 : decode cX5_number 83 = .ok (.ireturn, 1) := by decide +kernel
theorem dX5_number_84 : decode cX5_number 84 = .ok (.aload_n 0, 1) := by decide +kernel
theorem dX5_number_85 : decode cX5_number 85 = .ok (.getfield 12, 3) := by decide +kernel
theorem dX5_number_88 : decode cX5_number 88 = .ok (.getfield 120, 3) := by decide +kernel
theorem dX5_number_91 : decode cX5_number 91 = .ok (.ireturn, 1) := by decide +kernel
theorem dX5_number_92 : decode cX5_number 92 = .ok (.aload_n 0, 1) := by decide +kernel
theorem dX5_number_93 : decode cX5_number 93 = .ok (.getfield 21, 3) := by decide +kernel
theorem dX5_number_96 : decode cX5_number 96 = .ok (.getfield 152, 3) := by decide +kernel
theorem dX5_number_99 : decode cX5_number 99 = .ok (.sipush 1000, 3) := by decide +kernel
theorem dX5_number_102 : decode cX5_number 102 = .ok (.iadd, 1) := by decide +kernel
theorem dX5_number_103 : decode cX5_number 103 = .ok (.ireturn, 1) := by decide +kernel
theorem dX5_number_104 : decode cX5_number 104 = .ok (.aload_n 0, 1) := by decide +kernel
theorem dX5_number_105 : decode cX5_number 105 = .ok (.getfield 21, 3) := by decide +kernel
theorem dX5_number_108 : decode cX5_number 108 = .ok (.getfield 155, 3) := by decide +kernel
theorem dX5_number_111 : decode cX5_number 111 = .ok (.getfield 159, 3) := by decide +kernel
theorem dX5_number_114 : decode cX5_number 114 = .ok (.ireturn, 1) := by decide +kernel
theorem dX5_number_115 : decode cX5_number 115 = .ok (.aload_n 0, 1) := by decide +kernel
theorem dX5_number_116 : decode cX5_number 116 = .ok (.getfield 21, 3) := by decide +kernel
theorem dX5_number_119 : decode cX5_number 119 = .ok (.getfield 164, 3) := by decide +kernel
theorem dX5_number_122 : decode cX5_number 122 = .ok (.ireturn, 1) := by decide +kernel
theorem dX5_number_123 : decode cX5_number 123 = .ok (.aload_n 0, 1) := by decide +kernel
theorem dX5_number_124 : decode cX5_number 124 = .ok (.getfield 21, 3) := by decide +kernel
theorem dX5_number_127 : decode cX5_number 127 = .ok (.getfield 167, 3) := by decide +kernel
theorem dX5_number_130 : decode cX5_number 130 = .ok (.ireturn, 1) := by decide +kernel
theorem dX5_number_131 : decode cX5_number 131 = .ok (.aload_n 0, 1) := by decide +kernel
theorem dX5_number_132 : decode cX5_number 132 = .ok (.getfield 21, 3) := by decide +kernel
theorem dX5_number_135 : decode cX5_number 135 = .ok (.invokevirtual 110, 3) := by decide +kernel
theorem dX5_number_138 : decode cX5_number 138 = .ok (.ireturn, 1) := by decide +kernel
theorem dX5_number_139 : decode cX5_number 139 = .ok (.aload_n 0, 1) := by decide +kernel
theorem dX5_number_140 : decode cX5_number 140 = .ok (.getfield 21, 3) := by decide +kernel
theorem dX5_number_143 : decode cX5_number 143 = .ok (.getfield 170, 3) := by decide +kernel
theorem dX5_number_146 : decode cX5_number 146 = .ok (.ireturn, 1) := by decide +kernel
theorem dX5_number_147 : decode cX5_number 147 = .ok (.aload_n 0, 1) := by decide +kernel
theorem dX5_number_148 : decode cX5_number 148 = .ok (.getfield 21, 3) := by decide +kernel
theorem dX5_number_151 : decode cX5_number 151 = .ok (.getfield 155, 3) := by decide +kernel
theorem dX5_number_154 : decode cX5_number 154 = .ok (.invokevirtual 173, 3) := by decide +kernel
theorem dX5_number_157 : decode cX5_number 157 = .ok (.ireturn, 1) := by decide +kernel
theorem dX5_number_158 : decode cX5_number 158 = .ok (.aload_n 0, 1) := by decide +kernel
theorem dX5_number_159 : decode cX5_number 159 = .ok (.getfield 21, 3) := by decide +kernel
theorem dX5_number_162 : decode cX5_number 162 = .ok (.invokevirtual 176, 3) := by decide +kernel
theorem dX5_number_165 : decode cX5_number 165 = .ok (.ireturn, 1) := by decide +kernel
theorem dX6_init_0 : decode cX6_init 0 = .ok (.aload_n 0, 1) := by decide +kernel
theorem dX6_init_1 : decode cX6_init 1 = .ok (.invokespecial 3, 3) := by decide +kernel
theorem dX6_init_4 : decode cX6_init 4 = .ok (.aload_n 0, 1) := by decide +kernel
theorem dX6_init_5 : decode cX6_init 5 = .ok (.bipush 40, 2) := by decide +kernel
theorem dX6_init_7 : decode cX6_init 7 = .ok (.newarray .int, 2) := by decide +kernel
theorem dX6_init_9 : decode cX6_init 9 = .ok (.putfield 9, 3) := by decide +kernel
theorem dX6_init_12 : decode cX6_init 12 = .ok (.aload_n 0, 1) := by decide +kernel
theorem dX6_init_13 : decode cX6_init 13 = .ok (.iconst 0, 1) := by decide +kernel
theorem dX6_init_14 : decode cX6_init 14 = .ok (.putfield 15, 3) := by decide +kernel
theorem dX6_init_17 : decode cX6_init 17 = .ok (.return_, 1) := by decide +kernel
theorem dX6_add_0 : decode cX6_add 0 = .ok (.aload_n 0, 1) := by decide +kernel
theorem dX6_add_1 : decode cX6_add 1 = .ok (.getfield 9, 3) := by decide +kernel
theorem dX6_add_4 : decode cX6_add 4 = .ok (.aload_n 0, 1) := by decide +kernel
theorem dX6_add_5 : decode cX6_add 5 = .ok (.getfield 15, 3) := by decide +kernel
theorem dX6_add_8 : decode cX6_add 8 = .ok (.iload_n 1, 1) := by decide +kernel
theorem dX6_add_9 : decode cX6_add 9 = .ok (.invokestatic 19, 3) := by decide +kernel
theorem dX6_add_12 : decode cX6_add 12 = .ok (.aload_n 0, 1) := by decide +kernel
theorem dX6_add_13 : decode cX6_add 13 = .ok (.dup, 1) := by decide +kernel
theorem dX6_add_14 : decode cX6_add 14 = .ok (.getfield 15, 3) := by decide +kernel
theorem dX6_add_17 : decode cX6_add 17 = .ok (.iconst 1, 1) := by decide +kernel
theorem dX6_add_18 : decode cX6_add 18 = .ok (.iadd, 1) := by decide +kernel
theorem dX6_add_19 : decode cX6_add 19 = .ok (.putfield 15, 3) := by decide +kernel
theorem dX6_add_22 : decode cX6_add 22 = .ok (.return_, 1) := by decide +kernel
theorem dX6_clear_0 : decode cX6_clear 0 = .ok (.aload_n 0, 1) := by decide +kernel
theorem dX6_clear_1 : decode cX6_clear 1 = .ok (.iconst 0, 1) := by decide +kernel
theorem dX6_clear_2 : decode cX6_clear 2 = .ok (.putfield 15, 3) := by decide +kernel
theorem dX6_clear_5 : decode cX6_clear 5 = .ok (.return_, 1) := by decide +kernel
theorem dX6_codeAt_0 : decode cX6_codeAt 0 = .ok (.aload_n 0, 1) := by decide +kernel
theorem dX6_codeAt_1 : decode cX6_codeAt 1 = .ok (.getfield 9, 3) := by decide +kernel
theorem dX6_codeAt_4 : decode cX6_codeAt 4 = .ok (.iload_n 1, 1) := by decide +kernel
theorem dX6_codeAt_5 : decode cX6_codeAt 5 = .ok (.invokestatic 23, 3) := by decide +kernel
theorem dX6_codeAt_8 : decode cX6_codeAt 8 = .ok (.ireturn, 1) := by decide +kernel
theorem dX6_digitAt_0 : decode cX6_digitAt 0 = .ok (.aload_n 0, 1) := by decide +kernel
theorem dX6_digitAt_1 : decode cX6_digitAt 1 = .ok (.iload_n 1, 1) := by decide +kernel
theorem dX6_digitAt_2 : decode cX6_digitAt 2 = .ok (.invokevirtual 27, 3) := by decide +kernel
theorem dX6_digitAt_5 : decode cX6_digitAt 5 = .ok (.bipush 48, 2) := by decide +kernel
theorem dX6_digitAt_7 : decode cX6_digitAt 7 = .ok (.isub, 1) := by decide +kernel
theorem dX6_digitAt_8 : decode cX6_digitAt 8 = .ok (.ireturn, 1) := by decide +kernel
theorem dX6_isDigitAt_0 : decode cX6_isDigitAt 0 = .ok (.aload_n 0, 1) := by decide +kernel
theorem dX6_isDigitAt_1 : decode cX6_isDigitAt 1 = .ok (.iload_n 1, 1) := by decide +kernel
theorem dX6_isDigitAt_2 : decode cX6_isDigitAt 2 = .ok (.invokevirtual 31, 3) := by decide +kernel
theorem dX6_isDigitAt_5 : decode cX6_isDigitAt 5 = .ok (.iload_n 2, 1) := by decide +kernel
theorem dX6_isDigitAt_6 : decode cX6_isDigitAt 6 = .ok (.if_icmp .lt 17, 3) := by decide +kernel
theorem dX6_isDigitAt_9 : decode cX6_isDigitAt 9 = .ok (.aload_n 0, 1) := by decide +kernel
theorem dX6_isDigitAt_10 : decode cX6_isDigitAt 10 = .ok (.iload_n 1, 1) := by decide +kernel
theorem dX6_isDigitAt_11 : decode cX6_isDigitAt 11 = .ok (.invokevirtual 31, 3) := by decide +kernel
theorem dX6_isDigitAt_14 : decode cX6_isDigitAt 14 = .ok (.bipush 9, 2) := by decide +kernel
theorem dX6_isDigitAt_16 : decode cX6_isDigitAt 16 = .ok (.if_icmp .gt 7, 3) := by decide +kernel
theorem dX6_isDigitAt_19 : decode cX6_isDigitAt 19 = .ok (.iconst 1, 1) := by decide +kernel
theorem dX6_isDigitAt_20 : decode cX6_isDigitAt 20 = .ok (.goto 4, 3) := by decide +kernel
theorem dX6_isDigitAt_23 : decode cX6_isDigitAt 23 = .ok (.iconst 0, 1) := by decide +kernel
theorem dX6_isDigitAt_24 : decode cX6_isDigitAt 24 = .ok (.ireturn, 1) := by decide +kernel
theorem dX6_copyFrom_0 : decode cX6_copyFrom 0 = .ok (.aload_n 1, 1) := by decide +kernel
theorem dX6_copyFrom_1 : decode cX6_copyFrom 1 = .ok (.getfield 9, 3) := by decide +kernel
theorem dX6_copyFrom_4 : decode cX6_copyFrom 4 = .ok (.aload_n 0, 1) := by decide +kernel
theorem dX6_copyFrom_5 : decode cX6_copyFrom 5 = .ok (.getfield 9, 3) := by decide +kernel
theorem dX6_copyFrom_8 : decode cX6_copyFrom 8 = .ok (.invokestatic 34, 3) := by decide +kernel
theorem dX6_copyFrom_11 : decode cX6_copyFrom 11 = .ok (.aload_n 0, 1) := by decide +kernel
theorem dX6_copyFrom_12 : decode cX6_copyFrom 12 = .ok (.aload_n 1, 1) := by decide +kernel
theorem dX6_copyFrom_13 : decode cX6_copyFrom 13 = .ok (.getfield 15, 3) := by decide +kernel
theorem dX6_copyFrom_16 : decode cX6_copyFrom 16 = .ok (.putfield 15, 3) := by decide +kernel
theorem dX6_copyFrom_19 : decode cX6_copyFrom 19 = .ok (.return_, 1) := by decide +kernel
theorem dX6_faultAsBox_0 : decode cX6_faultAsBox 0 = .ok (.iconst 0, 1) := by decide +kernel
theorem dX6_faultAsBox_1 : decode cX6_faultAsBox 1 = .ok (.istore_n 1, 1) := by decide +kernel
theorem dX6_faultAsBox_2 : decode cX6_faultAsBox 2 = .ok (.iload_n 1, 1) := by decide +kernel
theorem dX6_faultAsBox_3 : decode cX6_faultAsBox 3 = .ok (.aload_n 0, 1) := by decide +kernel
theorem dX6_faultAsBox_4 : decode cX6_faultAsBox 4 = .ok (.getfield 15, 3) := by decide +kernel
theorem dX6_faultAsBox_7 : decode cX6_faultAsBox 7 = .ok (.if_icmp .ge 20, 3) := by decide +kernel
theorem dX6_faultAsBox_10 : decode cX6_faultAsBox 10 = .ok (.aload_n 0, 1) := by decide +kernel
theorem dX6_faultAsBox_11 : decode cX6_faultAsBox 11 = .ok (.iload_n 1, 1) := by decide +kernel
theorem dX6_faultAsBox_12 : decode cX6_faultAsBox 12 = .ok (.iconst 0, 1) := by decide +kernel
theorem dX6_faultAsBox_13 : decode cX6_faultAsBox 13 = .ok (.invokevirtual 38, 3) := by decide +kernel
theorem dX6_faultAsBox_16 : decode cX6_faultAsBox 16 = .ok (.ifCond .ne 5, 3) := by decide +kernel
theorem dX6_faultAsBox_19 : decode cX6_faultAsBox 19 = .ok (.iload_n 1, 1) := by decide +kernel
theorem dX6_faultAsBox_20 : decode cX6_faultAsBox 20 = .ok (.ireturn, 1) := by decide +kernel
theorem dX6_faultAsBox_21 : decode cX6_faultAsBox 21 = .ok (.iinc 1 1, 3) := by decide +kernel
theorem dX6_faultAsBox_24 : decode cX6_faultAsBox 24 = .ok (.goto (-22), 3) := by decide +kernel
theorem dX6_faultAsBox_27 : decode cX6_faultAsBox 27 = .ok (.aload_n 0, 1) := by decide +kernel
theorem dX6_faultAsBox_28 : decode cX6_faultAsBox 28 = .ok (.getfield 15, 3) := by decide +kernel
theorem dX6_faultAsBox_31 : decode cX6_faultAsBox 31 = .ok (.ifCond .ne 7, 3) := by decide +kernel
theorem dX6_faultAsBox_34 : decode cX6_faultAsBox 34 = .ok (.iconst 0, 1) := by decide +kernel
theorem dX6_faultAsBox_35 : decode cX6_faultAsBox 35 = .ok (.goto 5, 3) := by decide +kernel
theorem dX6_faultAsBox_38 : decode cX6_faultAsBox 38 = .ok (.bipush (-6), 2) := by decide +kernel
theorem dX6_faultAsBox_40 : decode cX6_faultAsBox 40 = .ok (.ireturn, 1) := by decide +kernel
theorem dX6_faultAsPlan_0 : decode cX6_faultAsPlan 0 = .ok (.iconst 0, 1) := by decide +kernel
theorem dX6_faultAsPlan_1 : decode cX6_faultAsPlan 1 = .ok (.istore_n 1, 1) := by decide +kernel
theorem dX6_faultAsPlan_2 : decode cX6_faultAsPlan 2 = .ok (.iconst 0, 1) := by decide +kernel
theorem dX6_faultAsPlan_3 : decode cX6_faultAsPlan 3 = .ok (.istore_n 2, 1) := by decide +kernel
theorem dX6_faultAsPlan_4 : decode cX6_faultAsPlan 4 = .ok (.iload_n 2, 1) := by decide +kernel
theorem dX6_faultAsPlan_5 : decode cX6_faultAsPlan 5 = .ok (.aload_n 0, 1) := by decide +kernel
theorem dX6_faultAsPlan_6 : decode cX6_faultAsPlan 6 = .ok (.getfield 15, 3) := by decide +kernel
theorem dX6_faultAsPlan_9 : decode cX6_faultAsPlan 9 = .ok (.if_icmp .ge 24, 3) := by decide +kernel
theorem dX6_faultAsPlan_12 : decode cX6_faultAsPlan 12 = .ok (.aload_n 0, 1) := by decide +kernel
theorem dX6_faultAsPlan_13 : decode cX6_faultAsPlan 13 = .ok (.iload_n 1, 1) := by decide +kernel
theorem dX6_faultAsPlan_14 : decode cX6_faultAsPlan 14 = .ok (.iload_n 2, 1) := by decide +kernel
theorem dX6_faultAsPlan_15 : decode cX6_faultAsPlan 15 = .ok (.invokevirtual 42, 3) := by decide +kernel
theorem dX6_faultAsPlan_18 : decode cX6_faultAsPlan 18 = .ok (.istore_n 1, 1) := by decide +kernel
theorem dX6_faultAsPlan_19 : decode cX6_faultAsPlan 19 = .ok (.iload_n 1, 1) := by decide +kernel
theorem dX6_faultAsPlan_20 : decode cX6_faultAsPlan 20 = .ok (.bipush (-6), 2) := by decide +kernel
theorem dX6_faultAsPlan_22 : decode cX6_faultAsPlan 22 = .ok (.if_icmp .ne 5, 3) := by decide +kernel
theorem dX6_faultAsPlan_25 : decode cX6_faultAsPlan 25 = .ok (.iload_n 2, 1) := by decide +kernel
theorem dX6_faultAsPlan_26 : decode cX6_faultAsPlan 26 = .ok (.ireturn, 1) := by decide +kernel
theorem dX6_faultAsPlan_27 : decode cX6_faultAsPlan 27 = .ok (.iinc 2 1, 3) := by decide +kernel
theorem dX6_faultAsPlan_30 : decode cX6_faultAsPlan 30 = .ok (.goto (-26), 3) := by decide +kernel
theorem dX6_faultAsPlan_33 : decode cX6_faultAsPlan 33 = .ok (.iload_n 1, 1) := by decide +kernel
theorem dX6_faultAsPlan_34 : decode cX6_faultAsPlan 34 = .ok (.ifCond .ne 8, 3) := by decide +kernel
theorem dX6_faultAsPlan_37 : decode cX6_faultAsPlan 37 = .ok (.bipush (-6), 2) := by decide +kernel
theorem dX6_faultAsPlan_39 : decode cX6_faultAsPlan 39 = .ok (.goto 7, 3) := by decide +kernel
theorem dX6_faultAsPlan_42 : decode cX6_faultAsPlan 42 = .ok (.aload_n 0, 1) := by decide +kernel
theorem dX6_faultAsPlan_43 : decode cX6_faultAsPlan 43 = .ok (.getfield 15, 3) := by decide +kernel
theorem dX6_faultAsPlan_46 : decode cX6_faultAsPlan 46 = .ok (.ireturn, 1) := by decide +kernel
theorem dX6_dueBehind_0 : decode cX6_dueBehind 0 = .ok (.iload_n 1, 1) := by decide +kernel
theorem dX6_dueBehind_1 : decode cX6_dueBehind 1 = .ok (.tableswitch 68 0 2 #[27, 36, 52], 27) := by decide +kernel
theorem dX6_dueBehind_28 : decode cX6_dueBehind 28 = .ok (.aload_n 0, 1) := by decide +kernel
theorem dX6_dueBehind_29 : decode cX6_dueBehind 29 = .ok (.iload_n 2, 1) := by decide +kernel
theorem dX6_dueBehind_30 : decode cX6_dueBehind 30 = .ok (.invokevirtual 27, 3) := by decide +kernel
theorem dX6_dueBehind_33 : decode cX6_dueBehind 33 = .ok (.invokestatic 46, 3) := by decide +kernel
theorem dX6_dueBehind_36 : decode cX6_dueBehind 36 = .ok (.ireturn, 1) := by decide +kernel
theorem dX6_dueBehind_37 : decode cX6_dueBehind 37 = .ok (.aload_n 0, 1) := by decide +kernel
theorem dX6_dueBehind_38 : decode cX6_dueBehind 38 = .ok (.iload_n 2, 1) := by decide +kernel
theorem dX6_dueBehind_39 : decode cX6_dueBehind 39 = .ok (.iconst 0, 1) := by decide +kernel
theorem dX6_dueBehind_40 : decode cX6_dueBehind 40 = .ok (.invokevirtual 38, 3) := by decide +kernel
theorem dX6_dueBehind_43 : decode cX6_dueBehind 43 = .ok (.ifCond .eq 7, 3) := by decide +kernel
theorem dX6_dueBehind_46 : decode cX6_dueBehind 46 = .ok (.iconst 2, 1) := by decide +kernel
theorem dX6_dueBehind_47 : decode cX6_dueBehind 47 = .ok (.goto 5, 3) := by decide +kernel
theorem dX6_dueBehind_50 : decode cX6_dueBehind 50 = .ok (.bipush (-6), 2) := by decide +kernel
theorem dX6_dueBehind_52 : decode cX6_dueBehind 52 = .ok (.ireturn, 1) := by decide +kernel
theorem dX6_dueBehind_53 : decode cX6_dueBehind 53 = .ok (.aload_n 0, 1) := by decide +kernel
theorem dX6_dueBehind_54 : decode cX6_dueBehind 54 = .ok (.iload_n 2, 1) := by decide +kernel
theorem dX6_dueBehind_55 : decode cX6_dueBehind 55 = .ok (.iconst 1, 1) := by decide +kernel
theorem dX6_dueBehind_56 : decode cX6_dueBehind 56 = .ok (.invokevirtual 38, 3) := by decide +kernel
theorem dX6_dueBehind_59 : decode cX6_dueBehind 59 = .ok (.ifCond .eq 7, 3) := by decide +kernel
theorem dX6_dueBehind_62 : decode cX6_dueBehind 62 = .ok (.iconst 0, 1) := by decide +kernel
theorem dX6_dueBehind_63 : decode cX6_dueBehind 63 = .ok (.goto 5, 3) := by decide +kernel
theorem dX6_dueBehind_66 : decode cX6_dueBehind 66 = .ok (.bipush (-6), 2) := by decide +kernel
theorem dX6_dueBehind_68 : decode cX6_dueBehind 68 = .ok (.ireturn, 1) := by decide +kernel
theorem dX6_dueBehind_69 : decode cX6_dueBehind 69 = .ok (.aload_n 0, 1) := by decide +kernel
theorem dX6_dueBehind_70 : decode cX6_dueBehind 70 = .ok (.iload_n 2, 1) := by decide +kernel
theorem dX6_dueBehind_71 : decode cX6_dueBehind 71 = .ok (.iconst 0, 1) := by decide +kernel
theorem dX6_dueBehind_72 : decode cX6_dueBehind 72 = .ok (.invokevirtual 38, 3) := by decide +kernel
theorem dX6_dueBehind_75 : decode cX6_dueBehind 75 = .ok (.ifCond .eq 7, 3) := by decide +kernel
theorem dX6_dueBehind_78 : decode cX6_dueBehind 78 = .ok (.iconst 0, 1) := by decide +kernel
theorem dX6_dueBehind_79 : decode cX6_dueBehind 79 = .ok (.goto 5, 3) := by decide +kernel
theorem dX6_dueBehind_82 : decode cX6_dueBehind 82 = .ok (.bipush (-6), 2) := by decide +kernel
theorem dX6_dueBehind_84 : decode cX6_dueBehind 84 = .ok (.ireturn, 1) := by decide +kernel
theorem dX6_dueBehindBegin_0 : decode cX6_dueBehindBegin 0 = .ok (.iload_n 0, 1) := by decide +kernel
theorem dX6_dueBehindBegin_1 : decode cX6_dueBehindBegin 1 = .ok (.bipush 115, 2) := by decide +kernel
theorem dX6_dueBehindBegin_3 : decode cX6_dueBehindBegin 3 = .ok (.if_icmp .ne 5, 3) := by decide +kernel
theorem dX6_dueBehindBegin_6 : decode cX6_dueBehindBegin 6 = .ok (.iconst 3, 1) := by decide +kernel
theorem dX6_dueBehindBegin_7 : decode cX6_dueBehindBegin 7 = .ok (.ireturn, 1) := by decide +kernel
theorem dX6_dueBehindBegin_8 : decode cX6_dueBehindBegin 8 = .ok (.iload_n 0, 1) := by decide +kernel
theorem dX6_dueBehindBegin_9 : decode cX6_dueBehindBegin 9 = .ok (.bipush 45, 2) := by decide +kernel
theorem dX6_dueBehindBegin_11 : decode cX6_dueBehindBegin 11 = .ok (.if_icmp .eq 15, 3) := by decide +kernel
theorem dX6_dueBehindBegin_14 : decode cX6_dueBehindBegin 14 = .ok (.iload_n 0, 1) := by decide +kernel
theorem dX6_dueBehindBegin_15 : decode cX6_dueBehindBegin 15 = .ok (.bipush 97, 2) := by decide +kernel
theorem dX6_dueBehindBegin_17 : decode cX6_dueBehindBegin 17 = .ok (.if_icmp .lt 13, 3) := by decide +kernel
theorem dX6_dueBehindBegin_20 : decode cX6_dueBehindBegin 20 = .ok (.iload_n 0, 1) := by decide +kernel
theorem dX6_dueBehindBegin_21 : decode cX6_dueBehindBegin 21 = .ok (.bipush 100, 2) := by decide +kernel
theorem dX6_dueBehindBegin_23 : decode cX6_dueBehindBegin 23 = .ok (.if_icmp .gt 7, 3) := by decide +kernel
theorem dX6_dueBehindBegin_26 : decode cX6_dueBehindBegin 26 = .ok (.iconst 1, 1) := by decide +kernel
theorem dX6_dueBehindBegin_27 : decode cX6_dueBehindBegin 27 = .ok (.goto 5, 3) := by decide +kernel
theorem dX6_dueBehindBegin_30 : decode cX6_dueBehindBegin 30 = .ok (.bipush (-6), 2) := by decide +kernel
theorem dX6_dueBehindBegin_32 : decode cX6_dueBehindBegin 32 = .ok (.ireturn, 1) := by decide +kernel
theorem dX7_init_0 : decode cX7_init 0 = .ok (.aload_n 0, 1) := by decide +kernel
theorem dX7_init_1 : decode cX7_init 1 = .ok (.invokespecial 3, 3) := by decide +kernel
theorem dX7_init_4 : decode cX7_init 4 = .ok (.aload_n 0, 1) := by decide +kernel
theorem dX7_init_5 : decode cX7_init 5 = .ok (.bipush 20, 2) := by decide +kernel
theorem dX7_init_7 : decode cX7_init 7 = .ok (.newarray .int, 2) := by decide +kernel
theorem dX7_init_9 : decode cX7_init 9 = .ok (.putfield 9, 3) := by decide +kernel
theorem dX7_init_12 : decode cX7_init 12 = .ok (.aload_n 0, 1) := by decide +kernel
theorem dX7_init_13 : decode cX7_init 13 = .ok (.bipush 20, 2) := by decide +kernel
theorem dX7_init_15 : decode cX7_init 15 = .ok (.newarray .int, 2) := by decide +kernel
theorem dX7_init_17 : decode cX7_init 17 = .ok (.putfield 15, 3) := by decide +kernel
theorem dX7_init_20 : decode cX7_init 20 = .ok (.aload_n 0, 1) := by decide +kernel
theorem dX7_init_21 : decode cX7_init 21 = .ok (.bipush 20, 2) := by decide +kernel
theorem dX7_init_23 : decode cX7_init 23 = .ok (.newarray .int, 2) := by decide +kernel
theorem dX7_init_25 : decode cX7_init 25 = .ok (.putfield 18, 3) := by decide +kernel
theorem dX7_init_28 : decode cX7_init 28 = .ok (.aload_n 0, 1) := by decide +kernel
theorem dX7_init_29 : decode cX7_init 29 = .ok (.iconst 0, 1) := by decide +kernel
theorem dX7_init_30 : decode cX7_init 30 = .ok (.putfield 21, 3) := by decide +kernel
theorem dX7_init_33 : decode cX7_init 33 = .ok (.aload_n 0, 1) := by decide +kernel
theorem dX7_init_34 : decode cX7_init 34 = .ok (.iconst 0, 1) := by decide +kernel
theorem dX7_init_35 : decode cX7_init 35 = .ok (.putfield 25, 3) := by decide +kernel
theorem dX7_init_38 : decode cX7_init 38 = .ok (.return_, 1) := by decide +kernel
theorem dX7_read_0 : decode cX7_read 0 = .ok (.aload_n 0, 1) := by decide +kernel
theorem dX7_read_1 : decode cX7_read 1 = .ok (.iconst 0, 1) := by decide +kernel
theorem dX7_read_2 : decode cX7_read 2 = .ok (.putfield 21, 3) := by decide +kernel
theorem dX7_read_5 : decode cX7_read 5 = .ok (.aload_n 0, 1) := by decide +kernel
theorem dX7_read_6 : decode cX7_read 6 = .ok (.iconst 0, 1) := by decide +kernel
theorem dX7_read_7 : decode cX7_read 7 = .ok (.putfield 25, 3) := by decide +kernel
theorem dX7_read_10 : decode cX7_read 10 = .ok (.iconst 0, 1) := by decide +kernel
theorem dX7_read_11 : decode cX7_read 11 = .ok (.istore_n 2, 1) := by decide +kernel
theorem dX7_read_12 : decode cX7_read 12 = .ok (.iload_n 2, 1) := by decide +kernel
theorem dX7_read_13 : decode cX7_read 13 = .ok (.aload_n 1, 1) := by decide +kernel
theorem dX7_read_14 : decode cX7_read 14 = .ok (.getfield 28, 3) := by decide +kernel
theorem dX7_read_17 : decode cX7_read 17 = .ok (.if_icmp .ge 72, 3) := by decide +kernel
theorem dX7_read_20 : decode cX7_read 20 = .ok (.aload_n 1, 1) := by decide +kernel
theorem dX7_read_21 : decode cX7_read 21 = .ok (.iload_n 2, 1) := by decide +kernel
theorem dX7_read_22 : decode cX7_read 22 = .ok (.invokevirtual 33, 3) := by decide +kernel
theorem dX7_read_25 : decode cX7_read 25 = .ok (.istore_n 3, 1) := by decide +kernel
theorem dX7_read_26 : decode cX7_read 26 = .ok (.iload_n 3, 1) := by decide +kernel
theorem dX7_read_27 : decode cX7_read 27 = .ok (.bipush 115, 2) := by decide +kernel
theorem dX7_read_29 : decode cX7_read 29 = .ok (.if_icmp .ne 22, 3) := by decide +kernel
theorem dX7_read_32 : decode cX7_read 32 = .ok (.aload_n 0, 1) := by decide +kernel
theorem dX7_read_33 : decode cX7_read 33 = .ok (.iconst 5, 1) := by decide +kernel
theorem dX7_read_34 : decode cX7_read 34 = .ok (.aload_n 1, 1) := by decide +kernel
theorem dX7_read_35 : decode cX7_read 35 = .ok (.iload_n 2, 1) := by decide +kernel
theorem dX7_read_36 : decode cX7_read 36 = .ok (.iconst 1, 1) := by decide +kernel
theorem dX7_read_37 : decode cX7_read 37 = .ok (.iadd, 1) := by decide +kernel
theorem dX7_read_38 : decode cX7_read 38 = .ok (.invokevirtual 37, 3) := by decide +kernel
theorem dX7_read_41 : decode cX7_read 41 = .ok (.iconst 0, 1) := by decide +kernel
theorem dX7_read_42 : decode cX7_read 42 = .ok (.invokevirtual 40, 3) := by decide +kernel
theorem dX7_read_45 : decode cX7_read 45 = .ok (.iinc 2 2, 3) := by decide +kernel
theorem dX7_read_48 : decode cX7_read 48 = .ok (.goto 38, 3) := by decide +kernel
theorem dX7_read_51 : decode cX7_read 51 = .ok (.aload_n 0, 1) := by decide +kernel
theorem dX7_read_52 : decode cX7_read 52 = .ok (.iload_n 3, 1) := by decide +kernel
theorem dX7_read_53 : decode cX7_read 53 = .ok (.bipush 45, 2) := by decide +kernel
theorem dX7_read_55 : decode cX7_read 55 = .ok (.if_icmp .ne 7, 3) := by decide +kernel
theorem dX7_read_58 : decode cX7_read 58 = .ok (.iconst 4, 1) := by decide +kernel
theorem dX7_read_59 : decode cX7_read 59 = .ok (.goto 7, 3) := by decide +kernel
theorem dX7_read_62 : decode cX7_read 62 = .ok (.iload_n 3, 1) := by decide +kernel
theorem dX7_read_63 : decode cX7_read 63 = .ok (.bipush 97, 2) := by decide +kernel
theorem dX7_read_65 : decode cX7_read 65 = .ok (.isub, 1) := by decide +kernel
theorem dX7_read_66 : decode cX7_read 66 = .ok (.aload_n 1, 1) := by decide +kernel
theorem dX7_read_67 : decode cX7_read 67 = .ok (.iload_n 2, 1) := by decide +kernel
theorem dX7_read_68 : decode cX7_read 68 = .ok (.iconst 1, 1) := by decide +kernel
theorem dX7_read_69 : decode cX7_read 69 = .ok (.iadd, 1) := by decide +kernel
theorem dX7_read_70 : decode cX7_read 70 = .ok (.invokevirtual 37, 3) := by decide +kernel
theorem dX7_read_73 : decode cX7_read 73 = .ok (.aload_n 1, 1) := by decide +kernel
theorem dX7_read_74 : decode cX7_read 74 = .ok (.iload_n 2, 1) := by decide +kernel
theorem dX7_read_75 : decode cX7_read 75 = .ok (.iconst 2, 1) := by decide +kernel
theorem dX7_read_76 : decode cX7_read 76 = .ok (.iadd, 1) := by decide +kernel
theorem dX7_read_77 : decode cX7_read 77 = .ok (.invokevirtual 37, 3) := by decide +kernel
theorem dX7_read_80 : decode cX7_read 80 = .ok (.invokevirtual 40, 3) := by decide +kernel
theorem dX7_read_83 : decode cX7_read 83 = .ok (.iinc 2 3, 3) := by decide +kernel
theorem dX7_read_86 : decode cX7_read 86 = .ok (.goto (-74), 3) := by decide +kernel
theorem dX7_read_89 : decode cX7_read 89 = .ok (.return_, 1) := by decide +kernel
theorem dX7_addPart_0 : decode cX7_addPart 0 = .ok (.aload_n 0, 1) := by decide +kernel
theorem dX7_addPart_1 : decode cX7_addPart 1 = .ok (.getfield 9, 3) := by decide +kernel
theorem dX7_addPart_4 : decode cX7_addPart 4 = .ok (.aload_n 0, 1) := by decide +kernel
theorem dX7_addPart_5 : decode cX7_addPart 5 = .ok (.getfield 21, 3) := by decide +kernel
theorem dX7_addPart_8 : decode cX7_addPart 8 = .ok (.iload_n 1, 1) := by decide +kernel
theorem dX7_addPart_9 : decode cX7_addPart 9 = .ok (.invokestatic 44, 3) := by decide +kernel
theorem dX7_addPart_12 : decode cX7_addPart 12 = .ok (.aload_n 0, 1) := by decide +kernel
theorem dX7_addPart_13 : decode cX7_addPart 13 = .ok (.getfield 15, 3) := by decide +kernel
theorem dX7_addPart_16 : decode cX7_addPart 16 = .ok (.aload_n 0, 1) := by decide +kernel
theorem dX7_addPart_17 : decode cX7_addPart 17 = .ok (.getfield 21, 3) := by decide +kernel
theorem dX7_addPart_20 : decode cX7_addPart 20 = .ok (.iload_n 2, 1) := by decide +kernel
theorem dX7_addPart_21 : decode cX7_addPart 21 = .ok (.invokestatic 44, 3) := by decide +kernel
theorem dX7_addPart_24 : decode cX7_addPart 24 = .ok (.aload_n 0, 1) := by decide +kernel
theorem dX7_addPart_25 : decode cX7_addPart 25 = .ok (.getfield 18, 3) := by decide +kernel
theorem dX7_addPart_28 : decode cX7_addPart 28 = .ok (.aload_n 0, 1) := by decide +kernel
theorem dX7_addPart_29 : decode cX7_addPart 29 = .ok (.getfield 21, 3) := by decide +kernel
theorem dX7_addPart_32 : decode cX7_addPart 32 = .ok (.iload_n 3, 1) := by decide +kernel
theorem dX7_addPart_33 : decode cX7_addPart 33 = .ok (.invokestatic 44, 3) := by decide +kernel
theorem dX7_addPart_36 : decode cX7_addPart 36 = .ok (.aload_n 0, 1) := by decide +kernel
theorem dX7_addPart_37 : decode cX7_addPart 37 = .ok (.dup, 1) := by decide +kernel
theorem dX7_addPart_38 : decode cX7_addPart 38 = .ok (.getfield 21, 3) := by decide +kernel
theorem dX7_addPart_41 : decode cX7_addPart 41 = .ok (.iconst 1, 1) := by decide +kernel
theorem dX7_addPart_42 : decode cX7_addPart 42 = .ok (.iadd, 1) := by decide +kernel
theorem dX7_addPart_43 : decode cX7_addPart 43 = .ok (.putfield 21, 3) := by decide +kernel
theorem dX7_addPart_46 : decode cX7_addPart 46 = .ok (.aload_n 0, 1) := by decide +kernel
theorem dX7_addPart_47 : decode cX7_addPart 47 = .ok (.dup, 1) := by decide +kernel
theorem dX7_addPart_48 : decode cX7_addPart 48 = .ok (.getfield 25, 3) := by decide +kernel
theorem dX7_addPart_51 : decode cX7_addPart 51 = .ok (.iload_n 3, 1) := by decide +kernel
theorem dX7_addPart_52 : decode cX7_addPart 52 = .ok (.iadd, 1) := by decide +kernel
theorem dX7_addPart_53 : decode cX7_addPart 53 = .ok (.putfield 25, 3) := by decide +kernel
theorem dX7_addPart_56 : decode cX7_addPart 56 = .ok (.return_, 1) := by decide +kernel
theorem dX7_copyFrom_0 : decode cX7_copyFrom 0 = .ok (.aload_n 1, 1) := by decide +kernel
theorem dX7_copyFrom_1 : decode cX7_copyFrom 1 = .ok (.getfield 9, 3) := by decide +kernel
theorem dX7_copyFrom_4 : decode cX7_copyFrom 4 = .ok (.aload_n 0, 1) := by decide +kernel
theorem dX7_copyFrom_5 : decode cX7_copyFrom 5 = .ok (.getfield 9, 3) := by decide +kernel
theorem dX7_copyFrom_8 : decode cX7_copyFrom 8 = .ok (.invokestatic 48, 3) := by decide +kernel
theorem dX7_copyFrom_11 : decode cX7_copyFrom 11 = .ok (.aload_n 1, 1) := by decide +kernel
theorem dX7_copyFrom_12 : decode cX7_copyFrom 12 = .ok (.getfield 15, 3) := by decide +kernel
theorem dX7_copyFrom_15 : decode cX7_copyFrom 15 = .ok (.aload_n 0, 1) := by decide +kernel
theorem dX7_copyFrom_16 : decode cX7_copyFrom 16 = .ok (.getfield 15, 3) := by decide +kernel
theorem dX7_copyFrom_19 : decode cX7_copyFrom 19 = .ok (.invokestatic 48, 3) := by decide +kernel
theorem dX7_copyFrom_22 : decode cX7_copyFrom 22 = .ok (.aload_n 1, 1) := by decide +kernel
theorem dX7_copyFrom_23 : decode cX7_copyFrom 23 = .ok (.getfield 18, 3) := by decide +kernel
theorem dX7_copyFrom_26 : decode cX7_copyFrom 26 = .ok (.aload_n 0, 1) := by decide +kernel
theorem dX7_copyFrom_27 : decode cX7_copyFrom 27 = .ok (.getfield 18, 3) := by decide +kernel
theorem dX7_copyFrom_30 : decode cX7_copyFrom 30 = .ok (.invokestatic 48, 3) := by decide +kernel
theorem dX7_copyFrom_33 : decode cX7_copyFrom 33 = .ok (.aload_n 0, 1) := by decide +kernel
theorem dX7_copyFrom_34 : decode cX7_copyFrom 34 = .ok (.aload_n 1, 1) := by decide +kernel
theorem dX7_copyFrom_35 : decode cX7_copyFrom 35 = .ok (.getfield 21, 3) := by decide +kernel
theorem dX7_copyFrom_38 : decode cX7_copyFrom 38 = .ok (.putfield 21, 3) := by decide +kernel
theorem dX7_copyFrom_41 : decode cX7_copyFrom 41 = .ok (.aload_n 0, 1) := by decide +kernel
theorem dX7_copyFrom_42 : decode cX7_copyFrom 42 = .ok (.aload_n 1, 1) := by decide +kernel
theorem dX7_copyFrom_43 : decode cX7_copyFrom 43 = .ok (.getfield 25, 3) := by decide +kernel
theorem dX7_copyFrom_46 : decode cX7_copyFrom 46 = .ok (.putfield 25, 3) := by decide +kernel
theorem dX7_copyFrom_49 : decode cX7_copyFrom 49 = .ok (.return_, 1) := by decide +kernel
