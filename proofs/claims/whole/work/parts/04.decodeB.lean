theorem dX8_init_0 : decode cX8_init 0 = .ok (.aload_n 0, 1) := by decide +kernel
theorem dX8_init_1 : decode cX8_init 1 = .ok (.invokespecial 1, 3) := by decide +kernel
theorem dX8_init_4 : decode cX8_init 4 = .ok (.aload_n 0, 1) := by decide +kernel
theorem dX8_init_5 : decode cX8_init 5 = .ok (.new 7, 3) := by decide +kernel
theorem dX8_init_8 : decode cX8_init 8 = .ok (.dup, 1) := by decide +kernel
theorem dX8_init_9 : decode cX8_init 9 = .ok (.invokespecial 9, 3) := by decide +kernel
theorem dX8_init_12 : decode cX8_init 12 = .ok (.putfield 10, 3) := by decide +kernel
theorem dX8_init_15 : decode cX8_init 15 = .ok (.aload_n 0, 1) := by decide +kernel
theorem dX8_init_16 : decode cX8_init 16 = .ok (.new 16, 3) := by decide +kernel
theorem dX8_init_19 : decode cX8_init 19 = .ok (.dup, 1) := by decide +kernel
theorem dX8_init_20 : decode cX8_init 20 = .ok (.invokespecial 18, 3) := by decide +kernel
theorem dX8_init_23 : decode cX8_init 23 = .ok (.putfield 19, 3) := by decide +kernel
theorem dX8_init_26 : decode cX8_init 26 = .ok (.aload_n 0, 1) := by decide +kernel
theorem dX8_init_27 : decode cX8_init 27 = .ok (.new 16, 3) := by decide +kernel
theorem dX8_init_30 : decode cX8_init 30 = .ok (.dup, 1) := by decide +kernel
theorem dX8_init_31 : decode cX8_init 31 = .ok (.invokespecial 18, 3) := by decide +kernel
theorem dX8_init_34 : decode cX8_init 34 = .ok (.putfield 23, 3) := by decide +kernel
theorem dX8_init_37 : decode cX8_init 37 = .ok (.aload_n 0, 1) := by decide +kernel
theorem dX8_init_38 : decode cX8_init 38 = .ok (.new 16, 3) := by decide +kernel
theorem dX8_init_41 : decode cX8_init 41 = .ok (.dup, 1) := by decide +kernel
theorem dX8_init_42 : decode cX8_init 42 = .ok (.invokespecial 18, 3) := by decide +kernel
theorem dX8_init_45 : decode cX8_init 45 = .ok (.putfield 26, 3) := by decide +kernel
theorem dX8_init_48 : decode cX8_init 48 = .ok (.aload_n 0, 1) := by decide +kernel
theorem dX8_init_49 : decode cX8_init 49 = .ok (.new 29, 3) := by decide +kernel
theorem dX8_init_52 : decode cX8_init 52 = .ok (.dup, 1) := by decide +kernel
theorem dX8_init_53 : decode cX8_init 53 = .ok (.invokespecial 31, 3) := by decide +kernel
theorem dX8_init_56 : decode cX8_init 56 = .ok (.putfield 32, 3) := by decide +kernel
theorem dX8_init_59 : decode cX8_init 59 = .ok (.return_, 1) := by decide +kernel
theorem dX8_set_0 : decode cX8_set 0 = .ok (.iload_n 1, 1) := by decide +kernel
theorem dX8_set_1 : decode cX8_set 1 = .ok (.ifCond .lt 9, 3) := by decide +kernel
theorem dX8_set_4 : decode cX8_set 4 = .ok (.iload_n 1, 1) := by decide +kernel
theorem dX8_set_5 : decode cX8_set 5 = .ok (.bipush 8, 2) := by decide +kernel
theorem dX8_set_7 : decode cX8_set 7 = .ok (.if_icmp .lt 6, 3) := by decide +kernel
theorem dX8_set_10 : decode cX8_set 10 = .ok (.bipush (-2), 2) := by decide +kernel
theorem dX8_set_12 : decode cX8_set 12 = .ok (.ireturn, 1) := by decide +kernel
theorem dX8_set_13 : decode cX8_set 13 = .ok (.iload_n 2, 1) := by decide +kernel
theorem dX8_set_14 : decode cX8_set 14 = .ok (.getstatic 36, 3) := by decide +kernel
theorem dX8_set_17 : decode cX8_set 17 = .ok (.iload_n 1, 1) := by decide +kernel
theorem dX8_set_18 : decode cX8_set 18 = .ok (.invokestatic 40, 3) := by decide +kernel
theorem dX8_set_21 : decode cX8_set 21 = .ok (.if_icmp .lt 14, 3) := by decide +kernel
theorem dX8_set_24 : decode cX8_set 24 = .ok (.iload_n 2, 1) := by decide +kernel
theorem dX8_set_25 : decode cX8_set 25 = .ok (.getstatic 44, 3) := by decide +kernel
theorem dX8_set_28 : decode cX8_set 28 = .ok (.iload_n 1, 1) := by decide +kernel
theorem dX8_set_29 : decode cX8_set 29 = .ok (.invokestatic 40, 3) := by decide +kernel
theorem dX8_set_32 : decode cX8_set 32 = .ok (.if_icmp .le 6, 3) := by decide +kernel
theorem dX8_set_35 : decode cX8_set 35 = .ok (.bipush (-2), 2) := by decide +kernel
theorem dX8_set_37 : decode cX8_set 37 = .ok (.ireturn, 1) := by decide +kernel
theorem dX8_set_38 : decode cX8_set 38 = .ok (.aload_n 0, 1) := by decide +kernel
theorem dX8_set_39 : decode cX8_set 39 = .ok (.getfield 19, 3) := by decide +kernel
theorem dX8_set_42 : decode cX8_set 42 = .ok (.iload_n 1, 1) := by decide +kernel
theorem dX8_set_43 : decode cX8_set 43 = .ok (.invokevirtual 47, 3) := by decide +kernel
theorem dX8_set_46 : decode cX8_set 46 = .ok (.istore_n 3, 1) := by decide +kernel
theorem dX8_set_47 : decode cX8_set 47 = .ok (.aload_n 0, 1) := by decide +kernel
theorem dX8_set_48 : decode cX8_set 48 = .ok (.getfield 19, 3) := by decide +kernel
theorem dX8_set_51 : decode cX8_set 51 = .ok (.getfield 51, 3) := by decide +kernel
theorem dX8_set_54 : decode cX8_set 54 = .ok (.iload_n 1, 1) := by decide +kernel
theorem dX8_set_55 : decode cX8_set 55 = .ok (.iload_n 2, 1) := by decide +kernel
theorem dX8_set_56 : decode cX8_set 56 = .ok (.invokestatic 54, 3) := by decide +kernel
theorem dX8_set_59 : decode cX8_set 59 = .ok (.iload_n 3, 1) := by decide +kernel
theorem dX8_set_60 : decode cX8_set 60 = .ok (.ireturn, 1) := by decide +kernel
theorem dX8_strong_0 : decode cX8_strong 0 = .ok (.iload_n 1, 1) := by decide +kernel
theorem dX8_strong_1 : decode cX8_strong 1 = .ok (.invokestatic 58, 3) := by decide +kernel
theorem dX8_strong_4 : decode cX8_strong 4 = .ok (.ifCond .ne 5, 3) := by decide +kernel
theorem dX8_strong_7 : decode cX8_strong 7 = .ok (.iconst (-1), 1) := by decide +kernel
theorem dX8_strong_8 : decode cX8_strong 8 = .ok (.ireturn, 1) := by decide +kernel
theorem dX8_strong_9 : decode cX8_strong 9 = .ok (.iload_n 2, 1) := by decide +kernel
theorem dX8_strong_10 : decode cX8_strong 10 = .ok (.ifCond .lt 10, 3) := by decide +kernel
theorem dX8_strong_13 : decode cX8_strong 13 = .ok (.iload_n 2, 1) := by decide +kernel
theorem dX8_strong_14 : decode cX8_strong 14 = .ok (.sipush 200, 3) := by decide +kernel
theorem dX8_strong_17 : decode cX8_strong 17 = .ok (.if_icmp .le 6, 3) := by decide +kernel
theorem dX8_strong_20 : decode cX8_strong 20 = .ok (.bipush (-2), 2) := by decide +kernel
theorem dX8_strong_22 : decode cX8_strong 22 = .ok (.ireturn, 1) := by decide +kernel
theorem dX8_strong_23 : decode cX8_strong 23 = .ok (.aload_n 0, 1) := by decide +kernel
theorem dX8_strong_24 : decode cX8_strong 24 = .ok (.getfield 19, 3) := by decide +kernel
theorem dX8_strong_27 : decode cX8_strong 27 = .ok (.getfield 62, 3) := by decide +kernel
theorem dX8_strong_30 : decode cX8_strong 30 = .ok (.iload_n 1, 1) := by decide +kernel
theorem dX8_strong_31 : decode cX8_strong 31 = .ok (.invokestatic 40, 3) := by decide +kernel
theorem dX8_strong_34 : decode cX8_strong 34 = .ok (.istore_n 3, 1) := by decide +kernel
theorem dX8_strong_35 : decode cX8_strong 35 = .ok (.aload_n 0, 1) := by decide +kernel
theorem dX8_strong_36 : decode cX8_strong 36 = .ok (.getfield 19, 3) := by decide +kernel
theorem dX8_strong_39 : decode cX8_strong 39 = .ok (.getfield 62, 3) := by decide +kernel
theorem dX8_strong_42 : decode cX8_strong 42 = .ok (.iload_n 1, 1) := by decide +kernel
theorem dX8_strong_43 : decode cX8_strong 43 = .ok (.iload_n 2, 1) := by decide +kernel
theorem dX8_strong_44 : decode cX8_strong 44 = .ok (.invokestatic 54, 3) := by decide +kernel
theorem dX8_strong_47 : decode cX8_strong 47 = .ok (.iload_n 3, 1) := by decide +kernel
theorem dX8_strong_48 : decode cX8_strong 48 = .ok (.ireturn, 1) := by decide +kernel
theorem dX8_say_0 : decode cX8_say 0 = .ok (.iload_n 1, 1) := by decide +kernel
theorem dX8_say_1 : decode cX8_say 1 = .ok (.bipush 33, 2) := by decide +kernel
theorem dX8_say_3 : decode cX8_say 3 = .ok (.if_icmp .lt 9, 3) := by decide +kernel
theorem dX8_say_6 : decode cX8_say 6 = .ok (.iload_n 1, 1) := by decide +kernel
theorem dX8_say_7 : decode cX8_say 7 = .ok (.bipush 126, 2) := by decide +kernel
theorem dX8_say_9 : decode cX8_say 9 = .ok (.if_icmp .le 6, 3) := by decide +kernel
theorem dX8_say_12 : decode cX8_say 12 = .ok (.bipush (-2), 2) := by decide +kernel
theorem dX8_say_14 : decode cX8_say 14 = .ok (.ireturn, 1) := by decide +kernel
theorem dX8_say_15 : decode cX8_say 15 = .ok (.aload_n 0, 1) := by decide +kernel
theorem dX8_say_16 : decode cX8_say 16 = .ok (.getfield 10, 3) := by decide +kernel
theorem dX8_say_19 : decode cX8_say 19 = .ok (.getfield 65, 3) := by decide +kernel
theorem dX8_say_22 : decode cX8_say 22 = .ok (.bipush 40, 2) := by decide +kernel
theorem dX8_say_24 : decode cX8_say 24 = .ok (.if_icmp .lt 6, 3) := by decide +kernel
theorem dX8_say_27 : decode cX8_say 27 = .ok (.bipush (-4), 2) := by decide +kernel
theorem dX8_say_29 : decode cX8_say 29 = .ok (.ireturn, 1) := by decide +kernel
theorem dX8_say_30 : decode cX8_say 30 = .ok (.aload_n 0, 1) := by decide +kernel
theorem dX8_say_31 : decode cX8_say 31 = .ok (.getfield 10, 3) := by decide +kernel
theorem dX8_say_34 : decode cX8_say 34 = .ok (.iload_n 1, 1) := by decide +kernel
theorem dX8_say_35 : decode cX8_say 35 = .ok (.invokevirtual 69, 3) := by decide +kernel
theorem dX8_say_38 : decode cX8_say 38 = .ok (.aload_n 0, 1) := by decide +kernel
theorem dX8_say_39 : decode cX8_say 39 = .ok (.getfield 10, 3) := by decide +kernel
theorem dX8_say_42 : decode cX8_say 42 = .ok (.getfield 65, 3) := by decide +kernel
theorem dX8_say_45 : decode cX8_say 45 = .ok (.ireturn, 1) := by decide +kernel
theorem dX8_wipe_0 : decode cX8_wipe 0 = .ok (.aload_n 0, 1) := by decide +kernel
theorem dX8_wipe_1 : decode cX8_wipe 1 = .ok (.getfield 10, 3) := by decide +kernel
theorem dX8_wipe_4 : decode cX8_wipe 4 = .ok (.getfield 65, 3) := by decide +kernel
theorem dX8_wipe_7 : decode cX8_wipe 7 = .ok (.istore_n 1, 1) := by decide +kernel
theorem dX8_wipe_8 : decode cX8_wipe 8 = .ok (.aload_n 0, 1) := by decide +kernel
theorem dX8_wipe_9 : decode cX8_wipe 9 = .ok (.getfield 10, 3) := by decide +kernel
theorem dX8_wipe_12 : decode cX8_wipe 12 = .ok (.invokevirtual 73, 3) := by decide +kernel
theorem dX8_wipe_15 : decode cX8_wipe 15 = .ok (.iload_n 1, 1) := by decide +kernel
theorem dX8_wipe_16 : decode cX8_wipe 16 = .ok (.ireturn, 1) := by decide +kernel
theorem dX8_fault_0 : decode cX8_fault 0 = .ok (.iload_n 1, 1) := by decide +kernel
theorem dX8_fault_1 : decode cX8_fault 1 = .ok (.ifCond .ne 11, 3) := by decide +kernel
theorem dX8_fault_4 : decode cX8_fault 4 = .ok (.aload_n 0, 1) := by decide +kernel
theorem dX8_fault_5 : decode cX8_fault 5 = .ok (.getfield 10, 3) := by decide +kernel
theorem dX8_fault_8 : decode cX8_fault 8 = .ok (.invokevirtual 76, 3) := by decide +kernel
theorem dX8_fault_11 : decode cX8_fault 11 = .ok (.ireturn, 1) := by decide +kernel
theorem dX8_fault_12 : decode cX8_fault 12 = .ok (.iload_n 1, 1) := by decide +kernel
theorem dX8_fault_13 : decode cX8_fault 13 = .ok (.iconst 1, 1) := by decide +kernel
theorem dX8_fault_14 : decode cX8_fault 14 = .ok (.if_icmp .ne 11, 3) := by decide +kernel
theorem dX8_fault_17 : decode cX8_fault 17 = .ok (.aload_n 0, 1) := by decide +kernel
theorem dX8_fault_18 : decode cX8_fault 18 = .ok (.getfield 10, 3) := by decide +kernel
theorem dX8_fault_21 : decode cX8_fault 21 = .ok (.invokevirtual 80, 3) := by decide +kernel
theorem dX8_fault_24 : decode cX8_fault 24 = .ok (.ireturn, 1) := by decide +kernel
theorem dX8_fault_25 : decode cX8_fault 25 = .ok (.bipush (-2), 2) := by decide +kernel
theorem dX8_fault_27 : decode cX8_fault 27 = .ok (.ireturn, 1) := by decide +kernel
theorem dX8_plan_0 : decode cX8_plan 0 = .ok (.aload_n 0, 1) := by decide +kernel
theorem dX8_plan_1 : decode cX8_plan 1 = .ok (.getfield 10, 3) := by decide +kernel
theorem dX8_plan_4 : decode cX8_plan 4 = .ok (.invokevirtual 76, 3) := by decide +kernel
theorem dX8_plan_7 : decode cX8_plan 7 = .ok (.bipush (-6), 2) := by decide +kernel
theorem dX8_plan_9 : decode cX8_plan 9 = .ok (.if_icmp .eq 6, 3) := by decide +kernel
theorem dX8_plan_12 : decode cX8_plan 12 = .ok (.bipush (-5), 2) := by decide +kernel
theorem dX8_plan_14 : decode cX8_plan 14 = .ok (.ireturn, 1) := by decide +kernel
theorem dX8_plan_15 : decode cX8_plan 15 = .ok (.aload_n 0, 1) := by decide +kernel
theorem dX8_plan_16 : decode cX8_plan 16 = .ok (.getfield 19, 3) := by decide +kernel
theorem dX8_plan_19 : decode cX8_plan 19 = .ok (.getfield 83, 3) := by decide +kernel
theorem dX8_plan_22 : decode cX8_plan 22 = .ok (.aload_n 0, 1) := by decide +kernel
theorem dX8_plan_23 : decode cX8_plan 23 = .ok (.getfield 10, 3) := by decide +kernel
theorem dX8_plan_26 : decode cX8_plan 26 = .ok (.invokevirtual 87, 3) := by decide +kernel
theorem dX8_plan_29 : decode cX8_plan 29 = .ok (.aload_n 0, 1) := by decide +kernel
theorem dX8_plan_30 : decode cX8_plan 30 = .ok (.getfield 10, 3) := by decide +kernel
theorem dX8_plan_33 : decode cX8_plan 33 = .ok (.invokevirtual 73, 3) := by decide +kernel
theorem dX8_plan_36 : decode cX8_plan 36 = .ok (.aload_n 0, 1) := by decide +kernel
theorem dX8_plan_37 : decode cX8_plan 37 = .ok (.getfield 19, 3) := by decide +kernel
theorem dX8_plan_40 : decode cX8_plan 40 = .ok (.getfield 83, 3) := by decide +kernel
theorem dX8_plan_43 : decode cX8_plan 43 = .ok (.getfield 93, 3) := by decide +kernel
theorem dX8_plan_46 : decode cX8_plan 46 = .ok (.ireturn, 1) := by decide +kernel
theorem dX8_after_0 : decode cX8_after 0 = .ok (.aload_n 0, 1) := by decide +kernel
theorem dX8_after_1 : decode cX8_after 1 = .ok (.iload_n 1, 1) := by decide +kernel
theorem dX8_after_2 : decode cX8_after 2 = .ok (.invokevirtual 96, 3) := by decide +kernel
theorem dX8_after_5 : decode cX8_after 5 = .ok (.ifCond .eq 13, 3) := by decide +kernel
theorem dX8_after_8 : decode cX8_after 8 = .ok (.iload_n 2, 1) := by decide +kernel
theorem dX8_after_9 : decode cX8_after 9 = .ok (.ifCond .lt 9, 3) := by decide +kernel
theorem dX8_after_12 : decode cX8_after 12 = .ok (.iload_n 2, 1) := by decide +kernel
theorem dX8_after_13 : decode cX8_after 13 = .ok (.bipush 11, 2) := by decide +kernel
theorem dX8_after_15 : decode cX8_after 15 = .ok (.if_icmp .le 6, 3) := by decide +kernel
theorem dX8_after_18 : decode cX8_after 18 = .ok (.bipush (-2), 2) := by decide +kernel
theorem dX8_after_20 : decode cX8_after 20 = .ok (.ireturn, 1) := by decide +kernel
theorem dX8_after_21 : decode cX8_after 21 = .ok (.aload_n 0, 1) := by decide +kernel
theorem dX8_after_22 : decode cX8_after 22 = .ok (.iload_n 1, 1) := by decide +kernel
theorem dX8_after_23 : decode cX8_after 23 = .ok (.invokevirtual 99, 3) := by decide +kernel
theorem dX8_after_26 : decode cX8_after 26 = .ok (.aload_n 0, 1) := by decide +kernel
theorem dX8_after_27 : decode cX8_after 27 = .ok (.getfield 32, 3) := by decide +kernel
theorem dX8_after_30 : decode cX8_after 30 = .ok (.iload_n 2, 1) := by decide +kernel
theorem dX8_after_31 : decode cX8_after 31 = .ok (.invokevirtual 102, 3) := by decide +kernel
theorem dX8_after_34 : decode cX8_after 34 = .ok (.ireturn, 1) := by decide +kernel
theorem dX8_flakes_0 : decode cX8_flakes 0 = .ok (.aload_n 0, 1) := by decide +kernel
theorem dX8_flakes_1 : decode cX8_flakes 1 = .ok (.iload_n 1, 1) := by decide +kernel
theorem dX8_flakes_2 : decode cX8_flakes 2 = .ok (.invokevirtual 96, 3) := by decide +kernel
theorem dX8_flakes_5 : decode cX8_flakes 5 = .ok (.ifCond .eq 15, 3) := by decide +kernel
theorem dX8_flakes_8 : decode cX8_flakes 8 = .ok (.iload_n 2, 1) := by decide +kernel
theorem dX8_flakes_9 : decode cX8_flakes 9 = .ok (.bipush 10, 2) := by decide +kernel
theorem dX8_flakes_11 : decode cX8_flakes 11 = .ok (.if_icmp .lt 9, 3) := by decide +kernel
theorem dX8_flakes_14 : decode cX8_flakes 14 = .ok (.iload_n 2, 1) := by decide +kernel
theorem dX8_flakes_15 : decode cX8_flakes 15 = .ok (.bipush 60, 2) := by decide +kernel
theorem dX8_flakes_17 : decode cX8_flakes 17 = .ok (.if_icmp .le 6, 3) := by decide +kernel
theorem dX8_flakes_20 : decode cX8_flakes 20 = .ok (.bipush (-2), 2) := by decide +kernel
theorem dX8_flakes_22 : decode cX8_flakes 22 = .ok (.ireturn, 1) := by decide +kernel
theorem dX8_flakes_23 : decode cX8_flakes 23 = .ok (.aload_n 0, 1) := by decide +kernel
theorem dX8_flakes_24 : decode cX8_flakes 24 = .ok (.iload_n 1, 1) := by decide +kernel
theorem dX8_flakes_25 : decode cX8_flakes 25 = .ok (.invokevirtual 99, 3) := by decide +kernel
theorem dX8_flakes_28 : decode cX8_flakes 28 = .ok (.aload_n 0, 1) := by decide +kernel
theorem dX8_flakes_29 : decode cX8_flakes 29 = .ok (.getfield 32, 3) := by decide +kernel
theorem dX8_flakes_32 : decode cX8_flakes 32 = .ok (.getfield 103, 3) := by decide +kernel
theorem dX8_flakes_35 : decode cX8_flakes 35 = .ok (.getfield 107, 3) := by decide +kernel
theorem dX8_flakes_38 : decode cX8_flakes 38 = .ok (.iload_n 2, 1) := by decide +kernel
theorem dX8_flakes_39 : decode cX8_flakes 39 = .ok (.invokevirtual 113, 3) := by decide +kernel
theorem dX8_flakes_42 : decode cX8_flakes 42 = .ok (.ireturn, 1) := by decide +kernel
theorem dX8_tired_0 : decode cX8_tired 0 = .ok (.iload_n 1, 1) := by decide +kernel
theorem dX8_tired_1 : decode cX8_tired 1 = .ok (.invokestatic 58, 3) := by decide +kernel
theorem dX8_tired_4 : decode cX8_tired 4 = .ok (.ifCond .ne 5, 3) := by decide +kernel
theorem dX8_tired_7 : decode cX8_tired 7 = .ok (.iconst (-1), 1) := by decide +kernel
theorem dX8_tired_8 : decode cX8_tired 8 = .ok (.ireturn, 1) := by decide +kernel
theorem dX8_tired_9 : decode cX8_tired 9 = .ok (.aload_n 0, 1) := by decide +kernel
theorem dX8_tired_10 : decode cX8_tired 10 = .ok (.iload_n 2, 1) := by decide +kernel
theorem dX8_tired_11 : decode cX8_tired 11 = .ok (.invokevirtual 96, 3) := by decide +kernel
theorem dX8_tired_14 : decode cX8_tired 14 = .ok (.ifCond .ne 6, 3) := by decide +kernel
theorem dX8_tired_17 : decode cX8_tired 17 = .ok (.bipush (-2), 2) := by decide +kernel
theorem dX8_tired_19 : decode cX8_tired 19 = .ok (.ireturn, 1) := by decide +kernel
theorem dX8_tired_20 : decode cX8_tired 20 = .ok (.aload_n 0, 1) := by decide +kernel
theorem dX8_tired_21 : decode cX8_tired 21 = .ok (.iload_n 2, 1) := by decide +kernel
theorem dX8_tired_22 : decode cX8_tired 22 = .ok (.invokevirtual 99, 3) := by decide +kernel
theorem dX8_tired_25 : decode cX8_tired 25 = .ok (.aload_n 0, 1) := by decide +kernel
theorem dX8_tired_26 : decode cX8_tired 26 = .ok (.getfield 32, 3) := by decide +kernel
theorem dX8_tired_29 : decode cX8_tired 29 = .ok (.getfield 118, 3) := by decide +kernel
theorem dX8_tired_32 : decode cX8_tired 32 = .ok (.iload_n 1, 1) := by decide +kernel
theorem dX8_tired_33 : decode cX8_tired 33 = .ok (.invokevirtual 122, 3) := by decide +kernel
theorem dX8_tired_36 : decode cX8_tired 36 = .ok (.ireturn, 1) := by decide +kernel
theorem dX8_held_0 : decode cX8_held 0 = .ok (.iload_n 1, 1) := by decide +kernel
theorem dX8_held_1 : decode cX8_held 1 = .ok (.ifCond .lt 8, 3) := by decide +kernel
theorem dX8_held_4 : decode cX8_held 4 = .ok (.iload_n 1, 1) := by decide +kernel
theorem dX8_held_5 : decode cX8_held 5 = .ok (.iconst 1, 1) := by decide +kernel
theorem dX8_held_6 : decode cX8_held 6 = .ok (.if_icmp .le 6, 3) := by decide +kernel
theorem dX8_held_9 : decode cX8_held 9 = .ok (.bipush (-2), 2) := by decide +kernel
theorem dX8_held_11 : decode cX8_held 11 = .ok (.ireturn, 1) := by decide +kernel
theorem dX8_held_12 : decode cX8_held 12 = .ok (.aload_n 0, 1) := by decide +kernel
theorem dX8_held_13 : decode cX8_held 13 = .ok (.invokevirtual 127, 3) := by decide +kernel
theorem dX8_held_16 : decode cX8_held 16 = .ok (.iload_n 1, 1) := by decide +kernel
theorem dX8_held_17 : decode cX8_held 17 = .ok (.ifCond .ne 13, 3) := by decide +kernel
theorem dX8_held_20 : decode cX8_held 20 = .ok (.aload_n 0, 1) := by decide +kernel
theorem dX8_held_21 : decode cX8_held 21 = .ok (.getfield 32, 3) := by decide +kernel
theorem dX8_held_24 : decode cX8_held 24 = .ok (.getfield 130, 3) := by decide +kernel
theorem dX8_held_27 : decode cX8_held 27 = .ok (.goto 10, 3) := by decide +kernel
theorem dX8_held_30 : decode cX8_held 30 = .ok (.aload_n 0, 1) := by decide +kernel
theorem dX8_held_31 : decode cX8_held 31 = .ok (.getfield 32, 3) := by decide +kernel
theorem dX8_held_34 : decode cX8_held 34 = .ok (.getfield 133, 3) := by decide +kernel
theorem dX8_held_37 : decode cX8_held 37 = .ok (.ireturn, 1) := by decide +kernel
theorem dX8_order_0 : decode cX8_order 0 = .ok (.iload_n 1, 1) := by decide +kernel
theorem dX8_order_1 : decode cX8_order 1 = .ok (.bipush (-2), 2) := by decide +kernel
theorem dX8_order_3 : decode cX8_order 3 = .ok (.if_icmp .lt 8, 3) := by decide +kernel
theorem dX8_order_6 : decode cX8_order 6 = .ok (.iload_n 1, 1) := by decide +kernel
theorem dX8_order_7 : decode cX8_order 7 = .ok (.iconst 4, 1) := by decide +kernel
theorem dX8_order_8 : decode cX8_order 8 = .ok (.if_icmp .lt 5, 3) := by decide +kernel
theorem dX8_order_11 : decode cX8_order 11 = .ok (.iconst (-1), 1) := by decide +kernel
theorem dX8_order_12 : decode cX8_order 12 = .ok (.ireturn, 1) := by decide +kernel
theorem dX8_order_13 : decode cX8_order 13 = .ok (.aload_n 0, 1) := by decide +kernel
theorem dX8_order_14 : decode cX8_order 14 = .ok (.invokevirtual 136, 3) := by decide +kernel
theorem dX8_order_17 : decode cX8_order 17 = .ok (.istore_n 2, 1) := by decide +kernel
theorem dX8_order_18 : decode cX8_order 18 = .ok (.iload_n 1, 1) := by decide +kernel
theorem dX8_order_19 : decode cX8_order 19 = .ok (.ifCond .lt 9, 3) := by decide +kernel
theorem dX8_order_22 : decode cX8_order 22 = .ok (.iload_n 2, 1) := by decide +kernel
theorem dX8_order_23 : decode cX8_order 23 = .ok (.iload_n 1, 1) := by decide +kernel
theorem dX8_order_24 : decode cX8_order 24 = .ok (.invokestatic 139, 3) := by decide +kernel
theorem dX8_order_27 : decode cX8_order 27 = .ok (.ireturn, 1) := by decide +kernel
theorem dX8_order_28 : decode cX8_order 28 = .ok (.aload_n 0, 1) := by decide +kernel
theorem dX8_order_29 : decode cX8_order 29 = .ok (.getfield 32, 3) := by decide +kernel
theorem dX8_order_32 : decode cX8_order 32 = .ok (.aload_n 0, 1) := by decide +kernel
theorem dX8_order_33 : decode cX8_order 33 = .ok (.getfield 19, 3) := by decide +kernel
theorem dX8_order_36 : decode cX8_order 36 = .ok (.aload_n 0, 1) := by decide +kernel
theorem dX8_order_37 : decode cX8_order 37 = .ok (.getfield 19, 3) := by decide +kernel
theorem dX8_order_40 : decode cX8_order 40 = .ok (.getfield 83, 3) := by decide +kernel
theorem dX8_order_43 : decode cX8_order 43 = .ok (.getfield 93, 3) := by decide +kernel
theorem dX8_order_46 : decode cX8_order 46 = .ok (.aload_n 0, 1) := by decide +kernel
theorem dX8_order_47 : decode cX8_order 47 = .ok (.getfield 19, 3) := by decide +kernel
theorem dX8_order_50 : decode cX8_order 50 = .ok (.iconst 1, 1) := by decide +kernel
theorem dX8_order_51 : decode cX8_order 51 = .ok (.invokevirtual 47, 3) := by decide +kernel
theorem dX8_order_54 : decode cX8_order 54 = .ok (.iload_n 2, 1) := by decide +kernel
theorem dX8_order_55 : decode cX8_order 55 = .ok (.iconst 0, 1) := by decide +kernel
theorem dX8_order_56 : decode cX8_order 56 = .ok (.invokevirtual 143, 3) := by decide +kernel
theorem dX8_order_59 : decode cX8_order 59 = .ok (.iload_n 1, 1) := by decide +kernel
theorem dX8_order_60 : decode cX8_order 60 = .ok (.iconst (-1), 1) := by decide +kernel
theorem dX8_order_61 : decode cX8_order 61 = .ok (.if_icmp .ne 13, 3) := by decide +kernel
theorem dX8_order_64 : decode cX8_order 64 = .ok (.aload_n 0, 1) := by decide +kernel
theorem dX8_order_65 : decode cX8_order 65 = .ok (.getfield 32, 3) := by decide +kernel
theorem dX8_order_68 : decode cX8_order 68 = .ok (.getfield 130, 3) := by decide +kernel
theorem dX8_order_71 : decode cX8_order 71 = .ok (.goto 16, 3) := by decide +kernel
theorem dX8_order_74 : decode cX8_order 74 = .ok (.aload_n 0, 1) := by decide +kernel
theorem dX8_order_75 : decode cX8_order 75 = .ok (.getfield 32, 3) := by decide +kernel
theorem dX8_order_78 : decode cX8_order 78 = .ok (.getfield 103, 3) := by decide +kernel
theorem dX8_order_81 : decode cX8_order 81 = .ok (.getfield 107, 3) := by decide +kernel
theorem dX8_order_84 : decode cX8_order 84 = .ok (.getfield 147, 3) := by decide +kernel
theorem dX8_order_87 : decode cX8_order 87 = .ok (.ireturn, 1) := by decide +kernel
theorem dX8_bestSalt_0 : decode cX8_bestSalt 0 = .ok (.iload_n 1, 1) := by decide +kernel
theorem dX8_bestSalt_1 : decode cX8_bestSalt 1 = .ok (.ifCond .lt 8, 3) := by decide +kernel
theorem dX8_bestSalt_4 : decode cX8_bestSalt 4 = .ok (.iload_n 1, 1) := by decide +kernel
theorem dX8_bestSalt_5 : decode cX8_bestSalt 5 = .ok (.iconst 1, 1) := by decide +kernel
theorem dX8_bestSalt_6 : decode cX8_bestSalt 6 = .ok (.if_icmp .le 6, 3) := by decide +kernel
theorem dX8_bestSalt_9 : decode cX8_bestSalt 9 = .ok (.bipush (-2), 2) := by decide +kernel
theorem dX8_bestSalt_11 : decode cX8_bestSalt 11 = .ok (.ireturn, 1) := by decide +kernel
theorem dX8_bestSalt_12 : decode cX8_bestSalt 12 = .ok (.aload_n 0, 1) := by decide +kernel
theorem dX8_bestSalt_13 : decode cX8_bestSalt 13 = .ok (.invokevirtual 150, 3) := by decide +kernel
theorem dX8_bestSalt_16 : decode cX8_bestSalt 16 = .ok (.istore_n 2, 1) := by decide +kernel
theorem dX8_bestSalt_17 : decode cX8_bestSalt 17 = .ok (.iload_n 2, 1) := by decide +kernel
theorem dX8_bestSalt_18 : decode cX8_bestSalt 18 = .ok (.bipush (-6), 2) := by decide +kernel
theorem dX8_bestSalt_20 : decode cX8_bestSalt 20 = .ok (.if_icmp .eq 7, 3) := by decide +kernel
theorem dX8_bestSalt_23 : decode cX8_bestSalt 23 = .ok (.iload_n 1, 1) := by decide +kernel
theorem dX8_bestSalt_24 : decode cX8_bestSalt 24 = .ok (.ifCond .ne 5, 3) := by decide +kernel
theorem dX8_bestSalt_27 : decode cX8_bestSalt 27 = .ok (.iload_n 2, 1) := by decide +kernel
theorem dX8_bestSalt_28 : decode cX8_bestSalt 28 = .ok (.ireturn, 1) := by decide +kernel
theorem dX8_bestSalt_29 : decode cX8_bestSalt 29 = .ok (.aload_n 0, 1) := by decide +kernel
theorem dX8_bestSalt_30 : decode cX8_bestSalt 30 = .ok (.getfield 32, 3) := by decide +kernel
theorem dX8_bestSalt_33 : decode cX8_bestSalt 33 = .ok (.aload_n 0, 1) := by decide +kernel
theorem dX8_bestSalt_34 : decode cX8_bestSalt 34 = .ok (.getfield 19, 3) := by decide +kernel
theorem dX8_bestSalt_37 : decode cX8_bestSalt 37 = .ok (.aload_n 0, 1) := by decide +kernel
theorem dX8_bestSalt_38 : decode cX8_bestSalt 38 = .ok (.getfield 19, 3) := by decide +kernel
theorem dX8_bestSalt_41 : decode cX8_bestSalt 41 = .ok (.getfield 83, 3) := by decide +kernel
theorem dX8_bestSalt_44 : decode cX8_bestSalt 44 = .ok (.getfield 93, 3) := by decide +kernel
theorem dX8_bestSalt_47 : decode cX8_bestSalt 47 = .ok (.iload_n 2, 1) := by decide +kernel
theorem dX8_bestSalt_48 : decode cX8_bestSalt 48 = .ok (.bipush 27, 2) := by decide +kernel
theorem dX8_bestSalt_50 : decode cX8_bestSalt 50 = .ok (.iconst 0, 1) := by decide +kernel
theorem dX8_bestSalt_51 : decode cX8_bestSalt 51 = .ok (.invokevirtual 143, 3) := by decide +kernel
theorem dX8_bestSalt_54 : decode cX8_bestSalt 54 = .ok (.aload_n 0, 1) := by decide +kernel
theorem dX8_bestSalt_55 : decode cX8_bestSalt 55 = .ok (.getfield 32, 3) := by decide +kernel
theorem dX8_bestSalt_58 : decode cX8_bestSalt 58 = .ok (.getfield 103, 3) := by decide +kernel
theorem dX8_bestSalt_61 : decode cX8_bestSalt 61 = .ok (.getfield 107, 3) := by decide +kernel
theorem dX8_bestSalt_64 : decode cX8_bestSalt 64 = .ok (.invokevirtual 153, 3) := by decide +kernel
theorem dX8_bestSalt_67 : decode cX8_bestSalt 67 = .ok (.ireturn, 1) := by decide +kernel
theorem dX8_bestPace_0 : decode cX8_bestPace 0 = .ok (.iload_n 1, 1) := by decide +kernel
theorem dX8_bestPace_1 : decode cX8_bestPace 1 = .ok (.ifCond .lt 8, 3) := by decide +kernel
theorem dX8_bestPace_4 : decode cX8_bestPace 4 = .ok (.iload_n 1, 1) := by decide +kernel
theorem dX8_bestPace_5 : decode cX8_bestPace 5 = .ok (.iconst 1, 1) := by decide +kernel
theorem dX8_bestPace_6 : decode cX8_bestPace 6 = .ok (.if_icmp .le 6, 3) := by decide +kernel
theorem dX8_bestPace_9 : decode cX8_bestPace 9 = .ok (.bipush (-2), 2) := by decide +kernel
theorem dX8_bestPace_11 : decode cX8_bestPace 11 = .ok (.ireturn, 1) := by decide +kernel
theorem dX8_bestPace_12 : decode cX8_bestPace 12 = .ok (.aload_n 0, 1) := by decide +kernel
theorem dX8_bestPace_13 : decode cX8_bestPace 13 = .ok (.invokevirtual 156, 3) := by decide +kernel
theorem dX8_bestPace_16 : decode cX8_bestPace 16 = .ok (.istore_n 2, 1) := by decide +kernel
theorem dX8_bestPace_17 : decode cX8_bestPace 17 = .ok (.iload_n 2, 1) := by decide +kernel
theorem dX8_bestPace_18 : decode cX8_bestPace 18 = .ok (.bipush (-6), 2) := by decide +kernel
theorem dX8_bestPace_20 : decode cX8_bestPace 20 = .ok (.if_icmp .eq 7, 3) := by decide +kernel
theorem dX8_bestPace_23 : decode cX8_bestPace 23 = .ok (.iload_n 1, 1) := by decide +kernel
theorem dX8_bestPace_24 : decode cX8_bestPace 24 = .ok (.ifCond .ne 5, 3) := by decide +kernel
theorem dX8_bestPace_27 : decode cX8_bestPace 27 = .ok (.iload_n 2, 1) := by decide +kernel
theorem dX8_bestPace_28 : decode cX8_bestPace 28 = .ok (.ireturn, 1) := by decide +kernel
theorem dX8_bestPace_29 : decode cX8_bestPace 29 = .ok (.aload_n 0, 1) := by decide +kernel
theorem dX8_bestPace_30 : decode cX8_bestPace 30 = .ok (.getfield 32, 3) := by decide +kernel
theorem dX8_bestPace_33 : decode cX8_bestPace 33 = .ok (.aload_n 0, 1) := by decide +kernel
theorem dX8_bestPace_34 : decode cX8_bestPace 34 = .ok (.getfield 19, 3) := by decide +kernel
theorem dX8_bestPace_37 : decode cX8_bestPace 37 = .ok (.aload_n 0, 1) := by decide +kernel
theorem dX8_bestPace_38 : decode cX8_bestPace 38 = .ok (.getfield 19, 3) := by decide +kernel
theorem dX8_bestPace_41 : decode cX8_bestPace 41 = .ok (.getfield 83, 3) := by decide +kernel
theorem dX8_bestPace_44 : decode cX8_bestPace 44 = .ok (.getfield 93, 3) := by decide +kernel
theorem dX8_bestPace_47 : decode cX8_bestPace 47 = .ok (.aload_n 0, 1) := by decide +kernel
theorem dX8_bestPace_48 : decode cX8_bestPace 48 = .ok (.getfield 19, 3) := by decide +kernel
theorem dX8_bestPace_51 : decode cX8_bestPace 51 = .ok (.iconst 1, 1) := by decide +kernel
theorem dX8_bestPace_52 : decode cX8_bestPace 52 = .ok (.invokevirtual 47, 3) := by decide +kernel
theorem dX8_bestPace_55 : decode cX8_bestPace 55 = .ok (.bipush 27, 2) := by decide +kernel
theorem dX8_bestPace_57 : decode cX8_bestPace 57 = .ok (.iload_n 2, 1) := by decide +kernel
theorem dX8_bestPace_58 : decode cX8_bestPace 58 = .ok (.invokevirtual 143, 3) := by decide +kernel
theorem dX8_bestPace_61 : decode cX8_bestPace 61 = .ok (.aload_n 0, 1) := by decide +kernel
theorem dX8_bestPace_62 : decode cX8_bestPace 62 = .ok (.getfield 32, 3) := by decide +kernel
theorem dX8_bestPace_65 : decode cX8_bestPace 65 = .ok (.getfield 103, 3) := by decide +kernel
theorem dX8_bestPace_68 : decode cX8_bestPace 68 = .ok (.getfield 107, 3) := by decide +kernel
theorem dX8_bestPace_71 : decode cX8_bestPace 71 = .ok (.invokevirtual 153, 3) := by decide +kernel
theorem dX8_bestPace_74 : decode cX8_bestPace 74 = .ok (.ireturn, 1) := by decide +kernel
theorem dX8_leaveOff_0 : decode cX8_leaveOff 0 = .ok (.iload_n 1, 1) := by decide +kernel
theorem dX8_leaveOff_1 : decode cX8_leaveOff 1 = .ok (.ifCond .lt 9, 3) := by decide +kernel
theorem dX8_leaveOff_4 : decode cX8_leaveOff 4 = .ok (.iload_n 1, 1) := by decide +kernel
theorem dX8_leaveOff_5 : decode cX8_leaveOff 5 = .ok (.bipush 120, 2) := by decide +kernel
theorem dX8_leaveOff_7 : decode cX8_leaveOff 7 = .ok (.if_icmp .le 6, 3) := by decide +kernel
theorem dX8_leaveOff_10 : decode cX8_leaveOff 10 = .ok (.bipush (-2), 2) := by decide +kernel
theorem dX8_leaveOff_12 : decode cX8_leaveOff 12 = .ok (.ireturn, 1) := by decide +kernel
theorem dX8_leaveOff_13 : decode cX8_leaveOff 13 = .ok (.aload_n 0, 1) := by decide +kernel
theorem dX8_leaveOff_14 : decode cX8_leaveOff 14 = .ok (.invokevirtual 127, 3) := by decide +kernel
theorem dX8_leaveOff_17 : decode cX8_leaveOff 17 = .ok (.iconst 0, 1) := by decide +kernel
theorem dX8_leaveOff_18 : decode cX8_leaveOff 18 = .ok (.istore_n 2, 1) := by decide +kernel
theorem dX8_leaveOff_19 : decode cX8_leaveOff 19 = .ok (.iload_n 2, 1) := by decide +kernel
theorem dX8_leaveOff_20 : decode cX8_leaveOff 20 = .ok (.aload_n 0, 1) := by decide +kernel
theorem dX8_leaveOff_21 : decode cX8_leaveOff 21 = .ok (.getfield 32, 3) := by decide +kernel
theorem dX8_leaveOff_24 : decode cX8_leaveOff 24 = .ok (.getfield 159, 3) := by decide +kernel
theorem dX8_leaveOff_27 : decode cX8_leaveOff 27 = .ok (.if_icmp .ge 26, 3) := by decide +kernel
theorem dX8_leaveOff_30 : decode cX8_leaveOff 30 = .ok (.aload_n 0, 1) := by decide +kernel
theorem dX8_leaveOff_31 : decode cX8_leaveOff 31 = .ok (.getfield 32, 3) := by decide +kernel
theorem dX8_leaveOff_34 : decode cX8_leaveOff 34 = .ok (.getfield 160, 3) := by decide +kernel
theorem dX8_leaveOff_37 : decode cX8_leaveOff 37 = .ok (.iload_n 2, 1) := by decide +kernel
theorem dX8_leaveOff_38 : decode cX8_leaveOff 38 = .ok (.invokestatic 40, 3) := by decide +kernel
theorem dX8_leaveOff_41 : decode cX8_leaveOff 41 = .ok (.iload_n 1, 1) := by decide +kernel
theorem dX8_leaveOff_42 : decode cX8_leaveOff 42 = .ok (.if_icmp .lt 5, 3) := by decide +kernel
theorem dX8_leaveOff_45 : decode cX8_leaveOff 45 = .ok (.iload_n 2, 1) := by decide +kernel
theorem dX8_leaveOff_46 : decode cX8_leaveOff 46 = .ok (.ireturn, 1) := by decide +kernel
theorem dX8_leaveOff_47 : decode cX8_leaveOff 47 = .ok (.iinc 2 1, 3) := by decide +kernel
theorem dX8_leaveOff_50 : decode cX8_leaveOff 50 = .ok (.goto (-31), 3) := by decide +kernel
theorem dX8_leaveOff_53 : decode cX8_leaveOff 53 = .ok (.bipush (-6), 2) := by decide +kernel
theorem dX8_leaveOff_55 : decode cX8_leaveOff 55 = .ok (.ireturn, 1) := by decide +kernel
theorem dX8_box_0 : decode cX8_box 0 = .ok (.aload_n 0, 1) := by decide +kernel
theorem dX8_box_1 : decode cX8_box 1 = .ok (.getfield 10, 3) := by decide +kernel
theorem dX8_box_4 : decode cX8_box 4 = .ok (.invokevirtual 80, 3) := by decide +kernel
theorem dX8_box_7 : decode cX8_box 7 = .ok (.bipush (-6), 2) := by decide +kernel
theorem dX8_box_9 : decode cX8_box 9 = .ok (.if_icmp .eq 6, 3) := by decide +kernel
theorem dX8_box_12 : decode cX8_box 12 = .ok (.bipush (-5), 2) := by decide +kernel
theorem dX8_box_14 : decode cX8_box 14 = .ok (.ireturn, 1) := by decide +kernel
theorem dX8_box_15 : decode cX8_box 15 = .ok (.aload_n 0, 1) := by decide +kernel
theorem dX8_box_16 : decode cX8_box 16 = .ok (.getfield 19, 3) := by decide +kernel
theorem dX8_box_19 : decode cX8_box 19 = .ok (.getfield 163, 3) := by decide +kernel
theorem dX8_box_22 : decode cX8_box 22 = .ok (.aload_n 0, 1) := by decide +kernel
theorem dX8_box_23 : decode cX8_box 23 = .ok (.getfield 10, 3) := by decide +kernel
theorem dX8_box_26 : decode cX8_box 26 = .ok (.invokevirtual 166, 3) := by decide +kernel
theorem dX8_box_29 : decode cX8_box 29 = .ok (.aload_n 0, 1) := by decide +kernel
theorem dX8_box_30 : decode cX8_box 30 = .ok (.getfield 10, 3) := by decide +kernel
theorem dX8_box_33 : decode cX8_box 33 = .ok (.invokevirtual 73, 3) := by decide +kernel
theorem dX8_box_36 : decode cX8_box 36 = .ok (.aload_n 0, 1) := by decide +kernel
theorem dX8_box_37 : decode cX8_box 37 = .ok (.getfield 19, 3) := by decide +kernel
theorem dX8_box_40 : decode cX8_box 40 = .ok (.getfield 163, 3) := by decide +kernel
theorem dX8_box_43 : decode cX8_box 43 = .ok (.getfield 65, 3) := by decide +kernel
theorem dX8_box_46 : decode cX8_box 46 = .ok (.ireturn, 1) := by decide +kernel
theorem dX8_stored_0 : decode cX8_stored 0 = .ok (.iload_n 1, 1) := by decide +kernel
theorem dX8_stored_1 : decode cX8_stored 1 = .ok (.ifCond .lt 9, 3) := by decide +kernel
theorem dX8_stored_4 : decode cX8_stored 4 = .ok (.iload_n 1, 1) := by decide +kernel
theorem dX8_stored_5 : decode cX8_stored 5 = .ok (.bipush 99, 2) := by decide +kernel
theorem dX8_stored_7 : decode cX8_stored 7 = .ok (.if_icmp .le 6, 3) := by decide +kernel
theorem dX8_stored_10 : decode cX8_stored 10 = .ok (.bipush (-2), 2) := by decide +kernel
theorem dX8_stored_12 : decode cX8_stored 12 = .ok (.ireturn, 1) := by decide +kernel
theorem dX8_stored_13 : decode cX8_stored 13 = .ok (.iload_n 1, 1) := by decide +kernel
theorem dX8_stored_14 : decode cX8_stored 14 = .ok (.ifCond .le 19, 3) := by decide +kernel
theorem dX8_stored_17 : decode cX8_stored 17 = .ok (.aload_n 0, 1) := by decide +kernel
theorem dX8_stored_18 : decode cX8_stored 18 = .ok (.getfield 19, 3) := by decide +kernel
theorem dX8_stored_21 : decode cX8_stored 21 = .ok (.getfield 163, 3) := by decide +kernel
theorem dX8_stored_24 : decode cX8_stored 24 = .ok (.getfield 65, 3) := by decide +kernel
theorem dX8_stored_27 : decode cX8_stored 27 = .ok (.ifCond .ne 6, 3) := by decide +kernel
theorem dX8_stored_30 : decode cX8_stored 30 = .ok (.bipush (-3), 2) := by decide +kernel
theorem dX8_stored_32 : decode cX8_stored 32 = .ok (.ireturn, 1) := by decide +kernel
theorem dX8_stored_33 : decode cX8_stored 33 = .ok (.aload_n 0, 1) := by decide +kernel
theorem dX8_stored_34 : decode cX8_stored 34 = .ok (.invokevirtual 127, 3) := by decide +kernel
theorem dX8_stored_37 : decode cX8_stored 37 = .ok (.aload_n 0, 1) := by decide +kernel
theorem dX8_stored_38 : decode cX8_stored 38 = .ok (.iload_n 1, 1) := by decide +kernel
theorem dX8_stored_39 : decode cX8_stored 39 = .ok (.invokevirtual 169, 3) := by decide +kernel
theorem dX8_stored_42 : decode cX8_stored 42 = .ok (.aload_n 0, 1) := by decide +kernel
theorem dX8_stored_43 : decode cX8_stored 43 = .ok (.getfield 32, 3) := by decide +kernel
theorem dX8_stored_46 : decode cX8_stored 46 = .ok (.getfield 103, 3) := by decide +kernel
theorem dX8_stored_49 : decode cX8_stored 49 = .ok (.getfield 107, 3) := by decide +kernel
theorem dX8_stored_52 : decode cX8_stored 52 = .ok (.invokevirtual 153, 3) := by decide +kernel
theorem dX8_stored_55 : decode cX8_stored 55 = .ok (.ireturn, 1) := by decide +kernel
theorem dX8_grown_0 : decode cX8_grown 0 = .ok (.iload_n 1, 1) := by decide +kernel
theorem dX8_grown_1 : decode cX8_grown 1 = .ok (.ifCond .lt 21, 3) := by decide +kernel
theorem dX8_grown_4 : decode cX8_grown 4 = .ok (.iload_n 1, 1) := by decide +kernel
theorem dX8_grown_5 : decode cX8_grown 5 = .ok (.bipush 99, 2) := by decide +kernel
theorem dX8_grown_7 : decode cX8_grown 7 = .ok (.if_icmp .gt 15, 3) := by decide +kernel
theorem dX8_grown_10 : decode cX8_grown 10 = .ok (.iload_n 2, 1) := by decide +kernel
theorem dX8_grown_11 : decode cX8_grown 11 = .ok (.bipush 10, 2) := by decide +kernel
theorem dX8_grown_13 : decode cX8_grown 13 = .ok (.if_icmp .lt 9, 3) := by decide +kernel
theorem dX8_grown_16 : decode cX8_grown 16 = .ok (.iload_n 2, 1) := by decide +kernel
theorem dX8_grown_17 : decode cX8_grown 17 = .ok (.bipush 63, 2) := by decide +kernel
theorem dX8_grown_19 : decode cX8_grown 19 = .ok (.if_icmp .le 6, 3) := by decide +kernel
theorem dX8_grown_22 : decode cX8_grown 22 = .ok (.bipush (-2), 2) := by decide +kernel
theorem dX8_grown_24 : decode cX8_grown 24 = .ok (.ireturn, 1) := by decide +kernel
theorem dX8_grown_25 : decode cX8_grown 25 = .ok (.iload_n 1, 1) := by decide +kernel
theorem dX8_grown_26 : decode cX8_grown 26 = .ok (.ifCond .le 19, 3) := by decide +kernel
theorem dX8_grown_29 : decode cX8_grown 29 = .ok (.aload_n 0, 1) := by decide +kernel
theorem dX8_grown_30 : decode cX8_grown 30 = .ok (.getfield 19, 3) := by decide +kernel
theorem dX8_grown_33 : decode cX8_grown 33 = .ok (.getfield 163, 3) := by decide +kernel
theorem dX8_grown_36 : decode cX8_grown 36 = .ok (.getfield 65, 3) := by decide +kernel
theorem dX8_grown_39 : decode cX8_grown 39 = .ok (.ifCond .ne 6, 3) := by decide +kernel
theorem dX8_grown_42 : decode cX8_grown 42 = .ok (.bipush (-3), 2) := by decide +kernel
theorem dX8_grown_44 : decode cX8_grown 44 = .ok (.ireturn, 1) := by decide +kernel
theorem dX8_grown_45 : decode cX8_grown 45 = .ok (.aload_n 0, 1) := by decide +kernel
theorem dX8_grown_46 : decode cX8_grown 46 = .ok (.invokevirtual 127, 3) := by decide +kernel
theorem dX8_grown_49 : decode cX8_grown 49 = .ok (.aload_n 0, 1) := by decide +kernel
theorem dX8_grown_50 : decode cX8_grown 50 = .ok (.iload_n 1, 1) := by decide +kernel
theorem dX8_grown_51 : decode cX8_grown 51 = .ok (.invokevirtual 169, 3) := by decide +kernel
theorem dX8_grown_54 : decode cX8_grown 54 = .ok (.aload_n 0, 1) := by decide +kernel
theorem dX8_grown_55 : decode cX8_grown 55 = .ok (.getfield 32, 3) := by decide +kernel
theorem dX8_grown_58 : decode cX8_grown 58 = .ok (.getfield 103, 3) := by decide +kernel
theorem dX8_grown_61 : decode cX8_grown 61 = .ok (.getfield 107, 3) := by decide +kernel
theorem dX8_grown_64 : decode cX8_grown 64 = .ok (.iload_n 2, 1) := by decide +kernel
theorem dX8_grown_65 : decode cX8_grown 65 = .ok (.invokevirtual 113, 3) := by decide +kernel
theorem dX8_grown_68 : decode cX8_grown 68 = .ok (.ireturn, 1) := by decide +kernel
theorem dX8_sand_0 : decode cX8_sand 0 = .ok (.aload_n 0, 1) := by decide +kernel
theorem dX8_sand_1 : decode cX8_sand 1 = .ok (.getfield 19, 3) := by decide +kernel
theorem dX8_sand_4 : decode cX8_sand 4 = .ok (.getfield 163, 3) := by decide +kernel
theorem dX8_sand_7 : decode cX8_sand 7 = .ok (.getfield 65, 3) := by decide +kernel
theorem dX8_sand_10 : decode cX8_sand 10 = .ok (.ifCond .ne 6, 3) := by decide +kernel
theorem dX8_sand_13 : decode cX8_sand 13 = .ok (.bipush (-3), 2) := by decide +kernel
theorem dX8_sand_15 : decode cX8_sand 15 = .ok (.ireturn, 1) := by decide +kernel
theorem dX8_sand_16 : decode cX8_sand 16 = .ok (.aload_n 0, 1) := by decide +kernel
theorem dX8_sand_17 : decode cX8_sand 17 = .ok (.invokevirtual 127, 3) := by decide +kernel
theorem dX8_sand_20 : decode cX8_sand 20 = .ok (.iconst 1, 1) := by decide +kernel
theorem dX8_sand_21 : decode cX8_sand 21 = .ok (.istore_n 1, 1) := by decide +kernel
theorem dX8_sand_22 : decode cX8_sand 22 = .ok (.iload_n 1, 1) := by decide +kernel
theorem dX8_sand_23 : decode cX8_sand 23 = .ok (.bipush 99, 2) := by decide +kernel
theorem dX8_sand_25 : decode cX8_sand 25 = .ok (.if_icmp .gt 41, 3) := by decide +kernel
theorem dX8_sand_28 : decode cX8_sand 28 = .ok (.aload_n 0, 1) := by decide +kernel
theorem dX8_sand_29 : decode cX8_sand 29 = .ok (.iload_n 1, 1) := by decide +kernel
theorem dX8_sand_30 : decode cX8_sand 30 = .ok (.invokevirtual 172, 3) := by decide +kernel
theorem dX8_sand_33 : decode cX8_sand 33 = .ok (.aload_n 0, 1) := by decide +kernel
theorem dX8_sand_34 : decode cX8_sand 34 = .ok (.getfield 32, 3) := by decide +kernel
theorem dX8_sand_37 : decode cX8_sand 37 = .ok (.getfield 103, 3) := by decide +kernel
theorem dX8_sand_40 : decode cX8_sand 40 = .ok (.getfield 107, 3) := by decide +kernel
theorem dX8_sand_43 : decode cX8_sand 43 = .ok (.invokevirtual 153, 3) := by decide +kernel
theorem dX8_sand_46 : decode cX8_sand 46 = .ok (.aload_n 0, 1) := by decide +kernel
theorem dX8_sand_47 : decode cX8_sand 47 = .ok (.getfield 19, 3) := by decide +kernel
theorem dX8_sand_50 : decode cX8_sand 50 = .ok (.bipush 6, 2) := by decide +kernel
theorem dX8_sand_52 : decode cX8_sand 52 = .ok (.invokevirtual 47, 3) := by decide +kernel
theorem dX8_sand_55 : decode cX8_sand 55 = .ok (.if_icmp .lt 5, 3) := by decide +kernel
theorem dX8_sand_58 : decode cX8_sand 58 = .ok (.iload_n 1, 1) := by decide +kernel
theorem dX8_sand_59 : decode cX8_sand 59 = .ok (.ireturn, 1) := by decide +kernel
theorem dX8_sand_60 : decode cX8_sand 60 = .ok (.iinc 1 1, 3) := by decide +kernel
theorem dX8_sand_63 : decode cX8_sand 63 = .ok (.goto (-41), 3) := by decide +kernel
theorem dX8_sand_66 : decode cX8_sand 66 = .ok (.bipush (-6), 2) := by decide +kernel
theorem dX8_sand_68 : decode cX8_sand 68 = .ok (.ireturn, 1) := by decide +kernel
theorem dX8_iceAt_0 : decode cX8_iceAt 0 = .ok (.iload_n 1, 1) := by decide +kernel
theorem dX8_iceAt_1 : decode cX8_iceAt 1 = .ok (.invokestatic 175, 3) := by decide +kernel
theorem dX8_iceAt_4 : decode cX8_iceAt 4 = .ok (.ifCond .eq 12, 3) := by decide +kernel
theorem dX8_iceAt_7 : decode cX8_iceAt 7 = .ok (.iload_n 2, 1) := by decide +kernel
theorem dX8_iceAt_8 : decode cX8_iceAt 8 = .ok (.ifCond .lt 8, 3) := by decide +kernel
theorem dX8_iceAt_11 : decode cX8_iceAt 11 = .ok (.iload_n 2, 1) := by decide +kernel
theorem dX8_iceAt_12 : decode cX8_iceAt 12 = .ok (.iconst 1, 1) := by decide +kernel
theorem dX8_iceAt_13 : decode cX8_iceAt 13 = .ok (.if_icmp .le 7, 3) := by decide +kernel
theorem dX8_iceAt_16 : decode cX8_iceAt 16 = .ok (.ldc2_w 178, 3) := by decide +kernel
theorem dX8_iceAt_19 : decode cX8_iceAt 19 = .ok (.lreturn, 1) := by decide +kernel
theorem dX8_iceAt_20 : decode cX8_iceAt 20 = .ok (.iload_n 1, 1) := by decide +kernel
theorem dX8_iceAt_21 : decode cX8_iceAt 21 = .ok (.i2l, 1) := by decide +kernel
theorem dX8_iceAt_22 : decode cX8_iceAt 22 = .ok (.aload_n 0, 1) := by decide +kernel
theorem dX8_iceAt_23 : decode cX8_iceAt 23 = .ok (.getfield 19, 3) := by decide +kernel
theorem dX8_iceAt_26 : decode cX8_iceAt 26 = .ok (.iconst 2, 1) := by decide +kernel
theorem dX8_iceAt_27 : decode cX8_iceAt 27 = .ok (.invokevirtual 47, 3) := by decide +kernel
theorem dX8_iceAt_30 : decode cX8_iceAt 30 = .ok (.i2l, 1) := by decide +kernel
theorem dX8_iceAt_31 : decode cX8_iceAt 31 = .ok (.lmul, 1) := by decide +kernel
theorem dX8_iceAt_32 : decode cX8_iceAt 32 = .ok (.lstore_n 3, 1) := by decide +kernel
theorem dX8_iceAt_33 : decode cX8_iceAt 33 = .ok (.lconst 0, 1) := by decide +kernel
theorem dX8_iceAt_34 : decode cX8_iceAt 34 = .ok (.lload_n 3, 1) := by decide +kernel
theorem dX8_iceAt_35 : decode cX8_iceAt 35 = .ok (.ldc2_w 180, 3) := by decide +kernel
theorem dX8_iceAt_38 : decode cX8_iceAt 38 = .ok (.aload_n 0, 1) := by decide +kernel
theorem dX8_iceAt_39 : decode cX8_iceAt 39 = .ok (.getfield 19, 3) := by decide +kernel
theorem dX8_iceAt_42 : decode cX8_iceAt 42 = .ok (.iconst 3, 1) := by decide +kernel
theorem dX8_iceAt_43 : decode cX8_iceAt 43 = .ok (.invokevirtual 47, 3) := by decide +kernel
theorem dX8_iceAt_46 : decode cX8_iceAt 46 = .ok (.i2l, 1) := by decide +kernel
theorem dX8_iceAt_47 : decode cX8_iceAt 47 = .ok (.lmul, 1) := by decide +kernel
theorem dX8_iceAt_48 : decode cX8_iceAt 48 = .ok (.lsub, 1) := by decide +kernel
theorem dX8_iceAt_49 : decode cX8_iceAt 49 = .ok (.invokestatic 182, 3) := by decide +kernel
theorem dX8_iceAt_52 : decode cX8_iceAt 52 = .ok (.lstore 5, 2) := by decide +kernel
theorem dX8_iceAt_54 : decode cX8_iceAt 54 = .ok (.lload 5, 2) := by decide +kernel
theorem dX8_iceAt_56 : decode cX8_iceAt 56 = .ok (.lload_n 3, 1) := by decide +kernel
theorem dX8_iceAt_57 : decode cX8_iceAt 57 = .ok (.invokestatic 188, 3) := by decide +kernel
theorem dX8_iceAt_60 : decode cX8_iceAt 60 = .ok (.lstore 7, 2) := by decide +kernel
theorem dX8_iceAt_62 : decode cX8_iceAt 62 = .ok (.lload 7, 2) := by decide +kernel
theorem dX8_iceAt_64 : decode cX8_iceAt 64 = .ok (.lconst 0, 1) := by decide +kernel
theorem dX8_iceAt_65 : decode cX8_iceAt 65 = .ok (.lcmp, 1) := by decide +kernel
theorem dX8_iceAt_66 : decode cX8_iceAt 66 = .ok (.ifCond .ne 5, 3) := by decide +kernel
theorem dX8_iceAt_69 : decode cX8_iceAt 69 = .ok (.lconst 0, 1) := by decide +kernel
theorem dX8_iceAt_70 : decode cX8_iceAt 70 = .ok (.lreturn, 1) := by decide +kernel
theorem dX8_iceAt_71 : decode cX8_iceAt 71 = .ok (.iload_n 2, 1) := by decide +kernel
theorem dX8_iceAt_72 : decode cX8_iceAt 72 = .ok (.ifCond .ne 8, 3) := by decide +kernel
theorem dX8_iceAt_75 : decode cX8_iceAt 75 = .ok (.lload 5, 2) := by decide +kernel
theorem dX8_iceAt_77 : decode cX8_iceAt 77 = .ok (.goto 4, 3) := by decide +kernel
theorem dX8_iceAt_80 : decode cX8_iceAt 80 = .ok (.lload_n 3, 1) := by decide +kernel
theorem dX8_iceAt_81 : decode cX8_iceAt 81 = .ok (.lload 7, 2) := by decide +kernel
theorem dX8_iceAt_83 : decode cX8_iceAt 83 = .ok (.ldiv, 1) := by decide +kernel
theorem dX8_iceAt_84 : decode cX8_iceAt 84 = .ok (.lreturn, 1) := by decide +kernel
theorem dX8_soft_0 : decode cX8_soft 0 = .ok (.sipush 300, 3) := by decide +kernel
theorem dX8_soft_3 : decode cX8_soft 3 = .ok (.istore_n 1, 1) := by decide +kernel
theorem dX8_soft_4 : decode cX8_soft 4 = .ok (.iload_n 1, 1) := by decide +kernel
theorem dX8_soft_5 : decode cX8_soft 5 = .ok (.iconst 1, 1) := by decide +kernel
theorem dX8_soft_6 : decode cX8_soft 6 = .ok (.if_icmp .lt 27, 3) := by decide +kernel
theorem dX8_soft_9 : decode cX8_soft 9 = .ok (.aload_n 0, 1) := by decide +kernel
theorem dX8_soft_10 : decode cX8_soft 10 = .ok (.aload_n 0, 1) := by decide +kernel
theorem dX8_soft_11 : decode cX8_soft 11 = .ok (.getfield 19, 3) := by decide +kernel
theorem dX8_soft_14 : decode cX8_soft 14 = .ok (.iconst 3, 1) := by decide +kernel
theorem dX8_soft_15 : decode cX8_soft 15 = .ok (.invokevirtual 47, 3) := by decide +kernel
theorem dX8_soft_18 : decode cX8_soft 18 = .ok (.iload_n 1, 1) := by decide +kernel
theorem dX8_soft_19 : decode cX8_soft 19 = .ok (.invokevirtual 191, 3) := by decide +kernel
theorem dX8_soft_22 : decode cX8_soft 22 = .ok (.ifCond .eq 5, 3) := by decide +kernel
theorem dX8_soft_25 : decode cX8_soft 25 = .ok (.iload_n 1, 1) := by decide +kernel
theorem dX8_soft_26 : decode cX8_soft 26 = .ok (.ireturn, 1) := by decide +kernel
theorem dX8_soft_27 : decode cX8_soft 27 = .ok (.iinc 1 (-1), 3) := by decide +kernel
theorem dX8_soft_30 : decode cX8_soft 30 = .ok (.goto (-26), 3) := by decide +kernel
theorem dX8_soft_33 : decode cX8_soft 33 = .ok (.bipush (-6), 2) := by decide +kernel
theorem dX8_soft_35 : decode cX8_soft 35 = .ok (.ireturn, 1) := by decide +kernel
theorem dX8_sugarFor_0 : decode cX8_sugarFor 0 = .ok (.iload_n 1, 1) := by decide +kernel
theorem dX8_sugarFor_1 : decode cX8_sugarFor 1 = .ok (.invokestatic 175, 3) := by decide +kernel
theorem dX8_sugarFor_4 : decode cX8_sugarFor 4 = .ok (.ifCond .ne 6, 3) := by decide +kernel
theorem dX8_sugarFor_7 : decode cX8_sugarFor 7 = .ok (.bipush (-2), 2) := by decide +kernel
theorem dX8_sugarFor_9 : decode cX8_sugarFor 9 = .ok (.ireturn, 1) := by decide +kernel
theorem dX8_sugarFor_10 : decode cX8_sugarFor 10 = .ok (.getstatic 36, 3) := by decide +kernel
theorem dX8_sugarFor_13 : decode cX8_sugarFor 13 = .ok (.iconst 3, 1) := by decide +kernel
theorem dX8_sugarFor_14 : decode cX8_sugarFor 14 = .ok (.invokestatic 40, 3) := by decide +kernel
theorem dX8_sugarFor_17 : decode cX8_sugarFor 17 = .ok (.istore_n 2, 1) := by decide +kernel
theorem dX8_sugarFor_18 : decode cX8_sugarFor 18 = .ok (.iload_n 2, 1) := by decide +kernel
theorem dX8_sugarFor_19 : decode cX8_sugarFor 19 = .ok (.getstatic 44, 3) := by decide +kernel
theorem dX8_sugarFor_22 : decode cX8_sugarFor 22 = .ok (.iconst 3, 1) := by decide +kernel
theorem dX8_sugarFor_23 : decode cX8_sugarFor 23 = .ok (.invokestatic 40, 3) := by decide +kernel
theorem dX8_sugarFor_26 : decode cX8_sugarFor 26 = .ok (.if_icmp .gt 20, 3) := by decide +kernel
theorem dX8_sugarFor_29 : decode cX8_sugarFor 29 = .ok (.aload_n 0, 1) := by decide +kernel
theorem dX8_sugarFor_30 : decode cX8_sugarFor 30 = .ok (.iload_n 2, 1) := by decide +kernel
theorem dX8_sugarFor_31 : decode cX8_sugarFor 31 = .ok (.iload_n 1, 1) := by decide +kernel
theorem dX8_sugarFor_32 : decode cX8_sugarFor 32 = .ok (.invokevirtual 191, 3) := by decide +kernel
theorem dX8_sugarFor_35 : decode cX8_sugarFor 35 = .ok (.ifCond .eq 5, 3) := by decide +kernel
theorem dX8_sugarFor_38 : decode cX8_sugarFor 38 = .ok (.iload_n 2, 1) := by decide +kernel
theorem dX8_sugarFor_39 : decode cX8_sugarFor 39 = .ok (.ireturn, 1) := by decide +kernel
theorem dX8_sugarFor_40 : decode cX8_sugarFor 40 = .ok (.iinc 2 1, 3) := by decide +kernel
theorem dX8_sugarFor_43 : decode cX8_sugarFor 43 = .ok (.goto (-25), 3) := by decide +kernel
theorem dX8_sugarFor_46 : decode cX8_sugarFor 46 = .ok (.bipush (-6), 2) := by decide +kernel
theorem dX8_sugarFor_48 : decode cX8_sugarFor 48 = .ok (.ireturn, 1) := by decide +kernel
theorem dX8_image_0 : decode cX8_image 0 = .ok (.iload_n 1, 1) := by decide +kernel
theorem dX8_image_1 : decode cX8_image 1 = .ok (.ifCond .lt 8, 3) := by decide +kernel
theorem dX8_image_4 : decode cX8_image 4 = .ok (.iload_n 1, 1) := by decide +kernel
theorem dX8_image_5 : decode cX8_image 5 = .ok (.iconst 1, 1) := by decide +kernel
theorem dX8_image_6 : decode cX8_image 6 = .ok (.if_icmp .le 6, 3) := by decide +kernel
theorem dX8_image_9 : decode cX8_image 9 = .ok (.bipush (-2), 2) := by decide +kernel
theorem dX8_image_11 : decode cX8_image 11 = .ok (.ireturn, 1) := by decide +kernel
theorem dX8_image_12 : decode cX8_image 12 = .ok (.iload_n 1, 1) := by decide +kernel
theorem dX8_image_13 : decode cX8_image 13 = .ok (.ifCond .ne 10, 3) := by decide +kernel
theorem dX8_image_16 : decode cX8_image 16 = .ok (.aload_n 0, 1) := by decide +kernel
theorem dX8_image_17 : decode cX8_image 17 = .ok (.getfield 23, 3) := by decide +kernel
theorem dX8_image_20 : decode cX8_image 20 = .ok (.goto 7, 3) := by decide +kernel
theorem dX8_image_23 : decode cX8_image 23 = .ok (.aload_n 0, 1) := by decide +kernel
theorem dX8_image_24 : decode cX8_image 24 = .ok (.getfield 26, 3) := by decide +kernel
theorem dX8_image_27 : decode cX8_image 27 = .ok (.astore_n 2, 1) := by decide +kernel
theorem dX8_image_28 : decode cX8_image 28 = .ok (.aload_n 2, 1) := by decide +kernel
theorem dX8_image_29 : decode cX8_image 29 = .ok (.aload_n 0, 1) := by decide +kernel
theorem dX8_image_30 : decode cX8_image 30 = .ok (.getfield 19, 3) := by decide +kernel
theorem dX8_image_33 : decode cX8_image 33 = .ok (.invokevirtual 195, 3) := by decide +kernel
theorem dX8_image_36 : decode cX8_image 36 = .ok (.aload_n 2, 1) := by decide +kernel
theorem dX8_image_37 : decode cX8_image 37 = .ok (.iconst 1, 1) := by decide +kernel
theorem dX8_image_38 : decode cX8_image 38 = .ok (.putfield 198, 3) := by decide +kernel
theorem dX8_image_41 : decode cX8_image 41 = .ok (.iconst 1, 1) := by decide +kernel
theorem dX8_image_42 : decode cX8_image 42 = .ok (.ireturn, 1) := by decide +kernel
theorem dX8_restore_0 : decode cX8_restore 0 = .ok (.iload_n 1, 1) := by decide +kernel
theorem dX8_restore_1 : decode cX8_restore 1 = .ok (.ifCond .lt 8, 3) := by decide +kernel
theorem dX8_restore_4 : decode cX8_restore 4 = .ok (.iload_n 1, 1) := by decide +kernel
theorem dX8_restore_5 : decode cX8_restore 5 = .ok (.iconst 1, 1) := by decide +kernel
theorem dX8_restore_6 : decode cX8_restore 6 = .ok (.if_icmp .le 6, 3) := by decide +kernel
theorem dX8_restore_9 : decode cX8_restore 9 = .ok (.bipush (-2), 2) := by decide +kernel
theorem dX8_restore_11 : decode cX8_restore 11 = .ok (.ireturn, 1) := by decide +kernel
theorem dX8_restore_12 : decode cX8_restore 12 = .ok (.iload_n 1, 1) := by decide +kernel
theorem dX8_restore_13 : decode cX8_restore 13 = .ok (.ifCond .ne 10, 3) := by decide +kernel
theorem dX8_restore_16 : decode cX8_restore 16 = .ok (.aload_n 0, 1) := by decide +kernel
theorem dX8_restore_17 : decode cX8_restore 17 = .ok (.getfield 23, 3) := by decide +kernel
theorem dX8_restore_20 : decode cX8_restore 20 = .ok (.goto 7, 3) := by decide +kernel
theorem dX8_restore_23 : decode cX8_restore 23 = .ok (.aload_n 0, 1) := by decide +kernel
theorem dX8_restore_24 : decode cX8_restore 24 = .ok (.getfield 26, 3) := by decide +kernel
theorem dX8_restore_27 : decode cX8_restore 27 = .ok (.astore_n 2, 1) := by decide +kernel
theorem dX8_restore_28 : decode cX8_restore 28 = .ok (.aload_n 2, 1) := by decide +kernel
theorem dX8_restore_29 : decode cX8_restore 29 = .ok (.getfield 198, 3) := by decide +kernel
theorem dX8_restore_32 : decode cX8_restore 32 = .ok (.ifCond .ne 6, 3) := by decide +kernel
theorem dX8_restore_35 : decode cX8_restore 35 = .ok (.bipush (-3), 2) := by decide +kernel
theorem dX8_restore_37 : decode cX8_restore 37 = .ok (.ireturn, 1) := by decide +kernel
theorem dX8_restore_38 : decode cX8_restore 38 = .ok (.aload_n 0, 1) := by decide +kernel
theorem dX8_restore_39 : decode cX8_restore 39 = .ok (.getfield 19, 3) := by decide +kernel
theorem dX8_restore_42 : decode cX8_restore 42 = .ok (.aload_n 2, 1) := by decide +kernel
theorem dX8_restore_43 : decode cX8_restore 43 = .ok (.invokevirtual 195, 3) := by decide +kernel
theorem dX8_restore_46 : decode cX8_restore 46 = .ok (.iconst 1, 1) := by decide +kernel
theorem dX8_restore_47 : decode cX8_restore 47 = .ok (.ireturn, 1) := by decide +kernel
theorem dX8_told_0 : decode cX8_told 0 = .ok (.iload_n 1, 1) := by decide +kernel
theorem dX8_told_1 : decode cX8_told 1 = .ok (.bipush 10, 2) := by decide +kernel
theorem dX8_told_3 : decode cX8_told 3 = .ok (.if_icmp .lt 21, 3) := by decide +kernel
theorem dX8_told_6 : decode cX8_told 6 = .ok (.iload_n 1, 1) := by decide +kernel
theorem dX8_told_7 : decode cX8_told 7 = .ok (.bipush 18, 2) := by decide +kernel
theorem dX8_told_9 : decode cX8_told 9 = .ok (.if_icmp .ge 15, 3) := by decide +kernel
theorem dX8_told_12 : decode cX8_told 12 = .ok (.aload_n 0, 1) := by decide +kernel
theorem dX8_told_13 : decode cX8_told 13 = .ok (.getfield 19, 3) := by decide +kernel
theorem dX8_told_16 : decode cX8_told 16 = .ok (.iload_n 1, 1) := by decide +kernel
theorem dX8_told_17 : decode cX8_told 17 = .ok (.bipush 10, 2) := by decide +kernel
theorem dX8_told_19 : decode cX8_told 19 = .ok (.isub, 1) := by decide +kernel
theorem dX8_told_20 : decode cX8_told 20 = .ok (.invokevirtual 47, 3) := by decide +kernel
theorem dX8_told_23 : decode cX8_told 23 = .ok (.ireturn, 1) := by decide +kernel
theorem dX8_told_24 : decode cX8_told 24 = .ok (.iload_n 1, 1) := by decide +kernel
theorem dX8_told_25 : decode cX8_told 25 = .ok (.bipush 20, 2) := by decide +kernel
theorem dX8_told_27 : decode cX8_told 27 = .ok (.if_icmp .lt 24, 3) := by decide +kernel
theorem dX8_told_30 : decode cX8_told 30 = .ok (.iload_n 1, 1) := by decide +kernel
theorem dX8_told_31 : decode cX8_told 31 = .ok (.bipush 24, 2) := by decide +kernel
theorem dX8_told_33 : decode cX8_told 33 = .ok (.if_icmp .ge 18, 3) := by decide +kernel
theorem dX8_told_36 : decode cX8_told 36 = .ok (.aload_n 0, 1) := by decide +kernel
theorem dX8_told_37 : decode cX8_told 37 = .ok (.getfield 19, 3) := by decide +kernel
theorem dX8_told_40 : decode cX8_told 40 = .ok (.getfield 62, 3) := by decide +kernel
theorem dX8_told_43 : decode cX8_told 43 = .ok (.iload_n 1, 1) := by decide +kernel
theorem dX8_told_44 : decode cX8_told 44 = .ok (.bipush 20, 2) := by decide +kernel
theorem dX8_told_46 : decode cX8_told 46 = .ok (.isub, 1) := by decide +kernel
theorem dX8_told_47 : decode cX8_told 47 = .ok (.invokestatic 40, 3) := by decide +kernel
theorem dX8_told_50 : decode cX8_told 50 = .ok (.ireturn, 1) := by decide +kernel
theorem dX8_told_51 : decode cX8_told 51 = .ok (.iload_n 1, 1) := by decide +kernel
theorem dX8_told_52 : decode cX8_told 52 = .ok (.tableswitch 73 0 3 #[32, 40, 51, 62], 32) := by decide +kernel
theorem dX8_told_84 : decode cX8_told 84 = .ok (.aload_n 0, 1) := by decide +kernel
theorem dX8_told_85 : decode cX8_told 85 = .ok (.getfield 10, 3) := by decide +kernel
theorem dX8_told_88 : decode cX8_told 88 = .ok (.getfield 65, 3) := by decide +kernel
theorem dX8_told_91 : decode cX8_told 91 = .ok (.ireturn, 1) := by decide +kernel
theorem dX8_told_92 : decode cX8_told 92 = .ok (.aload_n 0, 1) := by decide +kernel
theorem dX8_told_93 : decode cX8_told 93 = .ok (.getfield 19, 3) := by decide +kernel
theorem dX8_told_96 : decode cX8_told 96 = .ok (.getfield 83, 3) := by decide +kernel
theorem dX8_told_99 : decode cX8_told 99 = .ok (.getfield 93, 3) := by decide +kernel
theorem dX8_told_102 : decode cX8_told 102 = .ok (.ireturn, 1) := by decide +kernel
theorem dX8_told_103 : decode cX8_told 103 = .ok (.aload_n 0, 1) := by decide +kernel
theorem dX8_told_104 : decode cX8_told 104 = .ok (.getfield 19, 3) := by decide +kernel
theorem dX8_told_107 : decode cX8_told 107 = .ok (.getfield 83, 3) := by decide +kernel
theorem dX8_told_110 : decode cX8_told 110 = .ok (.getfield 202, 3) := by decide +kernel
theorem dX8_told_113 : decode cX8_told 113 = .ok (.ireturn, 1) := by decide +kernel
theorem dX8_told_114 : decode cX8_told 114 = .ok (.aload_n 0, 1) := by decide +kernel
theorem dX8_told_115 : decode cX8_told 115 = .ok (.getfield 19, 3) := by decide +kernel
theorem dX8_told_118 : decode cX8_told 118 = .ok (.getfield 163, 3) := by decide +kernel
theorem dX8_told_121 : decode cX8_told 121 = .ok (.getfield 65, 3) := by decide +kernel
theorem dX8_told_124 : decode cX8_told 124 = .ok (.ireturn, 1) := by decide +kernel
theorem dX8_told_125 : decode cX8_told 125 = .ok (.bipush (-2), 2) := by decide +kernel
theorem dX8_told_127 : decode cX8_told 127 = .ok (.ireturn, 1) := by decide +kernel
theorem dX8_isChild_0 : decode cX8_isChild 0 = .ok (.iload_n 0, 1) := by decide +kernel
theorem dX8_isChild_1 : decode cX8_isChild 1 = .ok (.ifCond .lt 12, 3) := by decide +kernel
theorem dX8_isChild_4 : decode cX8_isChild 4 = .ok (.iload_n 0, 1) := by decide +kernel
theorem dX8_isChild_5 : decode cX8_isChild 5 = .ok (.iconst 4, 1) := by decide +kernel
theorem dX8_isChild_6 : decode cX8_isChild 6 = .ok (.if_icmp .ge 7, 3) := by decide +kernel
theorem dX8_isChild_9 : decode cX8_isChild 9 = .ok (.iconst 1, 1) := by decide +kernel
theorem dX8_isChild_10 : decode cX8_isChild 10 = .ok (.goto 4, 3) := by decide +kernel
theorem dX8_isChild_13 : decode cX8_isChild 13 = .ok (.iconst 0, 1) := by decide +kernel
theorem dX8_isChild_14 : decode cX8_isChild 14 = .ok (.ireturn, 1) := by decide +kernel
theorem dX8_isOfPlan_0 : decode cX8_isOfPlan 0 = .ok (.iload_n 1, 1) := by decide +kernel
theorem dX8_isOfPlan_1 : decode cX8_isOfPlan 1 = .ok (.ifCond .lt 21, 3) := by decide +kernel
theorem dX8_isOfPlan_4 : decode cX8_isOfPlan 4 = .ok (.iload_n 1, 1) := by decide +kernel
theorem dX8_isOfPlan_5 : decode cX8_isOfPlan 5 = .ok (.aload_n 0, 1) := by decide +kernel
theorem dX8_isOfPlan_6 : decode cX8_isOfPlan 6 = .ok (.getfield 19, 3) := by decide +kernel
theorem dX8_isOfPlan_9 : decode cX8_isOfPlan 9 = .ok (.getfield 83, 3) := by decide +kernel
theorem dX8_isOfPlan_12 : decode cX8_isOfPlan 12 = .ok (.getfield 93, 3) := by decide +kernel
theorem dX8_isOfPlan_15 : decode cX8_isOfPlan 15 = .ok (.if_icmp .gt 7, 3) := by decide +kernel
theorem dX8_isOfPlan_18 : decode cX8_isOfPlan 18 = .ok (.iconst 1, 1) := by decide +kernel
theorem dX8_isOfPlan_19 : decode cX8_isOfPlan 19 = .ok (.goto 4, 3) := by decide +kernel
theorem dX8_isOfPlan_22 : decode cX8_isOfPlan 22 = .ok (.iconst 0, 1) := by decide +kernel
theorem dX8_isOfPlan_23 : decode cX8_isOfPlan 23 = .ok (.ireturn, 1) := by decide +kernel
theorem dX8_isTenths_0 : decode cX8_isTenths 0 = .ok (.iload_n 0, 1) := by decide +kernel
theorem dX8_isTenths_1 : decode cX8_isTenths 1 = .ok (.iconst 1, 1) := by decide +kernel
theorem dX8_isTenths_2 : decode cX8_isTenths 2 = .ok (.if_icmp .lt 14, 3) := by decide +kernel
theorem dX8_isTenths_5 : decode cX8_isTenths 5 = .ok (.iload_n 0, 1) := by decide +kernel
theorem dX8_isTenths_6 : decode cX8_isTenths 6 = .ok (.sipush 300, 3) := by decide +kernel
theorem dX8_isTenths_9 : decode cX8_isTenths 9 = .ok (.if_icmp .gt 7, 3) := by decide +kernel
theorem dX8_isTenths_12 : decode cX8_isTenths 12 = .ok (.iconst 1, 1) := by decide +kernel
theorem dX8_isTenths_13 : decode cX8_isTenths 13 = .ok (.goto 4, 3) := by decide +kernel
theorem dX8_isTenths_16 : decode cX8_isTenths 16 = .ok (.iconst 0, 1) := by decide +kernel
theorem dX8_isTenths_17 : decode cX8_isTenths 17 = .ok (.ireturn, 1) := by decide +kernel
theorem dX8_runFor_0 : decode cX8_runFor 0 = .ok (.aload_n 0, 1) := by decide +kernel
theorem dX8_runFor_1 : decode cX8_runFor 1 = .ok (.getfield 32, 3) := by decide +kernel
theorem dX8_runFor_4 : decode cX8_runFor 4 = .ok (.aload_n 0, 1) := by decide +kernel
theorem dX8_runFor_5 : decode cX8_runFor 5 = .ok (.getfield 19, 3) := by decide +kernel
theorem dX8_runFor_8 : decode cX8_runFor 8 = .ok (.iload_n 1, 1) := by decide +kernel
theorem dX8_runFor_9 : decode cX8_runFor 9 = .ok (.aload_n 0, 1) := by decide +kernel
theorem dX8_runFor_10 : decode cX8_runFor 10 = .ok (.getfield 19, 3) := by decide +kernel
theorem dX8_runFor_13 : decode cX8_runFor 13 = .ok (.iconst 1, 1) := by decide +kernel
theorem dX8_runFor_14 : decode cX8_runFor 14 = .ok (.invokevirtual 47, 3) := by decide +kernel
theorem dX8_runFor_17 : decode cX8_runFor 17 = .ok (.bipush 27, 2) := by decide +kernel
theorem dX8_runFor_19 : decode cX8_runFor 19 = .ok (.iconst 0, 1) := by decide +kernel
theorem dX8_runFor_20 : decode cX8_runFor 20 = .ok (.invokevirtual 143, 3) := by decide +kernel
theorem dX8_runFor_23 : decode cX8_runFor 23 = .ok (.return_, 1) := by decide +kernel
theorem dX8_runAsTold_0 : decode cX8_runAsTold 0 = .ok (.aload_n 0, 1) := by decide +kernel
theorem dX8_runAsTold_1 : decode cX8_runAsTold 1 = .ok (.getfield 32, 3) := by decide +kernel
theorem dX8_runAsTold_4 : decode cX8_runAsTold 4 = .ok (.aload_n 0, 1) := by decide +kernel
theorem dX8_runAsTold_5 : decode cX8_runAsTold 5 = .ok (.getfield 19, 3) := by decide +kernel
theorem dX8_runAsTold_8 : decode cX8_runAsTold 8 = .ok (.aload_n 0, 1) := by decide +kernel
theorem dX8_runAsTold_9 : decode cX8_runAsTold 9 = .ok (.getfield 19, 3) := by decide +kernel
theorem dX8_runAsTold_12 : decode cX8_runAsTold 12 = .ok (.getfield 83, 3) := by decide +kernel
theorem dX8_runAsTold_15 : decode cX8_runAsTold 15 = .ok (.getfield 93, 3) := by decide +kernel
theorem dX8_runAsTold_18 : decode cX8_runAsTold 18 = .ok (.aload_n 0, 1) := by decide +kernel
theorem dX8_runAsTold_19 : decode cX8_runAsTold 19 = .ok (.getfield 19, 3) := by decide +kernel
theorem dX8_runAsTold_22 : decode cX8_runAsTold 22 = .ok (.iconst 1, 1) := by decide +kernel
theorem dX8_runAsTold_23 : decode cX8_runAsTold 23 = .ok (.invokevirtual 47, 3) := by decide +kernel
theorem dX8_runAsTold_26 : decode cX8_runAsTold 26 = .ok (.bipush 27, 2) := by decide +kernel
theorem dX8_runAsTold_28 : decode cX8_runAsTold 28 = .ok (.iconst 0, 1) := by decide +kernel
theorem dX8_runAsTold_29 : decode cX8_runAsTold 29 = .ok (.invokevirtual 143, 3) := by decide +kernel
theorem dX8_runAsTold_32 : decode cX8_runAsTold 32 = .ok (.return_, 1) := by decide +kernel
theorem dX8_bestWay_0 : decode cX8_bestWay 0 = .ok (.bipush 27, 2) := by decide +kernel
theorem dX8_bestWay_2 : decode cX8_bestWay 2 = .ok (.istore_n 1, 1) := by decide +kernel
theorem dX8_bestWay_3 : decode cX8_bestWay 3 = .ok (.bipush 118, 2) := by decide +kernel
theorem dX8_bestWay_5 : decode cX8_bestWay 5 = .ok (.istore_n 2, 1) := by decide +kernel
theorem dX8_bestWay_6 : decode cX8_bestWay 6 = .ok (.iconst 0, 1) := by decide +kernel
theorem dX8_bestWay_7 : decode cX8_bestWay 7 = .ok (.istore_n 3, 1) := by decide +kernel
theorem dX8_bestWay_8 : decode cX8_bestWay 8 = .ok (.iconst 0, 1) := by decide +kernel
theorem dX8_bestWay_9 : decode cX8_bestWay 9 = .ok (.istore 4, 2) := by decide +kernel
theorem dX8_bestWay_11 : decode cX8_bestWay 11 = .ok (.iload 4, 2) := by decide +kernel
theorem dX8_bestWay_13 : decode cX8_bestWay 13 = .ok (.sipush 256, 3) := by decide +kernel
theorem dX8_bestWay_16 : decode cX8_bestWay 16 = .ok (.if_icmp .ge 100, 3) := by decide +kernel
theorem dX8_bestWay_19 : decode cX8_bestWay 19 = .ok (.iload 4, 2) := by decide +kernel
theorem dX8_bestWay_21 : decode cX8_bestWay 21 = .ok (.invokestatic 205, 3) := by decide +kernel
theorem dX8_bestWay_24 : decode cX8_bestWay 24 = .ok (.ifCond .eq 86, 3) := by decide +kernel
theorem dX8_bestWay_27 : decode cX8_bestWay 27 = .ok (.aload_n 0, 1) := by decide +kernel
theorem dX8_bestWay_28 : decode cX8_bestWay 28 = .ok (.getfield 32, 3) := by decide +kernel
theorem dX8_bestWay_31 : decode cX8_bestWay 31 = .ok (.aload_n 0, 1) := by decide +kernel
theorem dX8_bestWay_32 : decode cX8_bestWay 32 = .ok (.getfield 19, 3) := by decide +kernel
theorem dX8_bestWay_35 : decode cX8_bestWay 35 = .ok (.aload_n 0, 1) := by decide +kernel
theorem dX8_bestWay_36 : decode cX8_bestWay 36 = .ok (.getfield 19, 3) := by decide +kernel
theorem dX8_bestWay_39 : decode cX8_bestWay 39 = .ok (.getfield 83, 3) := by decide +kernel
theorem dX8_bestWay_42 : decode cX8_bestWay 42 = .ok (.getfield 93, 3) := by decide +kernel
theorem dX8_bestWay_45 : decode cX8_bestWay 45 = .ok (.aload_n 0, 1) := by decide +kernel
theorem dX8_bestWay_46 : decode cX8_bestWay 46 = .ok (.getfield 19, 3) := by decide +kernel
theorem dX8_bestWay_49 : decode cX8_bestWay 49 = .ok (.iconst 1, 1) := by decide +kernel
theorem dX8_bestWay_50 : decode cX8_bestWay 50 = .ok (.invokevirtual 47, 3) := by decide +kernel
theorem dX8_bestWay_53 : decode cX8_bestWay 53 = .ok (.iload 4, 2) := by decide +kernel
theorem dX8_bestWay_55 : decode cX8_bestWay 55 = .ok (.iconst 0, 1) := by decide +kernel
theorem dX8_bestWay_56 : decode cX8_bestWay 56 = .ok (.invokevirtual 143, 3) := by decide +kernel
theorem dX8_bestWay_59 : decode cX8_bestWay 59 = .ok (.aload_n 0, 1) := by decide +kernel
theorem dX8_bestWay_60 : decode cX8_bestWay 60 = .ok (.getfield 32, 3) := by decide +kernel
theorem dX8_bestWay_63 : decode cX8_bestWay 63 = .ok (.getfield 130, 3) := by decide +kernel
theorem dX8_bestWay_66 : decode cX8_bestWay 66 = .ok (.istore 5, 2) := by decide +kernel
theorem dX8_bestWay_68 : decode cX8_bestWay 68 = .ok (.aload_n 0, 1) := by decide +kernel
theorem dX8_bestWay_69 : decode cX8_bestWay 69 = .ok (.getfield 32, 3) := by decide +kernel
theorem dX8_bestWay_72 : decode cX8_bestWay 72 = .ok (.getfield 103, 3) := by decide +kernel
theorem dX8_bestWay_75 : decode cX8_bestWay 75 = .ok (.getfield 107, 3) := by decide +kernel
theorem dX8_bestWay_78 : decode cX8_bestWay 78 = .ok (.getfield 147, 3) := by decide +kernel
theorem dX8_bestWay_81 : decode cX8_bestWay 81 = .ok (.istore 6, 2) := by decide +kernel
theorem dX8_bestWay_83 : decode cX8_bestWay 83 = .ok (.iload 5, 2) := by decide +kernel
theorem dX8_bestWay_85 : decode cX8_bestWay 85 = .ok (.iload_n 2, 1) := by decide +kernel
theorem dX8_bestWay_86 : decode cX8_bestWay 86 = .ok (.if_icmp .lt 15, 3) := by decide +kernel
theorem dX8_bestWay_89 : decode cX8_bestWay 89 = .ok (.iload 5, 2) := by decide +kernel
theorem dX8_bestWay_91 : decode cX8_bestWay 91 = .ok (.iload_n 2, 1) := by decide +kernel
theorem dX8_bestWay_92 : decode cX8_bestWay 92 = .ok (.if_icmp .ne 18, 3) := by decide +kernel
theorem dX8_bestWay_95 : decode cX8_bestWay 95 = .ok (.iload 6, 2) := by decide +kernel
theorem dX8_bestWay_97 : decode cX8_bestWay 97 = .ok (.iload_n 3, 1) := by decide +kernel
theorem dX8_bestWay_98 : decode cX8_bestWay 98 = .ok (.if_icmp .le 12, 3) := by decide +kernel
theorem dX8_bestWay_101 : decode cX8_bestWay 101 = .ok (.iload 4, 2) := by decide +kernel
theorem dX8_bestWay_103 : decode cX8_bestWay 103 = .ok (.istore_n 1, 1) := by decide +kernel
theorem dX8_bestWay_104 : decode cX8_bestWay 104 = .ok (.iload 5, 2) := by decide +kernel
theorem dX8_bestWay_106 : decode cX8_bestWay 106 = .ok (.istore_n 2, 1) := by decide +kernel
theorem dX8_bestWay_107 : decode cX8_bestWay 107 = .ok (.iload 6, 2) := by decide +kernel
theorem dX8_bestWay_109 : decode cX8_bestWay 109 = .ok (.istore_n 3, 1) := by decide +kernel
theorem dX8_bestWay_110 : decode cX8_bestWay 110 = .ok (.iinc 4 1, 3) := by decide +kernel
theorem dX8_bestWay_113 : decode cX8_bestWay 113 = .ok (.goto (-102), 3) := by decide +kernel
theorem dX8_bestWay_116 : decode cX8_bestWay 116 = .ok (.iload_n 1, 1) := by decide +kernel
theorem dX8_bestWay_117 : decode cX8_bestWay 117 = .ok (.ireturn, 1) := by decide +kernel
theorem dX8_hasEachChild_0 : decode cX8_hasEachChild 0 = .ok (.iconst 0, 1) := by decide +kernel
theorem dX8_hasEachChild_1 : decode cX8_hasEachChild 1 = .ok (.istore_n 1, 1) := by decide +kernel
theorem dX8_hasEachChild_2 : decode cX8_hasEachChild 2 = .ok (.iconst 0, 1) := by decide +kernel
theorem dX8_hasEachChild_3 : decode cX8_hasEachChild 3 = .ok (.istore_n 2, 1) := by decide +kernel
theorem dX8_hasEachChild_4 : decode cX8_hasEachChild 4 = .ok (.iload_n 2, 1) := by decide +kernel
theorem dX8_hasEachChild_5 : decode cX8_hasEachChild 5 = .ok (.iconst 4, 1) := by decide +kernel
theorem dX8_hasEachChild_6 : decode cX8_hasEachChild 6 = .ok (.if_icmp .ge 19, 3) := by decide +kernel
theorem dX8_hasEachChild_9 : decode cX8_hasEachChild 9 = .ok (.iload_n 1, 1) := by decide +kernel
theorem dX8_hasEachChild_10 : decode cX8_hasEachChild 10 = .ok (.iconst 1, 1) := by decide +kernel
theorem dX8_hasEachChild_11 : decode cX8_hasEachChild 11 = .ok (.iload_n 0, 1) := by decide +kernel
theorem dX8_hasEachChild_12 : decode cX8_hasEachChild 12 = .ok (.iload_n 2, 1) := by decide +kernel
theorem dX8_hasEachChild_13 : decode cX8_hasEachChild 13 = .ok (.invokestatic 139, 3) := by decide +kernel
theorem dX8_hasEachChild_16 : decode cX8_hasEachChild 16 = .ok (.ishl, 1) := by decide +kernel
theorem dX8_hasEachChild_17 : decode cX8_hasEachChild 17 = .ok (.ior, 1) := by decide +kernel
theorem dX8_hasEachChild_18 : decode cX8_hasEachChild 18 = .ok (.istore_n 1, 1) := by decide +kernel
theorem dX8_hasEachChild_19 : decode cX8_hasEachChild 19 = .ok (.iinc 2 1, 3) := by decide +kernel
theorem dX8_hasEachChild_22 : decode cX8_hasEachChild 22 = .ok (.goto (-18), 3) := by decide +kernel
theorem dX8_hasEachChild_25 : decode cX8_hasEachChild 25 = .ok (.iload_n 1, 1) := by decide +kernel
theorem dX8_hasEachChild_26 : decode cX8_hasEachChild 26 = .ok (.bipush 15, 2) := by decide +kernel
theorem dX8_hasEachChild_28 : decode cX8_hasEachChild 28 = .ok (.if_icmp .ne 7, 3) := by decide +kernel
theorem dX8_hasEachChild_31 : decode cX8_hasEachChild 31 = .ok (.iconst 1, 1) := by decide +kernel
theorem dX8_hasEachChild_32 : decode cX8_hasEachChild 32 = .ok (.goto 4, 3) := by decide +kernel
theorem dX8_hasEachChild_35 : decode cX8_hasEachChild 35 = .ok (.iconst 0, 1) := by decide +kernel
theorem dX8_hasEachChild_36 : decode cX8_hasEachChild 36 = .ok (.ireturn, 1) := by decide +kernel
theorem dX8_childInPlace_0 : decode cX8_childInPlace 0 = .ok (.iload_n 0, 1) := by decide +kernel
theorem dX8_childInPlace_1 : decode cX8_childInPlace 1 = .ok (.iconst 2, 1) := by decide +kernel
theorem dX8_childInPlace_2 : decode cX8_childInPlace 2 = .ok (.iconst 3, 1) := by decide +kernel
theorem dX8_childInPlace_3 : decode cX8_childInPlace 3 = .ok (.iload_n 1, 1) := by decide +kernel
theorem dX8_childInPlace_4 : decode cX8_childInPlace 4 = .ok (.isub, 1) := by decide +kernel
theorem dX8_childInPlace_5 : decode cX8_childInPlace 5 = .ok (.imul, 1) := by decide +kernel
theorem dX8_childInPlace_6 : decode cX8_childInPlace 6 = .ok (.ishr, 1) := by decide +kernel
theorem dX8_childInPlace_7 : decode cX8_childInPlace 7 = .ok (.iconst 3, 1) := by decide +kernel
theorem dX8_childInPlace_8 : decode cX8_childInPlace 8 = .ok (.iand, 1) := by decide +kernel
theorem dX8_childInPlace_9 : decode cX8_childInPlace 9 = .ok (.ireturn, 1) := by decide +kernel
theorem dX8_leastCoarseSalt_0 : decode cX8_leastCoarseSalt 0 = .ok (.bipush (-6), 2) := by decide +kernel
theorem dX8_leastCoarseSalt_2 : decode cX8_leastCoarseSalt 2 = .ok (.istore_n 1, 1) := by decide +kernel
theorem dX8_leastCoarseSalt_3 : decode cX8_leastCoarseSalt 3 = .ok (.sipush 1001, 3) := by decide +kernel
theorem dX8_leastCoarseSalt_6 : decode cX8_leastCoarseSalt 6 = .ok (.istore_n 2, 1) := by decide +kernel
theorem dX8_leastCoarseSalt_7 : decode cX8_leastCoarseSalt 7 = .ok (.getstatic 36, 3) := by decide +kernel
theorem dX8_leastCoarseSalt_10 : decode cX8_leastCoarseSalt 10 = .ok (.iconst 1, 1) := by decide +kernel
theorem dX8_leastCoarseSalt_11 : decode cX8_leastCoarseSalt 11 = .ok (.invokestatic 40, 3) := by decide +kernel
theorem dX8_leastCoarseSalt_14 : decode cX8_leastCoarseSalt 14 = .ok (.istore_n 3, 1) := by decide +kernel
theorem dX8_leastCoarseSalt_15 : decode cX8_leastCoarseSalt 15 = .ok (.iload_n 3, 1) := by decide +kernel
theorem dX8_leastCoarseSalt_16 : decode cX8_leastCoarseSalt 16 = .ok (.getstatic 44, 3) := by decide +kernel
theorem dX8_leastCoarseSalt_19 : decode cX8_leastCoarseSalt 19 = .ok (.iconst 1, 1) := by decide +kernel
theorem dX8_leastCoarseSalt_20 : decode cX8_leastCoarseSalt 20 = .ok (.invokestatic 40, 3) := by decide +kernel
theorem dX8_leastCoarseSalt_23 : decode cX8_leastCoarseSalt 23 = .ok (.if_icmp .gt 51, 3) := by decide +kernel
theorem dX8_leastCoarseSalt_26 : decode cX8_leastCoarseSalt 26 = .ok (.aload_n 0, 1) := by decide +kernel
theorem dX8_leastCoarseSalt_27 : decode cX8_leastCoarseSalt 27 = .ok (.getfield 32, 3) := by decide +kernel
theorem dX8_leastCoarseSalt_30 : decode cX8_leastCoarseSalt 30 = .ok (.aload_n 0, 1) := by decide +kernel
theorem dX8_leastCoarseSalt_31 : decode cX8_leastCoarseSalt 31 = .ok (.getfield 19, 3) := by decide +kernel
theorem dX8_leastCoarseSalt_34 : decode cX8_leastCoarseSalt 34 = .ok (.aload_n 0, 1) := by decide +kernel
theorem dX8_leastCoarseSalt_35 : decode cX8_leastCoarseSalt 35 = .ok (.getfield 19, 3) := by decide +kernel
theorem dX8_leastCoarseSalt_38 : decode cX8_leastCoarseSalt 38 = .ok (.getfield 83, 3) := by decide +kernel
theorem dX8_leastCoarseSalt_41 : decode cX8_leastCoarseSalt 41 = .ok (.getfield 93, 3) := by decide +kernel
theorem dX8_leastCoarseSalt_44 : decode cX8_leastCoarseSalt 44 = .ok (.iload_n 3, 1) := by decide +kernel
theorem dX8_leastCoarseSalt_45 : decode cX8_leastCoarseSalt 45 = .ok (.bipush 27, 2) := by decide +kernel
theorem dX8_leastCoarseSalt_47 : decode cX8_leastCoarseSalt 47 = .ok (.iconst 0, 1) := by decide +kernel
theorem dX8_leastCoarseSalt_48 : decode cX8_leastCoarseSalt 48 = .ok (.invokevirtual 143, 3) := by decide +kernel
theorem dX8_leastCoarseSalt_51 : decode cX8_leastCoarseSalt 51 = .ok (.aload_n 0, 1) := by decide +kernel
theorem dX8_leastCoarseSalt_52 : decode cX8_leastCoarseSalt 52 = .ok (.invokevirtual 208, 3) := by decide +kernel
theorem dX8_leastCoarseSalt_55 : decode cX8_leastCoarseSalt 55 = .ok (.istore 4, 2) := by decide +kernel
theorem dX8_leastCoarseSalt_57 : decode cX8_leastCoarseSalt 57 = .ok (.iload 4, 2) := by decide +kernel
theorem dX8_leastCoarseSalt_59 : decode cX8_leastCoarseSalt 59 = .ok (.iload_n 2, 1) := by decide +kernel
theorem dX8_leastCoarseSalt_60 : decode cX8_leastCoarseSalt 60 = .ok (.if_icmp .ge 8, 3) := by decide +kernel
theorem dX8_leastCoarseSalt_63 : decode cX8_leastCoarseSalt 63 = .ok (.iload_n 3, 1) := by decide +kernel
theorem dX8_leastCoarseSalt_64 : decode cX8_leastCoarseSalt 64 = .ok (.istore_n 1, 1) := by decide +kernel
theorem dX8_leastCoarseSalt_65 : decode cX8_leastCoarseSalt 65 = .ok (.iload 4, 2) := by decide +kernel
theorem dX8_leastCoarseSalt_67 : decode cX8_leastCoarseSalt 67 = .ok (.istore_n 2, 1) := by decide +kernel
theorem dX8_leastCoarseSalt_68 : decode cX8_leastCoarseSalt 68 = .ok (.iinc 3 100, 3) := by decide +kernel
theorem dX8_leastCoarseSalt_71 : decode cX8_leastCoarseSalt 71 = .ok (.goto (-56), 3) := by decide +kernel
theorem dX8_leastCoarseSalt_74 : decode cX8_leastCoarseSalt 74 = .ok (.iload_n 1, 1) := by decide +kernel
theorem dX8_leastCoarseSalt_75 : decode cX8_leastCoarseSalt 75 = .ok (.ireturn, 1) := by decide +kernel
theorem dX8_leastCoarsePace_0 : decode cX8_leastCoarsePace 0 = .ok (.bipush (-6), 2) := by decide +kernel
theorem dX8_leastCoarsePace_2 : decode cX8_leastCoarsePace 2 = .ok (.istore_n 1, 1) := by decide +kernel
theorem dX8_leastCoarsePace_3 : decode cX8_leastCoarsePace 3 = .ok (.sipush 1001, 3) := by decide +kernel
theorem dX8_leastCoarsePace_6 : decode cX8_leastCoarsePace 6 = .ok (.istore_n 2, 1) := by decide +kernel
theorem dX8_leastCoarsePace_7 : decode cX8_leastCoarsePace 7 = .ok (.iconst 1, 1) := by decide +kernel
theorem dX8_leastCoarsePace_8 : decode cX8_leastCoarsePace 8 = .ok (.istore_n 3, 1) := by decide +kernel
theorem dX8_leastCoarsePace_9 : decode cX8_leastCoarsePace 9 = .ok (.iload_n 3, 1) := by decide +kernel
theorem dX8_leastCoarsePace_10 : decode cX8_leastCoarsePace 10 = .ok (.bipush 9, 2) := by decide +kernel
theorem dX8_leastCoarsePace_12 : decode cX8_leastCoarsePace 12 = .ok (.if_icmp .gt 58, 3) := by decide +kernel
theorem dX8_leastCoarsePace_15 : decode cX8_leastCoarsePace 15 = .ok (.aload_n 0, 1) := by decide +kernel
theorem dX8_leastCoarsePace_16 : decode cX8_leastCoarsePace 16 = .ok (.getfield 32, 3) := by decide +kernel
theorem dX8_leastCoarsePace_19 : decode cX8_leastCoarsePace 19 = .ok (.aload_n 0, 1) := by decide +kernel
theorem dX8_leastCoarsePace_20 : decode cX8_leastCoarsePace 20 = .ok (.getfield 19, 3) := by decide +kernel
theorem dX8_leastCoarsePace_23 : decode cX8_leastCoarsePace 23 = .ok (.aload_n 0, 1) := by decide +kernel
theorem dX8_leastCoarsePace_24 : decode cX8_leastCoarsePace 24 = .ok (.getfield 19, 3) := by decide +kernel
theorem dX8_leastCoarsePace_27 : decode cX8_leastCoarsePace 27 = .ok (.getfield 83, 3) := by decide +kernel
theorem dX8_leastCoarsePace_30 : decode cX8_leastCoarsePace 30 = .ok (.getfield 93, 3) := by decide +kernel
theorem dX8_leastCoarsePace_33 : decode cX8_leastCoarsePace 33 = .ok (.aload_n 0, 1) := by decide +kernel
theorem dX8_leastCoarsePace_34 : decode cX8_leastCoarsePace 34 = .ok (.getfield 19, 3) := by decide +kernel
theorem dX8_leastCoarsePace_37 : decode cX8_leastCoarsePace 37 = .ok (.iconst 1, 1) := by decide +kernel
theorem dX8_leastCoarsePace_38 : decode cX8_leastCoarsePace 38 = .ok (.invokevirtual 47, 3) := by decide +kernel
theorem dX8_leastCoarsePace_41 : decode cX8_leastCoarsePace 41 = .ok (.bipush 27, 2) := by decide +kernel
theorem dX8_leastCoarsePace_43 : decode cX8_leastCoarsePace 43 = .ok (.iload_n 3, 1) := by decide +kernel
theorem dX8_leastCoarsePace_44 : decode cX8_leastCoarsePace 44 = .ok (.invokevirtual 143, 3) := by decide +kernel
theorem dX8_leastCoarsePace_47 : decode cX8_leastCoarsePace 47 = .ok (.aload_n 0, 1) := by decide +kernel
theorem dX8_leastCoarsePace_48 : decode cX8_leastCoarsePace 48 = .ok (.invokevirtual 208, 3) := by decide +kernel
theorem dX8_leastCoarsePace_51 : decode cX8_leastCoarsePace 51 = .ok (.istore 4, 2) := by decide +kernel
theorem dX8_leastCoarsePace_53 : decode cX8_leastCoarsePace 53 = .ok (.iload 4, 2) := by decide +kernel
theorem dX8_leastCoarsePace_55 : decode cX8_leastCoarsePace 55 = .ok (.iload_n 2, 1) := by decide +kernel
theorem dX8_leastCoarsePace_56 : decode cX8_leastCoarsePace 56 = .ok (.if_icmp .ge 8, 3) := by decide +kernel
theorem dX8_leastCoarsePace_59 : decode cX8_leastCoarsePace 59 = .ok (.iload_n 3, 1) := by decide +kernel
theorem dX8_leastCoarsePace_60 : decode cX8_leastCoarsePace 60 = .ok (.istore_n 1, 1) := by decide +kernel
theorem dX8_leastCoarsePace_61 : decode cX8_leastCoarsePace 61 = .ok (.iload 4, 2) := by decide +kernel
theorem dX8_leastCoarsePace_63 : decode cX8_leastCoarsePace 63 = .ok (.istore_n 2, 1) := by decide +kernel
theorem dX8_leastCoarsePace_64 : decode cX8_leastCoarsePace 64 = .ok (.iinc 3 1, 3) := by decide +kernel
theorem dX8_leastCoarsePace_67 : decode cX8_leastCoarsePace 67 = .ok (.goto (-58), 3) := by decide +kernel
theorem dX8_leastCoarsePace_70 : decode cX8_leastCoarsePace 70 = .ok (.iload_n 1, 1) := by decide +kernel
theorem dX8_leastCoarsePace_71 : decode cX8_leastCoarsePace 71 = .ok (.ireturn, 1) := by decide +kernel
theorem dX8_coarseOfEnough_0 : decode cX8_coarseOfEnough 0 = .ok (.sipush 1000, 3) := by decide +kernel
theorem dX8_coarseOfEnough_3 : decode cX8_coarseOfEnough 3 = .ok (.aload_n 0, 1) := by decide +kernel
theorem dX8_coarseOfEnough_4 : decode cX8_coarseOfEnough 4 = .ok (.getfield 32, 3) := by decide +kernel
theorem dX8_coarseOfEnough_7 : decode cX8_coarseOfEnough 7 = .ok (.getfield 103, 3) := by decide +kernel
theorem dX8_coarseOfEnough_10 : decode cX8_coarseOfEnough 10 = .ok (.getfield 107, 3) := by decide +kernel
theorem dX8_coarseOfEnough_13 : decode cX8_coarseOfEnough 13 = .ok (.getfield 147, 3) := by decide +kernel
theorem dX8_coarseOfEnough_16 : decode cX8_coarseOfEnough 16 = .ok (.imul, 1) := by decide +kernel
theorem dX8_coarseOfEnough_17 : decode cX8_coarseOfEnough 17 = .ok (.aload_n 0, 1) := by decide +kernel
theorem dX8_coarseOfEnough_18 : decode cX8_coarseOfEnough 18 = .ok (.getfield 19, 3) := by decide +kernel
theorem dX8_coarseOfEnough_21 : decode cX8_coarseOfEnough 21 = .ok (.bipush 6, 2) := by decide +kernel
theorem dX8_coarseOfEnough_23 : decode cX8_coarseOfEnough 23 = .ok (.invokevirtual 47, 3) := by decide +kernel
theorem dX8_coarseOfEnough_26 : decode cX8_coarseOfEnough 26 = .ok (.aload_n 0, 1) := by decide +kernel
theorem dX8_coarseOfEnough_27 : decode cX8_coarseOfEnough 27 = .ok (.getfield 19, 3) := by decide +kernel
theorem dX8_coarseOfEnough_30 : decode cX8_coarseOfEnough 30 = .ok (.iconst 2, 1) := by decide +kernel
theorem dX8_coarseOfEnough_31 : decode cX8_coarseOfEnough 31 = .ok (.invokevirtual 47, 3) := by decide +kernel
theorem dX8_coarseOfEnough_34 : decode cX8_coarseOfEnough 34 = .ok (.imul, 1) := by decide +kernel
theorem dX8_coarseOfEnough_35 : decode cX8_coarseOfEnough 35 = .ok (.if_icmp .lt 7, 3) := by decide +kernel
theorem dX8_coarseOfEnough_38 : decode cX8_coarseOfEnough 38 = .ok (.iconst 1, 1) := by decide +kernel
theorem dX8_coarseOfEnough_39 : decode cX8_coarseOfEnough 39 = .ok (.goto 4, 3) := by decide +kernel
theorem dX8_coarseOfEnough_42 : decode cX8_coarseOfEnough 42 = .ok (.iconst 0, 1) := by decide +kernel
theorem dX8_coarseOfEnough_43 : decode cX8_coarseOfEnough 43 = .ok (.istore_n 1, 1) := by decide +kernel
theorem dX8_coarseOfEnough_44 : decode cX8_coarseOfEnough 44 = .ok (.iload_n 1, 1) := by decide +kernel
theorem dX8_coarseOfEnough_45 : decode cX8_coarseOfEnough 45 = .ok (.ifCond .eq 19, 3) := by decide +kernel
theorem dX8_coarseOfEnough_48 : decode cX8_coarseOfEnough 48 = .ok (.aload_n 0, 1) := by decide +kernel
theorem dX8_coarseOfEnough_49 : decode cX8_coarseOfEnough 49 = .ok (.getfield 32, 3) := by decide +kernel
theorem dX8_coarseOfEnough_52 : decode cX8_coarseOfEnough 52 = .ok (.getfield 103, 3) := by decide +kernel
theorem dX8_coarseOfEnough_55 : decode cX8_coarseOfEnough 55 = .ok (.getfield 107, 3) := by decide +kernel
theorem dX8_coarseOfEnough_58 : decode cX8_coarseOfEnough 58 = .ok (.invokevirtual 153, 3) := by decide +kernel
theorem dX8_coarseOfEnough_61 : decode cX8_coarseOfEnough 61 = .ok (.goto 6, 3) := by decide +kernel
theorem dX8_coarseOfEnough_64 : decode cX8_coarseOfEnough 64 = .ok (.sipush 1001, 3) := by decide +kernel
theorem dX8_coarseOfEnough_67 : decode cX8_coarseOfEnough 67 = .ok (.ireturn, 1) := by decide +kernel
theorem dX8_growFor_0 : decode cX8_growFor 0 = .ok (.iconst 1, 1) := by decide +kernel
theorem dX8_growFor_1 : decode cX8_growFor 1 = .ok (.istore_n 2, 1) := by decide +kernel
theorem dX8_growFor_2 : decode cX8_growFor 2 = .ok (.iload_n 2, 1) := by decide +kernel
theorem dX8_growFor_3 : decode cX8_growFor 3 = .ok (.iload_n 1, 1) := by decide +kernel
theorem dX8_growFor_4 : decode cX8_growFor 4 = .ok (.if_icmp .gt 14, 3) := by decide +kernel
theorem dX8_growFor_7 : decode cX8_growFor 7 = .ok (.aload_n 0, 1) := by decide +kernel
theorem dX8_growFor_8 : decode cX8_growFor 8 = .ok (.iload_n 2, 1) := by decide +kernel
theorem dX8_growFor_9 : decode cX8_growFor 9 = .ok (.invokevirtual 172, 3) := by decide +kernel
theorem dX8_growFor_12 : decode cX8_growFor 12 = .ok (.iinc 2 1, 3) := by decide +kernel
theorem dX8_growFor_15 : decode cX8_growFor 15 = .ok (.goto (-13), 3) := by decide +kernel
theorem dX8_growFor_18 : decode cX8_growFor 18 = .ok (.return_, 1) := by decide +kernel
theorem dX8_growOn_0 : decode cX8_growOn 0 = .ok (.aload_n 0, 1) := by decide +kernel
theorem dX8_growOn_1 : decode cX8_growOn 1 = .ok (.getfield 19, 3) := by decide +kernel
theorem dX8_growOn_4 : decode cX8_growOn 4 = .ok (.getfield 163, 3) := by decide +kernel
theorem dX8_growOn_7 : decode cX8_growOn 7 = .ok (.getfield 65, 3) := by decide +kernel
theorem dX8_growOn_10 : decode cX8_growOn 10 = .ok (.ifCond .le 51, 3) := by decide +kernel
theorem dX8_growOn_13 : decode cX8_growOn 13 = .ok (.aload_n 0, 1) := by decide +kernel
theorem dX8_growOn_14 : decode cX8_growOn 14 = .ok (.getfield 19, 3) := by decide +kernel
theorem dX8_growOn_17 : decode cX8_growOn 17 = .ok (.getfield 163, 3) := by decide +kernel
theorem dX8_growOn_20 : decode cX8_growOn 20 = .ok (.iload_n 1, 1) := by decide +kernel
theorem dX8_growOn_21 : decode cX8_growOn 21 = .ok (.iconst 1, 1) := by decide +kernel
theorem dX8_growOn_22 : decode cX8_growOn 22 = .ok (.isub, 1) := by decide +kernel
theorem dX8_growOn_23 : decode cX8_growOn 23 = .ok (.aload_n 0, 1) := by decide +kernel
theorem dX8_growOn_24 : decode cX8_growOn 24 = .ok (.getfield 19, 3) := by decide +kernel
theorem dX8_growOn_27 : decode cX8_growOn 27 = .ok (.getfield 163, 3) := by decide +kernel
theorem dX8_growOn_30 : decode cX8_growOn 30 = .ok (.getfield 65, 3) := by decide +kernel
theorem dX8_growOn_33 : decode cX8_growOn 33 = .ok (.irem, 1) := by decide +kernel
theorem dX8_growOn_34 : decode cX8_growOn 34 = .ok (.invokevirtual 211, 3) := by decide +kernel
theorem dX8_growOn_37 : decode cX8_growOn 37 = .ok (.istore_n 2, 1) := by decide +kernel
theorem dX8_growOn_38 : decode cX8_growOn 38 = .ok (.aload_n 0, 1) := by decide +kernel
theorem dX8_growOn_39 : decode cX8_growOn 39 = .ok (.getfield 32, 3) := by decide +kernel
theorem dX8_growOn_42 : decode cX8_growOn 42 = .ok (.getfield 103, 3) := by decide +kernel
theorem dX8_growOn_45 : decode cX8_growOn 45 = .ok (.getfield 107, 3) := by decide +kernel
theorem dX8_growOn_48 : decode cX8_growOn 48 = .ok (.iload_n 2, 1) := by decide +kernel
theorem dX8_growOn_49 : decode cX8_growOn 49 = .ok (.aload_n 0, 1) := by decide +kernel
theorem dX8_growOn_50 : decode cX8_growOn 50 = .ok (.getfield 19, 3) := by decide +kernel
theorem dX8_growOn_53 : decode cX8_growOn 53 = .ok (.bipush 7, 2) := by decide +kernel
theorem dX8_growOn_55 : decode cX8_growOn 55 = .ok (.invokevirtual 47, 3) := by decide +kernel
theorem dX8_growOn_58 : decode cX8_growOn 58 = .ok (.invokevirtual 214, 3) := by decide +kernel
theorem dX8_growOn_61 : decode cX8_growOn 61 = .ok (.return_, 1) := by decide +kernel
theorem dX8_isSoft_0 : decode cX8_isSoft 0 = .ok (.iload_n 2, 1) := by decide +kernel
theorem dX8_isSoft_1 : decode cX8_isSoft 1 = .ok (.aload_n 0, 1) := by decide +kernel
theorem dX8_isSoft_2 : decode cX8_isSoft 2 = .ok (.getfield 19, 3) := by decide +kernel
theorem dX8_isSoft_5 : decode cX8_isSoft 5 = .ok (.iconst 2, 1) := by decide +kernel
theorem dX8_isSoft_6 : decode cX8_isSoft 6 = .ok (.invokevirtual 47, 3) := by decide +kernel
theorem dX8_isSoft_9 : decode cX8_isSoft 9 = .ok (.imul, 1) := by decide +kernel
theorem dX8_isSoft_10 : decode cX8_isSoft 10 = .ok (.istore_n 3, 1) := by decide +kernel
theorem dX8_isSoft_11 : decode cX8_isSoft 11 = .ok (.sipush 1000, 3) := by decide +kernel
theorem dX8_isSoft_14 : decode cX8_isSoft 14 = .ok (.iload_n 3, 1) := by decide +kernel
theorem dX8_isSoft_15 : decode cX8_isSoft 15 = .ok (.bipush 54, 2) := by decide +kernel
theorem dX8_isSoft_17 : decode cX8_isSoft 17 = .ok (.iload_n 1, 1) := by decide +kernel
theorem dX8_isSoft_18 : decode cX8_isSoft 18 = .ok (.imul, 1) := by decide +kernel
theorem dX8_isSoft_19 : decode cX8_isSoft 19 = .ok (.isub, 1) := by decide +kernel
theorem dX8_isSoft_20 : decode cX8_isSoft 20 = .ok (.imul, 1) := by decide +kernel
theorem dX8_isSoft_21 : decode cX8_isSoft 21 = .ok (.aload_n 0, 1) := by decide +kernel
theorem dX8_isSoft_22 : decode cX8_isSoft 22 = .ok (.getfield 19, 3) := by decide +kernel
theorem dX8_isSoft_25 : decode cX8_isSoft 25 = .ok (.bipush 6, 2) := by decide +kernel
theorem dX8_isSoft_27 : decode cX8_isSoft 27 = .ok (.invokevirtual 47, 3) := by decide +kernel
theorem dX8_isSoft_30 : decode cX8_isSoft 30 = .ok (.iload_n 3, 1) := by decide +kernel
theorem dX8_isSoft_31 : decode cX8_isSoft 31 = .ok (.imul, 1) := by decide +kernel
theorem dX8_isSoft_32 : decode cX8_isSoft 32 = .ok (.if_icmp .gt 7, 3) := by decide +kernel
theorem dX8_isSoft_35 : decode cX8_isSoft 35 = .ok (.iconst 1, 1) := by decide +kernel
theorem dX8_isSoft_36 : decode cX8_isSoft 36 = .ok (.goto 4, 3) := by decide +kernel
theorem dX8_isSoft_39 : decode cX8_isSoft 39 = .ok (.iconst 0, 1) := by decide +kernel
theorem dX8_isSoft_40 : decode cX8_isSoft 40 = .ok (.ireturn, 1) := by decide +kernel
theorem dX8_commonDivisor_0 : decode cX8_commonDivisor 0 = .ok (.lload_n 2, 1) := by decide +kernel
theorem dX8_commonDivisor_1 : decode cX8_commonDivisor 1 = .ok (.lstore 4, 2) := by decide +kernel
theorem dX8_commonDivisor_3 : decode cX8_commonDivisor 3 = .ok (.lload_n 0, 1) := by decide +kernel
theorem dX8_commonDivisor_4 : decode cX8_commonDivisor 4 = .ok (.lstore 6, 2) := by decide +kernel
theorem dX8_commonDivisor_6 : decode cX8_commonDivisor 6 = .ok (.iconst 0, 1) := by decide +kernel
theorem dX8_commonDivisor_7 : decode cX8_commonDivisor 7 = .ok (.istore 8, 2) := by decide +kernel
theorem dX8_commonDivisor_9 : decode cX8_commonDivisor 9 = .ok (.iload 8, 2) := by decide +kernel
theorem dX8_commonDivisor_11 : decode cX8_commonDivisor 11 = .ok (.bipush 64, 2) := by decide +kernel
theorem dX8_commonDivisor_13 : decode cX8_commonDivisor 13 = .ok (.if_icmp .ge 31, 3) := by decide +kernel
theorem dX8_commonDivisor_16 : decode cX8_commonDivisor 16 = .ok (.lload 6, 2) := by decide +kernel
theorem dX8_commonDivisor_18 : decode cX8_commonDivisor 18 = .ok (.lconst 0, 1) := by decide +kernel
theorem dX8_commonDivisor_19 : decode cX8_commonDivisor 19 = .ok (.lcmp, 1) := by decide +kernel
theorem dX8_commonDivisor_20 : decode cX8_commonDivisor 20 = .ok (.ifCond .eq 24, 3) := by decide +kernel
theorem dX8_commonDivisor_23 : decode cX8_commonDivisor 23 = .ok (.lload 4, 2) := by decide +kernel
theorem dX8_commonDivisor_25 : decode cX8_commonDivisor 25 = .ok (.lload 6, 2) := by decide +kernel
theorem dX8_commonDivisor_27 : decode cX8_commonDivisor 27 = .ok (.lrem, 1) := by decide +kernel
theorem dX8_commonDivisor_28 : decode cX8_commonDivisor 28 = .ok (.lstore 9, 2) := by decide +kernel
theorem dX8_commonDivisor_30 : decode cX8_commonDivisor 30 = .ok (.lload 6, 2) := by decide +kernel
theorem dX8_commonDivisor_32 : decode cX8_commonDivisor 32 = .ok (.lstore 4, 2) := by decide +kernel
theorem dX8_commonDivisor_34 : decode cX8_commonDivisor 34 = .ok (.lload 9, 2) := by decide +kernel
theorem dX8_commonDivisor_36 : decode cX8_commonDivisor 36 = .ok (.lstore 6, 2) := by decide +kernel
theorem dX8_commonDivisor_38 : decode cX8_commonDivisor 38 = .ok (.iinc 8 1, 3) := by decide +kernel
theorem dX8_commonDivisor_41 : decode cX8_commonDivisor 41 = .ok (.goto (-32), 3) := by decide +kernel
theorem dX8_commonDivisor_44 : decode cX8_commonDivisor 44 = .ok (.lload 4, 2) := by decide +kernel
theorem dX8_commonDivisor_46 : decode cX8_commonDivisor 46 = .ok (.lreturn, 1) := by decide +kernel
theorem dX8_quotient_0 : decode cX8_quotient 0 = .ok (.iload_n 1, 1) := by decide +kernel
theorem dX8_quotient_1 : decode cX8_quotient 1 = .ok (.ifCond .ne 7, 3) := by decide +kernel
theorem dX8_quotient_4 : decode cX8_quotient 4 = .ok (.iconst 0, 1) := by decide +kernel
theorem dX8_quotient_5 : decode cX8_quotient 5 = .ok (.goto 6, 3) := by decide +kernel
theorem dX8_quotient_8 : decode cX8_quotient 8 = .ok (.iload_n 0, 1) := by decide +kernel
theorem dX8_quotient_9 : decode cX8_quotient 9 = .ok (.iload_n 1, 1) := by decide +kernel
theorem dX8_quotient_10 : decode cX8_quotient 10 = .ok (.idiv, 1) := by decide +kernel
theorem dX8_quotient_11 : decode cX8_quotient 11 = .ok (.ireturn, 1) := by decide +kernel
theorem dX8_at_0 : decode cX8_at 0 = .ok (.iload_n 1, 1) := by decide +kernel
theorem dX8_at_1 : decode cX8_at 1 = .ok (.ifCond .lt 15, 3) := by decide +kernel
theorem dX8_at_4 : decode cX8_at 4 = .ok (.iload_n 1, 1) := by decide +kernel
theorem dX8_at_5 : decode cX8_at 5 = .ok (.aload_n 0, 1) := by decide +kernel
theorem dX8_at_6 : decode cX8_at 6 = .ok (.arraylength, 1) := by decide +kernel
theorem dX8_at_7 : decode cX8_at 7 = .ok (.if_icmp .ge 9, 3) := by decide +kernel
theorem dX8_at_10 : decode cX8_at 10 = .ok (.aload_n 0, 1) := by decide +kernel
theorem dX8_at_11 : decode cX8_at 11 = .ok (.iload_n 1, 1) := by decide +kernel
theorem dX8_at_12 : decode cX8_at 12 = .ok (.iaload, 1) := by decide +kernel
theorem dX8_at_13 : decode cX8_at 13 = .ok (.goto 4, 3) := by decide +kernel
theorem dX8_at_16 : decode cX8_at 16 = .ok (.iconst 0, 1) := by decide +kernel
theorem dX8_at_17 : decode cX8_at 17 = .ok (.ireturn, 1) := by decide +kernel
theorem dX8_put_0 : decode cX8_put 0 = .ok (.iload_n 1, 1) := by decide +kernel
theorem dX8_put_1 : decode cX8_put 1 = .ok (.ifCond .lt 13, 3) := by decide +kernel
theorem dX8_put_4 : decode cX8_put 4 = .ok (.iload_n 1, 1) := by decide +kernel
theorem dX8_put_5 : decode cX8_put 5 = .ok (.aload_n 0, 1) := by decide +kernel
theorem dX8_put_6 : decode cX8_put 6 = .ok (.arraylength, 1) := by decide +kernel
theorem dX8_put_7 : decode cX8_put 7 = .ok (.if_icmp .ge 7, 3) := by decide +kernel
theorem dX8_put_10 : decode cX8_put 10 = .ok (.aload_n 0, 1) := by decide +kernel
theorem dX8_put_11 : decode cX8_put 11 = .ok (.iload_n 1, 1) := by decide +kernel
theorem dX8_put_12 : decode cX8_put 12 = .ok (.iload_n 2, 1) := by decide +kernel
theorem dX8_put_13 : decode cX8_put 13 = .ok (.iastore, 1) := by decide +kernel
theorem dX8_put_14 : decode cX8_put 14 = .ok (.return_, 1) := by decide +kernel
theorem dX8_copyRow_0 : decode cX8_copyRow 0 = .ok (.iconst 0, 1) := by decide +kernel
theorem dX8_copyRow_1 : decode cX8_copyRow 1 = .ok (.istore_n 2, 1) := by decide +kernel
theorem dX8_copyRow_2 : decode cX8_copyRow 2 = .ok (.iload_n 2, 1) := by decide +kernel
theorem dX8_copyRow_3 : decode cX8_copyRow 3 = .ok (.aload_n 0, 1) := by decide +kernel
theorem dX8_copyRow_4 : decode cX8_copyRow 4 = .ok (.arraylength, 1) := by decide +kernel
theorem dX8_copyRow_5 : decode cX8_copyRow 5 = .ok (.if_icmp .ge 21, 3) := by decide +kernel
theorem dX8_copyRow_8 : decode cX8_copyRow 8 = .ok (.iload_n 2, 1) := by decide +kernel
theorem dX8_copyRow_9 : decode cX8_copyRow 9 = .ok (.aload_n 1, 1) := by decide +kernel
theorem dX8_copyRow_10 : decode cX8_copyRow 10 = .ok (.arraylength, 1) := by decide +kernel
theorem dX8_copyRow_11 : decode cX8_copyRow 11 = .ok (.if_icmp .ge 15, 3) := by decide +kernel
theorem dX8_copyRow_14 : decode cX8_copyRow 14 = .ok (.aload_n 1, 1) := by decide +kernel
theorem dX8_copyRow_15 : decode cX8_copyRow 15 = .ok (.iload_n 2, 1) := by decide +kernel
theorem dX8_copyRow_16 : decode cX8_copyRow 16 = .ok (.aload_n 0, 1) := by decide +kernel
theorem dX8_copyRow_17 : decode cX8_copyRow 17 = .ok (.iload_n 2, 1) := by decide +kernel
theorem dX8_copyRow_18 : decode cX8_copyRow 18 = .ok (.iaload, 1) := by decide +kernel
theorem dX8_copyRow_19 : decode cX8_copyRow 19 = .ok (.iastore, 1) := by decide +kernel
theorem dX8_copyRow_20 : decode cX8_copyRow 20 = .ok (.iinc 2 1, 3) := by decide +kernel
theorem dX8_copyRow_23 : decode cX8_copyRow 23 = .ok (.goto (-21), 3) := by decide +kernel
theorem dX8_copyRow_26 : decode cX8_copyRow 26 = .ok (.return_, 1) := by decide +kernel
