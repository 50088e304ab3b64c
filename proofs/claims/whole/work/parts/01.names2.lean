theorem dX4_size_15 : decode cX4_size 15 = .ok (.ifCond .ne 6, 3) := by decide +kernel
theorem dX4_size_18 : decode cX4_size 18 = .ok (.bipush (-2), 2) := by decide +kernel
theorem dX4_size_20 : decode cX4_size 20 = .ok (.ireturn, 1) := by decide +kernel
theorem dX4_size_21 : decode cX4_size 21 = .ok (.aload_n 0, 1) := by decide +kernel
theorem dX4_size_22 : decode cX4_size 22 = .ok (.iconst 3, 1) := by decide +kernel
theorem dX4_size_23 : decode cX4_size 23 = .ok (.iload_n 1, 1) := by decide +kernel
theorem dX4_size_24 : decode cX4_size 24 = .ok (.iload_n 2, 1) := by decide +kernel
theorem dX4_size_25 : decode cX4_size 25 = .ok (.iconst 0, 1) := by decide +kernel
theorem dX4_size_26 : decode cX4_size 26 = .ok (.iconst 0, 1) := by decide +kernel
theorem dX4_size_27 : decode cX4_size 27 = .ok (.invokevirtual 43, 3) := by decide +kernel
theorem dX4_size_30 : decode cX4_size 30 = .ok (.ireturn, 1) := by decide +kernel
theorem dX4_apart_0 : decode cX4_apart 0 = .ok (.aload_n 0, 1) := by decide +kernel
theorem dX4_apart_1 : decode cX4_apart 1 = .ok (.getfield 19, 3) := by decide +kernel
theorem dX4_apart_4 : decode cX4_apart 4 = .ok (.iload_n 1, 1) := by decide +kernel
theorem dX4_apart_5 : decode cX4_apart 5 = .ok (.invokevirtual 47, 3) := by decide +kernel
theorem dX4_apart_8 : decode cX4_apart 8 = .ok (.ifCond .eq 19, 3) := by decide +kernel
theorem dX4_apart_11 : decode cX4_apart 11 = .ok (.aload_n 0, 1) := by decide +kernel
theorem dX4_apart_12 : decode cX4_apart 12 = .ok (.getfield 19, 3) := by decide +kernel
theorem dX4_apart_15 : decode cX4_apart 15 = .ok (.iload_n 2, 1) := by decide +kernel
theorem dX4_apart_16 : decode cX4_apart 16 = .ok (.invokevirtual 47, 3) := by decide +kernel
theorem dX4_apart_19 : decode cX4_apart 19 = .ok (.ifCond .eq 8, 3) := by decide +kernel
theorem dX4_apart_22 : decode cX4_apart 22 = .ok (.iload_n 1, 1) := by decide +kernel
theorem dX4_apart_23 : decode cX4_apart 23 = .ok (.iload_n 2, 1) := by decide +kernel
theorem dX4_apart_24 : decode cX4_apart 24 = .ok (.if_icmp .ne 6, 3) := by decide +kernel
theorem dX4_apart_27 : decode cX4_apart 27 = .ok (.bipush (-2), 2) := by decide +kernel
theorem dX4_apart_29 : decode cX4_apart 29 = .ok (.ireturn, 1) := by decide +kernel
theorem dX4_apart_30 : decode cX4_apart 30 = .ok (.aload_n 0, 1) := by decide +kernel
theorem dX4_apart_31 : decode cX4_apart 31 = .ok (.getfield 19, 3) := by decide +kernel
theorem dX4_apart_34 : decode cX4_apart 34 = .ok (.iload_n 1, 1) := by decide +kernel
theorem dX4_apart_35 : decode cX4_apart 35 = .ok (.iload_n 2, 1) := by decide +kernel
theorem dX4_apart_36 : decode cX4_apart 36 = .ok (.invokevirtual 57, 3) := by decide +kernel
theorem dX4_apart_39 : decode cX4_apart 39 = .ok (.iload_n 3, 1) := by decide +kernel
theorem dX4_apart_40 : decode cX4_apart 40 = .ok (.if_icmp .ne 6, 3) := by decide +kernel
theorem dX4_apart_43 : decode cX4_apart 43 = .ok (.bipush (-3), 2) := by decide +kernel
theorem dX4_apart_45 : decode cX4_apart 45 = .ok (.ireturn, 1) := by decide +kernel
theorem dX4_apart_46 : decode cX4_apart 46 = .ok (.aload_n 0, 1) := by decide +kernel
theorem dX4_apart_47 : decode cX4_apart 47 = .ok (.iload_n 3, 1) := by decide +kernel
theorem dX4_apart_48 : decode cX4_apart 48 = .ok (.ifCond .eq 7, 3) := by decide +kernel
theorem dX4_apart_51 : decode cX4_apart 51 = .ok (.iconst 4, 1) := by decide +kernel
theorem dX4_apart_52 : decode cX4_apart 52 = .ok (.goto 4, 3) := by decide +kernel
theorem dX4_apart_55 : decode cX4_apart 55 = .ok (.iconst 5, 1) := by decide +kernel
theorem dX4_apart_56 : decode cX4_apart 56 = .ok (.iload_n 1, 1) := by decide +kernel
theorem dX4_apart_57 : decode cX4_apart 57 = .ok (.iload_n 2, 1) := by decide +kernel
theorem dX4_apart_58 : decode cX4_apart 58 = .ok (.iconst 0, 1) := by decide +kernel
theorem dX4_apart_59 : decode cX4_apart 59 = .ok (.iconst 0, 1) := by decide +kernel
theorem dX4_apart_60 : decode cX4_apart 60 = .ok (.invokevirtual 43, 3) := by decide +kernel
theorem dX4_apart_63 : decode cX4_apart 63 = .ok (.ireturn, 1) := by decide +kernel
theorem dX4_lock_0 : decode cX4_lock 0 = .ok (.aload_n 0, 1) := by decide +kernel
theorem dX4_lock_1 : decode cX4_lock 1 = .ok (.getfield 19, 3) := by decide +kernel
theorem dX4_lock_4 : decode cX4_lock 4 = .ok (.iload_n 1, 1) := by decide +kernel
theorem dX4_lock_5 : decode cX4_lock 5 = .ok (.invokevirtual 47, 3) := by decide +kernel
theorem dX4_lock_8 : decode cX4_lock 8 = .ok (.ifCond .eq 15, 3) := by decide +kernel
theorem dX4_lock_11 : decode cX4_lock 11 = .ok (.iload_n 2, 1) := by decide +kernel
theorem dX4_lock_12 : decode cX4_lock 12 = .ok (.iconst (-1), 1) := by decide +kernel
theorem dX4_lock_13 : decode cX4_lock 13 = .ok (.if_icmp .eq 13, 3) := by decide +kernel
theorem dX4_lock_16 : decode cX4_lock 16 = .ok (.iload_n 2, 1) := by decide +kernel
theorem dX4_lock_17 : decode cX4_lock 17 = .ok (.invokestatic 51, 3) := by decide +kernel
theorem dX4_lock_20 : decode cX4_lock 20 = .ok (.ifCond .ne 6, 3) := by decide +kernel
theorem dX4_lock_23 : decode cX4_lock 23 = .ok (.bipush (-2), 2) := by decide +kernel
theorem dX4_lock_25 : decode cX4_lock 25 = .ok (.ireturn, 1) := by decide +kernel
theorem dX4_lock_26 : decode cX4_lock 26 = .ok (.aload_n 0, 1) := by decide +kernel
theorem dX4_lock_27 : decode cX4_lock 27 = .ok (.bipush 6, 2) := by decide +kernel
theorem dX4_lock_29 : decode cX4_lock 29 = .ok (.iload_n 1, 1) := by decide +kernel
theorem dX4_lock_30 : decode cX4_lock 30 = .ok (.iload_n 2, 1) := by decide +kernel
theorem dX4_lock_31 : decode cX4_lock 31 = .ok (.iconst 0, 1) := by decide +kernel
theorem dX4_lock_32 : decode cX4_lock 32 = .ok (.iconst 0, 1) := by decide +kernel
theorem dX4_lock_33 : decode cX4_lock 33 = .ok (.invokevirtual 43, 3) := by decide +kernel
theorem dX4_lock_36 : decode cX4_lock 36 = .ok (.ireturn, 1) := by decide +kernel
theorem dX4_free_0 : decode cX4_free 0 = .ok (.aload_n 0, 1) := by decide +kernel
theorem dX4_free_1 : decode cX4_free 1 = .ok (.getfield 19, 3) := by decide +kernel
theorem dX4_free_4 : decode cX4_free 4 = .ok (.iload_n 1, 1) := by decide +kernel
theorem dX4_free_5 : decode cX4_free 5 = .ok (.invokevirtual 47, 3) := by decide +kernel
theorem dX4_free_8 : decode cX4_free 8 = .ok (.ifCond .ne 6, 3) := by decide +kernel
theorem dX4_free_11 : decode cX4_free 11 = .ok (.bipush (-2), 2) := by decide +kernel
theorem dX4_free_13 : decode cX4_free 13 = .ok (.ireturn, 1) := by decide +kernel
theorem dX4_free_14 : decode cX4_free 14 = .ok (.aload_n 0, 1) := by decide +kernel
theorem dX4_free_15 : decode cX4_free 15 = .ok (.getfield 19, 3) := by decide +kernel
theorem dX4_free_18 : decode cX4_free 18 = .ok (.getfield 61, 3) := by decide +kernel
theorem dX4_free_21 : decode cX4_free 21 = .ok (.iload_n 1, 1) := by decide +kernel
theorem dX4_free_22 : decode cX4_free 22 = .ok (.iaload, 1) := by decide +kernel
theorem dX4_free_23 : decode cX4_free 23 = .ok (.bipush (-2), 2) := by decide +kernel
theorem dX4_free_25 : decode cX4_free 25 = .ok (.if_icmp .ne 6, 3) := by decide +kernel
theorem dX4_free_28 : decode cX4_free 28 = .ok (.bipush (-3), 2) := by decide +kernel
theorem dX4_free_30 : decode cX4_free 30 = .ok (.ireturn, 1) := by decide +kernel
theorem dX4_free_31 : decode cX4_free 31 = .ok (.aload_n 0, 1) := by decide +kernel
theorem dX4_free_32 : decode cX4_free 32 = .ok (.bipush 7, 2) := by decide +kernel
theorem dX4_free_34 : decode cX4_free 34 = .ok (.iload_n 1, 1) := by decide +kernel
theorem dX4_free_35 : decode cX4_free 35 = .ok (.iconst 0, 1) := by decide +kernel
theorem dX4_free_36 : decode cX4_free 36 = .ok (.iconst 0, 1) := by decide +kernel
theorem dX4_free_37 : decode cX4_free 37 = .ok (.iconst 0, 1) := by decide +kernel
theorem dX4_free_38 : decode cX4_free 38 = .ok (.invokevirtual 43, 3) := by decide +kernel
theorem dX4_free_41 : decode cX4_free 41 = .ok (.ireturn, 1) := by decide +kernel
theorem dX4_solve_0 : decode cX4_solve 0 = .ok (.iload_n 2, 1) := by decide +kernel
theorem dX4_solve_1 : decode cX4_solve 1 = .ok (.iconst 1, 1) := by decide +kernel
theorem dX4_solve_2 : decode cX4_solve 2 = .ok (.bipush 8, 2) := by decide +kernel
theorem dX4_solve_4 : decode cX4_solve 4 = .ok (.invokestatic 54, 3) := by decide +kernel
theorem dX4_solve_7 : decode cX4_solve 7 = .ok (.ifCond .ne 6, 3) := by decide +kernel
theorem dX4_solve_10 : decode cX4_solve 10 = .ok (.bipush (-2), 2) := by decide +kernel
theorem dX4_solve_12 : decode cX4_solve 12 = .ok (.ireturn, 1) := by decide +kernel
theorem dX4_solve_13 : decode cX4_solve 13 = .ok (.aload_n 0, 1) := by decide +kernel
theorem dX4_solve_14 : decode cX4_solve 14 = .ok (.getfield 32, 3) := by decide +kernel
theorem dX4_solve_17 : decode cX4_solve 17 = .ok (.iconst 3, 1) := by decide +kernel
theorem dX4_solve_18 : decode cX4_solve 18 = .ok (.if_icmp .lt 6, 3) := by decide +kernel
theorem dX4_solve_21 : decode cX4_solve 21 = .ok (.bipush (-4), 2) := by decide +kernel
theorem dX4_solve_23 : decode cX4_solve 23 = .ok (.ireturn, 1) := by decide +kernel
theorem dX4_solve_24 : decode cX4_solve 24 = .ok (.aload_n 0, 1) := by decide +kernel
theorem dX4_solve_25 : decode cX4_solve 25 = .ok (.getfield 28, 3) := by decide +kernel
theorem dX4_solve_28 : decode cX4_solve 28 = .ok (.aload_n 0, 1) := by decide +kernel
theorem dX4_solve_29 : decode cX4_solve 29 = .ok (.getfield 32, 3) := by decide +kernel
theorem dX4_solve_32 : decode cX4_solve 32 = .ok (.new 26, 3) := by decide +kernel
theorem dX4_solve_35 : decode cX4_solve 35 = .ok (.dup, 1) := by decide +kernel
theorem dX4_solve_36 : decode cX4_solve 36 = .ok (.iload_n 1, 1) := by decide +kernel
theorem dX4_solve_37 : decode cX4_solve 37 = .ok (.iload_n 2, 1) := by decide +kernel
theorem dX4_solve_38 : decode cX4_solve 38 = .ok (.invokespecial 65, 3) := by decide +kernel
theorem dX4_solve_41 : decode cX4_solve 41 = .ok (.aastore, 1) := by decide +kernel
theorem dX4_solve_42 : decode cX4_solve 42 = .ok (.aload_n 0, 1) := by decide +kernel
theorem dX4_solve_43 : decode cX4_solve 43 = .ok (.dup, 1) := by decide +kernel
theorem dX4_solve_44 : decode cX4_solve 44 = .ok (.getfield 32, 3) := by decide +kernel
theorem dX4_solve_47 : decode cX4_solve 47 = .ok (.iconst 1, 1) := by decide +kernel
theorem dX4_solve_48 : decode cX4_solve 48 = .ok (.iadd, 1) := by decide +kernel
theorem dX4_solve_49 : decode cX4_solve 49 = .ok (.putfield 32, 3) := by decide +kernel
theorem dX4_solve_52 : decode cX4_solve 52 = .ok (.aload_n 0, 1) := by decide +kernel
theorem dX4_solve_53 : decode cX4_solve 53 = .ok (.getfield 32, 3) := by decide +kernel
theorem dX4_solve_56 : decode cX4_solve 56 = .ok (.iconst 1, 1) := by decide +kernel
theorem dX4_solve_57 : decode cX4_solve 57 = .ok (.isub, 1) := by decide +kernel
theorem dX4_solve_58 : decode cX4_solve 58 = .ok (.ireturn, 1) := by decide +kernel
theorem dX4_take_0 : decode cX4_take 0 = .ok (.aload_n 0, 1) := by decide +kernel
theorem dX4_take_1 : decode cX4_take 1 = .ok (.iload_n 1, 1) := by decide +kernel
theorem dX4_take_2 : decode cX4_take 2 = .ok (.invokevirtual 68, 3) := by decide +kernel
theorem dX4_take_5 : decode cX4_take 5 = .ok (.astore_n 3, 1) := by decide +kernel
theorem dX4_take_6 : decode cX4_take 6 = .ok (.aload_n 3, 1) := by decide +kernel
theorem dX4_take_7 : decode cX4_take 7 = .ok (.ifnull 18, 3) := by decide +kernel
theorem dX4_take_10 : decode cX4_take 10 = .ok (.iload_n 2, 1) := by decide +kernel
theorem dX4_take_11 : decode cX4_take 11 = .ok (.iconst 0, 1) := by decide +kernel
theorem dX4_take_12 : decode cX4_take 12 = .ok (.aload_n 0, 1) := by decide +kernel
theorem dX4_take_13 : decode cX4_take 13 = .ok (.getfield 10, 3) := by decide +kernel
theorem dX4_take_16 : decode cX4_take 16 = .ok (.getfield 72, 3) := by decide +kernel
theorem dX4_take_19 : decode cX4_take 19 = .ok (.invokestatic 54, 3) := by decide +kernel
theorem dX4_take_22 : decode cX4_take 22 = .ok (.ifCond .ne 6, 3) := by decide +kernel
theorem dX4_take_25 : decode cX4_take 25 = .ok (.bipush (-2), 2) := by decide +kernel
theorem dX4_take_27 : decode cX4_take 27 = .ok (.ireturn, 1) := by decide +kernel
theorem dX4_take_28 : decode cX4_take 28 = .ok (.aload_n 3, 1) := by decide +kernel
theorem dX4_take_29 : decode cX4_take 29 = .ok (.aload_n 0, 1) := by decide +kernel
theorem dX4_take_30 : decode cX4_take 30 = .ok (.getfield 10, 3) := by decide +kernel
theorem dX4_take_33 : decode cX4_take 33 = .ok (.iload_n 2, 1) := by decide +kernel
theorem dX4_take_34 : decode cX4_take 34 = .ok (.invokevirtual 75, 3) := by decide +kernel
theorem dX4_take_37 : decode cX4_take 37 = .ok (.ireturn, 1) := by decide +kernel
theorem dX4_step_0 : decode cX4_step 0 = .ok (.aload_n 0, 1) := by decide +kernel
theorem dX4_step_1 : decode cX4_step 1 = .ok (.iload_n 1, 1) := by decide +kernel
theorem dX4_step_2 : decode cX4_step 2 = .ok (.invokevirtual 68, 3) := by decide +kernel
theorem dX4_step_5 : decode cX4_step 5 = .ok (.astore_n 3, 1) := by decide +kernel
theorem dX4_step_6 : decode cX4_step 6 = .ok (.aload_n 3, 1) := by decide +kernel
theorem dX4_step_7 : decode cX4_step 7 = .ok (.ifnull 14, 3) := by decide +kernel
theorem dX4_step_10 : decode cX4_step 10 = .ok (.iload_n 2, 1) := by decide +kernel
theorem dX4_step_11 : decode cX4_step 11 = .ok (.iconst 0, 1) := by decide +kernel
theorem dX4_step_12 : decode cX4_step 12 = .ok (.sipush 200, 3) := by decide +kernel
theorem dX4_step_15 : decode cX4_step 15 = .ok (.invokestatic 54, 3) := by decide +kernel
theorem dX4_step_18 : decode cX4_step 18 = .ok (.ifCond .ne 6, 3) := by decide +kernel
theorem dX4_step_21 : decode cX4_step 21 = .ok (.bipush (-2), 2) := by decide +kernel
theorem dX4_step_23 : decode cX4_step 23 = .ok (.ireturn, 1) := by decide +kernel
theorem dX4_step_24 : decode cX4_step 24 = .ok (.aload_n 3, 1) := by decide +kernel
theorem dX4_step_25 : decode cX4_step 25 = .ok (.aload_n 0, 1) := by decide +kernel
theorem dX4_step_26 : decode cX4_step 26 = .ok (.getfield 10, 3) := by decide +kernel
theorem dX4_step_29 : decode cX4_step 29 = .ok (.aload_n 0, 1) := by decide +kernel
theorem dX4_step_30 : decode cX4_step 30 = .ok (.getfield 10, 3) := by decide +kernel
theorem dX4_step_33 : decode cX4_step 33 = .ok (.getfield 72, 3) := by decide +kernel
theorem dX4_step_36 : decode cX4_step 36 = .ok (.invokevirtual 75, 3) := by decide +kernel
theorem dX4_step_39 : decode cX4_step 39 = .ok (.pop, 1) := by decide +kernel
theorem dX4_step_40 : decode cX4_step 40 = .ok (.aload_n 3, 1) := by decide +kernel
theorem dX4_step_41 : decode cX4_step 41 = .ok (.iload_n 2, 1) := by decide +kernel
theorem dX4_step_42 : decode cX4_step 42 = .ok (.invokevirtual 79, 3) := by decide +kernel
theorem dX4_step_45 : decode cX4_step 45 = .ok (.ireturn, 1) := by decide +kernel
theorem dX4_mark_0 : decode cX4_mark 0 = .ok (.aload_n 0, 1) := by decide +kernel
theorem dX4_mark_1 : decode cX4_mark 1 = .ok (.iload_n 1, 1) := by decide +kernel
theorem dX4_mark_2 : decode cX4_mark 2 = .ok (.invokevirtual 68, 3) := by decide +kernel
theorem dX4_mark_5 : decode cX4_mark 5 = .ok (.astore_n 3, 1) := by decide +kernel
theorem dX4_mark_6 : decode cX4_mark 6 = .ok (.aload_n 3, 1) := by decide +kernel
theorem dX4_mark_7 : decode cX4_mark 7 = .ok (.ifnull 10, 3) := by decide +kernel
theorem dX4_mark_10 : decode cX4_mark 10 = .ok (.iload_n 2, 1) := by decide +kernel
theorem dX4_mark_11 : decode cX4_mark 11 = .ok (.invokestatic 83, 3) := by decide +kernel
theorem dX4_mark_14 : decode cX4_mark 14 = .ok (.ifCond .ne 6, 3) := by decide +kernel
theorem dX4_mark_17 : decode cX4_mark 17 = .ok (.bipush (-2), 2) := by decide +kernel
theorem dX4_mark_19 : decode cX4_mark 19 = .ok (.ireturn, 1) := by decide +kernel
theorem dX4_mark_20 : decode cX4_mark 20 = .ok (.aload_n 3, 1) := by decide +kernel
theorem dX4_mark_21 : decode cX4_mark 21 = .ok (.getfield 86, 3) := by decide +kernel
theorem dX4_mark_24 : decode cX4_mark 24 = .ok (.iload_n 2, 1) := by decide +kernel
theorem dX4_mark_25 : decode cX4_mark 25 = .ok (.aaload, 1) := by decide +kernel
theorem dX4_mark_26 : decode cX4_mark 26 = .ok (.ifnonnull 21, 3) := by decide +kernel
theorem dX4_mark_29 : decode cX4_mark 29 = .ok (.aload_n 3, 1) := by decide +kernel
theorem dX4_mark_30 : decode cX4_mark 30 = .ok (.getfield 86, 3) := by decide +kernel
theorem dX4_mark_33 : decode cX4_mark 33 = .ok (.iload_n 2, 1) := by decide +kernel
theorem dX4_mark_34 : decode cX4_mark 34 = .ok (.new 90, 3) := by decide +kernel
theorem dX4_mark_37 : decode cX4_mark 37 = .ok (.dup, 1) := by decide +kernel
theorem dX4_mark_38 : decode cX4_mark 38 = .ok (.aload_n 3, 1) := by decide +kernel
theorem dX4_mark_39 : decode cX4_mark 39 = .ok (.getfield 92, 3) := by decide +kernel
theorem dX4_mark_42 : decode cX4_mark 42 = .ok (.arraylength, 1) := by decide +kernel
theorem dX4_mark_43 : decode cX4_mark 43 = .ok (.invokespecial 96, 3) := by decide +kernel
theorem dX4_mark_46 : decode cX4_mark 46 = .ok (.aastore, 1) := by decide +kernel
theorem dX4_mark_47 : decode cX4_mark 47 = .ok (.aload_n 3, 1) := by decide +kernel
theorem dX4_mark_48 : decode cX4_mark 48 = .ok (.aload_n 3, 1) := by decide +kernel
theorem dX4_mark_49 : decode cX4_mark 49 = .ok (.getfield 86, 3) := by decide +kernel
theorem dX4_mark_52 : decode cX4_mark 52 = .ok (.iload_n 2, 1) := by decide +kernel
theorem dX4_mark_53 : decode cX4_mark 53 = .ok (.aaload, 1) := by decide +kernel
theorem dX4_mark_54 : decode cX4_mark 54 = .ok (.invokevirtual 99, 3) := by decide +kernel
theorem dX4_mark_57 : decode cX4_mark 57 = .ok (.aload_n 3, 1) := by decide +kernel
theorem dX4_mark_58 : decode cX4_mark 58 = .ok (.getfield 103, 3) := by decide +kernel
theorem dX4_mark_61 : decode cX4_mark 61 = .ok (.getfield 106, 3) := by decide +kernel
theorem dX4_mark_64 : decode cX4_mark 64 = .ok (.ireturn, 1) := by decide +kernel
theorem dX4_back_0 : decode cX4_back 0 = .ok (.aload_n 0, 1) := by decide +kernel
theorem dX4_back_1 : decode cX4_back 1 = .ok (.iload_n 1, 1) := by decide +kernel
theorem dX4_back_2 : decode cX4_back 2 = .ok (.invokevirtual 68, 3) := by decide +kernel
theorem dX4_back_5 : decode cX4_back 5 = .ok (.astore_n 3, 1) := by decide +kernel
theorem dX4_back_6 : decode cX4_back 6 = .ok (.aload_n 3, 1) := by decide +kernel
theorem dX4_back_7 : decode cX4_back 7 = .ok (.ifnull 10, 3) := by decide +kernel
theorem dX4_back_10 : decode cX4_back 10 = .ok (.iload_n 2, 1) := by decide +kernel
theorem dX4_back_11 : decode cX4_back 11 = .ok (.invokestatic 83, 3) := by decide +kernel
theorem dX4_back_14 : decode cX4_back 14 = .ok (.ifCond .ne 6, 3) := by decide +kernel
theorem dX4_back_17 : decode cX4_back 17 = .ok (.bipush (-2), 2) := by decide +kernel
theorem dX4_back_19 : decode cX4_back 19 = .ok (.ireturn, 1) := by decide +kernel
theorem dX4_back_20 : decode cX4_back 20 = .ok (.aload_n 3, 1) := by decide +kernel
theorem dX4_back_21 : decode cX4_back 21 = .ok (.getfield 86, 3) := by decide +kernel
theorem dX4_back_24 : decode cX4_back 24 = .ok (.iload_n 2, 1) := by decide +kernel
theorem dX4_back_25 : decode cX4_back 25 = .ok (.aaload, 1) := by decide +kernel
theorem dX4_back_26 : decode cX4_back 26 = .ok (.astore 4, 2) := by decide +kernel
theorem dX4_back_28 : decode cX4_back 28 = .ok (.aload 4, 2) := by decide +kernel
theorem dX4_back_30 : decode cX4_back 30 = .ok (.ifnonnull 6, 3) := by decide +kernel
theorem dX4_back_33 : decode cX4_back 33 = .ok (.bipush (-3), 2) := by decide +kernel
theorem dX4_back_35 : decode cX4_back 35 = .ok (.ireturn, 1) := by decide +kernel
theorem dX4_back_36 : decode cX4_back 36 = .ok (.aload_n 3, 1) := by decide +kernel
theorem dX4_back_37 : decode cX4_back 37 = .ok (.aload 4, 2) := by decide +kernel
theorem dX4_back_39 : decode cX4_back 39 = .ok (.aload_n 0, 1) := by decide +kernel
theorem dX4_back_40 : decode cX4_back 40 = .ok (.getfield 10, 3) := by decide +kernel
theorem dX4_back_43 : decode cX4_back 43 = .ok (.invokevirtual 109, 3) := by decide +kernel
theorem dX4_back_46 : decode cX4_back 46 = .ok (.aload 4, 2) := by decide +kernel
theorem dX4_back_48 : decode cX4_back 48 = .ok (.getfield 113, 3) := by decide +kernel
theorem dX4_back_51 : decode cX4_back 51 = .ok (.ireturn, 1) := by decide +kernel
theorem dX4_room_0 : decode cX4_room 0 = .ok (.aload_n 0, 1) := by decide +kernel
theorem dX4_room_1 : decode cX4_room 1 = .ok (.iload_n 1, 1) := by decide +kernel
theorem dX4_room_2 : decode cX4_room 2 = .ok (.invokevirtual 68, 3) := by decide +kernel
theorem dX4_room_5 : decode cX4_room 5 = .ok (.astore 4, 2) := by decide +kernel
theorem dX4_room_7 : decode cX4_room 7 = .ok (.aload 4, 2) := by decide +kernel
theorem dX4_room_9 : decode cX4_room 9 = .ok (.ifnull 13, 3) := by decide +kernel
theorem dX4_room_12 : decode cX4_room 12 = .ok (.iload_n 3, 1) := by decide +kernel
theorem dX4_room_13 : decode cX4_room 13 = .ok (.iconst 0, 1) := by decide +kernel
theorem dX4_room_14 : decode cX4_room 14 = .ok (.bipush 15, 2) := by decide +kernel
theorem dX4_room_16 : decode cX4_room 16 = .ok (.invokestatic 54, 3) := by decide +kernel
theorem dX4_room_19 : decode cX4_room 19 = .ok (.ifCond .ne 6, 3) := by decide +kernel
theorem dX4_room_22 : decode cX4_room 22 = .ok (.bipush (-2), 2) := by decide +kernel
theorem dX4_room_24 : decode cX4_room 24 = .ok (.ireturn, 1) := by decide +kernel
theorem dX4_room_25 : decode cX4_room 25 = .ok (.aload 4, 2) := by decide +kernel
theorem dX4_room_27 : decode cX4_room 27 = .ok (.getfield 103, 3) := by decide +kernel
theorem dX4_room_30 : decode cX4_room 30 = .ok (.iload_n 3, 1) := by decide +kernel
theorem dX4_room_31 : decode cX4_room 31 = .ok (.invokevirtual 47, 3) := by decide +kernel
theorem dX4_room_34 : decode cX4_room 34 = .ok (.ifCond .ne 6, 3) := by decide +kernel
theorem dX4_room_37 : decode cX4_room 37 = .ok (.bipush (-3), 2) := by decide +kernel
theorem dX4_room_39 : decode cX4_room 39 = .ok (.ireturn, 1) := by decide +kernel
theorem dX4_room_40 : decode cX4_room 40 = .ok (.aload 4, 2) := by decide +kernel
theorem dX4_room_42 : decode cX4_room 42 = .ok (.iload_n 2, 1) := by decide +kernel
theorem dX4_room_43 : decode cX4_room 43 = .ok (.invokevirtual 114, 3) := by decide +kernel
theorem dX4_room_46 : decode cX4_room 46 = .ok (.iload_n 3, 1) := by decide +kernel
theorem dX4_room_47 : decode cX4_room 47 = .ok (.iaload, 1) := by decide +kernel
theorem dX4_room_48 : decode cX4_room 48 = .ok (.ireturn, 1) := by decide +kernel
theorem dX4_score_0 : decode cX4_score 0 = .ok (.aload_n 0, 1) := by decide +kernel
theorem dX4_score_1 : decode cX4_score 1 = .ok (.iload_n 1, 1) := by decide +kernel
theorem dX4_score_2 : decode cX4_score 2 = .ok (.invokevirtual 68, 3) := by decide +kernel
theorem dX4_score_5 : decode cX4_score 5 = .ok (.astore 4, 2) := by decide +kernel
theorem dX4_score_7 : decode cX4_score 7 = .ok (.aload 4, 2) := by decide +kernel
theorem dX4_score_9 : decode cX4_score 9 = .ok (.ifnonnull 6, 3) := by decide +kernel
theorem dX4_score_12 : decode cX4_score 12 = .ok (.bipush (-2), 2) := by decide +kernel
theorem dX4_score_14 : decode cX4_score 14 = .ok (.ireturn, 1) := by decide +kernel
theorem dX4_score_15 : decode cX4_score 15 = .ok (.iload_n 2, 1) := by decide +kernel
theorem dX4_score_16 : decode cX4_score 16 = .ok (.ifCond .eq 11, 3) := by decide +kernel
theorem dX4_score_19 : decode cX4_score 19 = .ok (.aload 4, 2) := by decide +kernel
theorem dX4_score_21 : decode cX4_score 21 = .ok (.getfield 118, 3) := by decide +kernel
theorem dX4_score_24 : decode cX4_score 24 = .ok (.goto 8, 3) := by decide +kernel
theorem dX4_score_27 : decode cX4_score 27 = .ok (.aload 4, 2) := by decide +kernel
theorem dX4_score_29 : decode cX4_score 29 = .ok (.getfield 122, 3) := by decide +kernel
theorem dX4_score_32 : decode cX4_score 32 = .ok (.iload_n 3, 1) := by decide +kernel
theorem dX4_score_33 : decode cX4_score 33 = .ok (.invokestatic 125, 3) := by decide +kernel
theorem dX4_score_36 : decode cX4_score 36 = .ok (.ireturn, 1) := by decide +kernel
theorem dX4_scoreBy_0 : decode cX4_scoreBy 0 = .ok (.aload_n 0, 1) := by decide +kernel
theorem dX4_scoreBy_1 : decode cX4_scoreBy 1 = .ok (.iload_n 1, 1) := by decide +kernel
theorem dX4_scoreBy_2 : decode cX4_scoreBy 2 = .ok (.invokevirtual 68, 3) := by decide +kernel
theorem dX4_scoreBy_5 : decode cX4_scoreBy 5 = .ok (.astore 5, 2) := by decide +kernel
theorem dX4_scoreBy_7 : decode cX4_scoreBy 7 = .ok (.aload 5, 2) := by decide +kernel
theorem dX4_scoreBy_9 : decode cX4_scoreBy 9 = .ok (.ifnull 19, 3) := by decide +kernel
theorem dX4_scoreBy_12 : decode cX4_scoreBy 12 = .ok (.iload 4, 2) := by decide +kernel
theorem dX4_scoreBy_14 : decode cX4_scoreBy 14 = .ok (.iconst 0, 1) := by decide +kernel
theorem dX4_scoreBy_15 : decode cX4_scoreBy 15 = .ok (.aload_n 0, 1) := by decide +kernel
theorem dX4_scoreBy_16 : decode cX4_scoreBy 16 = .ok (.getfield 10, 3) := by decide +kernel
theorem dX4_scoreBy_19 : decode cX4_scoreBy 19 = .ok (.getfield 72, 3) := by decide +kernel
theorem dX4_scoreBy_22 : decode cX4_scoreBy 22 = .ok (.invokestatic 54, 3) := by decide +kernel
theorem dX4_scoreBy_25 : decode cX4_scoreBy 25 = .ok (.ifCond .ne 6, 3) := by decide +kernel
theorem dX4_scoreBy_28 : decode cX4_scoreBy 28 = .ok (.bipush (-2), 2) := by decide +kernel
theorem dX4_scoreBy_30 : decode cX4_scoreBy 30 = .ok (.ireturn, 1) := by decide +kernel
theorem dX4_scoreBy_31 : decode cX4_scoreBy 31 = .ok (.aload_n 0, 1) := by decide +kernel
theorem dX4_scoreBy_32 : decode cX4_scoreBy 32 = .ok (.getfield 23, 3) := by decide +kernel
theorem dX4_scoreBy_35 : decode cX4_scoreBy 35 = .ok (.aload_n 0, 1) := by decide +kernel
theorem dX4_scoreBy_36 : decode cX4_scoreBy 36 = .ok (.getfield 10, 3) := by decide +kernel
theorem dX4_scoreBy_39 : decode cX4_scoreBy 39 = .ok (.iload 4, 2) := by decide +kernel
theorem dX4_scoreBy_41 : decode cX4_scoreBy 41 = .ok (.invokevirtual 129, 3) := by decide +kernel
theorem dX4_scoreBy_44 : decode cX4_scoreBy 44 = .ok (.aload_n 0, 1) := by decide +kernel
theorem dX4_scoreBy_45 : decode cX4_scoreBy 45 = .ok (.getfield 23, 3) := by decide +kernel
theorem dX4_scoreBy_48 : decode cX4_scoreBy 48 = .ok (.aload 5, 2) := by decide +kernel
theorem dX4_scoreBy_50 : decode cX4_scoreBy 50 = .ok (.iload_n 2, 1) := by decide +kernel
theorem dX4_scoreBy_51 : decode cX4_scoreBy 51 = .ok (.invokevirtual 114, 3) := by decide +kernel
theorem dX4_scoreBy_54 : decode cX4_scoreBy 54 = .ok (.invokevirtual 133, 3) := by decide +kernel
theorem dX4_scoreBy_57 : decode cX4_scoreBy 57 = .ok (.iload_n 3, 1) := by decide +kernel
theorem dX4_scoreBy_58 : decode cX4_scoreBy 58 = .ok (.invokestatic 125, 3) := by decide +kernel
theorem dX4_scoreBy_61 : decode cX4_scoreBy 61 = .ok (.ireturn, 1) := by decide +kernel
theorem dX4_same_0 : decode cX4_same 0 = .ok (.aload_n 0, 1) := by decide +kernel
theorem dX4_same_1 : decode cX4_same 1 = .ok (.iload_n 1, 1) := by decide +kernel
theorem dX4_same_2 : decode cX4_same 2 = .ok (.invokevirtual 68, 3) := by decide +kernel
theorem dX4_same_5 : decode cX4_same 5 = .ok (.astore_n 3, 1) := by decide +kernel
theorem dX4_same_6 : decode cX4_same 6 = .ok (.aload_n 0, 1) := by decide +kernel
theorem dX4_same_7 : decode cX4_same 7 = .ok (.iload_n 2, 1) := by decide +kernel
theorem dX4_same_8 : decode cX4_same 8 = .ok (.invokevirtual 68, 3) := by decide +kernel
theorem dX4_same_11 : decode cX4_same 11 = .ok (.astore 4, 2) := by decide +kernel
theorem dX4_same_13 : decode cX4_same 13 = .ok (.aload_n 3, 1) := by decide +kernel
theorem dX4_same_14 : decode cX4_same 14 = .ok (.ifnull 8, 3) := by decide +kernel
theorem dX4_same_17 : decode cX4_same 17 = .ok (.aload 4, 2) := by decide +kernel
theorem dX4_same_19 : decode cX4_same 19 = .ok (.ifnonnull 6, 3) := by decide +kernel
theorem dX4_same_22 : decode cX4_same 22 = .ok (.bipush (-2), 2) := by decide +kernel
theorem dX4_same_24 : decode cX4_same 24 = .ok (.ireturn, 1) := by decide +kernel
theorem dX4_same_25 : decode cX4_same 25 = .ok (.aload_n 3, 1) := by decide +kernel
theorem dX4_same_26 : decode cX4_same 26 = .ok (.aload 4, 2) := by decide +kernel
theorem dX4_same_28 : decode cX4_same 28 = .ok (.invokevirtual 137, 3) := by decide +kernel
theorem dX4_same_31 : decode cX4_same 31 = .ok (.ifCond .eq 7, 3) := by decide +kernel
theorem dX4_same_34 : decode cX4_same 34 = .ok (.iconst 1, 1) := by decide +kernel
theorem dX4_same_35 : decode cX4_same 35 = .ok (.goto 4, 3) := by decide +kernel
theorem dX4_same_38 : decode cX4_same 38 = .ok (.iconst 0, 1) := by decide +kernel
theorem dX4_same_39 : decode cX4_same 39 = .ok (.ireturn, 1) := by decide +kernel
theorem dX4_told_0 : decode cX4_told 0 = .ok (.aload_n 0, 1) := by decide +kernel
theorem dX4_told_1 : decode cX4_told 1 = .ok (.iload_n 1, 1) := by decide +kernel
theorem dX4_told_2 : decode cX4_told 2 = .ok (.invokevirtual 68, 3) := by decide +kernel
theorem dX4_told_5 : decode cX4_told 5 = .ok (.astore_n 3, 1) := by decide +kernel
theorem dX4_told_6 : decode cX4_told 6 = .ok (.aload_n 3, 1) := by decide +kernel
theorem dX4_told_7 : decode cX4_told 7 = .ok (.ifnonnull 6, 3) := by decide +kernel
theorem dX4_told_10 : decode cX4_told 10 = .ok (.ldc 141, 2) := by decide +kernel
theorem dX4_told_12 : decode cX4_told 12 = .ok (.ireturn, 1) := by decide +kernel
theorem dX4_told_13 : decode cX4_told 13 = .ok (.iload_n 2, 1) := by decide +kernel
theorem dX4_told_14 : decode cX4_told 14 = .ok (.tableswitch 98 0 6 #[42, 47, 55, 60, 65, 70, 84], 42) := by decide +kernel
theorem dX4_told_56 : decode cX4_told 56 = .ok (.aload_n 3, 1) := by decide +kernel
theorem dX4_told_57 : decode cX4_told 57 = .ok (.getfield 142, 3) := by decide +kernel
theorem dX4_told_60 : decode cX4_told 60 = .ok (.ireturn, 1) := by decide +kernel
theorem dX4_told_61 : decode cX4_told 61 = .ok (.aload_n 3, 1) := by decide +kernel
theorem dX4_told_62 : decode cX4_told 62 = .ok (.getfield 103, 3) := by decide +kernel
theorem dX4_told_65 : decode cX4_told 65 = .ok (.getfield 106, 3) := by decide +kernel
theorem dX4_told_68 : decode cX4_told 68 = .ok (.ireturn, 1) := by decide +kernel
theorem dX4_told_69 : decode cX4_told 69 = .ok (.aload_n 3, 1) := by decide +kernel
theorem dX4_told_70 : decode cX4_told 70 = .ok (.getfield 145, 3) := by decide +kernel
theorem dX4_told_73 : decode cX4_told 73 = .ok (.ireturn, 1) := by decide +kernel
theorem dX4_told_74 : decode cX4_told 74 = .ok (.aload_n 3, 1) := by decide +kernel
theorem dX4_told_75 : decode cX4_told 75 = .ok (.getfield 148, 3) := by decide +kernel
theorem dX4_told_78 : decode cX4_told 78 = .ok (.ireturn, 1) := by decide +kernel
theorem dX4_told_79 : decode cX4_told 79 = .ok (.aload_n 3, 1) := by decide +kernel
theorem dX4_told_80 : decode cX4_told 80 = .ok (.getfield 151, 3) := by decide +kernel
theorem dX4_told_83 : decode cX4_told 83 = .ok (.ireturn, 1) := by decide +kernel
theorem dX4_told_84 : decode cX4_told 84 = .ok (.aload_n 3, 1) := by decide +kernel
theorem dX4_told_85 : decode cX4_told 85 = .ok (.getfield 92, 3) := by decide +kernel
theorem dX4_told_88 : decode cX4_told 88 = .ok (.aload_n 3, 1) := by decide +kernel
theorem dX4_told_89 : decode cX4_told 89 = .ok (.invokevirtual 154, 3) := by decide +kernel
theorem dX4_told_92 : decode cX4_told 92 = .ok (.laload, 1) := by decide +kernel
theorem dX4_told_93 : decode cX4_told 93 = .ok (.iconst 1, 1) := by decide +kernel
theorem dX4_told_94 : decode cX4_told 94 = .ok (.invokestatic 125, 3) := by decide +kernel
theorem dX4_told_97 : decode cX4_told 97 = .ok (.ireturn, 1) := by decide +kernel
theorem dX4_told_98 : decode cX4_told 98 = .ok (.aload_n 3, 1) := by decide +kernel
theorem dX4_told_99 : decode cX4_told 99 = .ok (.getfield 92, 3) := by decide +kernel
theorem dX4_told_102 : decode cX4_told 102 = .ok (.aload_n 3, 1) := by decide +kernel
theorem dX4_told_103 : decode cX4_told 103 = .ok (.invokevirtual 154, 3) := by decide +kernel
theorem dX4_told_106 : decode cX4_told 106 = .ok (.laload, 1) := by decide +kernel
theorem dX4_told_107 : decode cX4_told 107 = .ok (.iconst 0, 1) := by decide +kernel
theorem dX4_told_108 : decode cX4_told 108 = .ok (.invokestatic 125, 3) := by decide +kernel
theorem dX4_told_111 : decode cX4_told 111 = .ok (.ireturn, 1) := by decide +kernel
theorem dX4_told_112 : decode cX4_told 112 = .ok (.ldc 141, 2) := by decide +kernel
theorem dX4_told_114 : decode cX4_told 114 = .ok (.ireturn, 1) := by decide +kernel
theorem dX4_fact_0 : decode cX4_fact 0 = .ok (.iload_n 1, 1) := by decide +kernel
theorem dX4_fact_1 : decode cX4_fact 1 = .ok (.bipush 100, 2) := by decide +kernel
theorem dX4_fact_3 : decode cX4_fact 3 = .ok (.if_icmp .ge 9, 3) := by decide +kernel
theorem dX4_fact_6 : decode cX4_fact 6 = .ok (.aload_n 0, 1) := by decide +kernel
theorem dX4_fact_7 : decode cX4_fact 7 = .ok (.iload_n 1, 1) := by decide +kernel
theorem dX4_fact_8 : decode cX4_fact 8 = .ok (.invokevirtual 158, 3) := by decide +kernel
theorem dX4_fact_11 : decode cX4_fact 11 = .ok (.ireturn, 1) := by decide +kernel
theorem dX4_fact_12 : decode cX4_fact 12 = .ok (.iload_n 1, 1) := by decide +kernel
theorem dX4_fact_13 : decode cX4_fact 13 = .ok (.bipush 100, 2) := by decide +kernel
theorem dX4_fact_15 : decode cX4_fact 15 = .ok (.idiv, 1) := by decide +kernel
theorem dX4_fact_16 : decode cX4_fact 16 = .ok (.istore_n 2, 1) := by decide +kernel
theorem dX4_fact_17 : decode cX4_fact 17 = .ok (.iload_n 1, 1) := by decide +kernel
theorem dX4_fact_18 : decode cX4_fact 18 = .ok (.bipush 100, 2) := by decide +kernel
theorem dX4_fact_20 : decode cX4_fact 20 = .ok (.irem, 1) := by decide +kernel
theorem dX4_fact_21 : decode cX4_fact 21 = .ok (.istore_n 3, 1) := by decide +kernel
theorem dX4_fact_22 : decode cX4_fact 22 = .ok (.iload_n 2, 1) := by decide +kernel
theorem dX4_fact_23 : decode cX4_fact 23 = .ok (.iconst 1, 1) := by decide +kernel
theorem dX4_fact_24 : decode cX4_fact 24 = .ok (.if_icmp .ne 42, 3) := by decide +kernel
theorem dX4_fact_27 : decode cX4_fact 27 = .ok (.iload_n 3, 1) := by decide +kernel
theorem dX4_fact_28 : decode cX4_fact 28 = .ok (.iconst 0, 1) := by decide +kernel
theorem dX4_fact_29 : decode cX4_fact 29 = .ok (.aload_n 0, 1) := by decide +kernel
theorem dX4_fact_30 : decode cX4_fact 30 = .ok (.getfield 19, 3) := by decide +kernel
theorem dX4_fact_33 : decode cX4_fact 33 = .ok (.getfield 40, 3) := by decide +kernel
theorem dX4_fact_36 : decode cX4_fact 36 = .ok (.iconst 1, 1) := by decide +kernel
theorem dX4_fact_37 : decode cX4_fact 37 = .ok (.isub, 1) := by decide +kernel
theorem dX4_fact_38 : decode cX4_fact 38 = .ok (.invokestatic 54, 3) := by decide +kernel
theorem dX4_fact_41 : decode cX4_fact 41 = .ok (.ifCond .eq 22, 3) := by decide +kernel
theorem dX4_fact_44 : decode cX4_fact 44 = .ok (.aload_n 0, 1) := by decide +kernel
theorem dX4_fact_45 : decode cX4_fact 45 = .ok (.getfield 19, 3) := by decide +kernel
theorem dX4_fact_48 : decode cX4_fact 48 = .ok (.iload_n 3, 1) := by decide +kernel
theorem dX4_fact_49 : decode cX4_fact 49 = .ok (.invokevirtual 47, 3) := by decide +kernel
theorem dX4_fact_52 : decode cX4_fact 52 = .ok (.ifCond .eq 7, 3) := by decide +kernel
theorem dX4_fact_55 : decode cX4_fact 55 = .ok (.iconst 1, 1) := by decide +kernel
theorem dX4_fact_56 : decode cX4_fact 56 = .ok (.goto 9, 3) := by decide +kernel
theorem dX4_fact_59 : decode cX4_fact 59 = .ok (.iconst 0, 1) := by decide +kernel
theorem dX4_fact_60 : decode cX4_fact 60 = .ok (.goto 5, 3) := by decide +kernel
theorem dX4_fact_63 : decode cX4_fact 63 = .ok (.bipush (-2), 2) := by decide +kernel
theorem dX4_fact_65 : decode cX4_fact 65 = .ok (.ireturn, 1) := by decide +kernel
theorem dX4_fact_66 : decode cX4_fact 66 = .ok (.iload_n 2, 1) := by decide +kernel
theorem dX4_fact_67 : decode cX4_fact 67 = .ok (.bipush 6, 2) := by decide +kernel
theorem dX4_fact_69 : decode cX4_fact 69 = .ok (.if_icmp .ne 25, 3) := by decide +kernel
theorem dX4_fact_72 : decode cX4_fact 72 = .ok (.iload_n 3, 1) := by decide +kernel
theorem dX4_fact_73 : decode cX4_fact 73 = .ok (.invokestatic 51, 3) := by decide +kernel
theorem dX4_fact_76 : decode cX4_fact 76 = .ok (.ifCond .eq 15, 3) := by decide +kernel
theorem dX4_fact_79 : decode cX4_fact 79 = .ok (.aload_n 0, 1) := by decide +kernel
theorem dX4_fact_80 : decode cX4_fact 80 = .ok (.getfield 19, 3) := by decide +kernel
theorem dX4_fact_83 : decode cX4_fact 83 = .ok (.getfield 161, 3) := by decide +kernel
theorem dX4_fact_86 : decode cX4_fact 86 = .ok (.iload_n 3, 1) := by decide +kernel
theorem dX4_fact_87 : decode cX4_fact 87 = .ok (.iaload, 1) := by decide +kernel
theorem dX4_fact_88 : decode cX4_fact 88 = .ok (.goto 5, 3) := by decide +kernel
theorem dX4_fact_91 : decode cX4_fact 91 = .ok (.bipush (-2), 2) := by decide +kernel
theorem dX4_fact_93 : decode cX4_fact 93 = .ok (.ireturn, 1) := by decide +kernel
theorem dX4_fact_94 : decode cX4_fact 94 = .ok (.aload_n 0, 1) := by decide +kernel
theorem dX4_fact_95 : decode cX4_fact 95 = .ok (.getfield 19, 3) := by decide +kernel
theorem dX4_fact_98 : decode cX4_fact 98 = .ok (.iload_n 3, 1) := by decide +kernel
theorem dX4_fact_99 : decode cX4_fact 99 = .ok (.invokevirtual 47, 3) := by decide +kernel
theorem dX4_fact_102 : decode cX4_fact 102 = .ok (.ifCond .eq 12, 3) := by decide +kernel
theorem dX4_fact_105 : decode cX4_fact 105 = .ok (.aload_n 0, 1) := by decide +kernel
theorem dX4_fact_106 : decode cX4_fact 106 = .ok (.iload_n 2, 1) := by decide +kernel
theorem dX4_fact_107 : decode cX4_fact 107 = .ok (.iload_n 3, 1) := by decide +kernel
theorem dX4_fact_108 : decode cX4_fact 108 = .ok (.invokevirtual 164, 3) := by decide +kernel
theorem dX4_fact_111 : decode cX4_fact 111 = .ok (.goto 5, 3) := by decide +kernel
theorem dX4_fact_114 : decode cX4_fact 114 = .ok (.bipush (-2), 2) := by decide +kernel
theorem dX4_fact_116 : decode cX4_fact 116 = .ok (.ireturn, 1) := by decide +kernel
theorem dX4_change_0 : decode cX4_change 0 = .ok (.iload_n 1, 1) := by decide +kernel
theorem dX4_change_1 : decode cX4_change 1 = .ok (.iconst 1, 1) := by decide +kernel
theorem dX4_change_2 : decode cX4_change 2 = .ok (.aload_n 0, 1) := by decide +kernel
theorem dX4_change_3 : decode cX4_change 3 = .ok (.getfield 10, 3) := by decide +kernel
theorem dX4_change_6 : decode cX4_change 6 = .ok (.getfield 72, 3) := by decide +kernel
theorem dX4_change_9 : decode cX4_change 9 = .ok (.invokestatic 54, 3) := by decide +kernel
theorem dX4_change_12 : decode cX4_change 12 = .ok (.ifCond .eq 17, 3) := by decide +kernel
theorem dX4_change_15 : decode cX4_change 15 = .ok (.aload_n 0, 1) := by decide +kernel
theorem dX4_change_16 : decode cX4_change 16 = .ok (.getfield 10, 3) := by decide +kernel
theorem dX4_change_19 : decode cX4_change 19 = .ok (.getfield 168, 3) := by decide +kernel
theorem dX4_change_22 : decode cX4_change 22 = .ok (.iload_n 1, 1) := by decide +kernel
theorem dX4_change_23 : decode cX4_change 23 = .ok (.iconst 1, 1) := by decide +kernel
theorem dX4_change_24 : decode cX4_change 24 = .ok (.isub, 1) := by decide +kernel
theorem dX4_change_25 : decode cX4_change 25 = .ok (.iaload, 1) := by decide +kernel
theorem dX4_change_26 : decode cX4_change 26 = .ok (.goto 5, 3) := by decide +kernel
theorem dX4_change_29 : decode cX4_change 29 = .ok (.bipush (-2), 2) := by decide +kernel
theorem dX4_change_31 : decode cX4_change 31 = .ok (.ireturn, 1) := by decide +kernel
theorem dX4_enter_0 : decode cX4_enter 0 = .ok (.aload_n 0, 1) := by decide +kernel
theorem dX4_enter_1 : decode cX4_enter 1 = .ok (.getfield 10, 3) := by decide +kernel
theorem dX4_enter_4 : decode cX4_enter 4 = .ok (.getfield 72, 3) := by decide +kernel
theorem dX4_enter_7 : decode cX4_enter 7 = .ok (.bipush 120, 2) := by decide +kernel
theorem dX4_enter_9 : decode cX4_enter 9 = .ok (.if_icmp .lt 6, 3) := by decide +kernel
theorem dX4_enter_12 : decode cX4_enter 12 = .ok (.bipush (-4), 2) := by decide +kernel
theorem dX4_enter_14 : decode cX4_enter 14 = .ok (.ireturn, 1) := by decide +kernel
theorem dX4_enter_15 : decode cX4_enter 15 = .ok (.aload_n 0, 1) := by decide +kernel
theorem dX4_enter_16 : decode cX4_enter 16 = .ok (.getfield 10, 3) := by decide +kernel
theorem dX4_enter_19 : decode cX4_enter 19 = .ok (.iload_n 1, 1) := by decide +kernel
theorem dX4_enter_20 : decode cX4_enter 20 = .ok (.iload_n 2, 1) := by decide +kernel
theorem dX4_enter_21 : decode cX4_enter 21 = .ok (.iload_n 3, 1) := by decide +kernel
theorem dX4_enter_22 : decode cX4_enter 22 = .ok (.iload 4, 2) := by decide +kernel
theorem dX4_enter_24 : decode cX4_enter 24 = .ok (.iload 5, 2) := by decide +kernel
theorem dX4_enter_26 : decode cX4_enter 26 = .ok (.invokevirtual 171, 3) := by decide +kernel
theorem dX4_enter_29 : decode cX4_enter 29 = .ok (.aload_n 0, 1) := by decide +kernel
theorem dX4_enter_30 : decode cX4_enter 30 = .ok (.getfield 19, 3) := by decide +kernel
theorem dX4_enter_33 : decode cX4_enter 33 = .ok (.aload_n 0, 1) := by decide +kernel
theorem dX4_enter_34 : decode cX4_enter 34 = .ok (.getfield 10, 3) := by decide +kernel
theorem dX4_enter_37 : decode cX4_enter 37 = .ok (.aload_n 0, 1) := by decide +kernel
theorem dX4_enter_38 : decode cX4_enter 38 = .ok (.getfield 10, 3) := by decide +kernel
theorem dX4_enter_41 : decode cX4_enter 41 = .ok (.getfield 72, 3) := by decide +kernel
theorem dX4_enter_44 : decode cX4_enter 44 = .ok (.invokevirtual 129, 3) := by decide +kernel
theorem dX4_enter_47 : decode cX4_enter 47 = .ok (.aload_n 0, 1) := by decide +kernel
theorem dX4_enter_48 : decode cX4_enter 48 = .ok (.getfield 10, 3) := by decide +kernel
theorem dX4_enter_51 : decode cX4_enter 51 = .ok (.getfield 72, 3) := by decide +kernel
theorem dX4_enter_54 : decode cX4_enter 54 = .ok (.ireturn, 1) := by decide +kernel
theorem dX4_solveOf_0 : decode cX4_solveOf 0 = .ok (.iload_n 1, 1) := by decide +kernel
theorem dX4_solveOf_1 : decode cX4_solveOf 1 = .ok (.iconst 0, 1) := by decide +kernel
theorem dX4_solveOf_2 : decode cX4_solveOf 2 = .ok (.aload_n 0, 1) := by decide +kernel
theorem dX4_solveOf_3 : decode cX4_solveOf 3 = .ok (.getfield 32, 3) := by decide +kernel
theorem dX4_solveOf_6 : decode cX4_solveOf 6 = .ok (.iconst 1, 1) := by decide +kernel
theorem dX4_solveOf_7 : decode cX4_solveOf 7 = .ok (.isub, 1) := by decide +kernel
theorem dX4_solveOf_8 : decode cX4_solveOf 8 = .ok (.invokestatic 54, 3) := by decide +kernel
theorem dX4_solveOf_11 : decode cX4_solveOf 11 = .ok (.ifCond .eq 12, 3) := by decide +kernel
theorem dX4_solveOf_14 : decode cX4_solveOf 14 = .ok (.aload_n 0, 1) := by decide +kernel
theorem dX4_solveOf_15 : decode cX4_solveOf 15 = .ok (.getfield 28, 3) := by decide +kernel
theorem dX4_solveOf_18 : decode cX4_solveOf 18 = .ok (.iload_n 1, 1) := by decide +kernel
theorem dX4_solveOf_19 : decode cX4_solveOf 19 = .ok (.aaload, 1) := by decide +kernel
theorem dX4_solveOf_20 : decode cX4_solveOf 20 = .ok (.goto 4, 3) := by decide +kernel
theorem dX4_solveOf_23 : decode cX4_solveOf 23 = .ok (.aconst_null, 1) := by decide +kernel
theorem dX4_solveOf_24 : decode cX4_solveOf 24 = .ok (.areturn, 1) := by decide +kernel
theorem dX4_countOf_0 : decode cX4_countOf 0 = .ok (.iload_n 1, 1) := by decide +kernel
theorem dX4_countOf_1 : decode cX4_countOf 1 = .ok (.tableswitch 60 0 3 #[31, 39, 47, 55], 31) := by decide +kernel
theorem dX4_countOf_32 : decode cX4_countOf 32 = .ok (.aload_n 0, 1) := by decide +kernel
theorem dX4_countOf_33 : decode cX4_countOf 33 = .ok (.getfield 19, 3) := by decide +kernel
theorem dX4_countOf_36 : decode cX4_countOf 36 = .ok (.invokevirtual 175, 3) := by decide +kernel
theorem dX4_countOf_39 : decode cX4_countOf 39 = .ok (.ireturn, 1) := by decide +kernel
theorem dX4_countOf_40 : decode cX4_countOf 40 = .ok (.aload_n 0, 1) := by decide +kernel
theorem dX4_countOf_41 : decode cX4_countOf 41 = .ok (.getfield 19, 3) := by decide +kernel
theorem dX4_countOf_44 : decode cX4_countOf 44 = .ok (.getfield 40, 3) := by decide +kernel
theorem dX4_countOf_47 : decode cX4_countOf 47 = .ok (.ireturn, 1) := by decide +kernel
theorem dX4_countOf_48 : decode cX4_countOf 48 = .ok (.aload_n 0, 1) := by decide +kernel
theorem dX4_countOf_49 : decode cX4_countOf 49 = .ok (.getfield 10, 3) := by decide +kernel
theorem dX4_countOf_52 : decode cX4_countOf 52 = .ok (.getfield 72, 3) := by decide +kernel
theorem dX4_countOf_55 : decode cX4_countOf 55 = .ok (.ireturn, 1) := by decide +kernel
theorem dX4_countOf_56 : decode cX4_countOf 56 = .ok (.aload_n 0, 1) := by decide +kernel
theorem dX4_countOf_57 : decode cX4_countOf 57 = .ok (.getfield 32, 3) := by decide +kernel
theorem dX4_countOf_60 : decode cX4_countOf 60 = .ok (.ireturn, 1) := by decide +kernel
theorem dX4_countOf_61 : decode cX4_countOf 61 = .ok (.bipush (-2), 2) := by decide +kernel
theorem dX4_countOf_63 : decode cX4_countOf 63 = .ok (.ireturn, 1) := by decide +kernel
theorem dX4_traitOf_0 : decode cX4_traitOf 0 = .ok (.iload_n 1, 1) := by decide +kernel
theorem dX4_traitOf_1 : decode cX4_traitOf 1 = .ok (.tableswitch 92 2 5 #[31, 41, 51, 61], 31) := by decide +kernel
theorem dX4_traitOf_32 : decode cX4_traitOf 32 = .ok (.aload_n 0, 1) := by decide +kernel
theorem dX4_traitOf_33 : decode cX4_traitOf 33 = .ok (.getfield 19, 3) := by decide +kernel
theorem dX4_traitOf_36 : decode cX4_traitOf 36 = .ok (.getfield 178, 3) := by decide +kernel
theorem dX4_traitOf_39 : decode cX4_traitOf 39 = .ok (.iload_n 2, 1) := by decide +kernel
theorem dX4_traitOf_40 : decode cX4_traitOf 40 = .ok (.iaload, 1) := by decide +kernel
theorem dX4_traitOf_41 : decode cX4_traitOf 41 = .ok (.ireturn, 1) := by decide +kernel
theorem dX4_traitOf_42 : decode cX4_traitOf 42 = .ok (.aload_n 0, 1) := by decide +kernel
theorem dX4_traitOf_43 : decode cX4_traitOf 43 = .ok (.getfield 19, 3) := by decide +kernel
theorem dX4_traitOf_46 : decode cX4_traitOf 46 = .ok (.getfield 181, 3) := by decide +kernel
theorem dX4_traitOf_49 : decode cX4_traitOf 49 = .ok (.iload_n 2, 1) := by decide +kernel
theorem dX4_traitOf_50 : decode cX4_traitOf 50 = .ok (.iaload, 1) := by decide +kernel
theorem dX4_traitOf_51 : decode cX4_traitOf 51 = .ok (.ireturn, 1) := by decide +kernel
theorem dX4_traitOf_52 : decode cX4_traitOf 52 = .ok (.aload_n 0, 1) := by decide +kernel
theorem dX4_traitOf_53 : decode cX4_traitOf 53 = .ok (.getfield 19, 3) := by decide +kernel
theorem dX4_traitOf_56 : decode cX4_traitOf 56 = .ok (.getfield 184, 3) := by decide +kernel
theorem dX4_traitOf_59 : decode cX4_traitOf 59 = .ok (.iload_n 2, 1) := by decide +kernel
theorem dX4_traitOf_60 : decode cX4_traitOf 60 = .ok (.iaload, 1) := by decide +kernel
theorem dX4_traitOf_61 : decode cX4_traitOf 61 = .ok (.ireturn, 1) := by decide +kernel
theorem dX4_traitOf_62 : decode cX4_traitOf 62 = .ok (.aload_n 0, 1) := by decide +kernel
theorem dX4_traitOf_63 : decode cX4_traitOf 63 = .ok (.getfield 19, 3) := by decide +kernel
theorem dX4_traitOf_66 : decode cX4_traitOf 66 = .ok (.getfield 61, 3) := by decide +kernel
theorem dX4_traitOf_69 : decode cX4_traitOf 69 = .ok (.iload_n 2, 1) := by decide +kernel
theorem dX4_traitOf_70 : decode cX4_traitOf 70 = .ok (.iaload, 1) := by decide +kernel
theorem dX4_traitOf_71 : decode cX4_traitOf 71 = .ok (.bipush (-2), 2) := by decide +kernel
theorem dX4_traitOf_73 : decode cX4_traitOf 73 = .ok (.if_icmp .ne 8, 3) := by decide +kernel
theorem dX4_traitOf_76 : decode cX4_traitOf 76 = .ok (.bipush (-3), 2) := by decide +kernel
theorem dX4_traitOf_78 : decode cX4_traitOf 78 = .ok (.goto 14, 3) := by decide +kernel
theorem dX4_traitOf_81 : decode cX4_traitOf 81 = .ok (.aload_n 0, 1) := by decide +kernel
theorem dX4_traitOf_82 : decode cX4_traitOf 82 = .ok (.getfield 19, 3) := by decide +kernel
theorem dX4_traitOf_85 : decode cX4_traitOf 85 = .ok (.getfield 61, 3) := by decide +kernel
theorem dX4_traitOf_88 : decode cX4_traitOf 88 = .ok (.iload_n 2, 1) := by decide +kernel
theorem dX4_traitOf_89 : decode cX4_traitOf 89 = .ok (.iaload, 1) := by decide +kernel
theorem dX4_traitOf_90 : decode cX4_traitOf 90 = .ok (.iconst 1, 1) := by decide +kernel
theorem dX4_traitOf_91 : decode cX4_traitOf 91 = .ok (.iadd, 1) := by decide +kernel
theorem dX4_traitOf_92 : decode cX4_traitOf 92 = .ok (.ireturn, 1) := by decide +kernel
theorem dX4_traitOf_93 : decode cX4_traitOf 93 = .ok (.bipush (-2), 2) := by decide +kernel
theorem dX4_traitOf_95 : decode cX4_traitOf 95 = .ok (.ireturn, 1) := by decide +kernel
theorem dX4_isWithin_0 : decode cX4_isWithin 0 = .ok (.iload_n 0, 1) := by decide +kernel
theorem dX4_isWithin_1 : decode cX4_isWithin 1 = .ok (.iload_n 1, 1) := by decide +kernel
theorem dX4_isWithin_2 : decode cX4_isWithin 2 = .ok (.if_icmp .lt 12, 3) := by decide +kernel
theorem dX4_isWithin_5 : decode cX4_isWithin 5 = .ok (.iload_n 0, 1) := by decide +kernel
theorem dX4_isWithin_6 : decode cX4_isWithin 6 = .ok (.iload_n 2, 1) := by decide +kernel
theorem dX4_isWithin_7 : decode cX4_isWithin 7 = .ok (.if_icmp .gt 7, 3) := by decide +kernel
theorem dX4_isWithin_10 : decode cX4_isWithin 10 = .ok (.iconst 1, 1) := by decide +kernel
theorem dX4_isWithin_11 : decode cX4_isWithin 11 = .ok (.goto 4, 3) := by decide +kernel
theorem dX4_isWithin_14 : decode cX4_isWithin 14 = .ok (.iconst 0, 1) := by decide +kernel
theorem dX4_isWithin_15 : decode cX4_isWithin 15 = .ok (.ireturn, 1) := by decide +kernel
theorem dX4_isRoom_0 : decode cX4_isRoom 0 = .ok (.iload_n 0, 1) := by decide +kernel
theorem dX4_isRoom_1 : decode cX4_isRoom 1 = .ok (.iconst 0, 1) := by decide +kernel
theorem dX4_isRoom_2 : decode cX4_isRoom 2 = .ok (.iconst 5, 1) := by decide +kernel
theorem dX4_isRoom_3 : decode cX4_isRoom 3 = .ok (.invokestatic 54, 3) := by decide +kernel
theorem dX4_isRoom_6 : decode cX4_isRoom 6 = .ok (.ireturn, 1) := by decide +kernel
theorem dX4_isMark_0 : decode cX4_isMark 0 = .ok (.iload_n 0, 1) := by decide +kernel
theorem dX4_isMark_1 : decode cX4_isMark 1 = .ok (.iconst 0, 1) := by decide +kernel
theorem dX4_isMark_2 : decode cX4_isMark 2 = .ok (.iconst 1, 1) := by decide +kernel
theorem dX4_isMark_3 : decode cX4_isMark 3 = .ok (.invokestatic 54, 3) := by decide +kernel
theorem dX4_isMark_6 : decode cX4_isMark 6 = .ok (.ireturn, 1) := by decide +kernel
theorem dX4_areTraits_0 : decode cX4_areTraits 0 = .ok (.iload_n 0, 1) := by decide +kernel
theorem dX4_areTraits_1 : decode cX4_areTraits 1 = .ok (.iconst 1, 1) := by decide +kernel
theorem dX4_areTraits_2 : decode cX4_areTraits 2 = .ok (.bipush 100, 2) := by decide +kernel
theorem dX4_areTraits_4 : decode cX4_areTraits 4 = .ok (.invokestatic 54, 3) := by decide +kernel
theorem dX4_areTraits_7 : decode cX4_areTraits 7 = .ok (.ifCond .eq 24, 3) := by decide +kernel
theorem dX4_areTraits_10 : decode cX4_areTraits 10 = .ok (.iload_n 1, 1) := by decide +kernel
theorem dX4_areTraits_11 : decode cX4_areTraits 11 = .ok (.iconst 0, 1) := by decide +kernel
theorem dX4_areTraits_12 : decode cX4_areTraits 12 = .ok (.bipush 50, 2) := by decide +kernel
theorem dX4_areTraits_14 : decode cX4_areTraits 14 = .ok (.invokestatic 54, 3) := by decide +kernel
theorem dX4_areTraits_17 : decode cX4_areTraits 17 = .ok (.ifCond .eq 14, 3) := by decide +kernel
theorem dX4_areTraits_20 : decode cX4_areTraits 20 = .ok (.iload_n 2, 1) := by decide +kernel
theorem dX4_areTraits_21 : decode cX4_areTraits 21 = .ok (.invokestatic 51, 3) := by decide +kernel
theorem dX4_areTraits_24 : decode cX4_areTraits 24 = .ok (.ifCond .eq 7, 3) := by decide +kernel
theorem dX4_areTraits_27 : decode cX4_areTraits 27 = .ok (.iconst 1, 1) := by decide +kernel
theorem dX4_areTraits_28 : decode cX4_areTraits 28 = .ok (.goto 4, 3) := by decide +kernel
theorem dX4_areTraits_31 : decode cX4_areTraits 31 = .ok (.iconst 0, 1) := by decide +kernel
theorem dX4_areTraits_32 : decode cX4_areTraits 32 = .ok (.ireturn, 1) := by decide +kernel
theorem dX4_scoreFrom_0 : decode cX4_scoreFrom 0 = .ok (.iload_n 0, 1) := by decide +kernel
theorem dX4_scoreFrom_1 : decode cX4_scoreFrom 1 = .ok (.i2l, 1) := by decide +kernel
theorem dX4_scoreFrom_2 : decode cX4_scoreFrom 2 = .ok (.bipush 32, 2) := by decide +kernel
theorem dX4_scoreFrom_4 : decode cX4_scoreFrom 4 = .ok (.lshl, 1) := by decide +kernel
theorem dX4_scoreFrom_5 : decode cX4_scoreFrom 5 = .ok (.iload_n 1, 1) := by decide +kernel
theorem dX4_scoreFrom_6 : decode cX4_scoreFrom 6 = .ok (.i2l, 1) := by decide +kernel
theorem dX4_scoreFrom_7 : decode cX4_scoreFrom 7 = .ok (.ladd, 1) := by decide +kernel
theorem dX4_scoreFrom_8 : decode cX4_scoreFrom 8 = .ok (.lreturn, 1) := by decide +kernel
theorem dX4_partOf_0 : decode cX4_partOf 0 = .ok (.iload_n 2, 1) := by decide +kernel
theorem dX4_partOf_1 : decode cX4_partOf 1 = .ok (.ifCond .eq 11, 3) := by decide +kernel
theorem dX4_partOf_4 : decode cX4_partOf 4 = .ok (.lload_n 0, 1) := by decide +kernel
theorem dX4_partOf_5 : decode cX4_partOf 5 = .ok (.bipush 32, 2) := by decide +kernel
theorem dX4_partOf_7 : decode cX4_partOf 7 = .ok (.lshr, 1) := by decide +kernel
theorem dX4_partOf_8 : decode cX4_partOf 8 = .ok (.l2i, 1) := by decide +kernel
theorem dX4_partOf_9 : decode cX4_partOf 9 = .ok (.goto 5, 3) := by decide +kernel
theorem dX4_partOf_12 : decode cX4_partOf 12 = .ok (.lload_n 0, 1) := by decide +kernel
theorem dX4_partOf_13 : decode cX4_partOf 13 = .ok (.l2i, 1) := by decide +kernel
theorem dX4_partOf_14 : decode cX4_partOf 14 = .ok (.ireturn, 1) := by decide +kernel
theorem dX4_emptyPlan_0 : decode cX4_emptyPlan 0 = .ok (.bipush 16, 2) := by decide +kernel
theorem dX4_emptyPlan_2 : decode cX4_emptyPlan 2 = .ok (.newarray .int, 2) := by decide +kernel
theorem dX4_emptyPlan_4 : decode cX4_emptyPlan 4 = .ok (.astore_n 0, 1) := by decide +kernel
theorem dX4_emptyPlan_5 : decode cX4_emptyPlan 5 = .ok (.aload_n 0, 1) := by decide +kernel
theorem dX4_emptyPlan_6 : decode cX4_emptyPlan 6 = .ok (.iconst (-1), 1) := by decide +kernel
theorem dX4_emptyPlan_7 : decode cX4_emptyPlan 7 = .ok (.invokestatic 187, 3) := by decide +kernel
theorem dX4_emptyPlan_10 : decode cX4_emptyPlan 10 = .ok (.aload_n 0, 1) := by decide +kernel
theorem dX4_emptyPlan_11 : decode cX4_emptyPlan 11 = .ok (.areturn, 1) := by decide +kernel
theorem dX5_init_0 : decode cX5_init 0 = .ok (.aload_n 0, 1) := by decide +kernel
theorem dX5_init_1 : decode cX5_init 1 = .ok (.invokespecial 1, 3) := by decide +kernel
theorem dX5_init_4 : decode cX5_init 4 = .ok (.aload_n 0, 1) := by decide +kernel
theorem dX5_init_5 : decode cX5_init 5 = .ok (.bipush 120, 2) := by decide +kernel
theorem dX5_init_7 : decode cX5_init 7 = .ok (.newarray .int, 2) := by decide +kernel
theorem dX5_init_9 : decode cX5_init 9 = .ok (.putfield 7, 3) := by decide +kernel
theorem dX5_init_12 : decode cX5_init 12 = .ok (.aload_n 0, 1) := by decide +kernel
theorem dX5_init_13 : decode cX5_init 13 = .ok (.bipush 120, 2) := by decide +kernel
theorem dX5_init_15 : decode cX5_init 15 = .ok (.newarray .int, 2) := by decide +kernel
theorem dX5_init_17 : decode cX5_init 17 = .ok (.putfield 13, 3) := by decide +kernel
theorem dX5_init_20 : decode cX5_init 20 = .ok (.aload_n 0, 1) := by decide +kernel
theorem dX5_init_21 : decode cX5_init 21 = .ok (.bipush 120, 2) := by decide +kernel
theorem dX5_init_23 : decode cX5_init 23 = .ok (.newarray .int, 2) := by decide +kernel
theorem dX5_init_25 : decode cX5_init 25 = .ok (.putfield 16, 3) := by decide +kernel
theorem dX5_init_28 : decode cX5_init 28 = .ok (.aload_n 0, 1) := by decide +kernel
theorem dX5_init_29 : decode cX5_init 29 = .ok (.bipush 120, 2) := by decide +kernel
theorem dX5_init_31 : decode cX5_init 31 = .ok (.newarray .int, 2) := by decide +kernel
theorem dX5_init_33 : decode cX5_init 33 = .ok (.putfield 19, 3) := by decide +kernel
theorem dX5_init_36 : decode cX5_init 36 = .ok (.aload_n 0, 1) := by decide +kernel
theorem dX5_init_37 : decode cX5_init 37 = .ok (.bipush 120, 2) := by decide +kernel
theorem dX5_init_39 : decode cX5_init 39 = .ok (.newarray .int, 2) := by decide +kernel
theorem dX5_init_41 : decode cX5_init 41 = .ok (.putfield 22, 3) := by decide +kernel
theorem dX5_init_44 : decode cX5_init 44 = .ok (.aload_n 0, 1) := by decide +kernel
theorem dX5_init_45 : decode cX5_init 45 = .ok (.bipush 80, 2) := by decide +kernel
theorem dX5_init_47 : decode cX5_init 47 = .ok (.newarray .boolean, 2) := by decide +kernel
theorem dX5_init_49 : decode cX5_init 49 = .ok (.putfield 25, 3) := by decide +kernel
theorem dX5_init_52 : decode cX5_init 52 = .ok (.aload_n 0, 1) := by decide +kernel
theorem dX5_init_53 : decode cX5_init 53 = .ok (.bipush 80, 2) := by decide +kernel
theorem dX5_init_55 : decode cX5_init 55 = .ok (.newarray .int, 2) := by decide +kernel
theorem dX5_init_57 : decode cX5_init 57 = .ok (.putfield 29, 3) := by decide +kernel
theorem dX5_init_60 : decode cX5_init 60 = .ok (.aload_n 0, 1) := by decide +kernel
theorem dX5_init_61 : decode cX5_init 61 = .ok (.bipush 80, 2) := by decide +kernel
theorem dX5_init_63 : decode cX5_init 63 = .ok (.newarray .int, 2) := by decide +kernel
theorem dX5_init_65 : decode cX5_init 65 = .ok (.putfield 32, 3) := by decide +kernel
theorem dX5_init_68 : decode cX5_init 68 = .ok (.aload_n 0, 1) := by decide +kernel
theorem dX5_init_69 : decode cX5_init 69 = .ok (.bipush 80, 2) := by decide +kernel
theorem dX5_init_71 : decode cX5_init 71 = .ok (.newarray .int, 2) := by decide +kernel
theorem dX5_init_73 : decode cX5_init 73 = .ok (.putfield 35, 3) := by decide +kernel
theorem dX5_init_76 : decode cX5_init 76 = .ok (.aload_n 0, 1) := by decide +kernel
theorem dX5_init_77 : decode cX5_init 77 = .ok (.bipush 80, 2) := by decide +kernel
theorem dX5_init_79 : decode cX5_init 79 = .ok (.newarray .int, 2) := by decide +kernel
theorem dX5_init_81 : decode cX5_init 81 = .ok (.putfield 38, 3) := by decide +kernel
theorem dX5_init_84 : decode cX5_init 84 = .ok (.aload_n 0, 1) := by decide +kernel
theorem dX5_init_85 : decode cX5_init 85 = .ok (.bipush 80, 2) := by decide +kernel
theorem dX5_init_87 : decode cX5_init 87 = .ok (.newarray .int, 2) := by decide +kernel
theorem dX5_init_89 : decode cX5_init 89 = .ok (.putfield 41, 3) := by decide +kernel
theorem dX5_init_92 : decode cX5_init 92 = .ok (.aload_n 0, 1) := by decide +kernel
theorem dX5_init_93 : decode cX5_init 93 = .ok (.bipush 30, 2) := by decide +kernel
theorem dX5_init_95 : decode cX5_init 95 = .ok (.newarray .int, 2) := by decide +kernel
theorem dX5_init_97 : decode cX5_init 97 = .ok (.putfield 44, 3) := by decide +kernel
theorem dX5_init_100 : decode cX5_init 100 = .ok (.aload_n 0, 1) := by decide +kernel
theorem dX5_init_101 : decode cX5_init 101 = .ok (.sipush 320, 3) := by decide +kernel
theorem dX5_init_104 : decode cX5_init 104 = .ok (.newarray .int, 2) := by decide +kernel
theorem dX5_init_106 : decode cX5_init 106 = .ok (.putfield 47, 3) := by decide +kernel
theorem dX5_init_109 : decode cX5_init 109 = .ok (.aload_n 0, 1) := by decide +kernel
theorem dX5_init_110 : decode cX5_init 110 = .ok (.iconst 3, 1) := by decide +kernel
theorem dX5_init_111 : decode cX5_init 111 = .ok (.newarray .int, 2) := by decide +kernel
theorem dX5_init_113 : decode cX5_init 113 = .ok (.putfield 50, 3) := by decide +kernel
theorem dX5_init_116 : decode cX5_init 116 = .ok (.aload_n 0, 1) := by decide +kernel
theorem dX5_init_117 : decode cX5_init 117 = .ok (.iconst 3, 1) := by decide +kernel
theorem dX5_init_118 : decode cX5_init 118 = .ok (.newarray .int, 2) := by decide +kernel
theorem dX5_init_120 : decode cX5_init 120 = .ok (.putfield 53, 3) := by decide +kernel
theorem dX5_init_123 : decode cX5_init 123 = .ok (.aload_n 0, 1) := by decide +kernel
theorem dX5_init_124 : decode cX5_init 124 = .ok (.iconst 3, 1) := by decide +kernel
theorem dX5_init_125 : decode cX5_init 125 = .ok (.newarray .int, 2) := by decide +kernel
theorem dX5_init_127 : decode cX5_init 127 = .ok (.putfield 56, 3) := by decide +kernel
theorem dX5_init_130 : decode cX5_init 130 = .ok (.aload_n 0, 1) := by decide +kernel
theorem dX5_init_131 : decode cX5_init 131 = .ok (.iconst 3, 1) := by decide +kernel
theorem dX5_init_132 : decode cX5_init 132 = .ok (.newarray .int, 2) := by decide +kernel
theorem dX5_init_134 : decode cX5_init 134 = .ok (.putfield 59, 3) := by decide +kernel
theorem dX5_init_137 : decode cX5_init 137 = .ok (.aload_n 0, 1) := by decide +kernel
theorem dX5_init_138 : decode cX5_init 138 = .ok (.bipush 24, 2) := by decide +kernel
theorem dX5_init_140 : decode cX5_init 140 = .ok (.newarray .int, 2) := by decide +kernel
theorem dX5_init_142 : decode cX5_init 142 = .ok (.putfield 62, 3) := by decide +kernel
theorem dX5_init_145 : decode cX5_init 145 = .ok (.aload_n 0, 1) := by decide +kernel
theorem dX5_init_146 : decode cX5_init 146 = .ok (.bipush 24, 2) := by decide +kernel
theorem dX5_init_148 : decode cX5_init 148 = .ok (.newarray .int, 2) := by decide +kernel
theorem dX5_init_150 : decode cX5_init 150 = .ok (.putfield 65, 3) := by decide +kernel
theorem dX5_init_153 : decode cX5_init 153 = .ok (.aload_n 0, 1) := by decide +kernel
theorem dX5_init_154 : decode cX5_init 154 = .ok (.iconst 3, 1) := by decide +kernel
theorem dX5_init_155 : decode cX5_init 155 = .ok (.newarray .int, 2) := by decide +kernel
theorem dX5_init_157 : decode cX5_init 157 = .ok (.putfield 68, 3) := by decide +kernel
theorem dX5_init_160 : decode cX5_init 160 = .ok (.aload_n 0, 1) := by decide +kernel
theorem dX5_init_161 : decode cX5_init 161 = .ok (.iconst 3, 1) := by decide +kernel
theorem dX5_init_162 : decode cX5_init 162 = .ok (.newarray .int, 2) := by decide +kernel
theorem dX5_init_164 : decode cX5_init 164 = .ok (.putfield 71, 3) := by decide +kernel
theorem dX5_init_167 : decode cX5_init 167 = .ok (.aload_n 0, 1) := by decide +kernel
theorem dX5_init_168 : decode cX5_init 168 = .ok (.bipush 6, 2) := by decide +kernel
theorem dX5_init_170 : decode cX5_init 170 = .ok (.newarray .boolean, 2) := by decide +kernel
theorem dX5_init_172 : decode cX5_init 172 = .ok (.putfield 74, 3) := by decide +kernel
theorem dX5_init_175 : decode cX5_init 175 = .ok (.aload_n 0, 1) := by decide +kernel
theorem dX5_init_176 : decode cX5_init 176 = .ok (.bipush 6, 2) := by decide +kernel
theorem dX5_init_178 : decode cX5_init 178 = .ok (.newarray .int, 2) := by decide +kernel
theorem dX5_init_180 : decode cX5_init 180 = .ok (.putfield 77, 3) := by decide +kernel
theorem dX5_init_183 : decode cX5_init 183 = .ok (.aload_n 0, 1) := by decide +kernel
theorem dX5_init_184 : decode cX5_init 184 = .ok (.bipush 48, 2) := by decide +kernel
theorem dX5_init_186 : decode cX5_init 186 = .ok (.newarray .int, 2) := by decide +kernel
theorem dX5_init_188 : decode cX5_init 188 = .ok (.putfield 80, 3) := by decide +kernel
theorem dX5_init_191 : decode cX5_init 191 = .ok (.aload_n 0, 1) := by decide +kernel
theorem dX5_init_192 : decode cX5_init 192 = .ok (.bipush 48, 2) := by decide +kernel
theorem dX5_init_194 : decode cX5_init 194 = .ok (.newarray .int, 2) := by decide +kernel
theorem dX5_init_196 : decode cX5_init 196 = .ok (.putfield 83, 3) := by decide +kernel
theorem dX5_init_199 : decode cX5_init 199 = .ok (.aload_n 0, 1) := by decide +kernel
theorem dX5_init_200 : decode cX5_init 200 = .ok (.iconst 4, 1) := by decide +kernel
theorem dX5_init_201 : decode cX5_init 201 = .ok (.invokevirtual 86, 3) := by decide +kernel
theorem dX5_init_204 : decode cX5_init 204 = .ok (.return_, 1) := by decide +kernel
theorem dX5_in_0 : decode cX5_in 0 = .ok (.iload_n 0, 1) := by decide +kernel
theorem dX5_in_1 : decode cX5_in 1 = .ok (.iload_n 1, 1) := by decide +kernel
theorem dX5_in_2 : decode cX5_in 2 = .ok (.if_icmp .lt 12, 3) := by decide +kernel
theorem dX5_in_5 : decode cX5_in 5 = .ok (.iload_n 0, 1) := by decide +kernel
theorem dX5_in_6 : decode cX5_in 6 = .ok (.iload_n 2, 1) := by decide +kernel
theorem dX5_in_7 : decode cX5_in 7 = .ok (.if_icmp .gt 7, 3) := by decide +kernel
theorem dX5_in_10 : decode cX5_in 10 = .ok (.iconst 1, 1) := by decide +kernel
theorem dX5_in_11 : decode cX5_in 11 = .ok (.goto 4, 3) := by decide +kernel
theorem dX5_in_14 : decode cX5_in 14 = .ok (.iconst 0, 1) := by decide +kernel
theorem dX5_in_15 : decode cX5_in 15 = .ok (.ireturn, 1) := by decide +kernel
theorem dX5_forget_0 : decode cX5_forget 0 = .ok (.iconst 0, 1) := by decide +kernel
theorem dX5_forget_1 : decode cX5_forget 1 = .ok (.istore_n 2, 1) := by decide +kernel
theorem dX5_forget_2 : decode cX5_forget 2 = .ok (.iload_n 2, 1) := by decide +kernel
theorem dX5_forget_3 : decode cX5_forget 3 = .ok (.bipush 16, 2) := by decide +kernel
theorem dX5_forget_5 : decode cX5_forget 5 = .ok (.if_icmp .ge 46, 3) := by decide +kernel
theorem dX5_forget_8 : decode cX5_forget 8 = .ok (.aload_n 0, 1) := by decide +kernel
theorem dX5_forget_9 : decode cX5_forget 9 = .ok (.getfield 25, 3) := by decide +kernel
theorem dX5_forget_12 : decode cX5_forget 12 = .ok (.bipush 16, 2) := by decide +kernel
theorem dX5_forget_14 : decode cX5_forget 14 = .ok (.iload_n 1, 1) := by decide +kernel
theorem dX5_forget_15 : decode cX5_forget 15 = .ok (.imul, 1) := by decide +kernel
theorem dX5_forget_16 : decode cX5_forget 16 = .ok (.iload_n 2, 1) := by decide +kernel
theorem dX5_forget_17 : decode cX5_forget 17 = .ok (.iadd, 1) := by decide +kernel
theorem dX5_forget_18 : decode cX5_forget 18 = .ok (.iconst 0, 1) := by decide +kernel
theorem dX5_forget_19 : decode cX5_forget 19 = .ok (.bastore, 1) := by decide +kernel
theorem dX5_forget_20 : decode cX5_forget 20 = .ok (.aload_n 0, 1) := by decide +kernel
theorem dX5_forget_21 : decode cX5_forget 21 = .ok (.getfield 38, 3) := by decide +kernel
theorem dX5_forget_24 : decode cX5_forget 24 = .ok (.bipush 16, 2) := by decide +kernel
theorem dX5_forget_26 : decode cX5_forget 26 = .ok (.iload_n 1, 1) := by decide +kernel
theorem dX5_forget_27 : decode cX5_forget 27 = .ok (.imul, 1) := by decide +kernel
theorem dX5_forget_28 : decode cX5_forget 28 = .ok (.iload_n 2, 1) := by decide +kernel
theorem dX5_forget_29 : decode cX5_forget 29 = .ok (.iadd, 1) := by decide +kernel
theorem dX5_forget_30 : decode cX5_forget 30 = .ok (.bipush (-2), 2) := by decide +kernel
theorem dX5_forget_32 : decode cX5_forget 32 = .ok (.iastore, 1) := by decide +kernel
theorem dX5_forget_33 : decode cX5_forget 33 = .ok (.aload_n 0, 1) := by decide +kernel
theorem dX5_forget_34 : decode cX5_forget 34 = .ok (.getfield 41, 3) := by decide +kernel
theorem dX5_forget_37 : decode cX5_forget 37 = .ok (.bipush 16, 2) := by decide +kernel
theorem dX5_forget_39 : decode cX5_forget 39 = .ok (.iload_n 1, 1) := by decide +kernel
theorem dX5_forget_40 : decode cX5_forget 40 = .ok (.imul, 1) := by decide +kernel
theorem dX5_forget_41 : decode cX5_forget 41 = .ok (.iload_n 2, 1) := by decide +kernel
theorem dX5_forget_42 : decode cX5_forget 42 = .ok (.iadd, 1) := by decide +kernel
theorem dX5_forget_43 : decode cX5_forget 43 = .ok (.iconst 0, 1) := by decide +kernel
theorem dX5_forget_44 : decode cX5_forget 44 = .ok (.iastore, 1) := by decide +kernel
theorem dX5_forget_45 : decode cX5_forget 45 = .ok (.iinc 2 1, 3) := by decide +kernel
theorem dX5_forget_48 : decode cX5_forget 48 = .ok (.goto (-46), 3) := by decide +kernel
theorem dX5_forget_51 : decode cX5_forget 51 = .ok (.iconst 0, 1) := by decide +kernel
theorem dX5_forget_52 : decode cX5_forget 52 = .ok (.istore_n 2, 1) := by decide +kernel
theorem dX5_forget_53 : decode cX5_forget 53 = .ok (.iload_n 2, 1) := by decide +kernel
theorem dX5_forget_54 : decode cX5_forget 54 = .ok (.bipush 6, 2) := by decide +kernel
theorem dX5_forget_56 : decode cX5_forget 56 = .ok (.if_icmp .ge 22, 3) := by decide +kernel
theorem dX5_forget_59 : decode cX5_forget 59 = .ok (.aload_n 0, 1) := by decide +kernel
theorem dX5_forget_60 : decode cX5_forget 60 = .ok (.getfield 44, 3) := by decide +kernel
theorem dX5_forget_63 : decode cX5_forget 63 = .ok (.bipush 6, 2) := by decide +kernel
theorem dX5_forget_65 : decode cX5_forget 65 = .ok (.iload_n 1, 1) := by decide +kernel
theorem dX5_forget_66 : decode cX5_forget 66 = .ok (.imul, 1) := by decide +kernel
theorem dX5_forget_67 : decode cX5_forget 67 = .ok (.iload_n 2, 1) := by decide +kernel
theorem dX5_forget_68 : decode cX5_forget 68 = .ok (.iadd, 1) := by decide +kernel
theorem dX5_forget_69 : decode cX5_forget 69 = .ok (.bipush 100, 2) := by decide +kernel
theorem dX5_forget_71 : decode cX5_forget 71 = .ok (.iastore, 1) := by decide +kernel
theorem dX5_forget_72 : decode cX5_forget 72 = .ok (.iinc 2 1, 3) := by decide +kernel
theorem dX5_forget_75 : decode cX5_forget 75 = .ok (.goto (-22), 3) := by decide +kernel
theorem dX5_forget_78 : decode cX5_forget 78 = .ok (.return_, 1) := by decide +kernel
theorem dX5_tell_0 : decode cX5_tell 0 = .ok (.aload_n 0, 1) := by decide +kernel
theorem dX5_tell_1 : decode cX5_tell 1 = .ok (.getfield 29, 3) := by decide +kernel
theorem dX5_tell_4 : decode cX5_tell 4 = .ok (.iload_n 1, 1) := by decide +kernel
theorem dX5_tell_5 : decode cX5_tell 5 = .ok (.aload_n 0, 1) := by decide +kernel
theorem dX5_tell_6 : decode cX5_tell 6 = .ok (.getfield 16, 3) := by decide +kernel
theorem dX5_tell_9 : decode cX5_tell 9 = .ok (.iload_n 2, 1) := by decide +kernel
theorem dX5_tell_10 : decode cX5_tell 10 = .ok (.iaload, 1) := by decide +kernel
theorem dX5_tell_11 : decode cX5_tell 11 = .ok (.iastore, 1) := by decide +kernel
theorem dX5_tell_12 : decode cX5_tell 12 = .ok (.aload_n 0, 1) := by decide +kernel
theorem dX5_tell_13 : decode cX5_tell 13 = .ok (.getfield 32, 3) := by decide +kernel
theorem dX5_tell_16 : decode cX5_tell 16 = .ok (.iload_n 1, 1) := by decide +kernel
theorem dX5_tell_17 : decode cX5_tell 17 = .ok (.aload_n 0, 1) := by decide +kernel
theorem dX5_tell_18 : decode cX5_tell 18 = .ok (.getfield 19, 3) := by decide +kernel
theorem dX5_tell_21 : decode cX5_tell 21 = .ok (.iload_n 2, 1) := by decide +kernel
theorem dX5_tell_22 : decode cX5_tell 22 = .ok (.iaload, 1) := by decide +kernel
theorem dX5_tell_23 : decode cX5_tell 23 = .ok (.iastore, 1) := by decide +kernel
theorem dX5_tell_24 : decode cX5_tell 24 = .ok (.aload_n 0, 1) := by decide +kernel
theorem dX5_tell_25 : decode cX5_tell 25 = .ok (.getfield 35, 3) := by decide +kernel
theorem dX5_tell_28 : decode cX5_tell 28 = .ok (.iload_n 1, 1) := by decide +kernel
theorem dX5_tell_29 : decode cX5_tell 29 = .ok (.aload_n 0, 1) := by decide +kernel
theorem dX5_tell_30 : decode cX5_tell 30 = .ok (.getfield 22, 3) := by decide +kernel
theorem dX5_tell_33 : decode cX5_tell 33 = .ok (.iload_n 2, 1) := by decide +kernel
theorem dX5_tell_34 : decode cX5_tell 34 = .ok (.iaload, 1) := by decide +kernel
theorem dX5_tell_35 : decode cX5_tell 35 = .ok (.iastore, 1) := by decide +kernel
theorem dX5_tell_36 : decode cX5_tell 36 = .ok (.return_, 1) := by decide +kernel
theorem dX5_apply_0 : decode cX5_apply 0 = .ok (.bipush 16, 2) := by decide +kernel
theorem dX5_apply_2 : decode cX5_apply 2 = .ok (.iload_n 1, 1) := by decide +kernel
theorem dX5_apply_3 : decode cX5_apply 3 = .ok (.imul, 1) := by decide +kernel
theorem dX5_apply_4 : decode cX5_apply 4 = .ok (.aload_n 0, 1) := by decide +kernel
theorem dX5_apply_5 : decode cX5_apply 5 = .ok (.getfield 13, 3) := by decide +kernel
theorem dX5_apply_8 : decode cX5_apply 8 = .ok (.iload_n 2, 1) := by decide +kernel
theorem dX5_apply_9 : decode cX5_apply 9 = .ok (.iaload, 1) := by decide +kernel
theorem dX5_apply_10 : decode cX5_apply 10 = .ok (.iadd, 1) := by decide +kernel
theorem dX5_apply_11 : decode cX5_apply 11 = .ok (.istore_n 3, 1) := by decide +kernel
theorem dX5_apply_12 : decode cX5_apply 12 = .ok (.aload_n 0, 1) := by decide +kernel
theorem dX5_apply_13 : decode cX5_apply 13 = .ok (.getfield 7, 3) := by decide +kernel
theorem dX5_apply_16 : decode cX5_apply 16 = .ok (.iload_n 2, 1) := by decide +kernel
theorem dX5_apply_17 : decode cX5_apply 17 = .ok (.iaload, 1) := by decide +kernel
theorem dX5_apply_18 : decode cX5_apply 18 = .ok (.tableswitch 271 0 6 #[42, 58, 124, 133, 158, 205, 256], 42) := by decide +kernel
theorem dX5_apply_60 : decode cX5_apply 60 = .ok (.aload_n 0, 1) := by decide +kernel
theorem dX5_apply_61 : decode cX5_apply 61 = .ok (.getfield 25, 3) := by decide +kernel
theorem dX5_apply_64 : decode cX5_apply 64 = .ok (.iload_n 3, 1) := by decide +kernel
theorem dX5_apply_65 : decode cX5_apply 65 = .ok (.iconst 1, 1) := by decide +kernel
theorem dX5_apply_66 : decode cX5_apply 66 = .ok (.bastore, 1) := by decide +kernel
theorem dX5_apply_67 : decode cX5_apply 67 = .ok (.aload_n 0, 1) := by decide +kernel
theorem dX5_apply_68 : decode cX5_apply 68 = .ok (.iload_n 3, 1) := by decide +kernel
theorem dX5_apply_69 : decode cX5_apply 69 = .ok (.iload_n 2, 1) := by decide +kernel
theorem dX5_apply_70 : decode cX5_apply 70 = .ok (.invokevirtual 90, 3) := by decide +kernel
theorem dX5_apply_73 : decode cX5_apply 73 = .ok (.goto 224, 3) := by decide +kernel
theorem dX5_apply_76 : decode cX5_apply 76 = .ok (.aload_n 0, 1) := by decide +kernel
theorem dX5_apply_77 : decode cX5_apply 77 = .ok (.getfield 25, 3) := by decide +kernel
theorem dX5_apply_80 : decode cX5_apply 80 = .ok (.iload_n 3, 1) := by decide +kernel
theorem dX5_apply_81 : decode cX5_apply 81 = .ok (.iconst 0, 1) := by decide +kernel
theorem dX5_apply_82 : decode cX5_apply 82 = .ok (.bastore, 1) := by decide +kernel
theorem dX5_apply_83 : decode cX5_apply 83 = .ok (.aload_n 0, 1) := by decide +kernel
theorem dX5_apply_84 : decode cX5_apply 84 = .ok (.getfield 38, 3) := by decide +kernel
theorem dX5_apply_87 : decode cX5_apply 87 = .ok (.iload_n 3, 1) := by decide +kernel
theorem dX5_apply_88 : decode cX5_apply 88 = .ok (.bipush (-2), 2) := by decide +kernel
theorem dX5_apply_90 : decode cX5_apply 90 = .ok (.iastore, 1) := by decide +kernel
theorem dX5_apply_91 : decode cX5_apply 91 = .ok (.aload_n 0, 1) := by decide +kernel
theorem dX5_apply_92 : decode cX5_apply 92 = .ok (.getfield 41, 3) := by decide +kernel
theorem dX5_apply_95 : decode cX5_apply 95 = .ok (.iload_n 3, 1) := by decide +kernel
theorem dX5_apply_96 : decode cX5_apply 96 = .ok (.iconst 0, 1) := by decide +kernel
theorem dX5_apply_97 : decode cX5_apply 97 = .ok (.iastore, 1) := by decide +kernel
theorem dX5_apply_98 : decode cX5_apply 98 = .ok (.iconst 0, 1) := by decide +kernel
theorem dX5_apply_99 : decode cX5_apply 99 = .ok (.istore 4, 2) := by decide +kernel
theorem dX5_apply_101 : decode cX5_apply 101 = .ok (.iload 4, 2) := by decide +kernel
theorem dX5_apply_103 : decode cX5_apply 103 = .ok (.bipush 16, 2) := by decide +kernel
theorem dX5_apply_105 : decode cX5_apply 105 = .ok (.if_icmp .ge 34, 3) := by decide +kernel
theorem dX5_apply_108 : decode cX5_apply 108 = .ok (.aload_n 0, 1) := by decide +kernel
theorem dX5_apply_109 : decode cX5_apply 109 = .ok (.getfield 41, 3) := by decide +kernel
theorem dX5_apply_112 : decode cX5_apply 112 = .ok (.bipush 16, 2) := by decide +kernel
theorem dX5_apply_114 : decode cX5_apply 114 = .ok (.iload_n 1, 1) := by decide +kernel
theorem dX5_apply_115 : decode cX5_apply 115 = .ok (.imul, 1) := by decide +kernel
theorem dX5_apply_116 : decode cX5_apply 116 = .ok (.iload 4, 2) := by decide +kernel
theorem dX5_apply_118 : decode cX5_apply 118 = .ok (.iadd, 1) := by decide +kernel
theorem dX5_apply_119 : decode cX5_apply 119 = .ok (.dup2, 1) := by decide +kernel
theorem dX5_apply_120 : decode cX5_apply 120 = .ok (.iaload, 1) := by decide +kernel
theorem dX5_apply_121 : decode cX5_apply 121 = .ok (.iconst 1, 1) := by decide +kernel
theorem dX5_apply_122 : decode cX5_apply 122 = .ok (.aload_n 0, 1) := by decide +kernel
theorem dX5_apply_123 : decode cX5_apply 123 = .ok (.getfield 13, 3) := by decide +kernel
theorem dX5_apply_126 : decode cX5_apply 126 = .ok (.iload_n 2, 1) := by decide +kernel
theorem dX5_apply_127 : decode cX5_apply 127 = .ok (.iaload, 1) := by decide +kernel
theorem dX5_apply_128 : decode cX5_apply 128 = .ok (.ishl, 1) := by decide +kernel
theorem dX5_apply_129 : decode cX5_apply 129 = .ok (.iconst (-1), 1) := by decide +kernel
theorem dX5_apply_130 : decode cX5_apply 130 = .ok (.ixor, 1) := by decide +kernel
theorem dX5_apply_131 : decode cX5_apply 131 = .ok (.iand, 1) := by decide +kernel
theorem dX5_apply_132 : decode cX5_apply 132 = .ok (.iastore, 1) := by decide +kernel
theorem dX5_apply_133 : decode cX5_apply 133 = .ok (.iinc 4 1, 3) := by decide +kernel
theorem dX5_apply_136 : decode cX5_apply 136 = .ok (.goto (-35), 3) := by decide +kernel
theorem dX5_apply_139 : decode cX5_apply 139 = .ok (.goto 158, 3) := by decide +kernel
theorem dX5_apply_142 : decode cX5_apply 142 = .ok (.aload_n 0, 1) := by decide +kernel
theorem dX5_apply_143 : decode cX5_apply 143 = .ok (.iload_n 3, 1) := by decide +kernel
theorem dX5_apply_144 : decode cX5_apply 144 = .ok (.iload_n 2, 1) := by decide +kernel
theorem dX5_apply_145 : decode cX5_apply 145 = .ok (.invokevirtual 90, 3) := by decide +kernel
theorem dX5_apply_148 : decode cX5_apply 148 = .ok (.goto 149, 3) := by decide +kernel
theorem dX5_apply_151 : decode cX5_apply 151 = .ok (.aload_n 0, 1) := by decide +kernel
theorem dX5_apply_152 : decode cX5_apply 152 = .ok (.getfield 44, 3) := by decide +kernel
theorem dX5_apply_155 : decode cX5_apply 155 = .ok (.bipush 6, 2) := by decide +kernel
theorem dX5_apply_157 : decode cX5_apply 157 = .ok (.iload_n 1, 1) := by decide +kernel
theorem dX5_apply_158 : decode cX5_apply 158 = .ok (.imul, 1) := by decide +kernel
theorem dX5_apply_159 : decode cX5_apply 159 = .ok (.aload_n 0, 1) := by decide +kernel
theorem dX5_apply_160 : decode cX5_apply 160 = .ok (.getfield 13, 3) := by decide +kernel
theorem dX5_apply_163 : decode cX5_apply 163 = .ok (.iload_n 2, 1) := by decide +kernel
theorem dX5_apply_164 : decode cX5_apply 164 = .ok (.iaload, 1) := by decide +kernel
theorem dX5_apply_165 : decode cX5_apply 165 = .ok (.iadd, 1) := by decide +kernel
theorem dX5_apply_166 : decode cX5_apply 166 = .ok (.aload_n 0, 1) := by decide +kernel
theorem dX5_apply_167 : decode cX5_apply 167 = .ok (.getfield 16, 3) := by decide +kernel
theorem dX5_apply_170 : decode cX5_apply 170 = .ok (.iload_n 2, 1) := by decide +kernel
theorem dX5_apply_171 : decode cX5_apply 171 = .ok (.iaload, 1) := by decide +kernel
theorem dX5_apply_172 : decode cX5_apply 172 = .ok (.iastore, 1) := by decide +kernel
theorem dX5_apply_173 : decode cX5_apply 173 = .ok (.goto 124, 3) := by decide +kernel
theorem dX5_apply_176 : decode cX5_apply 176 = .ok (.aload_n 0, 1) := by decide +kernel
theorem dX5_apply_177 : decode cX5_apply 177 = .ok (.getfield 41, 3) := by decide +kernel
theorem dX5_apply_180 : decode cX5_apply 180 = .ok (.iload_n 3, 1) := by decide +kernel
theorem dX5_apply_181 : decode cX5_apply 181 = .ok (.dup2, 1) := by decide +kernel
theorem dX5_apply_182 : decode cX5_apply 182 = .ok (.iaload, 1) := by decide +kernel
theorem dX5_apply_183 : decode cX5_apply 183 = .ok (.iconst 1, 1) := by decide +kernel
theorem dX5_apply_184 : decode cX5_apply 184 = .ok (.aload_n 0, 1) := by decide +kernel
theorem dX5_apply_185 : decode cX5_apply 185 = .ok (.getfield 16, 3) := by decide +kernel
theorem dX5_apply_188 : decode cX5_apply 188 = .ok (.iload_n 2, 1) := by decide +kernel
theorem dX5_apply_189 : decode cX5_apply 189 = .ok (.iaload, 1) := by decide +kernel
theorem dX5_apply_190 : decode cX5_apply 190 = .ok (.ishl, 1) := by decide +kernel
theorem dX5_apply_191 : decode cX5_apply 191 = .ok (.ior, 1) := by decide +kernel
theorem dX5_apply_192 : decode cX5_apply 192 = .ok (.iastore, 1) := by decide +kernel
theorem dX5_apply_193 : decode cX5_apply 193 = .ok (.aload_n 0, 1) := by decide +kernel
theorem dX5_apply_194 : decode cX5_apply 194 = .ok (.getfield 41, 3) := by decide +kernel
theorem dX5_apply_197 : decode cX5_apply 197 = .ok (.bipush 16, 2) := by decide +kernel
theorem dX5_apply_199 : decode cX5_apply 199 = .ok (.iload_n 1, 1) := by decide +kernel
theorem dX5_apply_200 : decode cX5_apply 200 = .ok (.imul, 1) := by decide +kernel
theorem dX5_apply_201 : decode cX5_apply 201 = .ok (.aload_n 0, 1) := by decide +kernel
theorem dX5_apply_202 : decode cX5_apply 202 = .ok (.getfield 16, 3) := by decide +kernel
theorem dX5_apply_205 : decode cX5_apply 205 = .ok (.iload_n 2, 1) := by decide +kernel
theorem dX5_apply_206 : decode cX5_apply 206 = .ok (.iaload, 1) := by decide +kernel
theorem dX5_apply_207 : decode cX5_apply 207 = .ok (.iadd, 1) := by decide +kernel
theorem dX5_apply_208 : decode cX5_apply 208 = .ok (.dup2, 1) := by decide +kernel
theorem dX5_apply_209 : decode cX5_apply 209 = .ok (.iaload, 1) := by decide +kernel
theorem dX5_apply_210 : decode cX5_apply 210 = .ok (.iconst 1, 1) := by decide +kernel
theorem dX5_apply_211 : decode cX5_apply 211 = .ok (.aload_n 0, 1) := by decide +kernel
theorem dX5_apply_212 : decode cX5_apply 212 = .ok (.getfield 13, 3) := by decide +kernel
theorem dX5_apply_215 : decode cX5_apply 215 = .ok (.iload_n 2, 1) := by decide +kernel
theorem dX5_apply_216 : decode cX5_apply 216 = .ok (.iaload, 1) := by decide +kernel
theorem dX5_apply_217 : decode cX5_apply 217 = .ok (.ishl, 1) := by decide +kernel
theorem dX5_apply_218 : decode cX5_apply 218 = .ok (.ior, 1) := by decide +kernel
theorem dX5_apply_219 : decode cX5_apply 219 = .ok (.iastore, 1) := by decide +kernel
theorem dX5_apply_220 : decode cX5_apply 220 = .ok (.goto 77, 3) := by decide +kernel
theorem dX5_apply_223 : decode cX5_apply 223 = .ok (.aload_n 0, 1) := by decide +kernel
theorem dX5_apply_224 : decode cX5_apply 224 = .ok (.getfield 41, 3) := by decide +kernel
theorem dX5_apply_227 : decode cX5_apply 227 = .ok (.iload_n 3, 1) := by decide +kernel
theorem dX5_apply_228 : decode cX5_apply 228 = .ok (.dup2, 1) := by decide +kernel
theorem dX5_apply_229 : decode cX5_apply 229 = .ok (.iaload, 1) := by decide +kernel
theorem dX5_apply_230 : decode cX5_apply 230 = .ok (.iconst 1, 1) := by decide +kernel
theorem dX5_apply_231 : decode cX5_apply 231 = .ok (.aload_n 0, 1) := by decide +kernel
theorem dX5_apply_232 : decode cX5_apply 232 = .ok (.getfield 16, 3) := by decide +kernel
theorem dX5_apply_235 : decode cX5_apply 235 = .ok (.iload_n 2, 1) := by decide +kernel
theorem dX5_apply_236 : decode cX5_apply 236 = .ok (.iaload, 1) := by decide +kernel
theorem dX5_apply_237 : decode cX5_apply 237 = .ok (.ishl, 1) := by decide +kernel
theorem dX5_apply_238 : decode cX5_apply 238 = .ok (.iconst (-1), 1) := by decide +kernel
theorem dX5_apply_239 : decode cX5_apply 239 = .ok (.ixor, 1) := by decide +kernel
theorem dX5_apply_240 : decode cX5_apply 240 = .ok (.iand, 1) := by decide +kernel
theorem dX5_apply_241 : decode cX5_apply 241 = .ok (.iastore, 1) := by decide +kernel
theorem dX5_apply_242 : decode cX5_apply 242 = .ok (.aload_n 0, 1) := by decide +kernel
theorem dX5_apply_243 : decode cX5_apply 243 = .ok (.getfield 41, 3) := by decide +kernel
theorem dX5_apply_246 : decode cX5_apply 246 = .ok (.bipush 16, 2) := by decide +kernel
theorem dX5_apply_248 : decode cX5_apply 248 = .ok (.iload_n 1, 1) := by decide +kernel
theorem dX5_apply_249 : decode cX5_apply 249 = .ok (.imul, 1) := by decide +kernel
theorem dX5_apply_250 : decode cX5_apply 250 = .ok (.aload_n 0, 1) := by decide +kernel
theorem dX5_apply_251 : decode cX5_apply 251 = .ok (.getfield 16, 3) := by decide +kernel
theorem dX5_apply_254 : decode cX5_apply 254 = .ok (.iload_n 2, 1) := by decide +kernel
theorem dX5_apply_255 : decode cX5_apply 255 = .ok (.iaload, 1) := by decide +kernel
theorem dX5_apply_256 : decode cX5_apply 256 = .ok (.iadd, 1) := by decide +kernel
theorem dX5_apply_257 : decode cX5_apply 257 = .ok (.dup2, 1) := by decide +kernel
theorem dX5_apply_258 : decode cX5_apply 258 = .ok (.iaload, 1) := by decide +kernel
theorem dX5_apply_259 : decode cX5_apply 259 = .ok (.iconst 1, 1) := by decide +kernel
theorem dX5_apply_260 : decode cX5_apply 260 = .ok (.aload_n 0, 1) := by decide +kernel
theorem dX5_apply_261 : decode cX5_apply 261 = .ok (.getfield 13, 3) := by decide +kernel
theorem dX5_apply_264 : decode cX5_apply 264 = .ok (.iload_n 2, 1) := by decide +kernel
theorem dX5_apply_265 : decode cX5_apply 265 = .ok (.iaload, 1) := by decide +kernel
theorem dX5_apply_266 : decode cX5_apply 266 = .ok (.ishl, 1) := by decide +kernel
theorem dX5_apply_267 : decode cX5_apply 267 = .ok (.iconst (-1), 1) := by decide +kernel
theorem dX5_apply_268 : decode cX5_apply 268 = .ok (.ixor, 1) := by decide +kernel
theorem dX5_apply_269 : decode cX5_apply 269 = .ok (.iand, 1) := by decide +kernel
theorem dX5_apply_270 : decode cX5_apply 270 = .ok (.iastore, 1) := by decide +kernel
theorem dX5_apply_271 : decode cX5_apply 271 = .ok (.goto 26, 3) := by decide +kernel
theorem dX5_apply_274 : decode cX5_apply 274 = .ok (.aload_n 0, 1) := by decide +kernel
theorem dX5_apply_275 : decode cX5_apply 275 = .ok (.getfield 38, 3) := by decide +kernel
theorem dX5_apply_278 : decode cX5_apply 278 = .ok (.iload_n 3, 1) := by decide +kernel
theorem dX5_apply_279 : decode cX5_apply 279 = .ok (.aload_n 0, 1) := by decide +kernel
theorem dX5_apply_280 : decode cX5_apply 280 = .ok (.getfield 16, 3) := by decide +kernel
theorem dX5_apply_283 : decode cX5_apply 283 = .ok (.iload_n 2, 1) := by decide +kernel
theorem dX5_apply_284 : decode cX5_apply 284 = .ok (.iaload, 1) := by decide +kernel
theorem dX5_apply_285 : decode cX5_apply 285 = .ok (.iastore, 1) := by decide +kernel
theorem dX5_apply_286 : decode cX5_apply 286 = .ok (.goto 11, 3) := by decide +kernel
theorem dX5_apply_289 : decode cX5_apply 289 = .ok (.aload_n 0, 1) := by decide +kernel
theorem dX5_apply_290 : decode cX5_apply 290 = .ok (.getfield 38, 3) := by decide +kernel
theorem dX5_apply_293 : decode cX5_apply 293 = .ok (.iload_n 3, 1) := by decide +kernel
theorem dX5_apply_294 : decode cX5_apply 294 = .ok (.bipush (-2), 2) := by decide +kernel
theorem dX5_apply_296 : decode cX5_apply 296 = .ok (.iastore, 1) := by decide +kernel
theorem dX5_apply_297 : decode cX5_apply 297 = .ok (.return_, 1) := by decide +kernel
theorem dX5_makeFacts_0 : decode cX5_makeFacts 0 = .ok (.aload_n 0, 1) := by decide +kernel
theorem dX5_makeFacts_1 : decode cX5_makeFacts 1 = .ok (.iload_n 1, 1) := by decide +kernel
theorem dX5_makeFacts_2 : decode cX5_makeFacts 2 = .ok (.invokevirtual 86, 3) := by decide +kernel
theorem dX5_makeFacts_5 : decode cX5_makeFacts 5 = .ok (.iconst 0, 1) := by decide +kernel
theorem dX5_makeFacts_6 : decode cX5_makeFacts 6 = .ok (.istore_n 3, 1) := by decide +kernel
theorem dX5_makeFacts_7 : decode cX5_makeFacts 7 = .ok (.iload_n 3, 1) := by decide +kernel
theorem dX5_makeFacts_8 : decode cX5_makeFacts 8 = .ok (.iload_n 2, 1) := by decide +kernel
theorem dX5_makeFacts_9 : decode cX5_makeFacts 9 = .ok (.if_icmp .ge 15, 3) := by decide +kernel
theorem dX5_makeFacts_12 : decode cX5_makeFacts 12 = .ok (.aload_n 0, 1) := by decide +kernel
theorem dX5_makeFacts_13 : decode cX5_makeFacts 13 = .ok (.iload_n 1, 1) := by decide +kernel
theorem dX5_makeFacts_14 : decode cX5_makeFacts 14 = .ok (.iload_n 3, 1) := by decide +kernel
theorem dX5_makeFacts_15 : decode cX5_makeFacts 15 = .ok (.invokevirtual 94, 3) := by decide +kernel
theorem dX5_makeFacts_18 : decode cX5_makeFacts 18 = .ok (.iinc 3 1, 3) := by decide +kernel
theorem dX5_makeFacts_21 : decode cX5_makeFacts 21 = .ok (.goto (-14), 3) := by decide +kernel
theorem dX5_makeFacts_24 : decode cX5_makeFacts 24 = .ok (.return_, 1) := by decide +kernel
theorem dX5_add_0 : decode cX5_add 0 = .ok (.aload_n 0, 1) := by decide +kernel
theorem dX5_add_1 : decode cX5_add 1 = .ok (.getfield 97, 3) := by decide +kernel
theorem dX5_add_4 : decode cX5_add 4 = .ok (.bipush 120, 2) := by decide +kernel
theorem dX5_add_6 : decode cX5_add 6 = .ok (.if_icmp .ne 6, 3) := by decide +kernel
theorem dX5_add_9 : decode cX5_add 9 = .ok (.bipush (-4), 2) := by decide +kernel
theorem dX5_add_11 : decode cX5_add 11 = .ok (.ireturn, 1) := by decide +kernel
theorem dX5_add_12 : decode cX5_add 12 = .ok (.aload_n 0, 1) := by decide +kernel
theorem dX5_add_13 : decode cX5_add 13 = .ok (.getfield 7, 3) := by decide +kernel
theorem dX5_add_16 : decode cX5_add 16 = .ok (.aload_n 0, 1) := by decide +kernel
theorem dX5_add_17 : decode cX5_add 17 = .ok (.getfield 97, 3) := by decide +kernel
theorem dX5_add_20 : decode cX5_add 20 = .ok (.iload_n 1, 1) := by decide +kernel
theorem dX5_add_21 : decode cX5_add 21 = .ok (.iastore, 1) := by decide +kernel
theorem dX5_add_22 : decode cX5_add 22 = .ok (.aload_n 0, 1) := by decide +kernel
theorem dX5_add_23 : decode cX5_add 23 = .ok (.getfield 13, 3) := by decide +kernel
theorem dX5_add_26 : decode cX5_add 26 = .ok (.aload_n 0, 1) := by decide +kernel
theorem dX5_add_27 : decode cX5_add 27 = .ok (.getfield 97, 3) := by decide +kernel
theorem dX5_add_30 : decode cX5_add 30 = .ok (.iload_n 2, 1) := by decide +kernel
theorem dX5_add_31 : decode cX5_add 31 = .ok (.iastore, 1) := by decide +kernel
theorem dX5_add_32 : decode cX5_add 32 = .ok (.aload_n 0, 1) := by decide +kernel
theorem dX5_add_33 : decode cX5_add 33 = .ok (.getfield 16, 3) := by decide +kernel
theorem dX5_add_36 : decode cX5_add 36 = .ok (.aload_n 0, 1) := by decide +kernel
theorem dX5_add_37 : decode cX5_add 37 = .ok (.getfield 97, 3) := by decide +kernel
theorem dX5_add_40 : decode cX5_add 40 = .ok (.iload_n 3, 1) := by decide +kernel
theorem dX5_add_41 : decode cX5_add 41 = .ok (.iastore, 1) := by decide +kernel
theorem dX5_add_42 : decode cX5_add 42 = .ok (.aload_n 0, 1) := by decide +kernel
theorem dX5_add_43 : decode cX5_add 43 = .ok (.getfield 19, 3) := by decide +kernel
theorem dX5_add_46 : decode cX5_add 46 = .ok (.aload_n 0, 1) := by decide +kernel
theorem dX5_add_47 : decode cX5_add 47 = .ok (.getfield 97, 3) := by decide +kernel
theorem dX5_add_50 : decode cX5_add 50 = .ok (.iload 4, 2) := by decide +kernel
theorem dX5_add_52 : decode cX5_add 52 = .ok (.iastore, 1) := by decide +kernel
theorem dX5_add_53 : decode cX5_add 53 = .ok (.aload_n 0, 1) := by decide +kernel
theorem dX5_add_54 : decode cX5_add 54 = .ok (.getfield 22, 3) := by decide +kernel
theorem dX5_add_57 : decode cX5_add 57 = .ok (.aload_n 0, 1) := by decide +kernel
theorem dX5_add_58 : decode cX5_add 58 = .ok (.getfield 97, 3) := by decide +kernel
theorem dX5_add_61 : decode cX5_add 61 = .ok (.iload 5, 2) := by decide +kernel
theorem dX5_add_63 : decode cX5_add 63 = .ok (.iastore, 1) := by decide +kernel
theorem dX5_add_64 : decode cX5_add 64 = .ok (.aload_n 0, 1) := by decide +kernel
theorem dX5_add_65 : decode cX5_add 65 = .ok (.dup, 1) := by decide +kernel
theorem dX5_add_66 : decode cX5_add 66 = .ok (.getfield 97, 3) := by decide +kernel
theorem dX5_add_69 : decode cX5_add 69 = .ok (.iconst 1, 1) := by decide +kernel
theorem dX5_add_70 : decode cX5_add 70 = .ok (.iadd, 1) := by decide +kernel
theorem dX5_add_71 : decode cX5_add 71 = .ok (.putfield 97, 3) := by decide +kernel
theorem dX5_add_74 : decode cX5_add 74 = .ok (.aload_n 0, 1) := by decide +kernel
theorem dX5_add_75 : decode cX5_add 75 = .ok (.iconst 4, 1) := by decide +kernel
theorem dX5_add_76 : decode cX5_add 76 = .ok (.aload_n 0, 1) := by decide +kernel
theorem dX5_add_77 : decode cX5_add 77 = .ok (.getfield 97, 3) := by decide +kernel
theorem dX5_add_80 : decode cX5_add 80 = .ok (.iconst 1, 1) := by decide +kernel
theorem dX5_add_81 : decode cX5_add 81 = .ok (.isub, 1) := by decide +kernel
theorem dX5_add_82 : decode cX5_add 82 = .ok (.invokevirtual 94, 3) := by decide +kernel
theorem dX5_add_85 : decode cX5_add 85 = .ok (.aload_n 0, 1) := by decide +kernel
theorem dX5_add_86 : decode cX5_add 86 = .ok (.getfield 97, 3) := by decide +kernel
theorem dX5_add_89 : decode cX5_add 89 = .ok (.ireturn, 1) := by decide +kernel
theorem dX5_isJob_0 : decode cX5_isJob 0 = .ok (.iload_n 1, 1) := by decide +kernel
theorem dX5_isJob_1 : decode cX5_isJob 1 = .ok (.iconst 0, 1) := by decide +kernel
theorem dX5_isJob_2 : decode cX5_isJob 2 = .ok (.bipush 15, 2) := by decide +kernel
theorem dX5_isJob_4 : decode cX5_isJob 4 = .ok (.invokestatic 101, 3) := by decide +kernel
theorem dX5_isJob_7 : decode cX5_isJob 7 = .ok (.ifCond .eq 19, 3) := by decide +kernel
theorem dX5_isJob_10 : decode cX5_isJob 10 = .ok (.aload_n 0, 1) := by decide +kernel
theorem dX5_isJob_11 : decode cX5_isJob 11 = .ok (.getfield 25, 3) := by decide +kernel
theorem dX5_isJob_14 : decode cX5_isJob 14 = .ok (.bipush 64, 2) := by decide +kernel
theorem dX5_isJob_16 : decode cX5_isJob 16 = .ok (.iload_n 1, 1) := by decide +kernel
theorem dX5_isJob_17 : decode cX5_isJob 17 = .ok (.iadd, 1) := by decide +kernel
theorem dX5_isJob_18 : decode cX5_isJob 18 = .ok (.baload, 1) := by decide +kernel
theorem dX5_isJob_19 : decode cX5_isJob 19 = .ok (.ifCond .eq 7, 3) := by decide +kernel
theorem dX5_isJob_22 : decode cX5_isJob 22 = .ok (.iconst 1, 1) := by decide +kernel
theorem dX5_isJob_23 : decode cX5_isJob 23 = .ok (.goto 4, 3) := by decide +kernel
theorem dX5_isJob_26 : decode cX5_isJob 26 = .ok (.iconst 0, 1) := by decide +kernel
theorem dX5_isJob_27 : decode cX5_isJob 27 = .ok (.ireturn, 1) := by decide +kernel
theorem dX5_isTold_0 : decode cX5_isTold 0 = .ok (.iload_n 0, 1) := by decide +kernel
theorem dX5_isTold_1 : decode cX5_isTold 1 = .ok (.iconst 1, 1) := by decide +kernel
theorem dX5_isTold_2 : decode cX5_isTold 2 = .ok (.bipush 100, 2) := by decide +kernel
theorem dX5_isTold_4 : decode cX5_isTold 4 = .ok (.invokestatic 101, 3) := by decide +kernel
theorem dX5_isTold_7 : decode cX5_isTold 7 = .ok (.ifCond .eq 26, 3) := by decide +kernel
theorem dX5_isTold_10 : decode cX5_isTold 10 = .ok (.iload_n 1, 1) := by decide +kernel
theorem dX5_isTold_11 : decode cX5_isTold 11 = .ok (.iconst 0, 1) := by decide +kernel
theorem dX5_isTold_12 : decode cX5_isTold 12 = .ok (.bipush 50, 2) := by decide +kernel
theorem dX5_isTold_14 : decode cX5_isTold 14 = .ok (.invokestatic 101, 3) := by decide +kernel
theorem dX5_isTold_17 : decode cX5_isTold 17 = .ok (.ifCond .eq 16, 3) := by decide +kernel
theorem dX5_isTold_20 : decode cX5_isTold 20 = .ok (.iload_n 2, 1) := by decide +kernel
theorem dX5_isTold_21 : decode cX5_isTold 21 = .ok (.iconst 0, 1) := by decide +kernel
theorem dX5_isTold_22 : decode cX5_isTold 22 = .ok (.iconst 5, 1) := by decide +kernel
theorem dX5_isTold_23 : decode cX5_isTold 23 = .ok (.invokestatic 101, 3) := by decide +kernel
theorem dX5_isTold_26 : decode cX5_isTold 26 = .ok (.ifCond .eq 7, 3) := by decide +kernel
theorem dX5_isTold_29 : decode cX5_isTold 29 = .ok (.iconst 1, 1) := by decide +kernel
theorem dX5_isTold_30 : decode cX5_isTold 30 = .ok (.goto 4, 3) := by decide +kernel
theorem dX5_isTold_33 : decode cX5_isTold 33 = .ok (.iconst 0, 1) := by decide +kernel
theorem dX5_isTold_34 : decode cX5_isTold 34 = .ok (.ireturn, 1) := by decide +kernel
theorem dX5_come_0 : decode cX5_come 0 = .ok (.iload_n 1, 1) := by decide +kernel
theorem dX5_come_1 : decode cX5_come 1 = .ok (.iload_n 2, 1) := by decide +kernel
theorem dX5_come_2 : decode cX5_come 2 = .ok (.iload_n 3, 1) := by decide +kernel
theorem dX5_come_3 : decode cX5_come 3 = .ok (.invokestatic 105, 3) := by decide +kernel
theorem dX5_come_6 : decode cX5_come 6 = .ok (.ifCond .ne 6, 3) := by decide +kernel
theorem dX5_come_9 : decode cX5_come 9 = .ok (.bipush (-2), 2) := by decide +kernel
theorem dX5_come_11 : decode cX5_come 11 = .ok (.ireturn, 1) := by decide +kernel
theorem dX5_come_12 : decode cX5_come 12 = .ok (.aload_n 0, 1) := by decide +kernel
theorem dX5_come_13 : decode cX5_come 13 = .ok (.getfield 108, 3) := by decide +kernel
theorem dX5_come_16 : decode cX5_come 16 = .ok (.bipush 16, 2) := by decide +kernel
theorem dX5_come_18 : decode cX5_come 18 = .ok (.if_icmp .ne 6, 3) := by decide +kernel
theorem dX5_come_21 : decode cX5_come 21 = .ok (.bipush (-3), 2) := by decide +kernel
theorem dX5_come_23 : decode cX5_come 23 = .ok (.ireturn, 1) := by decide +kernel
theorem dX5_come_24 : decode cX5_come 24 = .ok (.aload_n 0, 1) := by decide +kernel
theorem dX5_come_25 : decode cX5_come 25 = .ok (.iconst 0, 1) := by decide +kernel
theorem dX5_come_26 : decode cX5_come 26 = .ok (.aload_n 0, 1) := by decide +kernel
theorem dX5_come_27 : decode cX5_come 27 = .ok (.getfield 108, 3) := by decide +kernel
theorem dX5_come_30 : decode cX5_come 30 = .ok (.iload_n 1, 1) := by decide +kernel
theorem dX5_come_31 : decode cX5_come 31 = .ok (.iload_n 2, 1) := by decide +kernel
theorem dX5_come_32 : decode cX5_come 32 = .ok (.iload_n 3, 1) := by decide +kernel
theorem dX5_come_33 : decode cX5_come 33 = .ok (.invokevirtual 111, 3) := by decide +kernel
theorem dX5_come_36 : decode cX5_come 36 = .ok (.istore 4, 2) := by decide +kernel
theorem dX5_come_38 : decode cX5_come 38 = .ok (.aload_n 0, 1) := by decide +kernel
theorem dX5_come_39 : decode cX5_come 39 = .ok (.dup, 1) := by decide +kernel
theorem dX5_come_40 : decode cX5_come 40 = .ok (.getfield 108, 3) := by decide +kernel
theorem dX5_come_43 : decode cX5_come 43 = .ok (.iload 4, 2) := by decide +kernel
theorem dX5_come_45 : decode cX5_come 45 = .ok (.bipush (-4), 2) := by decide +kernel
theorem dX5_come_47 : decode cX5_come 47 = .ok (.if_icmp .ne 7, 3) := by decide +kernel
theorem dX5_come_50 : decode cX5_come 50 = .ok (.iconst 0, 1) := by decide +kernel
theorem dX5_come_51 : decode cX5_come 51 = .ok (.goto 4, 3) := by decide +kernel
theorem dX5_come_54 : decode cX5_come 54 = .ok (.iconst 1, 1) := by decide +kernel
theorem dX5_come_55 : decode cX5_come 55 = .ok (.iadd, 1) := by decide +kernel
theorem dX5_come_56 : decode cX5_come 56 = .ok (.putfield 108, 3) := by decide +kernel
theorem dX5_come_59 : decode cX5_come 59 = .ok (.iload 4, 2) := by decide +kernel
theorem dX5_come_61 : decode cX5_come 61 = .ok (.ireturn, 1) := by decide +kernel
theorem dX5_go_0 : decode cX5_go 0 = .ok (.aload_n 0, 1) := by decide +kernel
theorem dX5_go_1 : decode cX5_go 1 = .ok (.iload_n 1, 1) := by decide +kernel
theorem dX5_go_2 : decode cX5_go 2 = .ok (.invokevirtual 115, 3) := by decide +kernel
theorem dX5_go_5 : decode cX5_go 5 = .ok (.ifCond .eq 15, 3) := by decide +kernel
theorem dX5_go_8 : decode cX5_go 8 = .ok (.aload_n 0, 1) := by decide +kernel
theorem dX5_go_9 : decode cX5_go 9 = .ok (.iconst 1, 1) := by decide +kernel
theorem dX5_go_10 : decode cX5_go 10 = .ok (.iload_n 1, 1) := by decide +kernel
theorem dX5_go_11 : decode cX5_go 11 = .ok (.iconst 0, 1) := by decide +kernel
theorem dX5_go_12 : decode cX5_go 12 = .ok (.iconst 0, 1) := by decide +kernel
theorem dX5_go_13 : decode cX5_go 13 = .ok (.iconst 0, 1) := by decide +kernel
theorem dX5_go_14 : decode cX5_go 14 = .ok (.invokevirtual 111, 3) := by decide +kernel
theorem dX5_go_17 : decode cX5_go 17 = .ok (.goto 5, 3) := by decide +kernel
theorem dX5_go_20 : decode cX5_go 20 = .ok (.bipush (-2), 2) := by decide +kernel
theorem dX5_go_22 : decode cX5_go 22 = .ok (.ireturn, 1) := by decide +kernel
theorem dX5_turn_0 : decode cX5_turn 0 = .ok (.aload_n 0, 1) := by decide +kernel
theorem dX5_turn_1 : decode cX5_turn 1 = .ok (.iload_n 1, 1) := by decide +kernel
theorem dX5_turn_2 : decode cX5_turn 2 = .ok (.invokevirtual 115, 3) := by decide +kernel
theorem dX5_turn_5 : decode cX5_turn 5 = .ok (.ifCond .eq 26, 3) := by decide +kernel
theorem dX5_turn_8 : decode cX5_turn 8 = .ok (.iload_n 2, 1) := by decide +kernel
theorem dX5_turn_9 : decode cX5_turn 9 = .ok (.iload_n 3, 1) := by decide +kernel
theorem dX5_turn_10 : decode cX5_turn 10 = .ok (.iload 4, 2) := by decide +kernel
theorem dX5_turn_12 : decode cX5_turn 12 = .ok (.invokestatic 105, 3) := by decide +kernel
theorem dX5_turn_15 : decode cX5_turn 15 = .ok (.ifCond .eq 16, 3) := by decide +kernel
theorem dX5_turn_18 : decode cX5_turn 18 = .ok (.aload_n 0, 1) := by decide +kernel
theorem dX5_turn_19 : decode cX5_turn 19 = .ok (.iconst 2, 1) := by decide +kernel
theorem dX5_turn_20 : decode cX5_turn 20 = .ok (.iload_n 1, 1) := by decide +kernel
theorem dX5_turn_21 : decode cX5_turn 21 = .ok (.iload_n 2, 1) := by decide +kernel
