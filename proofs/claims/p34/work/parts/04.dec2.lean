theorem dX6_init_13 : decode cX6_init 13 = .ok (.invokevirtual 15, 3) := by decide +kernel
theorem dX6_init_16 : decode cX6_init 16 = .ok (.return_, 1) := by decide +kernel
theorem dX6_reset_0 : decode cX6_reset 0 = .ok (.getstatic 18, 3) := by decide +kernel
theorem dX6_reset_3 : decode cX6_reset 3 = .ok (.aload_n 0, 1) := by decide +kernel
theorem dX6_reset_4 : decode cX6_reset 4 = .ok (.getfield 9, 3) := by decide +kernel
theorem dX6_reset_7 : decode cX6_reset 7 = .ok (.invokestatic 21, 3) := by decide +kernel
theorem dX6_reset_10 : decode cX6_reset 10 = .ok (.return_, 1) := by decide +kernel
theorem dX6_copyFrom_0 : decode cX6_copyFrom 0 = .ok (.aload_n 1, 1) := by decide +kernel
theorem dX6_copyFrom_1 : decode cX6_copyFrom 1 = .ok (.getfield 9, 3) := by decide +kernel
theorem dX6_copyFrom_4 : decode cX6_copyFrom 4 = .ok (.aload_n 0, 1) := by decide +kernel
theorem dX6_copyFrom_5 : decode cX6_copyFrom 5 = .ok (.getfield 9, 3) := by decide +kernel
theorem dX6_copyFrom_8 : decode cX6_copyFrom 8 = .ok (.invokestatic 21, 3) := by decide +kernel
theorem dX6_copyFrom_11 : decode cX6_copyFrom 11 = .ok (.return_, 1) := by decide +kernel
theorem dX6_has_0 : decode cX6_has 0 = .ok (.iload_n 0, 1) := by decide +kernel
theorem dX6_has_1 : decode cX6_has 1 = .ok (.ifCond .lt 13, 3) := by decide +kernel
theorem dX6_has_4 : decode cX6_has 4 = .ok (.iload_n 0, 1) := by decide +kernel
theorem dX6_has_5 : decode cX6_has 5 = .ok (.bipush 12, 2) := by decide +kernel
theorem dX6_has_7 : decode cX6_has 7 = .ok (.if_icmp .ge 7, 3) := by decide +kernel
theorem dX6_has_10 : decode cX6_has 10 = .ok (.iconst 1, 1) := by decide +kernel
theorem dX6_has_11 : decode cX6_has 11 = .ok (.goto 4, 3) := by decide +kernel
theorem dX6_has_14 : decode cX6_has 14 = .ok (.iconst 0, 1) := by decide +kernel
theorem dX6_has_15 : decode cX6_has 15 = .ok (.ireturn, 1) := by decide +kernel
theorem dX6_allows_0 : decode cX6_allows 0 = .ok (.iload_n 1, 1) := by decide +kernel
theorem dX6_allows_1 : decode cX6_allows 1 = .ok (.invokestatic 25, 3) := by decide +kernel
theorem dX6_allows_4 : decode cX6_allows 4 = .ok (.ifCond .eq 21, 3) := by decide +kernel
theorem dX6_allows_7 : decode cX6_allows 7 = .ok (.iload_n 2, 1) := by decide +kernel
theorem dX6_allows_8 : decode cX6_allows 8 = .ok (.getstatic 29, 3) := by decide +kernel
theorem dX6_allows_11 : decode cX6_allows 11 = .ok (.iload_n 1, 1) := by decide +kernel
theorem dX6_allows_12 : decode cX6_allows 12 = .ok (.iaload, 1) := by decide +kernel
theorem dX6_allows_13 : decode cX6_allows 13 = .ok (.if_icmp .lt 12, 3) := by decide +kernel
theorem dX6_allows_16 : decode cX6_allows 16 = .ok (.iload_n 2, 1) := by decide +kernel
theorem dX6_allows_17 : decode cX6_allows 17 = .ok (.getstatic 32, 3) := by decide +kernel
theorem dX6_allows_20 : decode cX6_allows 20 = .ok (.iload_n 1, 1) := by decide +kernel
theorem dX6_allows_21 : decode cX6_allows 21 = .ok (.iaload, 1) := by decide +kernel
theorem dX6_allows_22 : decode cX6_allows 22 = .ok (.if_icmp .le 5, 3) := by decide +kernel
theorem dX6_allows_25 : decode cX6_allows 25 = .ok (.iconst 0, 1) := by decide +kernel
theorem dX6_allows_26 : decode cX6_allows 26 = .ok (.ireturn, 1) := by decide +kernel
theorem dX6_allows_27 : decode cX6_allows 27 = .ok (.iload_n 1, 1) := by decide +kernel
theorem dX6_allows_28 : decode cX6_allows 28 = .ok (.bipush 9, 2) := by decide +kernel
theorem dX6_allows_30 : decode cX6_allows 30 = .ok (.if_icmp .ne 13, 3) := by decide +kernel
theorem dX6_allows_33 : decode cX6_allows 33 = .ok (.iload_n 2, 1) := by decide +kernel
theorem dX6_allows_34 : decode cX6_allows 34 = .ok (.aload_n 0, 1) := by decide +kernel
theorem dX6_allows_35 : decode cX6_allows 35 = .ok (.bipush 10, 2) := by decide +kernel
theorem dX6_allows_37 : decode cX6_allows 37 = .ok (.invokevirtual 35, 3) := by decide +kernel
theorem dX6_allows_40 : decode cX6_allows 40 = .ok (.if_icmp .gt 23, 3) := by decide +kernel
theorem dX6_allows_43 : decode cX6_allows 43 = .ok (.iload_n 1, 1) := by decide +kernel
theorem dX6_allows_44 : decode cX6_allows 44 = .ok (.bipush 10, 2) := by decide +kernel
theorem dX6_allows_46 : decode cX6_allows 46 = .ok (.if_icmp .ne 13, 3) := by decide +kernel
theorem dX6_allows_49 : decode cX6_allows 49 = .ok (.iload_n 2, 1) := by decide +kernel
theorem dX6_allows_50 : decode cX6_allows 50 = .ok (.aload_n 0, 1) := by decide +kernel
theorem dX6_allows_51 : decode cX6_allows 51 = .ok (.bipush 9, 2) := by decide +kernel
theorem dX6_allows_53 : decode cX6_allows 53 = .ok (.invokevirtual 35, 3) := by decide +kernel
theorem dX6_allows_56 : decode cX6_allows 56 = .ok (.if_icmp .lt 7, 3) := by decide +kernel
theorem dX6_allows_59 : decode cX6_allows 59 = .ok (.iconst 1, 1) := by decide +kernel
theorem dX6_allows_60 : decode cX6_allows 60 = .ok (.goto 4, 3) := by decide +kernel
theorem dX6_allows_63 : decode cX6_allows 63 = .ok (.iconst 0, 1) := by decide +kernel
theorem dX6_allows_64 : decode cX6_allows 64 = .ok (.ireturn, 1) := by decide +kernel
theorem dX6_value_0 : decode cX6_value 0 = .ok (.iload_n 1, 1) := by decide +kernel
theorem dX6_value_1 : decode cX6_value 1 = .ok (.invokestatic 25, 3) := by decide +kernel
theorem dX6_value_4 : decode cX6_value 4 = .ok (.ifCond .eq 12, 3) := by decide +kernel
theorem dX6_value_7 : decode cX6_value 7 = .ok (.aload_n 0, 1) := by decide +kernel
theorem dX6_value_8 : decode cX6_value 8 = .ok (.getfield 9, 3) := by decide +kernel
theorem dX6_value_11 : decode cX6_value 11 = .ok (.iload_n 1, 1) := by decide +kernel
theorem dX6_value_12 : decode cX6_value 12 = .ok (.iaload, 1) := by decide +kernel
theorem dX6_value_13 : decode cX6_value 13 = .ok (.goto 4, 3) := by decide +kernel
theorem dX6_value_16 : decode cX6_value 16 = .ok (.iconst 0, 1) := by decide +kernel
theorem dX6_value_17 : decode cX6_value 17 = .ok (.ireturn, 1) := by decide +kernel
theorem dX6_put_0 : decode cX6_put 0 = .ok (.iload_n 1, 1) := by decide +kernel
theorem dX6_put_1 : decode cX6_put 1 = .ok (.invokestatic 25, 3) := by decide +kernel
theorem dX6_put_4 : decode cX6_put 4 = .ok (.ifCond .eq 10, 3) := by decide +kernel
theorem dX6_put_7 : decode cX6_put 7 = .ok (.aload_n 0, 1) := by decide +kernel
theorem dX6_put_8 : decode cX6_put 8 = .ok (.getfield 9, 3) := by decide +kernel
theorem dX6_put_11 : decode cX6_put 11 = .ok (.iload_n 1, 1) := by decide +kernel
theorem dX6_put_12 : decode cX6_put 12 = .ok (.iload_n 2, 1) := by decide +kernel
theorem dX6_put_13 : decode cX6_put 13 = .ok (.iastore, 1) := by decide +kernel
theorem dX6_put_14 : decode cX6_put 14 = .ok (.return_, 1) := by decide +kernel
theorem dX6_needAt_0 : decode cX6_needAt 0 = .ok (.iconst 1, 1) := by decide +kernel
theorem dX6_needAt_1 : decode cX6_needAt 1 = .ok (.aload_n 0, 1) := by decide +kernel
theorem dX6_needAt_2 : decode cX6_needAt 2 = .ok (.iconst 2, 1) := by decide +kernel
theorem dX6_needAt_3 : decode cX6_needAt 3 = .ok (.invokevirtual 35, 3) := by decide +kernel
theorem dX6_needAt_6 : decode cX6_needAt 6 = .ok (.iload_n 1, 1) := by decide +kernel
theorem dX6_needAt_7 : decode cX6_needAt 7 = .ok (.aload_n 0, 1) := by decide +kernel
theorem dX6_needAt_8 : decode cX6_needAt 8 = .ok (.iconst 3, 1) := by decide +kernel
theorem dX6_needAt_9 : decode cX6_needAt 9 = .ok (.invokevirtual 35, 3) := by decide +kernel
theorem dX6_needAt_12 : decode cX6_needAt 12 = .ok (.imul, 1) := by decide +kernel
theorem dX6_needAt_13 : decode cX6_needAt 13 = .ok (.sipush 1000, 3) := by decide +kernel
theorem dX6_needAt_16 : decode cX6_needAt 16 = .ok (.idiv, 1) := by decide +kernel
theorem dX6_needAt_17 : decode cX6_needAt 17 = .ok (.isub, 1) := by decide +kernel
theorem dX6_needAt_18 : decode cX6_needAt 18 = .ok (.invokestatic 39, 3) := by decide +kernel
theorem dX6_needAt_21 : decode cX6_needAt 21 = .ok (.ireturn, 1) := by decide +kernel
theorem dX7_init_0 : decode cX7_init 0 = .ok (.aload_n 0, 1) := by decide +kernel
theorem dX7_init_1 : decode cX7_init 1 = .ok (.invokespecial 3, 3) := by decide +kernel
theorem dX7_init_4 : decode cX7_init 4 = .ok (.aload_n 0, 1) := by decide +kernel
theorem dX7_init_5 : decode cX7_init 5 = .ok (.new 9, 3) := by decide +kernel
theorem dX7_init_8 : decode cX7_init 8 = .ok (.dup, 1) := by decide +kernel
theorem dX7_init_9 : decode cX7_init 9 = .ok (.invokespecial 11, 3) := by decide +kernel
theorem dX7_init_12 : decode cX7_init 12 = .ok (.putfield 12, 3) := by decide +kernel
theorem dX7_init_15 : decode cX7_init 15 = .ok (.aload_n 0, 1) := by decide +kernel
theorem dX7_init_16 : decode cX7_init 16 = .ok (.new 18, 3) := by decide +kernel
theorem dX7_init_19 : decode cX7_init 19 = .ok (.dup, 1) := by decide +kernel
theorem dX7_init_20 : decode cX7_init 20 = .ok (.invokespecial 20, 3) := by decide +kernel
theorem dX7_init_23 : decode cX7_init 23 = .ok (.putfield 21, 3) := by decide +kernel
theorem dX7_init_26 : decode cX7_init 26 = .ok (.aload_n 0, 1) := by decide +kernel
theorem dX7_init_27 : decode cX7_init 27 = .ok (.new 25, 3) := by decide +kernel
theorem dX7_init_30 : decode cX7_init 30 = .ok (.dup, 1) := by decide +kernel
theorem dX7_init_31 : decode cX7_init 31 = .ok (.invokespecial 27, 3) := by decide +kernel
theorem dX7_init_34 : decode cX7_init 34 = .ok (.putfield 28, 3) := by decide +kernel
theorem dX7_init_37 : decode cX7_init 37 = .ok (.aload_n 0, 1) := by decide +kernel
theorem dX7_init_38 : decode cX7_init 38 = .ok (.new 32, 3) := by decide +kernel
theorem dX7_init_41 : decode cX7_init 41 = .ok (.dup, 1) := by decide +kernel
theorem dX7_init_42 : decode cX7_init 42 = .ok (.invokespecial 34, 3) := by decide +kernel
theorem dX7_init_45 : decode cX7_init 45 = .ok (.putfield 35, 3) := by decide +kernel
theorem dX7_init_48 : decode cX7_init 48 = .ok (.aload_n 0, 1) := by decide +kernel
theorem dX7_init_49 : decode cX7_init 49 = .ok (.new 39, 3) := by decide +kernel
theorem dX7_init_52 : decode cX7_init 52 = .ok (.dup, 1) := by decide +kernel
theorem dX7_init_53 : decode cX7_init 53 = .ok (.invokespecial 41, 3) := by decide +kernel
theorem dX7_init_56 : decode cX7_init 56 = .ok (.putfield 42, 3) := by decide +kernel
theorem dX7_init_59 : decode cX7_init 59 = .ok (.aload_n 0, 1) := by decide +kernel
theorem dX7_init_60 : decode cX7_init 60 = .ok (.new 46, 3) := by decide +kernel
theorem dX7_init_63 : decode cX7_init 63 = .ok (.dup, 1) := by decide +kernel
theorem dX7_init_64 : decode cX7_init 64 = .ok (.invokespecial 48, 3) := by decide +kernel
theorem dX7_init_67 : decode cX7_init 67 = .ok (.putfield 49, 3) := by decide +kernel
theorem dX7_init_70 : decode cX7_init 70 = .ok (.aload_n 0, 1) := by decide +kernel
theorem dX7_init_71 : decode cX7_init 71 = .ok (.new 46, 3) := by decide +kernel
theorem dX7_init_74 : decode cX7_init 74 = .ok (.dup, 1) := by decide +kernel
theorem dX7_init_75 : decode cX7_init 75 = .ok (.invokespecial 48, 3) := by decide +kernel
theorem dX7_init_78 : decode cX7_init 78 = .ok (.putfield 53, 3) := by decide +kernel
theorem dX7_init_81 : decode cX7_init 81 = .ok (.return_, 1) := by decide +kernel
theorem dX7_copyFrom_0 : decode cX7_copyFrom 0 = .ok (.aload_n 0, 1) := by decide +kernel
theorem dX7_copyFrom_1 : decode cX7_copyFrom 1 = .ok (.getfield 12, 3) := by decide +kernel
theorem dX7_copyFrom_4 : decode cX7_copyFrom 4 = .ok (.aload_n 1, 1) := by decide +kernel
theorem dX7_copyFrom_5 : decode cX7_copyFrom 5 = .ok (.getfield 12, 3) := by decide +kernel
theorem dX7_copyFrom_8 : decode cX7_copyFrom 8 = .ok (.invokevirtual 56, 3) := by decide +kernel
theorem dX7_copyFrom_11 : decode cX7_copyFrom 11 = .ok (.aload_n 0, 1) := by decide +kernel
theorem dX7_copyFrom_12 : decode cX7_copyFrom 12 = .ok (.getfield 21, 3) := by decide +kernel
theorem dX7_copyFrom_15 : decode cX7_copyFrom 15 = .ok (.aload_n 1, 1) := by decide +kernel
theorem dX7_copyFrom_16 : decode cX7_copyFrom 16 = .ok (.getfield 21, 3) := by decide +kernel
theorem dX7_copyFrom_19 : decode cX7_copyFrom 19 = .ok (.invokevirtual 60, 3) := by decide +kernel
theorem dX7_copyFrom_22 : decode cX7_copyFrom 22 = .ok (.aload_n 0, 1) := by decide +kernel
theorem dX7_copyFrom_23 : decode cX7_copyFrom 23 = .ok (.getfield 28, 3) := by decide +kernel
theorem dX7_copyFrom_26 : decode cX7_copyFrom 26 = .ok (.aload_n 1, 1) := by decide +kernel
theorem dX7_copyFrom_27 : decode cX7_copyFrom 27 = .ok (.getfield 28, 3) := by decide +kernel
theorem dX7_copyFrom_30 : decode cX7_copyFrom 30 = .ok (.invokevirtual 63, 3) := by decide +kernel
theorem dX7_copyFrom_33 : decode cX7_copyFrom 33 = .ok (.aload_n 0, 1) := by decide +kernel
theorem dX7_copyFrom_34 : decode cX7_copyFrom 34 = .ok (.getfield 35, 3) := by decide +kernel
theorem dX7_copyFrom_37 : decode cX7_copyFrom 37 = .ok (.aload_n 1, 1) := by decide +kernel
theorem dX7_copyFrom_38 : decode cX7_copyFrom 38 = .ok (.getfield 35, 3) := by decide +kernel
theorem dX7_copyFrom_41 : decode cX7_copyFrom 41 = .ok (.invokevirtual 66, 3) := by decide +kernel
theorem dX7_copyFrom_44 : decode cX7_copyFrom 44 = .ok (.aload_n 0, 1) := by decide +kernel
theorem dX7_copyFrom_45 : decode cX7_copyFrom 45 = .ok (.getfield 42, 3) := by decide +kernel
theorem dX7_copyFrom_48 : decode cX7_copyFrom 48 = .ok (.aload_n 1, 1) := by decide +kernel
theorem dX7_copyFrom_49 : decode cX7_copyFrom 49 = .ok (.getfield 42, 3) := by decide +kernel
theorem dX7_copyFrom_52 : decode cX7_copyFrom 52 = .ok (.invokevirtual 69, 3) := by decide +kernel
theorem dX7_copyFrom_55 : decode cX7_copyFrom 55 = .ok (.aload_n 0, 1) := by decide +kernel
theorem dX7_copyFrom_56 : decode cX7_copyFrom 56 = .ok (.getfield 49, 3) := by decide +kernel
theorem dX7_copyFrom_59 : decode cX7_copyFrom 59 = .ok (.aload_n 1, 1) := by decide +kernel
theorem dX7_copyFrom_60 : decode cX7_copyFrom 60 = .ok (.getfield 49, 3) := by decide +kernel
theorem dX7_copyFrom_63 : decode cX7_copyFrom 63 = .ok (.invokevirtual 72, 3) := by decide +kernel
theorem dX7_copyFrom_66 : decode cX7_copyFrom 66 = .ok (.aload_n 0, 1) := by decide +kernel
theorem dX7_copyFrom_67 : decode cX7_copyFrom 67 = .ok (.getfield 53, 3) := by decide +kernel
theorem dX7_copyFrom_70 : decode cX7_copyFrom 70 = .ok (.aload_n 1, 1) := by decide +kernel
theorem dX7_copyFrom_71 : decode cX7_copyFrom 71 = .ok (.getfield 53, 3) := by decide +kernel
theorem dX7_copyFrom_74 : decode cX7_copyFrom 74 = .ok (.invokevirtual 72, 3) := by decide +kernel
theorem dX7_copyFrom_77 : decode cX7_copyFrom 77 = .ok (.return_, 1) := by decide +kernel
theorem dX7_startAgain_0 : decode cX7_startAgain 0 = .ok (.aload_n 0, 1) := by decide +kernel
theorem dX7_startAgain_1 : decode cX7_startAgain 1 = .ok (.getfield 12, 3) := by decide +kernel
theorem dX7_startAgain_4 : decode cX7_startAgain 4 = .ok (.getfield 75, 3) := by decide +kernel
theorem dX7_startAgain_7 : decode cX7_startAgain 7 = .ok (.istore_n 2, 1) := by decide +kernel
theorem dX7_startAgain_8 : decode cX7_startAgain 8 = .ok (.aload_n 0, 1) := by decide +kernel
theorem dX7_startAgain_9 : decode cX7_startAgain 9 = .ok (.getfield 12, 3) := by decide +kernel
theorem dX7_startAgain_12 : decode cX7_startAgain 12 = .ok (.invokevirtual 79, 3) := by decide +kernel
theorem dX7_startAgain_15 : decode cX7_startAgain 15 = .ok (.aload_n 0, 1) := by decide +kernel
theorem dX7_startAgain_16 : decode cX7_startAgain 16 = .ok (.getfield 12, 3) := by decide +kernel
theorem dX7_startAgain_19 : decode cX7_startAgain 19 = .ok (.iload_n 1, 1) := by decide +kernel
theorem dX7_startAgain_20 : decode cX7_startAgain 20 = .ok (.putfield 82, 3) := by decide +kernel
theorem dX7_startAgain_23 : decode cX7_startAgain 23 = .ok (.aload_n 0, 1) := by decide +kernel
theorem dX7_startAgain_24 : decode cX7_startAgain 24 = .ok (.getfield 12, 3) := by decide +kernel
theorem dX7_startAgain_27 : decode cX7_startAgain 27 = .ok (.iload_n 2, 1) := by decide +kernel
theorem dX7_startAgain_28 : decode cX7_startAgain 28 = .ok (.putfield 75, 3) := by decide +kernel
theorem dX7_startAgain_31 : decode cX7_startAgain 31 = .ok (.aload_n 0, 1) := by decide +kernel
theorem dX7_startAgain_32 : decode cX7_startAgain 32 = .ok (.getfield 21, 3) := by decide +kernel
theorem dX7_startAgain_35 : decode cX7_startAgain 35 = .ok (.invokevirtual 85, 3) := by decide +kernel
theorem dX7_startAgain_38 : decode cX7_startAgain 38 = .ok (.aload_n 0, 1) := by decide +kernel
theorem dX7_startAgain_39 : decode cX7_startAgain 39 = .ok (.getfield 28, 3) := by decide +kernel
theorem dX7_startAgain_42 : decode cX7_startAgain 42 = .ok (.invokevirtual 86, 3) := by decide +kernel
theorem dX7_startAgain_45 : decode cX7_startAgain 45 = .ok (.aload_n 0, 1) := by decide +kernel
theorem dX7_startAgain_46 : decode cX7_startAgain 46 = .ok (.getfield 35, 3) := by decide +kernel
theorem dX7_startAgain_49 : decode cX7_startAgain 49 = .ok (.invokevirtual 87, 3) := by decide +kernel
theorem dX7_startAgain_52 : decode cX7_startAgain 52 = .ok (.aload_n 0, 1) := by decide +kernel
theorem dX7_startAgain_53 : decode cX7_startAgain 53 = .ok (.getfield 42, 3) := by decide +kernel
theorem dX7_startAgain_56 : decode cX7_startAgain 56 = .ok (.invokevirtual 88, 3) := by decide +kernel
theorem dX7_startAgain_59 : decode cX7_startAgain 59 = .ok (.aload_n 0, 1) := by decide +kernel
theorem dX7_startAgain_60 : decode cX7_startAgain 60 = .ok (.getfield 49, 3) := by decide +kernel
theorem dX7_startAgain_63 : decode cX7_startAgain 63 = .ok (.invokevirtual 89, 3) := by decide +kernel
theorem dX7_startAgain_66 : decode cX7_startAgain 66 = .ok (.aload_n 0, 1) := by decide +kernel
theorem dX7_startAgain_67 : decode cX7_startAgain 67 = .ok (.getfield 53, 3) := by decide +kernel
theorem dX7_startAgain_70 : decode cX7_startAgain 70 = .ok (.invokevirtual 89, 3) := by decide +kernel
theorem dX7_startAgain_73 : decode cX7_startAgain 73 = .ok (.return_, 1) := by decide +kernel
theorem dX7_change_0 : decode cX7_change 0 = .ok (.aload_n 0, 1) := by decide +kernel
theorem dX7_change_1 : decode cX7_change 1 = .ok (.getfield 21, 3) := by decide +kernel
theorem dX7_change_4 : decode cX7_change 4 = .ok (.iload_n 1, 1) := by decide +kernel
theorem dX7_change_5 : decode cX7_change 5 = .ok (.iload_n 2, 1) := by decide +kernel
theorem dX7_change_6 : decode cX7_change 6 = .ok (.invokevirtual 90, 3) := by decide +kernel
theorem dX7_change_9 : decode cX7_change 9 = .ok (.iload_n 1, 1) := by decide +kernel
theorem dX7_change_10 : decode cX7_change 10 = .ok (.bipush 6, 2) := by decide +kernel
theorem dX7_change_12 : decode cX7_change 12 = .ok (.if_icmp .ne 11, 3) := by decide +kernel
theorem dX7_change_15 : decode cX7_change 15 = .ok (.aload_n 0, 1) := by decide +kernel
theorem dX7_change_16 : decode cX7_change 16 = .ok (.getfield 42, 3) := by decide +kernel
theorem dX7_change_19 : decode cX7_change 19 = .ok (.iload_n 2, 1) := by decide +kernel
theorem dX7_change_20 : decode cX7_change 20 = .ok (.invokevirtual 94, 3) := by decide +kernel
theorem dX7_change_23 : decode cX7_change 23 = .ok (.return_, 1) := by decide +kernel
theorem dX7_takeShots_0 : decode cX7_takeShots 0 = .ok (.iconst 0, 1) := by decide +kernel
theorem dX7_takeShots_1 : decode cX7_takeShots 1 = .ok (.istore_n 2, 1) := by decide +kernel
theorem dX7_takeShots_2 : decode cX7_takeShots 2 = .ok (.iload_n 2, 1) := by decide +kernel
theorem dX7_takeShots_3 : decode cX7_takeShots 3 = .ok (.iload_n 1, 1) := by decide +kernel
theorem dX7_takeShots_4 : decode cX7_takeShots 4 = .ok (.if_icmp .ge 113, 3) := by decide +kernel
theorem dX7_takeShots_7 : decode cX7_takeShots 7 = .ok (.aload_n 0, 1) := by decide +kernel
theorem dX7_takeShots_8 : decode cX7_takeShots 8 = .ok (.invokevirtual 98, 3) := by decide +kernel
theorem dX7_takeShots_11 : decode cX7_takeShots 11 = .ok (.aload_n 0, 1) := by decide +kernel
theorem dX7_takeShots_12 : decode cX7_takeShots 12 = .ok (.invokevirtual 101, 3) := by decide +kernel
theorem dX7_takeShots_15 : decode cX7_takeShots 15 = .ok (.aload_n 0, 1) := by decide +kernel
theorem dX7_takeShots_16 : decode cX7_takeShots 16 = .ok (.getfield 21, 3) := by decide +kernel
theorem dX7_takeShots_19 : decode cX7_takeShots 19 = .ok (.iconst 4, 1) := by decide +kernel
theorem dX7_takeShots_20 : decode cX7_takeShots 20 = .ok (.invokevirtual 104, 3) := by decide +kernel
theorem dX7_takeShots_23 : decode cX7_takeShots 23 = .ok (.iconst 1, 1) := by decide +kernel
theorem dX7_takeShots_24 : decode cX7_takeShots 24 = .ok (.if_icmp .ne 7, 3) := by decide +kernel
theorem dX7_takeShots_27 : decode cX7_takeShots 27 = .ok (.aload_n 0, 1) := by decide +kernel
theorem dX7_takeShots_28 : decode cX7_takeShots 28 = .ok (.invokevirtual 108, 3) := by decide +kernel
theorem dX7_takeShots_31 : decode cX7_takeShots 31 = .ok (.aload_n 0, 1) := by decide +kernel
theorem dX7_takeShots_32 : decode cX7_takeShots 32 = .ok (.getfield 35, 3) := by decide +kernel
theorem dX7_takeShots_35 : decode cX7_takeShots 35 = .ok (.aload_n 0, 1) := by decide +kernel
theorem dX7_takeShots_36 : decode cX7_takeShots 36 = .ok (.getfield 21, 3) := by decide +kernel
theorem dX7_takeShots_39 : decode cX7_takeShots 39 = .ok (.iconst 5, 1) := by decide +kernel
theorem dX7_takeShots_40 : decode cX7_takeShots 40 = .ok (.invokevirtual 104, 3) := by decide +kernel
theorem dX7_takeShots_43 : decode cX7_takeShots 43 = .ok (.aload_n 0, 1) := by decide +kernel
theorem dX7_takeShots_44 : decode cX7_takeShots 44 = .ok (.getfield 42, 3) := by decide +kernel
theorem dX7_takeShots_47 : decode cX7_takeShots 47 = .ok (.getfield 111, 3) := by decide +kernel
theorem dX7_takeShots_50 : decode cX7_takeShots 50 = .ok (.invokevirtual 114, 3) := by decide +kernel
theorem dX7_takeShots_53 : decode cX7_takeShots 53 = .ok (.istore_n 3, 1) := by decide +kernel
theorem dX7_takeShots_54 : decode cX7_takeShots 54 = .ok (.aload_n 0, 1) := by decide +kernel
theorem dX7_takeShots_55 : decode cX7_takeShots 55 = .ok (.getfield 35, 3) := by decide +kernel
theorem dX7_takeShots_58 : decode cX7_takeShots 58 = .ok (.iload_n 3, 1) := by decide +kernel
theorem dX7_takeShots_59 : decode cX7_takeShots 59 = .ok (.iconst 4, 1) := by decide +kernel
theorem dX7_takeShots_60 : decode cX7_takeShots 60 = .ok (.invokevirtual 118, 3) := by decide +kernel
theorem dX7_takeShots_63 : decode cX7_takeShots 63 = .ok (.aload_n 0, 1) := by decide +kernel
theorem dX7_takeShots_64 : decode cX7_takeShots 64 = .ok (.getfield 53, 3) := by decide +kernel
theorem dX7_takeShots_67 : decode cX7_takeShots 67 = .ok (.aload_n 0, 1) := by decide +kernel
theorem dX7_takeShots_68 : decode cX7_takeShots 68 = .ok (.getfield 49, 3) := by decide +kernel
theorem dX7_takeShots_71 : decode cX7_takeShots 71 = .ok (.invokevirtual 72, 3) := by decide +kernel
theorem dX7_takeShots_74 : decode cX7_takeShots 74 = .ok (.aload_n 0, 1) := by decide +kernel
theorem dX7_takeShots_75 : decode cX7_takeShots 75 = .ok (.getfield 49, 3) := by decide +kernel
theorem dX7_takeShots_78 : decode cX7_takeShots 78 = .ok (.aload_n 0, 1) := by decide +kernel
theorem dX7_takeShots_79 : decode cX7_takeShots 79 = .ok (.getfield 35, 3) := by decide +kernel
theorem dX7_takeShots_82 : decode cX7_takeShots 82 = .ok (.invokevirtual 121, 3) := by decide +kernel
theorem dX7_takeShots_85 : decode cX7_takeShots 85 = .ok (.aload_n 0, 1) := by decide +kernel
theorem dX7_takeShots_86 : decode cX7_takeShots 86 = .ok (.getfield 42, 3) := by decide +kernel
theorem dX7_takeShots_89 : decode cX7_takeShots 89 = .ok (.aload_n 0, 1) := by decide +kernel
theorem dX7_takeShots_90 : decode cX7_takeShots 90 = .ok (.getfield 35, 3) := by decide +kernel
theorem dX7_takeShots_93 : decode cX7_takeShots 93 = .ok (.iload_n 3, 1) := by decide +kernel
theorem dX7_takeShots_94 : decode cX7_takeShots 94 = .ok (.invokevirtual 124, 3) := by decide +kernel
theorem dX7_takeShots_97 : decode cX7_takeShots 97 = .ok (.aload_n 0, 1) := by decide +kernel
theorem dX7_takeShots_98 : decode cX7_takeShots 98 = .ok (.getfield 21, 3) := by decide +kernel
theorem dX7_takeShots_101 : decode cX7_takeShots 101 = .ok (.aload_n 0, 1) := by decide +kernel
theorem dX7_takeShots_102 : decode cX7_takeShots 102 = .ok (.getfield 12, 3) := by decide +kernel
theorem dX7_takeShots_105 : decode cX7_takeShots 105 = .ok (.getfield 82, 3) := by decide +kernel
theorem dX7_takeShots_108 : decode cX7_takeShots 108 = .ok (.invokevirtual 127, 3) := by decide +kernel
theorem dX7_takeShots_111 : decode cX7_takeShots 111 = .ok (.iinc 2 1, 3) := by decide +kernel
theorem dX7_takeShots_114 : decode cX7_takeShots 114 = .ok (.goto (-112), 3) := by decide +kernel
theorem dX7_takeShots_117 : decode cX7_takeShots 117 = .ok (.return_, 1) := by decide +kernel
theorem dX7_learnFalseEchoes_0 : decode cX7_learnFalseEchoes 0 = .ok (.iconst 0, 1) := by decide +kernel
theorem dX7_learnFalseEchoes_1 : decode cX7_learnFalseEchoes 1 = .ok (.istore_n 2, 1) := by decide +kernel
theorem dX7_learnFalseEchoes_2 : decode cX7_learnFalseEchoes 2 = .ok (.iload_n 2, 1) := by decide +kernel
theorem dX7_learnFalseEchoes_3 : decode cX7_learnFalseEchoes 3 = .ok (.iload_n 1, 1) := by decide +kernel
theorem dX7_learnFalseEchoes_4 : decode cX7_learnFalseEchoes 4 = .ok (.if_icmp .ge 76, 3) := by decide +kernel
theorem dX7_learnFalseEchoes_7 : decode cX7_learnFalseEchoes 7 = .ok (.aload_n 0, 1) := by decide +kernel
theorem dX7_learnFalseEchoes_8 : decode cX7_learnFalseEchoes 8 = .ok (.invokevirtual 98, 3) := by decide +kernel
theorem dX7_learnFalseEchoes_11 : decode cX7_learnFalseEchoes 11 = .ok (.iconst 0, 1) := by decide +kernel
theorem dX7_learnFalseEchoes_12 : decode cX7_learnFalseEchoes 12 = .ok (.istore_n 3, 1) := by decide +kernel
theorem dX7_learnFalseEchoes_13 : decode cX7_learnFalseEchoes 13 = .ok (.iload_n 3, 1) := by decide +kernel
theorem dX7_learnFalseEchoes_14 : decode cX7_learnFalseEchoes 14 = .ok (.aload_n 0, 1) := by decide +kernel
theorem dX7_learnFalseEchoes_15 : decode cX7_learnFalseEchoes 15 = .ok (.getfield 35, 3) := by decide +kernel
theorem dX7_learnFalseEchoes_18 : decode cX7_learnFalseEchoes 18 = .ok (.getfield 131, 3) := by decide +kernel
theorem dX7_learnFalseEchoes_21 : decode cX7_learnFalseEchoes 21 = .ok (.if_icmp .ge 53, 3) := by decide +kernel
theorem dX7_learnFalseEchoes_24 : decode cX7_learnFalseEchoes 24 = .ok (.aload_n 0, 1) := by decide +kernel
theorem dX7_learnFalseEchoes_25 : decode cX7_learnFalseEchoes 25 = .ok (.getfield 35, 3) := by decide +kernel
theorem dX7_learnFalseEchoes_28 : decode cX7_learnFalseEchoes 28 = .ok (.iload_n 3, 1) := by decide +kernel
theorem dX7_learnFalseEchoes_29 : decode cX7_learnFalseEchoes 29 = .ok (.invokevirtual 124, 3) := by decide +kernel
theorem dX7_learnFalseEchoes_32 : decode cX7_learnFalseEchoes 32 = .ok (.istore 4, 2) := by decide +kernel
theorem dX7_learnFalseEchoes_34 : decode cX7_learnFalseEchoes 34 = .ok (.aload_n 0, 1) := by decide +kernel
theorem dX7_learnFalseEchoes_35 : decode cX7_learnFalseEchoes 35 = .ok (.getfield 35, 3) := by decide +kernel
theorem dX7_learnFalseEchoes_38 : decode cX7_learnFalseEchoes 38 = .ok (.iload_n 3, 1) := by decide +kernel
theorem dX7_learnFalseEchoes_39 : decode cX7_learnFalseEchoes 39 = .ok (.invokevirtual 134, 3) := by decide +kernel
theorem dX7_learnFalseEchoes_42 : decode cX7_learnFalseEchoes 42 = .ok (.iconst 1, 1) := by decide +kernel
theorem dX7_learnFalseEchoes_43 : decode cX7_learnFalseEchoes 43 = .ok (.if_icmp .gt 25, 3) := by decide +kernel
theorem dX7_learnFalseEchoes_46 : decode cX7_learnFalseEchoes 46 = .ok (.iload 4, 2) := by decide +kernel
theorem dX7_learnFalseEchoes_48 : decode cX7_learnFalseEchoes 48 = .ok (.aload_n 0, 1) := by decide +kernel
theorem dX7_learnFalseEchoes_49 : decode cX7_learnFalseEchoes 49 = .ok (.getfield 12, 3) := by decide +kernel
theorem dX7_learnFalseEchoes_52 : decode cX7_learnFalseEchoes 52 = .ok (.getfield 82, 3) := by decide +kernel
theorem dX7_learnFalseEchoes_55 : decode cX7_learnFalseEchoes 55 = .ok (.if_icmp .gt 13, 3) := by decide +kernel
theorem dX7_learnFalseEchoes_58 : decode cX7_learnFalseEchoes 58 = .ok (.aload_n 0, 1) := by decide +kernel
theorem dX7_learnFalseEchoes_59 : decode cX7_learnFalseEchoes 59 = .ok (.getfield 28, 3) := by decide +kernel
theorem dX7_learnFalseEchoes_62 : decode cX7_learnFalseEchoes 62 = .ok (.iload 4, 2) := by decide +kernel
theorem dX7_learnFalseEchoes_64 : decode cX7_learnFalseEchoes 64 = .ok (.iconst 1, 1) := by decide +kernel
theorem dX7_learnFalseEchoes_65 : decode cX7_learnFalseEchoes 65 = .ok (.invokevirtual 137, 3) := by decide +kernel
theorem dX7_learnFalseEchoes_68 : decode cX7_learnFalseEchoes 68 = .ok (.iinc 3 1, 3) := by decide +kernel
theorem dX7_learnFalseEchoes_71 : decode cX7_learnFalseEchoes 71 = .ok (.goto (-58), 3) := by decide +kernel
theorem dX7_learnFalseEchoes_74 : decode cX7_learnFalseEchoes 74 = .ok (.iinc 2 1, 3) := by decide +kernel
theorem dX7_learnFalseEchoes_77 : decode cX7_learnFalseEchoes 77 = .ok (.goto (-75), 3) := by decide +kernel
theorem dX7_learnFalseEchoes_80 : decode cX7_learnFalseEchoes 80 = .ok (.return_, 1) := by decide +kernel
theorem dX7_send_0 : decode cX7_send 0 = .ok (.aload_n 0, 1) := by decide +kernel
theorem dX7_send_1 : decode cX7_send 1 = .ok (.getfield 12, 3) := by decide +kernel
theorem dX7_send_4 : decode cX7_send 4 = .ok (.invokevirtual 140, 3) := by decide +kernel
theorem dX7_send_7 : decode cX7_send 7 = .ok (.aload_n 0, 1) := by decide +kernel
theorem dX7_send_8 : decode cX7_send 8 = .ok (.getfield 35, 3) := by decide +kernel
theorem dX7_send_11 : decode cX7_send 11 = .ok (.invokevirtual 87, 3) := by decide +kernel
theorem dX7_send_14 : decode cX7_send 14 = .ok (.aload_n 0, 1) := by decide +kernel
theorem dX7_send_15 : decode cX7_send 15 = .ok (.getfield 12, 3) := by decide +kernel
theorem dX7_send_18 : decode cX7_send 18 = .ok (.getfield 82, 3) := by decide +kernel
theorem dX7_send_21 : decode cX7_send 21 = .ok (.aload_n 0, 1) := by decide +kernel
theorem dX7_send_22 : decode cX7_send 22 = .ok (.getfield 12, 3) := by decide +kernel
theorem dX7_send_25 : decode cX7_send 25 = .ok (.getfield 143, 3) := by decide +kernel
theorem dX7_send_28 : decode cX7_send 28 = .ok (.isub, 1) := by decide +kernel
theorem dX7_send_29 : decode cX7_send 29 = .ok (.istore_n 1, 1) := by decide +kernel
theorem dX7_send_30 : decode cX7_send 30 = .ok (.iconst 0, 1) := by decide +kernel
theorem dX7_send_31 : decode cX7_send 31 = .ok (.istore_n 2, 1) := by decide +kernel
theorem dX7_send_32 : decode cX7_send 32 = .ok (.iload_n 2, 1) := by decide +kernel
theorem dX7_send_33 : decode cX7_send 33 = .ok (.aload_n 0, 1) := by decide +kernel
theorem dX7_send_34 : decode cX7_send 34 = .ok (.getfield 12, 3) := by decide +kernel
theorem dX7_send_37 : decode cX7_send 37 = .ok (.getfield 146, 3) := by decide +kernel
theorem dX7_send_40 : decode cX7_send 40 = .ok (.if_icmp .ge 45, 3) := by decide +kernel
theorem dX7_send_43 : decode cX7_send 43 = .ok (.aload_n 0, 1) := by decide +kernel
theorem dX7_send_44 : decode cX7_send 44 = .ok (.getfield 12, 3) := by decide +kernel
theorem dX7_send_47 : decode cX7_send 47 = .ok (.iload_n 2, 1) := by decide +kernel
theorem dX7_send_48 : decode cX7_send 48 = .ok (.invokevirtual 149, 3) := by decide +kernel
theorem dX7_send_51 : decode cX7_send 51 = .ok (.iload_n 1, 1) := by decide +kernel
theorem dX7_send_52 : decode cX7_send 52 = .ok (.if_icmp .ge 27, 3) := by decide +kernel
theorem dX7_send_55 : decode cX7_send 55 = .ok (.aload_n 0, 1) := by decide +kernel
theorem dX7_send_56 : decode cX7_send 56 = .ok (.getfield 35, 3) := by decide +kernel
theorem dX7_send_59 : decode cX7_send 59 = .ok (.iconst 0, 1) := by decide +kernel
theorem dX7_send_60 : decode cX7_send 60 = .ok (.aload_n 0, 1) := by decide +kernel
theorem dX7_send_61 : decode cX7_send 61 = .ok (.getfield 12, 3) := by decide +kernel
theorem dX7_send_64 : decode cX7_send 64 = .ok (.iload_n 2, 1) := by decide +kernel
theorem dX7_send_65 : decode cX7_send 65 = .ok (.invokevirtual 149, 3) := by decide +kernel
theorem dX7_send_68 : decode cX7_send 68 = .ok (.aload_n 0, 1) := by decide +kernel
theorem dX7_send_69 : decode cX7_send 69 = .ok (.getfield 12, 3) := by decide +kernel
theorem dX7_send_72 : decode cX7_send 72 = .ok (.iload_n 2, 1) := by decide +kernel
theorem dX7_send_73 : decode cX7_send 73 = .ok (.invokevirtual 152, 3) := by decide +kernel
theorem dX7_send_76 : decode cX7_send 76 = .ok (.invokevirtual 155, 3) := by decide +kernel
theorem dX7_send_79 : decode cX7_send 79 = .ok (.iinc 2 1, 3) := by decide +kernel
theorem dX7_send_82 : decode cX7_send 82 = .ok (.goto (-50), 3) := by decide +kernel
theorem dX7_send_85 : decode cX7_send 85 = .ok (.aload_n 0, 1) := by decide +kernel
theorem dX7_send_86 : decode cX7_send 86 = .ok (.iload_n 1, 1) := by decide +kernel
theorem dX7_send_87 : decode cX7_send 87 = .ok (.invokevirtual 159, 3) := by decide +kernel
theorem dX7_send_90 : decode cX7_send 90 = .ok (.istore_n 2, 1) := by decide +kernel
theorem dX7_send_91 : decode cX7_send 91 = .ok (.aload_n 0, 1) := by decide +kernel
theorem dX7_send_92 : decode cX7_send 92 = .ok (.getfield 12, 3) := by decide +kernel
theorem dX7_send_95 : decode cX7_send 95 = .ok (.getfield 163, 3) := by decide +kernel
theorem dX7_send_98 : decode cX7_send 98 = .ok (.ifCond .le 42, 3) := by decide +kernel
theorem dX7_send_101 : decode cX7_send 101 = .ok (.aload_n 0, 1) := by decide +kernel
theorem dX7_send_102 : decode cX7_send 102 = .ok (.getfield 35, 3) := by decide +kernel
theorem dX7_send_105 : decode cX7_send 105 = .ok (.iconst 2, 1) := by decide +kernel
theorem dX7_send_106 : decode cX7_send 106 = .ok (.iconst 0, 1) := by decide +kernel
theorem dX7_send_107 : decode cX7_send 107 = .ok (.iload_n 1, 1) := by decide +kernel
theorem dX7_send_108 : decode cX7_send 108 = .ok (.aload_n 0, 1) := by decide +kernel
theorem dX7_send_109 : decode cX7_send 109 = .ok (.getfield 12, 3) := by decide +kernel
theorem dX7_send_112 : decode cX7_send 112 = .ok (.getfield 163, 3) := by decide +kernel
theorem dX7_send_115 : decode cX7_send 115 = .ok (.isub, 1) := by decide +kernel
theorem dX7_send_116 : decode cX7_send 116 = .ok (.invokestatic 166, 3) := by decide +kernel
theorem dX7_send_119 : decode cX7_send 119 = .ok (.bipush 10, 2) := by decide +kernel
theorem dX7_send_121 : decode cX7_send 121 = .ok (.bipush 70, 2) := by decide +kernel
theorem dX7_send_123 : decode cX7_send 123 = .ok (.aload_n 0, 1) := by decide +kernel
theorem dX7_send_124 : decode cX7_send 124 = .ok (.getfield 12, 3) := by decide +kernel
theorem dX7_send_127 : decode cX7_send 127 = .ok (.getfield 163, 3) := by decide +kernel
theorem dX7_send_130 : decode cX7_send 130 = .ok (.bipush 10, 2) := by decide +kernel
theorem dX7_send_132 : decode cX7_send 132 = .ok (.idiv, 1) := by decide +kernel
theorem dX7_send_133 : decode cX7_send 133 = .ok (.isub, 1) := by decide +kernel
theorem dX7_send_134 : decode cX7_send 134 = .ok (.invokestatic 166, 3) := by decide +kernel
theorem dX7_send_137 : decode cX7_send 137 = .ok (.invokevirtual 155, 3) := by decide +kernel
theorem dX7_send_140 : decode cX7_send 140 = .ok (.iload_n 2, 1) := by decide +kernel
theorem dX7_send_141 : decode cX7_send 141 = .ok (.ifCond .ne 44, 3) := by decide +kernel
theorem dX7_send_144 : decode cX7_send 144 = .ok (.iconst 0, 1) := by decide +kernel
theorem dX7_send_145 : decode cX7_send 145 = .ok (.bipush 80, 2) := by decide +kernel
theorem dX7_send_147 : decode cX7_send 147 = .ok (.aload_n 0, 1) := by decide +kernel
theorem dX7_send_148 : decode cX7_send 148 = .ok (.getfield 12, 3) := by decide +kernel
theorem dX7_send_151 : decode cX7_send 151 = .ok (.getfield 163, 3) := by decide +kernel
theorem dX7_send_154 : decode cX7_send 154 = .ok (.iconst 5, 1) := by decide +kernel
theorem dX7_send_155 : decode cX7_send 155 = .ok (.idiv, 1) := by decide +kernel
theorem dX7_send_156 : decode cX7_send 156 = .ok (.isub, 1) := by decide +kernel
theorem dX7_send_157 : decode cX7_send 157 = .ok (.invokestatic 166, 3) := by decide +kernel
theorem dX7_send_160 : decode cX7_send 160 = .ok (.istore_n 3, 1) := by decide +kernel
theorem dX7_send_161 : decode cX7_send 161 = .ok (.aload_n 0, 1) := by decide +kernel
theorem dX7_send_162 : decode cX7_send 162 = .ok (.getfield 35, 3) := by decide +kernel
theorem dX7_send_165 : decode cX7_send 165 = .ok (.iconst 3, 1) := by decide +kernel
theorem dX7_send_166 : decode cX7_send 166 = .ok (.iload_n 1, 1) := by decide +kernel
theorem dX7_send_167 : decode cX7_send 167 = .ok (.iload_n 3, 1) := by decide +kernel
theorem dX7_send_168 : decode cX7_send 168 = .ok (.invokevirtual 155, 3) := by decide +kernel
theorem dX7_send_171 : decode cX7_send 171 = .ok (.aload_n 0, 1) := by decide +kernel
theorem dX7_send_172 : decode cX7_send 172 = .ok (.getfield 35, 3) := by decide +kernel
theorem dX7_send_175 : decode cX7_send 175 = .ok (.iconst 4, 1) := by decide +kernel
theorem dX7_send_176 : decode cX7_send 176 = .ok (.iconst 2, 1) := by decide +kernel
theorem dX7_send_177 : decode cX7_send 177 = .ok (.iload_n 1, 1) := by decide +kernel
theorem dX7_send_178 : decode cX7_send 178 = .ok (.imul, 1) := by decide +kernel
theorem dX7_send_179 : decode cX7_send 179 = .ok (.iload_n 3, 1) := by decide +kernel
theorem dX7_send_180 : decode cX7_send 180 = .ok (.iconst 2, 1) := by decide +kernel
theorem dX7_send_181 : decode cX7_send 181 = .ok (.idiv, 1) := by decide +kernel
theorem dX7_send_182 : decode cX7_send 182 = .ok (.invokevirtual 155, 3) := by decide +kernel
theorem dX7_send_185 : decode cX7_send 185 = .ok (.aload_n 0, 1) := by decide +kernel
theorem dX7_send_186 : decode cX7_send 186 = .ok (.getfield 35, 3) := by decide +kernel
theorem dX7_send_189 : decode cX7_send 189 = .ok (.aload_n 0, 1) := by decide +kernel
theorem dX7_send_190 : decode cX7_send 190 = .ok (.getfield 12, 3) := by decide +kernel
theorem dX7_send_193 : decode cX7_send 193 = .ok (.aload_n 0, 1) := by decide +kernel
theorem dX7_send_194 : decode cX7_send 194 = .ok (.getfield 21, 3) := by decide +kernel
theorem dX7_send_197 : decode cX7_send 197 = .ok (.iconst 0, 1) := by decide +kernel
theorem dX7_send_198 : decode cX7_send 198 = .ok (.invokevirtual 104, 3) := by decide +kernel
theorem dX7_send_201 : decode cX7_send 201 = .ok (.aload_n 0, 1) := by decide +kernel
theorem dX7_send_202 : decode cX7_send 202 = .ok (.getfield 21, 3) := by decide +kernel
theorem dX7_send_205 : decode cX7_send 205 = .ok (.iconst 1, 1) := by decide +kernel
theorem dX7_send_206 : decode cX7_send 206 = .ok (.invokevirtual 104, 3) := by decide +kernel
theorem dX7_send_209 : decode cX7_send 209 = .ok (.invokevirtual 171, 3) := by decide +kernel
theorem dX7_send_212 : decode cX7_send 212 = .ok (.return_, 1) := by decide +kernel
theorem dX7_sendBlades_0 : decode cX7_sendBlades 0 = .ok (.iconst 0, 1) := by decide +kernel
theorem dX7_sendBlades_1 : decode cX7_sendBlades 1 = .ok (.istore_n 2, 1) := by decide +kernel
theorem dX7_sendBlades_2 : decode cX7_sendBlades 2 = .ok (.iconst 0, 1) := by decide +kernel
theorem dX7_sendBlades_3 : decode cX7_sendBlades 3 = .ok (.istore_n 3, 1) := by decide +kernel
theorem dX7_sendBlades_4 : decode cX7_sendBlades 4 = .ok (.iload_n 3, 1) := by decide +kernel
theorem dX7_sendBlades_5 : decode cX7_sendBlades 5 = .ok (.aload_n 0, 1) := by decide +kernel
theorem dX7_sendBlades_6 : decode cX7_sendBlades 6 = .ok (.getfield 12, 3) := by decide +kernel
theorem dX7_sendBlades_9 : decode cX7_sendBlades 9 = .ok (.getfield 175, 3) := by decide +kernel
theorem dX7_sendBlades_12 : decode cX7_sendBlades 12 = .ok (.if_icmp .ge 65, 3) := by decide +kernel
theorem dX7_sendBlades_15 : decode cX7_sendBlades 15 = .ok (.iload_n 3, 1) := by decide +kernel
theorem dX7_sendBlades_16 : decode cX7_sendBlades 16 = .ok (.iconst 2, 1) := by decide +kernel
theorem dX7_sendBlades_17 : decode cX7_sendBlades 17 = .ok (.irem, 1) := by decide +kernel
theorem dX7_sendBlades_18 : decode cX7_sendBlades 18 = .ok (.ifCond .ne 13, 3) := by decide +kernel
theorem dX7_sendBlades_21 : decode cX7_sendBlades 21 = .ok (.aload_n 0, 1) := by decide +kernel
theorem dX7_sendBlades_22 : decode cX7_sendBlades 22 = .ok (.getfield 12, 3) := by decide +kernel
theorem dX7_sendBlades_25 : decode cX7_sendBlades 25 = .ok (.getfield 178, 3) := by decide +kernel
theorem dX7_sendBlades_28 : decode cX7_sendBlades 28 = .ok (.goto 10, 3) := by decide +kernel
theorem dX7_sendBlades_31 : decode cX7_sendBlades 31 = .ok (.aload_n 0, 1) := by decide +kernel
theorem dX7_sendBlades_32 : decode cX7_sendBlades 32 = .ok (.getfield 12, 3) := by decide +kernel
theorem dX7_sendBlades_35 : decode cX7_sendBlades 35 = .ok (.getfield 181, 3) := by decide +kernel
theorem dX7_sendBlades_38 : decode cX7_sendBlades 38 = .ok (.istore 4, 2) := by decide +kernel
theorem dX7_sendBlades_40 : decode cX7_sendBlades 40 = .ok (.aload_n 0, 1) := by decide +kernel
theorem dX7_sendBlades_41 : decode cX7_sendBlades 41 = .ok (.getfield 12, 3) := by decide +kernel
theorem dX7_sendBlades_44 : decode cX7_sendBlades 44 = .ok (.iload_n 3, 1) := by decide +kernel
theorem dX7_sendBlades_45 : decode cX7_sendBlades 45 = .ok (.invokevirtual 184, 3) := by decide +kernel
theorem dX7_sendBlades_48 : decode cX7_sendBlades 48 = .ok (.ifCond .eq 23, 3) := by decide +kernel
theorem dX7_sendBlades_51 : decode cX7_sendBlades 51 = .ok (.iload 4, 2) := by decide +kernel
theorem dX7_sendBlades_53 : decode cX7_sendBlades 53 = .ok (.iload_n 1, 1) := by decide +kernel
theorem dX7_sendBlades_54 : decode cX7_sendBlades 54 = .ok (.if_icmp .ge 17, 3) := by decide +kernel
theorem dX7_sendBlades_57 : decode cX7_sendBlades 57 = .ok (.aload_n 0, 1) := by decide +kernel
theorem dX7_sendBlades_58 : decode cX7_sendBlades 58 = .ok (.getfield 35, 3) := by decide +kernel
theorem dX7_sendBlades_61 : decode cX7_sendBlades 61 = .ok (.iconst 1, 1) := by decide +kernel
theorem dX7_sendBlades_62 : decode cX7_sendBlades 62 = .ok (.iload 4, 2) := by decide +kernel
theorem dX7_sendBlades_64 : decode cX7_sendBlades 64 = .ok (.bipush 60, 2) := by decide +kernel
theorem dX7_sendBlades_66 : decode cX7_sendBlades 66 = .ok (.invokevirtual 155, 3) := by decide +kernel
theorem dX7_sendBlades_69 : decode cX7_sendBlades 69 = .ok (.iconst 1, 1) := by decide +kernel
theorem dX7_sendBlades_70 : decode cX7_sendBlades 70 = .ok (.istore_n 2, 1) := by decide +kernel
theorem dX7_sendBlades_71 : decode cX7_sendBlades 71 = .ok (.iinc 3 1, 3) := by decide +kernel
theorem dX7_sendBlades_74 : decode cX7_sendBlades 74 = .ok (.goto (-70), 3) := by decide +kernel
theorem dX7_sendBlades_77 : decode cX7_sendBlades 77 = .ok (.iload_n 2, 1) := by decide +kernel
theorem dX7_sendBlades_78 : decode cX7_sendBlades 78 = .ok (.ireturn, 1) := by decide +kernel
theorem dX7_findCandidates_0 : decode cX7_findCandidates 0 = .ok (.iconst 0, 1) := by decide +kernel
theorem dX7_findCandidates_1 : decode cX7_findCandidates 1 = .ok (.istore_n 1, 1) := by decide +kernel
theorem dX7_findCandidates_2 : decode cX7_findCandidates 2 = .ok (.iload_n 1, 1) := by decide +kernel
theorem dX7_findCandidates_3 : decode cX7_findCandidates 3 = .ok (.aload_n 0, 1) := by decide +kernel
theorem dX7_findCandidates_4 : decode cX7_findCandidates 4 = .ok (.getfield 35, 3) := by decide +kernel
theorem dX7_findCandidates_7 : decode cX7_findCandidates 7 = .ok (.getfield 131, 3) := by decide +kernel
theorem dX7_findCandidates_10 : decode cX7_findCandidates 10 = .ok (.if_icmp .ge 68, 3) := by decide +kernel
theorem dX7_findCandidates_13 : decode cX7_findCandidates 13 = .ok (.aload_n 0, 1) := by decide +kernel
theorem dX7_findCandidates_14 : decode cX7_findCandidates 14 = .ok (.getfield 35, 3) := by decide +kernel
theorem dX7_findCandidates_17 : decode cX7_findCandidates 17 = .ok (.iload_n 1, 1) := by decide +kernel
theorem dX7_findCandidates_18 : decode cX7_findCandidates 18 = .ok (.invokevirtual 124, 3) := by decide +kernel
theorem dX7_findCandidates_21 : decode cX7_findCandidates 21 = .ok (.istore_n 2, 1) := by decide +kernel
theorem dX7_findCandidates_22 : decode cX7_findCandidates 22 = .ok (.iload_n 2, 1) := by decide +kernel
theorem dX7_findCandidates_23 : decode cX7_findCandidates 23 = .ok (.aload_n 0, 1) := by decide +kernel
theorem dX7_findCandidates_24 : decode cX7_findCandidates 24 = .ok (.getfield 12, 3) := by decide +kernel
theorem dX7_findCandidates_27 : decode cX7_findCandidates 27 = .ok (.getfield 82, 3) := by decide +kernel
theorem dX7_findCandidates_30 : decode cX7_findCandidates 30 = .ok (.if_icmp .gt 42, 3) := by decide +kernel
theorem dX7_findCandidates_33 : decode cX7_findCandidates 33 = .ok (.aload_n 0, 1) := by decide +kernel
theorem dX7_findCandidates_34 : decode cX7_findCandidates 34 = .ok (.getfield 28, 3) := by decide +kernel
theorem dX7_findCandidates_37 : decode cX7_findCandidates 37 = .ok (.iload_n 2, 1) := by decide +kernel
theorem dX7_findCandidates_38 : decode cX7_findCandidates 38 = .ok (.invokevirtual 187, 3) := by decide +kernel
theorem dX7_findCandidates_41 : decode cX7_findCandidates 41 = .ok (.ifCond .ne 31, 3) := by decide +kernel
theorem dX7_findCandidates_44 : decode cX7_findCandidates 44 = .ok (.aload_n 0, 1) := by decide +kernel
theorem dX7_findCandidates_45 : decode cX7_findCandidates 45 = .ok (.getfield 35, 3) := by decide +kernel
theorem dX7_findCandidates_48 : decode cX7_findCandidates 48 = .ok (.iload_n 1, 1) := by decide +kernel
theorem dX7_findCandidates_49 : decode cX7_findCandidates 49 = .ok (.invokevirtual 190, 3) := by decide +kernel
theorem dX7_findCandidates_52 : decode cX7_findCandidates 52 = .ok (.aload_n 0, 1) := by decide +kernel
theorem dX7_findCandidates_53 : decode cX7_findCandidates 53 = .ok (.getfield 21, 3) := by decide +kernel
theorem dX7_findCandidates_56 : decode cX7_findCandidates 56 = .ok (.iload_n 2, 1) := by decide +kernel
theorem dX7_findCandidates_57 : decode cX7_findCandidates 57 = .ok (.invokevirtual 193, 3) := by decide +kernel
theorem dX7_findCandidates_60 : decode cX7_findCandidates 60 = .ok (.if_icmp .lt 12, 3) := by decide +kernel
theorem dX7_findCandidates_63 : decode cX7_findCandidates 63 = .ok (.aload_n 0, 1) := by decide +kernel
theorem dX7_findCandidates_64 : decode cX7_findCandidates 64 = .ok (.getfield 35, 3) := by decide +kernel
theorem dX7_findCandidates_67 : decode cX7_findCandidates 67 = .ok (.iload_n 1, 1) := by decide +kernel
theorem dX7_findCandidates_68 : decode cX7_findCandidates 68 = .ok (.iconst 1, 1) := by decide +kernel
theorem dX7_findCandidates_69 : decode cX7_findCandidates 69 = .ok (.invokevirtual 118, 3) := by decide +kernel
theorem dX7_findCandidates_72 : decode cX7_findCandidates 72 = .ok (.iinc 1 1, 3) := by decide +kernel
theorem dX7_findCandidates_75 : decode cX7_findCandidates 75 = .ok (.goto (-73), 3) := by decide +kernel
theorem dX7_findCandidates_78 : decode cX7_findCandidates 78 = .ok (.return_, 1) := by decide +kernel
theorem dX7_dropBlades_0 : decode cX7_dropBlades 0 = .ok (.iconst 0, 1) := by decide +kernel
theorem dX7_dropBlades_1 : decode cX7_dropBlades 1 = .ok (.istore_n 1, 1) := by decide +kernel
theorem dX7_dropBlades_2 : decode cX7_dropBlades 2 = .ok (.iload_n 1, 1) := by decide +kernel
theorem dX7_dropBlades_3 : decode cX7_dropBlades 3 = .ok (.aload_n 0, 1) := by decide +kernel
theorem dX7_dropBlades_4 : decode cX7_dropBlades 4 = .ok (.getfield 35, 3) := by decide +kernel
theorem dX7_dropBlades_7 : decode cX7_dropBlades 7 = .ok (.getfield 131, 3) := by decide +kernel
theorem dX7_dropBlades_10 : decode cX7_dropBlades 10 = .ok (.if_icmp .ge 102, 3) := by decide +kernel
theorem dX7_dropBlades_13 : decode cX7_dropBlades 13 = .ok (.aload_n 0, 1) := by decide +kernel
theorem dX7_dropBlades_14 : decode cX7_dropBlades 14 = .ok (.getfield 35, 3) := by decide +kernel
theorem dX7_dropBlades_17 : decode cX7_dropBlades 17 = .ok (.iload_n 1, 1) := by decide +kernel
theorem dX7_dropBlades_18 : decode cX7_dropBlades 18 = .ok (.invokevirtual 124, 3) := by decide +kernel
theorem dX7_dropBlades_21 : decode cX7_dropBlades 21 = .ok (.istore_n 2, 1) := by decide +kernel
theorem dX7_dropBlades_22 : decode cX7_dropBlades 22 = .ok (.aload_n 0, 1) := by decide +kernel
theorem dX7_dropBlades_23 : decode cX7_dropBlades 23 = .ok (.getfield 35, 3) := by decide +kernel
theorem dX7_dropBlades_26 : decode cX7_dropBlades 26 = .ok (.iload_n 1, 1) := by decide +kernel
theorem dX7_dropBlades_27 : decode cX7_dropBlades 27 = .ok (.iconst 1, 1) := by decide +kernel
theorem dX7_dropBlades_28 : decode cX7_dropBlades 28 = .ok (.invokevirtual 196, 3) := by decide +kernel
theorem dX7_dropBlades_31 : decode cX7_dropBlades 31 = .ok (.ifCond .eq 75, 3) := by decide +kernel
theorem dX7_dropBlades_34 : decode cX7_dropBlades 34 = .ok (.iload_n 2, 1) := by decide +kernel
theorem dX7_dropBlades_35 : decode cX7_dropBlades 35 = .ok (.aload_n 0, 1) := by decide +kernel
theorem dX7_dropBlades_36 : decode cX7_dropBlades 36 = .ok (.getfield 12, 3) := by decide +kernel
theorem dX7_dropBlades_39 : decode cX7_dropBlades 39 = .ok (.getfield 178, 3) := by decide +kernel
theorem dX7_dropBlades_42 : decode cX7_dropBlades 42 = .ok (.bipush 40, 2) := by decide +kernel
theorem dX7_dropBlades_44 : decode cX7_dropBlades 44 = .ok (.isub, 1) := by decide +kernel
theorem dX7_dropBlades_45 : decode cX7_dropBlades 45 = .ok (.if_icmp .lt 61, 3) := by decide +kernel
theorem dX7_dropBlades_48 : decode cX7_dropBlades 48 = .ok (.iload_n 2, 1) := by decide +kernel
theorem dX7_dropBlades_49 : decode cX7_dropBlades 49 = .ok (.aload_n 0, 1) := by decide +kernel
theorem dX7_dropBlades_50 : decode cX7_dropBlades 50 = .ok (.getfield 12, 3) := by decide +kernel
theorem dX7_dropBlades_53 : decode cX7_dropBlades 53 = .ok (.getfield 181, 3) := by decide +kernel
theorem dX7_dropBlades_56 : decode cX7_dropBlades 56 = .ok (.bipush 40, 2) := by decide +kernel
theorem dX7_dropBlades_58 : decode cX7_dropBlades 58 = .ok (.iadd, 1) := by decide +kernel
theorem dX7_dropBlades_59 : decode cX7_dropBlades 59 = .ok (.if_icmp .gt 47, 3) := by decide +kernel
theorem dX7_dropBlades_62 : decode cX7_dropBlades 62 = .ok (.aload_n 0, 1) := by decide +kernel
theorem dX7_dropBlades_63 : decode cX7_dropBlades 63 = .ok (.getfield 49, 3) := by decide +kernel
theorem dX7_dropBlades_66 : decode cX7_dropBlades 66 = .ok (.iload_n 2, 1) := by decide +kernel
theorem dX7_dropBlades_67 : decode cX7_dropBlades 67 = .ok (.invokevirtual 200, 3) := by decide +kernel
theorem dX7_dropBlades_70 : decode cX7_dropBlades 70 = .ok (.ifCond .eq 14, 3) := by decide +kernel
theorem dX7_dropBlades_73 : decode cX7_dropBlades 73 = .ok (.aload_n 0, 1) := by decide +kernel
theorem dX7_dropBlades_74 : decode cX7_dropBlades 74 = .ok (.getfield 53, 3) := by decide +kernel
theorem dX7_dropBlades_77 : decode cX7_dropBlades 77 = .ok (.iload_n 2, 1) := by decide +kernel
theorem dX7_dropBlades_78 : decode cX7_dropBlades 78 = .ok (.invokevirtual 200, 3) := by decide +kernel
theorem dX7_dropBlades_81 : decode cX7_dropBlades 81 = .ok (.ifCond .ne 25, 3) := by decide +kernel
theorem dX7_dropBlades_84 : decode cX7_dropBlades 84 = .ok (.aload_n 0, 1) := by decide +kernel
theorem dX7_dropBlades_85 : decode cX7_dropBlades 85 = .ok (.getfield 35, 3) := by decide +kernel
theorem dX7_dropBlades_88 : decode cX7_dropBlades 88 = .ok (.iload_n 1, 1) := by decide +kernel
theorem dX7_dropBlades_89 : decode cX7_dropBlades 89 = .ok (.iconst 2, 1) := by decide +kernel
theorem dX7_dropBlades_90 : decode cX7_dropBlades 90 = .ok (.invokevirtual 118, 3) := by decide +kernel
theorem dX7_dropBlades_93 : decode cX7_dropBlades 93 = .ok (.aload_n 0, 1) := by decide +kernel
theorem dX7_dropBlades_94 : decode cX7_dropBlades 94 = .ok (.getfield 42, 3) := by decide +kernel
theorem dX7_dropBlades_97 : decode cX7_dropBlades 97 = .ok (.dup, 1) := by decide +kernel
theorem dX7_dropBlades_98 : decode cX7_dropBlades 98 = .ok (.getfield 203, 3) := by decide +kernel
theorem dX7_dropBlades_101 : decode cX7_dropBlades 101 = .ok (.iconst 1, 1) := by decide +kernel
theorem dX7_dropBlades_102 : decode cX7_dropBlades 102 = .ok (.iadd, 1) := by decide +kernel
theorem dX7_dropBlades_103 : decode cX7_dropBlades 103 = .ok (.putfield 203, 3) := by decide +kernel
theorem dX7_dropBlades_106 : decode cX7_dropBlades 106 = .ok (.iinc 1 1, 3) := by decide +kernel
theorem dX7_dropBlades_109 : decode cX7_dropBlades 109 = .ok (.goto (-107), 3) := by decide +kernel
theorem dX7_dropBlades_112 : decode cX7_dropBlades 112 = .ok (.return_, 1) := by decide +kernel
theorem dX8_init_0 : decode cX8_init 0 = .ok (.aload_n 0, 1) := by decide +kernel
theorem dX8_init_1 : decode cX8_init 1 = .ok (.invokespecial 3, 3) := by decide +kernel
theorem dX8_init_4 : decode cX8_init 4 = .ok (.aload_n 0, 1) := by decide +kernel
theorem dX8_init_5 : decode cX8_init 5 = .ok (.bipush 6, 2) := by decide +kernel
theorem dX8_init_7 : decode cX8_init 7 = .ok (.newarray .int, 2) := by decide +kernel
theorem dX8_init_9 : decode cX8_init 9 = .ok (.putfield 9, 3) := by decide +kernel
theorem dX8_init_12 : decode cX8_init 12 = .ok (.aload_n 0, 1) := by decide +kernel
theorem dX8_init_13 : decode cX8_init 13 = .ok (.bipush 6, 2) := by decide +kernel
theorem dX8_init_15 : decode cX8_init 15 = .ok (.newarray .int, 2) := by decide +kernel
theorem dX8_init_17 : decode cX8_init 17 = .ok (.putfield 15, 3) := by decide +kernel
theorem dX8_init_20 : decode cX8_init 20 = .ok (.aload_n 0, 1) := by decide +kernel
theorem dX8_init_21 : decode cX8_init 21 = .ok (.invokevirtual 18, 3) := by decide +kernel
theorem dX8_init_24 : decode cX8_init 24 = .ok (.return_, 1) := by decide +kernel
theorem dX8_reset_0 : decode cX8_reset 0 = .ok (.aload_n 0, 1) := by decide +kernel
theorem dX8_reset_1 : decode cX8_reset 1 = .ok (.sipush 2000, 3) := by decide +kernel
theorem dX8_reset_4 : decode cX8_reset 4 = .ok (.putfield 21, 3) := by decide +kernel
theorem dX8_reset_7 : decode cX8_reset 7 = .ok (.aload_n 0, 1) := by decide +kernel
theorem dX8_reset_8 : decode cX8_reset 8 = .ok (.sipush 500, 3) := by decide +kernel
theorem dX8_reset_11 : decode cX8_reset 11 = .ok (.putfield 25, 3) := by decide +kernel
theorem dX8_reset_14 : decode cX8_reset 14 = .ok (.aload_n 0, 1) := by decide +kernel
theorem dX8_reset_15 : decode cX8_reset 15 = .ok (.iconst 0, 1) := by decide +kernel
theorem dX8_reset_16 : decode cX8_reset 16 = .ok (.putfield 28, 3) := by decide +kernel
theorem dX8_reset_19 : decode cX8_reset 19 = .ok (.aload_n 0, 1) := by decide +kernel
theorem dX8_reset_20 : decode cX8_reset 20 = .ok (.iconst 0, 1) := by decide +kernel
theorem dX8_reset_21 : decode cX8_reset 21 = .ok (.putfield 31, 3) := by decide +kernel
theorem dX8_reset_24 : decode cX8_reset 24 = .ok (.aload_n 0, 1) := by decide +kernel
theorem dX8_reset_25 : decode cX8_reset 25 = .ok (.iconst 0, 1) := by decide +kernel
theorem dX8_reset_26 : decode cX8_reset 26 = .ok (.putfield 34, 3) := by decide +kernel
theorem dX8_reset_29 : decode cX8_reset 29 = .ok (.aload_n 0, 1) := by decide +kernel
theorem dX8_reset_30 : decode cX8_reset 30 = .ok (.iconst 0, 1) := by decide +kernel
theorem dX8_reset_31 : decode cX8_reset 31 = .ok (.putfield 37, 3) := by decide +kernel
theorem dX8_reset_34 : decode cX8_reset 34 = .ok (.aload_n 0, 1) := by decide +kernel
theorem dX8_reset_35 : decode cX8_reset 35 = .ok (.sipush 300, 3) := by decide +kernel
theorem dX8_reset_38 : decode cX8_reset 38 = .ok (.putfield 40, 3) := by decide +kernel
theorem dX8_reset_41 : decode cX8_reset 41 = .ok (.aload_n 0, 1) := by decide +kernel
theorem dX8_reset_42 : decode cX8_reset 42 = .ok (.sipush 600, 3) := by decide +kernel
theorem dX8_reset_45 : decode cX8_reset 45 = .ok (.putfield 43, 3) := by decide +kernel
theorem dX8_reset_48 : decode cX8_reset 48 = .ok (.aload_n 0, 1) := by decide +kernel
theorem dX8_reset_49 : decode cX8_reset 49 = .ok (.iconst 0, 1) := by decide +kernel
theorem dX8_reset_50 : decode cX8_reset 50 = .ok (.putfield 46, 3) := by decide +kernel
theorem dX8_reset_53 : decode cX8_reset 53 = .ok (.aload_n 0, 1) := by decide +kernel
theorem dX8_reset_54 : decode cX8_reset 54 = .ok (.bipush 47, 2) := by decide +kernel
theorem dX8_reset_56 : decode cX8_reset 56 = .ok (.putfield 49, 3) := by decide +kernel
theorem dX8_reset_59 : decode cX8_reset 59 = .ok (.aload_n 0, 1) := by decide +kernel
theorem dX8_reset_60 : decode cX8_reset 60 = .ok (.bipush 20, 2) := by decide +kernel
theorem dX8_reset_62 : decode cX8_reset 62 = .ok (.putfield 52, 3) := by decide +kernel
theorem dX8_reset_65 : decode cX8_reset 65 = .ok (.aload_n 0, 1) := by decide +kernel
theorem dX8_reset_66 : decode cX8_reset 66 = .ok (.iconst 1, 1) := by decide +kernel
theorem dX8_reset_67 : decode cX8_reset 67 = .ok (.putfield 55, 3) := by decide +kernel
theorem dX8_reset_70 : decode cX8_reset 70 = .ok (.return_, 1) := by decide +kernel
theorem dX8_copyFrom_0 : decode cX8_copyFrom 0 = .ok (.aload_n 0, 1) := by decide +kernel
theorem dX8_copyFrom_1 : decode cX8_copyFrom 1 = .ok (.aload_n 1, 1) := by decide +kernel
theorem dX8_copyFrom_2 : decode cX8_copyFrom 2 = .ok (.getfield 21, 3) := by decide +kernel
theorem dX8_copyFrom_5 : decode cX8_copyFrom 5 = .ok (.putfield 21, 3) := by decide +kernel
theorem dX8_copyFrom_8 : decode cX8_copyFrom 8 = .ok (.aload_n 0, 1) := by decide +kernel
theorem dX8_copyFrom_9 : decode cX8_copyFrom 9 = .ok (.aload_n 1, 1) := by decide +kernel
theorem dX8_copyFrom_10 : decode cX8_copyFrom 10 = .ok (.getfield 25, 3) := by decide +kernel
theorem dX8_copyFrom_13 : decode cX8_copyFrom 13 = .ok (.putfield 25, 3) := by decide +kernel
theorem dX8_copyFrom_16 : decode cX8_copyFrom 16 = .ok (.aload_n 0, 1) := by decide +kernel
theorem dX8_copyFrom_17 : decode cX8_copyFrom 17 = .ok (.aload_n 1, 1) := by decide +kernel
theorem dX8_copyFrom_18 : decode cX8_copyFrom 18 = .ok (.getfield 28, 3) := by decide +kernel
theorem dX8_copyFrom_21 : decode cX8_copyFrom 21 = .ok (.putfield 28, 3) := by decide +kernel
theorem dX8_copyFrom_24 : decode cX8_copyFrom 24 = .ok (.aload_n 0, 1) := by decide +kernel
theorem dX8_copyFrom_25 : decode cX8_copyFrom 25 = .ok (.aload_n 1, 1) := by decide +kernel
theorem dX8_copyFrom_26 : decode cX8_copyFrom 26 = .ok (.getfield 31, 3) := by decide +kernel
theorem dX8_copyFrom_29 : decode cX8_copyFrom 29 = .ok (.putfield 31, 3) := by decide +kernel
theorem dX8_copyFrom_32 : decode cX8_copyFrom 32 = .ok (.aload_n 0, 1) := by decide +kernel
theorem dX8_copyFrom_33 : decode cX8_copyFrom 33 = .ok (.aload_n 1, 1) := by decide +kernel
theorem dX8_copyFrom_34 : decode cX8_copyFrom 34 = .ok (.getfield 34, 3) := by decide +kernel
theorem dX8_copyFrom_37 : decode cX8_copyFrom 37 = .ok (.putfield 34, 3) := by decide +kernel
theorem dX8_copyFrom_40 : decode cX8_copyFrom 40 = .ok (.aload_n 1, 1) := by decide +kernel
theorem dX8_copyFrom_41 : decode cX8_copyFrom 41 = .ok (.getfield 9, 3) := by decide +kernel
theorem dX8_copyFrom_44 : decode cX8_copyFrom 44 = .ok (.aload_n 0, 1) := by decide +kernel
theorem dX8_copyFrom_45 : decode cX8_copyFrom 45 = .ok (.getfield 9, 3) := by decide +kernel
theorem dX8_copyFrom_48 : decode cX8_copyFrom 48 = .ok (.invokestatic 58, 3) := by decide +kernel
theorem dX8_copyFrom_51 : decode cX8_copyFrom 51 = .ok (.aload_n 1, 1) := by decide +kernel
theorem dX8_copyFrom_52 : decode cX8_copyFrom 52 = .ok (.getfield 15, 3) := by decide +kernel
theorem dX8_copyFrom_55 : decode cX8_copyFrom 55 = .ok (.aload_n 0, 1) := by decide +kernel
theorem dX8_copyFrom_56 : decode cX8_copyFrom 56 = .ok (.getfield 15, 3) := by decide +kernel
theorem dX8_copyFrom_59 : decode cX8_copyFrom 59 = .ok (.invokestatic 58, 3) := by decide +kernel
theorem dX8_copyFrom_62 : decode cX8_copyFrom 62 = .ok (.aload_n 0, 1) := by decide +kernel
theorem dX8_copyFrom_63 : decode cX8_copyFrom 63 = .ok (.aload_n 1, 1) := by decide +kernel
theorem dX8_copyFrom_64 : decode cX8_copyFrom 64 = .ok (.getfield 37, 3) := by decide +kernel
theorem dX8_copyFrom_67 : decode cX8_copyFrom 67 = .ok (.putfield 37, 3) := by decide +kernel
theorem dX8_copyFrom_70 : decode cX8_copyFrom 70 = .ok (.aload_n 0, 1) := by decide +kernel
theorem dX8_copyFrom_71 : decode cX8_copyFrom 71 = .ok (.aload_n 1, 1) := by decide +kernel
theorem dX8_copyFrom_72 : decode cX8_copyFrom 72 = .ok (.getfield 40, 3) := by decide +kernel
theorem dX8_copyFrom_75 : decode cX8_copyFrom 75 = .ok (.putfield 40, 3) := by decide +kernel
theorem dX8_copyFrom_78 : decode cX8_copyFrom 78 = .ok (.aload_n 0, 1) := by decide +kernel
theorem dX8_copyFrom_79 : decode cX8_copyFrom 79 = .ok (.aload_n 1, 1) := by decide +kernel
theorem dX8_copyFrom_80 : decode cX8_copyFrom 80 = .ok (.getfield 43, 3) := by decide +kernel
theorem dX8_copyFrom_83 : decode cX8_copyFrom 83 = .ok (.putfield 43, 3) := by decide +kernel
theorem dX8_copyFrom_86 : decode cX8_copyFrom 86 = .ok (.aload_n 0, 1) := by decide +kernel
theorem dX8_copyFrom_87 : decode cX8_copyFrom 87 = .ok (.aload_n 1, 1) := by decide +kernel
theorem dX8_copyFrom_88 : decode cX8_copyFrom 88 = .ok (.getfield 46, 3) := by decide +kernel
theorem dX8_copyFrom_91 : decode cX8_copyFrom 91 = .ok (.putfield 46, 3) := by decide +kernel
theorem dX8_copyFrom_94 : decode cX8_copyFrom 94 = .ok (.aload_n 0, 1) := by decide +kernel
theorem dX8_copyFrom_95 : decode cX8_copyFrom 95 = .ok (.aload_n 1, 1) := by decide +kernel
theorem dX8_copyFrom_96 : decode cX8_copyFrom 96 = .ok (.getfield 49, 3) := by decide +kernel
theorem dX8_copyFrom_99 : decode cX8_copyFrom 99 = .ok (.putfield 49, 3) := by decide +kernel
theorem dX8_copyFrom_102 : decode cX8_copyFrom 102 = .ok (.aload_n 0, 1) := by decide +kernel
theorem dX8_copyFrom_103 : decode cX8_copyFrom 103 = .ok (.aload_n 1, 1) := by decide +kernel
theorem dX8_copyFrom_104 : decode cX8_copyFrom 104 = .ok (.getfield 52, 3) := by decide +kernel
theorem dX8_copyFrom_107 : decode cX8_copyFrom 107 = .ok (.putfield 52, 3) := by decide +kernel
theorem dX8_copyFrom_110 : decode cX8_copyFrom 110 = .ok (.aload_n 0, 1) := by decide +kernel
theorem dX8_copyFrom_111 : decode cX8_copyFrom 111 = .ok (.aload_n 1, 1) := by decide +kernel
theorem dX8_copyFrom_112 : decode cX8_copyFrom 112 = .ok (.getfield 55, 3) := by decide +kernel
theorem dX8_copyFrom_115 : decode cX8_copyFrom 115 = .ok (.putfield 55, 3) := by decide +kernel
theorem dX8_copyFrom_118 : decode cX8_copyFrom 118 = .ok (.return_, 1) := by decide +kernel
theorem dX8_allowsDepth_0 : decode cX8_allowsDepth 0 = .ok (.iload_n 0, 1) := by decide +kernel
theorem dX8_allowsDepth_1 : decode cX8_allowsDepth 1 = .ok (.sipush 500, 3) := by decide +kernel
theorem dX8_allowsDepth_4 : decode cX8_allowsDepth 4 = .ok (.if_icmp .lt 14, 3) := by decide +kernel
theorem dX8_allowsDepth_7 : decode cX8_allowsDepth 7 = .ok (.iload_n 0, 1) := by decide +kernel
theorem dX8_allowsDepth_8 : decode cX8_allowsDepth 8 = .ok (.sipush 10000, 3) := by decide +kernel
theorem dX8_allowsDepth_11 : decode cX8_allowsDepth 11 = .ok (.if_icmp .gt 7, 3) := by decide +kernel
theorem dX8_allowsDepth_14 : decode cX8_allowsDepth 14 = .ok (.iconst 1, 1) := by decide +kernel
theorem dX8_allowsDepth_15 : decode cX8_allowsDepth 15 = .ok (.goto 4, 3) := by decide +kernel
theorem dX8_allowsDepth_18 : decode cX8_allowsDepth 18 = .ok (.iconst 0, 1) := by decide +kernel
theorem dX8_allowsDepth_19 : decode cX8_allowsDepth 19 = .ok (.ireturn, 1) := by decide +kernel
theorem dX8_allowsLevel_0 : decode cX8_allowsLevel 0 = .ok (.iload_n 1, 1) := by decide +kernel
theorem dX8_allowsLevel_1 : decode cX8_allowsLevel 1 = .ok (.ifCond .lt 15, 3) := by decide +kernel
theorem dX8_allowsLevel_4 : decode cX8_allowsLevel 4 = .ok (.iload_n 1, 1) := by decide +kernel
theorem dX8_allowsLevel_5 : decode cX8_allowsLevel 5 = .ok (.aload_n 0, 1) := by decide +kernel
theorem dX8_allowsLevel_6 : decode cX8_allowsLevel 6 = .ok (.getfield 21, 3) := by decide +kernel
theorem dX8_allowsLevel_9 : decode cX8_allowsLevel 9 = .ok (.if_icmp .gt 7, 3) := by decide +kernel
theorem dX8_allowsLevel_12 : decode cX8_allowsLevel 12 = .ok (.iconst 1, 1) := by decide +kernel
theorem dX8_allowsLevel_13 : decode cX8_allowsLevel 13 = .ok (.goto 4, 3) := by decide +kernel
theorem dX8_allowsLevel_16 : decode cX8_allowsLevel 16 = .ok (.iconst 0, 1) := by decide +kernel
theorem dX8_allowsLevel_17 : decode cX8_allowsLevel 17 = .ok (.ireturn, 1) := by decide +kernel
theorem dX8_allowsFlow_0 : decode cX8_allowsFlow 0 = .ok (.iload_n 0, 1) := by decide +kernel
theorem dX8_allowsFlow_1 : decode cX8_allowsFlow 1 = .ok (.sipush (-200), 3) := by decide +kernel
theorem dX8_allowsFlow_4 : decode cX8_allowsFlow 4 = .ok (.if_icmp .lt 14, 3) := by decide +kernel
theorem dX8_allowsFlow_7 : decode cX8_allowsFlow 7 = .ok (.iload_n 0, 1) := by decide +kernel
theorem dX8_allowsFlow_8 : decode cX8_allowsFlow 8 = .ok (.sipush 200, 3) := by decide +kernel
theorem dX8_allowsFlow_11 : decode cX8_allowsFlow 11 = .ok (.if_icmp .gt 7, 3) := by decide +kernel
theorem dX8_allowsFlow_14 : decode cX8_allowsFlow 14 = .ok (.iconst 1, 1) := by decide +kernel
theorem dX8_allowsFlow_15 : decode cX8_allowsFlow 15 = .ok (.goto 4, 3) := by decide +kernel
theorem dX8_allowsFlow_18 : decode cX8_allowsFlow 18 = .ok (.iconst 0, 1) := by decide +kernel
theorem dX8_allowsFlow_19 : decode cX8_allowsFlow 19 = .ok (.ireturn, 1) := by decide +kernel
theorem dX8_allowsFoam_0 : decode cX8_allowsFoam 0 = .ok (.iload_n 0, 1) := by decide +kernel
theorem dX8_allowsFoam_1 : decode cX8_allowsFoam 1 = .ok (.ifCond .lt 14, 3) := by decide +kernel
theorem dX8_allowsFoam_4 : decode cX8_allowsFoam 4 = .ok (.iload_n 0, 1) := by decide +kernel
theorem dX8_allowsFoam_5 : decode cX8_allowsFoam 5 = .ok (.sipush 500, 3) := by decide +kernel
theorem dX8_allowsFoam_8 : decode cX8_allowsFoam 8 = .ok (.if_icmp .gt 7, 3) := by decide +kernel
theorem dX8_allowsFoam_11 : decode cX8_allowsFoam 11 = .ok (.iconst 1, 1) := by decide +kernel
theorem dX8_allowsFoam_12 : decode cX8_allowsFoam 12 = .ok (.goto 4, 3) := by decide +kernel
theorem dX8_allowsFoam_15 : decode cX8_allowsFoam 15 = .ok (.iconst 0, 1) := by decide +kernel
theorem dX8_allowsFoam_16 : decode cX8_allowsFoam 16 = .ok (.ireturn, 1) := by decide +kernel
theorem dX8_allowsThing_0 : decode cX8_allowsThing 0 = .ok (.iload_n 0, 1) := by decide +kernel
theorem dX8_allowsThing_1 : decode cX8_allowsThing 1 = .ok (.invokestatic 62, 3) := by decide +kernel
theorem dX8_allowsThing_4 : decode cX8_allowsThing 4 = .ok (.ifCond .eq 18, 3) := by decide +kernel
theorem dX8_allowsThing_7 : decode cX8_allowsThing 7 = .ok (.iload_n 1, 1) := by decide +kernel
theorem dX8_allowsThing_8 : decode cX8_allowsThing 8 = .ok (.iconst 1, 1) := by decide +kernel
theorem dX8_allowsThing_9 : decode cX8_allowsThing 9 = .ok (.if_icmp .lt 13, 3) := by decide +kernel
theorem dX8_allowsThing_12 : decode cX8_allowsThing 12 = .ok (.iload_n 1, 1) := by decide +kernel
theorem dX8_allowsThing_13 : decode cX8_allowsThing 13 = .ok (.bipush 100, 2) := by decide +kernel
theorem dX8_allowsThing_15 : decode cX8_allowsThing 15 = .ok (.if_icmp .gt 7, 3) := by decide +kernel
theorem dX8_allowsThing_18 : decode cX8_allowsThing 18 = .ok (.iconst 1, 1) := by decide +kernel
theorem dX8_allowsThing_19 : decode cX8_allowsThing 19 = .ok (.goto 4, 3) := by decide +kernel
theorem dX8_allowsThing_22 : decode cX8_allowsThing 22 = .ok (.iconst 0, 1) := by decide +kernel
theorem dX8_allowsThing_23 : decode cX8_allowsThing 23 = .ok (.ireturn, 1) := by decide +kernel
theorem dX8_allowsStirrer_0 : decode cX8_allowsStirrer 0 = .ok (.iload_n 0, 1) := by decide +kernel
theorem dX8_allowsStirrer_1 : decode cX8_allowsStirrer 1 = .ok (.ifCond .lt 55, 3) := by decide +kernel
theorem dX8_allowsStirrer_4 : decode cX8_allowsStirrer 4 = .ok (.iload_n 0, 1) := by decide +kernel
theorem dX8_allowsStirrer_5 : decode cX8_allowsStirrer 5 = .ok (.bipush 6, 2) := by decide +kernel
theorem dX8_allowsStirrer_7 : decode cX8_allowsStirrer 7 = .ok (.if_icmp .gt 49, 3) := by decide +kernel
theorem dX8_allowsStirrer_10 : decode cX8_allowsStirrer 10 = .ok (.iload_n 1, 1) := by decide +kernel
theorem dX8_allowsStirrer_11 : decode cX8_allowsStirrer 11 = .ok (.invokestatic 62, 3) := by decide +kernel
theorem dX8_allowsStirrer_14 : decode cX8_allowsStirrer 14 = .ok (.ifCond .eq 42, 3) := by decide +kernel
theorem dX8_allowsStirrer_17 : decode cX8_allowsStirrer 17 = .ok (.iload_n 2, 1) := by decide +kernel
theorem dX8_allowsStirrer_18 : decode cX8_allowsStirrer 18 = .ok (.invokestatic 62, 3) := by decide +kernel
theorem dX8_allowsStirrer_21 : decode cX8_allowsStirrer 21 = .ok (.ifCond .eq 35, 3) := by decide +kernel
theorem dX8_allowsStirrer_24 : decode cX8_allowsStirrer 24 = .ok (.iload_n 1, 1) := by decide +kernel
theorem dX8_allowsStirrer_25 : decode cX8_allowsStirrer 25 = .ok (.iload_n 2, 1) := by decide +kernel
theorem dX8_allowsStirrer_26 : decode cX8_allowsStirrer 26 = .ok (.if_icmp .ge 30, 3) := by decide +kernel
theorem dX8_allowsStirrer_29 : decode cX8_allowsStirrer 29 = .ok (.iload_n 3, 1) := by decide +kernel
theorem dX8_allowsStirrer_30 : decode cX8_allowsStirrer 30 = .ok (.ifCond .lt 26, 3) := by decide +kernel
theorem dX8_allowsStirrer_33 : decode cX8_allowsStirrer 33 = .ok (.iload_n 3, 1) := by decide +kernel
theorem dX8_allowsStirrer_34 : decode cX8_allowsStirrer 34 = .ok (.sipush 359, 3) := by decide +kernel
theorem dX8_allowsStirrer_37 : decode cX8_allowsStirrer 37 = .ok (.if_icmp .gt 19, 3) := by decide +kernel
theorem dX8_allowsStirrer_40 : decode cX8_allowsStirrer 40 = .ok (.iload 4, 2) := by decide +kernel
theorem dX8_allowsStirrer_42 : decode cX8_allowsStirrer 42 = .ok (.ifCond .lt 14, 3) := by decide +kernel
theorem dX8_allowsStirrer_45 : decode cX8_allowsStirrer 45 = .ok (.iload 4, 2) := by decide +kernel
theorem dX8_allowsStirrer_47 : decode cX8_allowsStirrer 47 = .ok (.bipush 90, 2) := by decide +kernel
theorem dX8_allowsStirrer_49 : decode cX8_allowsStirrer 49 = .ok (.if_icmp .gt 7, 3) := by decide +kernel
theorem dX8_allowsStirrer_52 : decode cX8_allowsStirrer 52 = .ok (.iconst 1, 1) := by decide +kernel
theorem dX8_allowsStirrer_53 : decode cX8_allowsStirrer 53 = .ok (.goto 4, 3) := by decide +kernel
theorem dX8_allowsStirrer_56 : decode cX8_allowsStirrer 56 = .ok (.iconst 0, 1) := by decide +kernel
theorem dX8_allowsStirrer_57 : decode cX8_allowsStirrer 57 = .ok (.ireturn, 1) := by decide +kernel
theorem dX8_hasPlaceForThing_0 : decode cX8_hasPlaceForThing 0 = .ok (.aload_n 0, 1) := by decide +kernel
theorem dX8_hasPlaceForThing_1 : decode cX8_hasPlaceForThing 1 = .ok (.getfield 34, 3) := by decide +kernel
theorem dX8_hasPlaceForThing_4 : decode cX8_hasPlaceForThing 4 = .ok (.bipush 6, 2) := by decide +kernel
theorem dX8_hasPlaceForThing_6 : decode cX8_hasPlaceForThing 6 = .ok (.if_icmp .ge 7, 3) := by decide +kernel
theorem dX8_hasPlaceForThing_9 : decode cX8_hasPlaceForThing 9 = .ok (.iconst 1, 1) := by decide +kernel
theorem dX8_hasPlaceForThing_10 : decode cX8_hasPlaceForThing 10 = .ok (.goto 4, 3) := by decide +kernel
theorem dX8_hasPlaceForThing_13 : decode cX8_hasPlaceForThing 13 = .ok (.iconst 0, 1) := by decide +kernel
theorem dX8_hasPlaceForThing_14 : decode cX8_hasPlaceForThing 14 = .ok (.ireturn, 1) := by decide +kernel
theorem dX8_hasThing_0 : decode cX8_hasThing 0 = .ok (.iload_n 1, 1) := by decide +kernel
theorem dX8_hasThing_1 : decode cX8_hasThing 1 = .ok (.ifCond .lt 21, 3) := by decide +kernel
theorem dX8_hasThing_4 : decode cX8_hasThing 4 = .ok (.iload_n 1, 1) := by decide +kernel
theorem dX8_hasThing_5 : decode cX8_hasThing 5 = .ok (.aload_n 0, 1) := by decide +kernel
theorem dX8_hasThing_6 : decode cX8_hasThing 6 = .ok (.getfield 34, 3) := by decide +kernel
theorem dX8_hasThing_9 : decode cX8_hasThing 9 = .ok (.if_icmp .ge 13, 3) := by decide +kernel
theorem dX8_hasThing_12 : decode cX8_hasThing 12 = .ok (.iload_n 1, 1) := by decide +kernel
theorem dX8_hasThing_13 : decode cX8_hasThing 13 = .ok (.bipush 6, 2) := by decide +kernel
theorem dX8_hasThing_15 : decode cX8_hasThing 15 = .ok (.if_icmp .ge 7, 3) := by decide +kernel
theorem dX8_hasThing_18 : decode cX8_hasThing 18 = .ok (.iconst 1, 1) := by decide +kernel
theorem dX8_hasThing_19 : decode cX8_hasThing 19 = .ok (.goto 4, 3) := by decide +kernel
theorem dX8_hasThing_22 : decode cX8_hasThing 22 = .ok (.iconst 0, 1) := by decide +kernel
theorem dX8_hasThing_23 : decode cX8_hasThing 23 = .ok (.ireturn, 1) := by decide +kernel
theorem dX8_putThing_0 : decode cX8_putThing 0 = .ok (.aload_n 0, 1) := by decide +kernel
theorem dX8_putThing_1 : decode cX8_putThing 1 = .ok (.getfield 34, 3) := by decide +kernel
theorem dX8_putThing_4 : decode cX8_putThing 4 = .ok (.ifCond .lt 57, 3) := by decide +kernel
theorem dX8_putThing_7 : decode cX8_putThing 7 = .ok (.aload_n 0, 1) := by decide +kernel
theorem dX8_putThing_8 : decode cX8_putThing 8 = .ok (.getfield 34, 3) := by decide +kernel
theorem dX8_putThing_11 : decode cX8_putThing 11 = .ok (.aload_n 0, 1) := by decide +kernel
theorem dX8_putThing_12 : decode cX8_putThing 12 = .ok (.getfield 9, 3) := by decide +kernel
theorem dX8_putThing_15 : decode cX8_putThing 15 = .ok (.arraylength, 1) := by decide +kernel
theorem dX8_putThing_16 : decode cX8_putThing 16 = .ok (.if_icmp .ge 45, 3) := by decide +kernel
theorem dX8_putThing_19 : decode cX8_putThing 19 = .ok (.aload_n 0, 1) := by decide +kernel
theorem dX8_putThing_20 : decode cX8_putThing 20 = .ok (.getfield 34, 3) := by decide +kernel
theorem dX8_putThing_23 : decode cX8_putThing 23 = .ok (.aload_n 0, 1) := by decide +kernel
theorem dX8_putThing_24 : decode cX8_putThing 24 = .ok (.getfield 15, 3) := by decide +kernel
theorem dX8_putThing_27 : decode cX8_putThing 27 = .ok (.arraylength, 1) := by decide +kernel
theorem dX8_putThing_28 : decode cX8_putThing 28 = .ok (.if_icmp .ge 33, 3) := by decide +kernel
theorem dX8_putThing_31 : decode cX8_putThing 31 = .ok (.aload_n 0, 1) := by decide +kernel
theorem dX8_putThing_32 : decode cX8_putThing 32 = .ok (.getfield 9, 3) := by decide +kernel
theorem dX8_putThing_35 : decode cX8_putThing 35 = .ok (.aload_n 0, 1) := by decide +kernel
theorem dX8_putThing_36 : decode cX8_putThing 36 = .ok (.getfield 34, 3) := by decide +kernel
theorem dX8_putThing_39 : decode cX8_putThing 39 = .ok (.iload_n 1, 1) := by decide +kernel
theorem dX8_putThing_40 : decode cX8_putThing 40 = .ok (.iastore, 1) := by decide +kernel
theorem dX8_putThing_41 : decode cX8_putThing 41 = .ok (.aload_n 0, 1) := by decide +kernel
theorem dX8_putThing_42 : decode cX8_putThing 42 = .ok (.getfield 15, 3) := by decide +kernel
theorem dX8_putThing_45 : decode cX8_putThing 45 = .ok (.aload_n 0, 1) := by decide +kernel
theorem dX8_putThing_46 : decode cX8_putThing 46 = .ok (.getfield 34, 3) := by decide +kernel
theorem dX8_putThing_49 : decode cX8_putThing 49 = .ok (.iload_n 2, 1) := by decide +kernel
theorem dX8_putThing_50 : decode cX8_putThing 50 = .ok (.iastore, 1) := by decide +kernel
theorem dX8_putThing_51 : decode cX8_putThing 51 = .ok (.aload_n 0, 1) := by decide +kernel
theorem dX8_putThing_52 : decode cX8_putThing 52 = .ok (.dup, 1) := by decide +kernel
theorem dX8_putThing_53 : decode cX8_putThing 53 = .ok (.getfield 34, 3) := by decide +kernel
theorem dX8_putThing_56 : decode cX8_putThing 56 = .ok (.iconst 1, 1) := by decide +kernel
theorem dX8_putThing_57 : decode cX8_putThing 57 = .ok (.iadd, 1) := by decide +kernel
theorem dX8_putThing_58 : decode cX8_putThing 58 = .ok (.putfield 34, 3) := by decide +kernel
theorem dX8_putThing_61 : decode cX8_putThing 61 = .ok (.return_, 1) := by decide +kernel
theorem dX8_dropThing_0 : decode cX8_dropThing 0 = .ok (.aload_n 0, 1) := by decide +kernel
theorem dX8_dropThing_1 : decode cX8_dropThing 1 = .ok (.iload_n 1, 1) := by decide +kernel
theorem dX8_dropThing_2 : decode cX8_dropThing 2 = .ok (.invokevirtual 66, 3) := by decide +kernel
theorem dX8_dropThing_5 : decode cX8_dropThing 5 = .ok (.ifCond .ne 4, 3) := by decide +kernel
theorem dX8_dropThing_8 : decode cX8_dropThing 8 = .ok (.return_, 1) := by decide +kernel
theorem dX8_dropThing_9 : decode cX8_dropThing 9 = .ok (.iload_n 1, 1) := by decide +kernel
theorem dX8_dropThing_10 : decode cX8_dropThing 10 = .ok (.istore_n 2, 1) := by decide +kernel
theorem dX8_dropThing_11 : decode cX8_dropThing 11 = .ok (.iload_n 2, 1) := by decide +kernel
theorem dX8_dropThing_12 : decode cX8_dropThing 12 = .ok (.iconst 1, 1) := by decide +kernel
theorem dX8_dropThing_13 : decode cX8_dropThing 13 = .ok (.iadd, 1) := by decide +kernel
theorem dX8_dropThing_14 : decode cX8_dropThing 14 = .ok (.aload_n 0, 1) := by decide +kernel
theorem dX8_dropThing_15 : decode cX8_dropThing 15 = .ok (.getfield 34, 3) := by decide +kernel
theorem dX8_dropThing_18 : decode cX8_dropThing 18 = .ok (.if_icmp .ge 45, 3) := by decide +kernel
theorem dX8_dropThing_21 : decode cX8_dropThing 21 = .ok (.iload_n 2, 1) := by decide +kernel
theorem dX8_dropThing_22 : decode cX8_dropThing 22 = .ok (.iconst 1, 1) := by decide +kernel
theorem dX8_dropThing_23 : decode cX8_dropThing 23 = .ok (.iadd, 1) := by decide +kernel
theorem dX8_dropThing_24 : decode cX8_dropThing 24 = .ok (.bipush 6, 2) := by decide +kernel
theorem dX8_dropThing_26 : decode cX8_dropThing 26 = .ok (.if_icmp .ge 37, 3) := by decide +kernel
theorem dX8_dropThing_29 : decode cX8_dropThing 29 = .ok (.aload_n 0, 1) := by decide +kernel
theorem dX8_dropThing_30 : decode cX8_dropThing 30 = .ok (.getfield 9, 3) := by decide +kernel
theorem dX8_dropThing_33 : decode cX8_dropThing 33 = .ok (.iload_n 2, 1) := by decide +kernel
theorem dX8_dropThing_34 : decode cX8_dropThing 34 = .ok (.aload_n 0, 1) := by decide +kernel
theorem dX8_dropThing_35 : decode cX8_dropThing 35 = .ok (.getfield 9, 3) := by decide +kernel
theorem dX8_dropThing_38 : decode cX8_dropThing 38 = .ok (.iload_n 2, 1) := by decide +kernel
theorem dX8_dropThing_39 : decode cX8_dropThing 39 = .ok (.iconst 1, 1) := by decide +kernel
theorem dX8_dropThing_40 : decode cX8_dropThing 40 = .ok (.iadd, 1) := by decide +kernel
theorem dX8_dropThing_41 : decode cX8_dropThing 41 = .ok (.iaload, 1) := by decide +kernel
theorem dX8_dropThing_42 : decode cX8_dropThing 42 = .ok (.iastore, 1) := by decide +kernel
theorem dX8_dropThing_43 : decode cX8_dropThing 43 = .ok (.aload_n 0, 1) := by decide +kernel
theorem dX8_dropThing_44 : decode cX8_dropThing 44 = .ok (.getfield 15, 3) := by decide +kernel
theorem dX8_dropThing_47 : decode cX8_dropThing 47 = .ok (.iload_n 2, 1) := by decide +kernel
theorem dX8_dropThing_48 : decode cX8_dropThing 48 = .ok (.aload_n 0, 1) := by decide +kernel
theorem dX8_dropThing_49 : decode cX8_dropThing 49 = .ok (.getfield 15, 3) := by decide +kernel
theorem dX8_dropThing_52 : decode cX8_dropThing 52 = .ok (.iload_n 2, 1) := by decide +kernel
theorem dX8_dropThing_53 : decode cX8_dropThing 53 = .ok (.iconst 1, 1) := by decide +kernel
theorem dX8_dropThing_54 : decode cX8_dropThing 54 = .ok (.iadd, 1) := by decide +kernel
theorem dX8_dropThing_55 : decode cX8_dropThing 55 = .ok (.iaload, 1) := by decide +kernel
theorem dX8_dropThing_56 : decode cX8_dropThing 56 = .ok (.iastore, 1) := by decide +kernel
theorem dX8_dropThing_57 : decode cX8_dropThing 57 = .ok (.iinc 2 1, 3) := by decide +kernel
theorem dX8_dropThing_60 : decode cX8_dropThing 60 = .ok (.goto (-49), 3) := by decide +kernel
theorem dX8_dropThing_63 : decode cX8_dropThing 63 = .ok (.aload_n 0, 1) := by decide +kernel
theorem dX8_dropThing_64 : decode cX8_dropThing 64 = .ok (.dup, 1) := by decide +kernel
theorem dX8_dropThing_65 : decode cX8_dropThing 65 = .ok (.getfield 34, 3) := by decide +kernel
theorem dX8_dropThing_68 : decode cX8_dropThing 68 = .ok (.iconst 1, 1) := by decide +kernel
theorem dX8_dropThing_69 : decode cX8_dropThing 69 = .ok (.isub, 1) := by decide +kernel
theorem dX8_dropThing_70 : decode cX8_dropThing 70 = .ok (.putfield 34, 3) := by decide +kernel
theorem dX8_dropThing_73 : decode cX8_dropThing 73 = .ok (.return_, 1) := by decide +kernel
theorem dX8_thingDistance_0 : decode cX8_thingDistance 0 = .ok (.aload_n 0, 1) := by decide +kernel
theorem dX8_thingDistance_1 : decode cX8_thingDistance 1 = .ok (.iload_n 1, 1) := by decide +kernel
theorem dX8_thingDistance_2 : decode cX8_thingDistance 2 = .ok (.invokevirtual 66, 3) := by decide +kernel
theorem dX8_thingDistance_5 : decode cX8_thingDistance 5 = .ok (.ifCond .eq 12, 3) := by decide +kernel
theorem dX8_thingDistance_8 : decode cX8_thingDistance 8 = .ok (.aload_n 0, 1) := by decide +kernel
theorem dX8_thingDistance_9 : decode cX8_thingDistance 9 = .ok (.getfield 9, 3) := by decide +kernel
theorem dX8_thingDistance_12 : decode cX8_thingDistance 12 = .ok (.iload_n 1, 1) := by decide +kernel
theorem dX8_thingDistance_13 : decode cX8_thingDistance 13 = .ok (.iaload, 1) := by decide +kernel
theorem dX8_thingDistance_14 : decode cX8_thingDistance 14 = .ok (.goto 4, 3) := by decide +kernel
theorem dX8_thingDistance_17 : decode cX8_thingDistance 17 = .ok (.iconst (-1), 1) := by decide +kernel
theorem dX8_thingDistance_18 : decode cX8_thingDistance 18 = .ok (.ireturn, 1) := by decide +kernel
theorem dX8_thingStrength_0 : decode cX8_thingStrength 0 = .ok (.aload_n 0, 1) := by decide +kernel
theorem dX8_thingStrength_1 : decode cX8_thingStrength 1 = .ok (.iload_n 1, 1) := by decide +kernel
theorem dX8_thingStrength_2 : decode cX8_thingStrength 2 = .ok (.invokevirtual 66, 3) := by decide +kernel
theorem dX8_thingStrength_5 : decode cX8_thingStrength 5 = .ok (.ifCond .eq 12, 3) := by decide +kernel
theorem dX8_thingStrength_8 : decode cX8_thingStrength 8 = .ok (.aload_n 0, 1) := by decide +kernel
theorem dX8_thingStrength_9 : decode cX8_thingStrength 9 = .ok (.getfield 15, 3) := by decide +kernel
theorem dX8_thingStrength_12 : decode cX8_thingStrength 12 = .ok (.iload_n 1, 1) := by decide +kernel
theorem dX8_thingStrength_13 : decode cX8_thingStrength 13 = .ok (.iaload, 1) := by decide +kernel
theorem dX8_thingStrength_14 : decode cX8_thingStrength 14 = .ok (.goto 4, 3) := by decide +kernel
theorem dX8_thingStrength_17 : decode cX8_thingStrength 17 = .ok (.iconst (-1), 1) := by decide +kernel
theorem dX8_thingStrength_18 : decode cX8_thingStrength 18 = .ok (.ireturn, 1) := by decide +kernel
theorem dX8_putStirrer_0 : decode cX8_putStirrer 0 = .ok (.aload_n 0, 1) := by decide +kernel
theorem dX8_putStirrer_1 : decode cX8_putStirrer 1 = .ok (.iload_n 1, 1) := by decide +kernel
theorem dX8_putStirrer_2 : decode cX8_putStirrer 2 = .ok (.putfield 37, 3) := by decide +kernel
theorem dX8_putStirrer_5 : decode cX8_putStirrer 5 = .ok (.aload_n 0, 1) := by decide +kernel
theorem dX8_putStirrer_6 : decode cX8_putStirrer 6 = .ok (.iload_n 2, 1) := by decide +kernel
theorem dX8_putStirrer_7 : decode cX8_putStirrer 7 = .ok (.putfield 40, 3) := by decide +kernel
theorem dX8_putStirrer_10 : decode cX8_putStirrer 10 = .ok (.aload_n 0, 1) := by decide +kernel
theorem dX8_putStirrer_11 : decode cX8_putStirrer 11 = .ok (.iload_n 3, 1) := by decide +kernel
theorem dX8_putStirrer_12 : decode cX8_putStirrer 12 = .ok (.putfield 43, 3) := by decide +kernel
theorem dX8_putStirrer_15 : decode cX8_putStirrer 15 = .ok (.aload_n 0, 1) := by decide +kernel
theorem dX8_putStirrer_16 : decode cX8_putStirrer 16 = .ok (.iload 4, 2) := by decide +kernel
theorem dX8_putStirrer_18 : decode cX8_putStirrer 18 = .ok (.putfield 49, 3) := by decide +kernel
theorem dX8_putStirrer_21 : decode cX8_putStirrer 21 = .ok (.aload_n 0, 1) := by decide +kernel
theorem dX8_putStirrer_22 : decode cX8_putStirrer 22 = .ok (.iload 5, 2) := by decide +kernel
theorem dX8_putStirrer_24 : decode cX8_putStirrer 24 = .ok (.putfield 52, 3) := by decide +kernel
theorem dX8_putStirrer_27 : decode cX8_putStirrer 27 = .ok (.return_, 1) := by decide +kernel
theorem dX8_moveOn_0 : decode cX8_moveOn 0 = .ok (.aload_n 0, 1) := by decide +kernel
theorem dX8_moveOn_1 : decode cX8_moveOn 1 = .ok (.aload_n 0, 1) := by decide +kernel
theorem dX8_moveOn_2 : decode cX8_moveOn 2 = .ok (.getfield 21, 3) := by decide +kernel
theorem dX8_moveOn_5 : decode cX8_moveOn 5 = .ok (.iconst 0, 1) := by decide +kernel
theorem dX8_moveOn_6 : decode cX8_moveOn 6 = .ok (.aload_n 0, 1) := by decide +kernel
theorem dX8_moveOn_7 : decode cX8_moveOn 7 = .ok (.getfield 25, 3) := by decide +kernel
theorem dX8_moveOn_10 : decode cX8_moveOn 10 = .ok (.aload_n 0, 1) := by decide +kernel
theorem dX8_moveOn_11 : decode cX8_moveOn 11 = .ok (.getfield 28, 3) := by decide +kernel
theorem dX8_moveOn_14 : decode cX8_moveOn 14 = .ok (.iadd, 1) := by decide +kernel
theorem dX8_moveOn_15 : decode cX8_moveOn 15 = .ok (.invokestatic 69, 3) := by decide +kernel
theorem dX8_moveOn_18 : decode cX8_moveOn 18 = .ok (.invokestatic 75, 3) := by decide +kernel
theorem dX8_moveOn_21 : decode cX8_moveOn 21 = .ok (.putfield 25, 3) := by decide +kernel
theorem dX8_moveOn_24 : decode cX8_moveOn 24 = .ok (.aload_n 0, 1) := by decide +kernel
theorem dX8_moveOn_25 : decode cX8_moveOn 25 = .ok (.aload_n 0, 1) := by decide +kernel
theorem dX8_moveOn_26 : decode cX8_moveOn 26 = .ok (.getfield 46, 3) := by decide +kernel
theorem dX8_moveOn_29 : decode cX8_moveOn 29 = .ok (.aload_n 0, 1) := by decide +kernel
theorem dX8_moveOn_30 : decode cX8_moveOn 30 = .ok (.getfield 49, 3) := by decide +kernel
theorem dX8_moveOn_33 : decode cX8_moveOn 33 = .ok (.iadd, 1) := by decide +kernel
theorem dX8_moveOn_34 : decode cX8_moveOn 34 = .ok (.sipush 360, 3) := by decide +kernel
theorem dX8_moveOn_37 : decode cX8_moveOn 37 = .ok (.irem, 1) := by decide +kernel
theorem dX8_moveOn_38 : decode cX8_moveOn 38 = .ok (.putfield 46, 3) := by decide +kernel
theorem dX8_moveOn_41 : decode cX8_moveOn 41 = .ok (.return_, 1) := by decide +kernel
theorem dX8_bladeAngle_0 : decode cX8_bladeAngle 0 = .ok (.aload_n 0, 1) := by decide +kernel
theorem dX8_bladeAngle_1 : decode cX8_bladeAngle 1 = .ok (.getfield 37, 3) := by decide +kernel
theorem dX8_bladeAngle_4 : decode cX8_bladeAngle 4 = .ok (.ifCond .le 25, 3) := by decide +kernel
theorem dX8_bladeAngle_7 : decode cX8_bladeAngle 7 = .ok (.aload_n 0, 1) := by decide +kernel
theorem dX8_bladeAngle_8 : decode cX8_bladeAngle 8 = .ok (.getfield 46, 3) := by decide +kernel
theorem dX8_bladeAngle_11 : decode cX8_bladeAngle 11 = .ok (.sipush 360, 3) := by decide +kernel
theorem dX8_bladeAngle_14 : decode cX8_bladeAngle 14 = .ok (.iload_n 1, 1) := by decide +kernel
theorem dX8_bladeAngle_15 : decode cX8_bladeAngle 15 = .ok (.imul, 1) := by decide +kernel
theorem dX8_bladeAngle_16 : decode cX8_bladeAngle 16 = .ok (.aload_n 0, 1) := by decide +kernel
theorem dX8_bladeAngle_17 : decode cX8_bladeAngle 17 = .ok (.getfield 37, 3) := by decide +kernel
theorem dX8_bladeAngle_20 : decode cX8_bladeAngle 20 = .ok (.idiv, 1) := by decide +kernel
theorem dX8_bladeAngle_21 : decode cX8_bladeAngle 21 = .ok (.iadd, 1) := by decide +kernel
theorem dX8_bladeAngle_22 : decode cX8_bladeAngle 22 = .ok (.sipush 360, 3) := by decide +kernel
theorem dX8_bladeAngle_25 : decode cX8_bladeAngle 25 = .ok (.irem, 1) := by decide +kernel
theorem dX8_bladeAngle_26 : decode cX8_bladeAngle 26 = .ok (.goto 4, 3) := by decide +kernel
theorem dX8_bladeAngle_29 : decode cX8_bladeAngle 29 = .ok (.iconst (-1), 1) := by decide +kernel
theorem dX8_bladeAngle_30 : decode cX8_bladeAngle 30 = .ok (.ireturn, 1) := by decide +kernel
theorem dX8_isInBeam_0 : decode cX8_isInBeam 0 = .ok (.aload_n 0, 1) := by decide +kernel
theorem dX8_isInBeam_1 : decode cX8_isInBeam 1 = .ok (.iload_n 1, 1) := by decide +kernel
theorem dX8_isInBeam_2 : decode cX8_isInBeam 2 = .ok (.invokevirtual 78, 3) := by decide +kernel
theorem dX8_isInBeam_5 : decode cX8_isInBeam 5 = .ok (.istore_n 2, 1) := by decide +kernel
theorem dX8_isInBeam_6 : decode cX8_isInBeam 6 = .ok (.iload_n 2, 1) := by decide +kernel
theorem dX8_isInBeam_7 : decode cX8_isInBeam 7 = .ok (.aload_n 0, 1) := by decide +kernel
theorem dX8_isInBeam_8 : decode cX8_isInBeam 8 = .ok (.getfield 52, 3) := by decide +kernel
theorem dX8_isInBeam_11 : decode cX8_isInBeam 11 = .ok (.if_icmp .le 15, 3) := by decide +kernel
theorem dX8_isInBeam_14 : decode cX8_isInBeam 14 = .ok (.iload_n 2, 1) := by decide +kernel
theorem dX8_isInBeam_15 : decode cX8_isInBeam 15 = .ok (.sipush 360, 3) := by decide +kernel
theorem dX8_isInBeam_18 : decode cX8_isInBeam 18 = .ok (.aload_n 0, 1) := by decide +kernel
theorem dX8_isInBeam_19 : decode cX8_isInBeam 19 = .ok (.getfield 52, 3) := by decide +kernel
theorem dX8_isInBeam_22 : decode cX8_isInBeam 22 = .ok (.isub, 1) := by decide +kernel
theorem dX8_isInBeam_23 : decode cX8_isInBeam 23 = .ok (.if_icmp .lt 7, 3) := by decide +kernel
theorem dX8_isInBeam_26 : decode cX8_isInBeam 26 = .ok (.iconst 1, 1) := by decide +kernel
theorem dX8_isInBeam_27 : decode cX8_isInBeam 27 = .ok (.goto 4, 3) := by decide +kernel
theorem dX8_isInBeam_30 : decode cX8_isInBeam 30 = .ok (.iconst 0, 1) := by decide +kernel
theorem dX8_isInBeam_31 : decode cX8_isInBeam 31 = .ok (.ireturn, 1) := by decide +kernel
theorem dX8_draw_0 : decode cX8_draw 0 = .ok (.aload_n 0, 1) := by decide +kernel
theorem dX8_draw_1 : decode cX8_draw 1 = .ok (.ldc2_w 82, 3) := by decide +kernel
theorem dX8_draw_4 : decode cX8_draw 4 = .ok (.aload_n 0, 1) := by decide +kernel
theorem dX8_draw_5 : decode cX8_draw 5 = .ok (.getfield 55, 3) := by decide +kernel
theorem dX8_draw_8 : decode cX8_draw 8 = .ok (.i2l, 1) := by decide +kernel
theorem dX8_draw_9 : decode cX8_draw 9 = .ok (.lmul, 1) := by decide +kernel
theorem dX8_draw_10 : decode cX8_draw 10 = .ok (.ldc2_w 84, 3) := by decide +kernel
theorem dX8_draw_13 : decode cX8_draw 13 = .ok (.ladd, 1) := by decide +kernel
theorem dX8_draw_14 : decode cX8_draw 14 = .ok (.ldc2_w 86, 3) := by decide +kernel
theorem dX8_draw_17 : decode cX8_draw 17 = .ok (.lrem, 1) := by decide +kernel
theorem dX8_draw_18 : decode cX8_draw 18 = .ok (.l2i, 1) := by decide +kernel
theorem dX8_draw_19 : decode cX8_draw 19 = .ok (.putfield 55, 3) := by decide +kernel
theorem dX8_draw_22 : decode cX8_draw 22 = .ok (.iload_n 1, 1) := by decide +kernel
theorem dX8_draw_23 : decode cX8_draw 23 = .ok (.ifCond .le 15, 3) := by decide +kernel
theorem dX8_draw_26 : decode cX8_draw 26 = .ok (.aload_n 0, 1) := by decide +kernel
theorem dX8_draw_27 : decode cX8_draw 27 = .ok (.getfield 55, 3) := by decide +kernel
theorem dX8_draw_30 : decode cX8_draw 30 = .ok (.ldc 88, 2) := by decide +kernel
theorem dX8_draw_32 : decode cX8_draw 32 = .ok (.idiv, 1) := by decide +kernel
theorem dX8_draw_33 : decode cX8_draw 33 = .ok (.iload_n 1, 1) := by decide +kernel
theorem dX8_draw_34 : decode cX8_draw 34 = .ok (.irem, 1) := by decide +kernel
theorem dX8_draw_35 : decode cX8_draw 35 = .ok (.goto 4, 3) := by decide +kernel
theorem dX8_draw_38 : decode cX8_draw 38 = .ok (.iconst 0, 1) := by decide +kernel
theorem dX8_draw_39 : decode cX8_draw 39 = .ok (.ireturn, 1) := by decide +kernel
theorem dX8_addToDigest_0 : decode cX8_addToDigest 0 = .ok (.lload_n 1, 1) := by decide +kernel
theorem dX8_addToDigest_1 : decode cX8_addToDigest 1 = .ok (.lstore_n 3, 1) := by decide +kernel
theorem dX8_addToDigest_2 : decode cX8_addToDigest 2 = .ok (.iconst 0, 1) := by decide +kernel
theorem dX8_addToDigest_3 : decode cX8_addToDigest 3 = .ok (.istore 5, 2) := by decide +kernel
theorem dX8_addToDigest_5 : decode cX8_addToDigest 5 = .ok (.iload 5, 2) := by decide +kernel
theorem dX8_addToDigest_7 : decode cX8_addToDigest 7 = .ok (.aload_n 0, 1) := by decide +kernel
theorem dX8_addToDigest_8 : decode cX8_addToDigest 8 = .ok (.getfield 34, 3) := by decide +kernel
theorem dX8_addToDigest_11 : decode cX8_addToDigest 11 = .ok (.if_icmp .ge 37, 3) := by decide +kernel
theorem dX8_addToDigest_14 : decode cX8_addToDigest 14 = .ok (.ldc2_w 89, 3) := by decide +kernel
theorem dX8_addToDigest_17 : decode cX8_addToDigest 17 = .ok (.lload_n 3, 1) := by decide +kernel
theorem dX8_addToDigest_18 : decode cX8_addToDigest 18 = .ok (.lmul, 1) := by decide +kernel
theorem dX8_addToDigest_19 : decode cX8_addToDigest 19 = .ok (.aload_n 0, 1) := by decide +kernel
theorem dX8_addToDigest_20 : decode cX8_addToDigest 20 = .ok (.iload 5, 2) := by decide +kernel
theorem dX8_addToDigest_22 : decode cX8_addToDigest 22 = .ok (.invokevirtual 91, 3) := by decide +kernel
theorem dX8_addToDigest_25 : decode cX8_addToDigest 25 = .ok (.i2l, 1) := by decide +kernel
theorem dX8_addToDigest_26 : decode cX8_addToDigest 26 = .ok (.ladd, 1) := by decide +kernel
theorem dX8_addToDigest_27 : decode cX8_addToDigest 27 = .ok (.lstore_n 3, 1) := by decide +kernel
theorem dX8_addToDigest_28 : decode cX8_addToDigest 28 = .ok (.ldc2_w 89, 3) := by decide +kernel
theorem dX8_addToDigest_31 : decode cX8_addToDigest 31 = .ok (.lload_n 3, 1) := by decide +kernel
theorem dX8_addToDigest_32 : decode cX8_addToDigest 32 = .ok (.lmul, 1) := by decide +kernel
theorem dX8_addToDigest_33 : decode cX8_addToDigest 33 = .ok (.aload_n 0, 1) := by decide +kernel
theorem dX8_addToDigest_34 : decode cX8_addToDigest 34 = .ok (.iload 5, 2) := by decide +kernel
theorem dX8_addToDigest_36 : decode cX8_addToDigest 36 = .ok (.invokevirtual 94, 3) := by decide +kernel
theorem dX8_addToDigest_39 : decode cX8_addToDigest 39 = .ok (.i2l, 1) := by decide +kernel
theorem dX8_addToDigest_40 : decode cX8_addToDigest 40 = .ok (.ladd, 1) := by decide +kernel
theorem dX8_addToDigest_41 : decode cX8_addToDigest 41 = .ok (.lstore_n 3, 1) := by decide +kernel
theorem dX8_addToDigest_42 : decode cX8_addToDigest 42 = .ok (.iinc 5 1, 3) := by decide +kernel
theorem dX8_addToDigest_45 : decode cX8_addToDigest 45 = .ok (.goto (-40), 3) := by decide +kernel
theorem dX8_addToDigest_48 : decode cX8_addToDigest 48 = .ok (.iconst 0, 1) := by decide +kernel
theorem dX8_addToDigest_49 : decode cX8_addToDigest 49 = .ok (.istore 5, 2) := by decide +kernel
theorem dX8_addToDigest_51 : decode cX8_addToDigest 51 = .ok (.iload 5, 2) := by decide +kernel
theorem dX8_addToDigest_53 : decode cX8_addToDigest 53 = .ok (.aload_n 0, 1) := by decide +kernel
theorem dX8_addToDigest_54 : decode cX8_addToDigest 54 = .ok (.getfield 37, 3) := by decide +kernel
theorem dX8_addToDigest_57 : decode cX8_addToDigest 57 = .ok (.if_icmp .ge 23, 3) := by decide +kernel
theorem dX8_addToDigest_60 : decode cX8_addToDigest 60 = .ok (.ldc2_w 89, 3) := by decide +kernel
theorem dX8_addToDigest_63 : decode cX8_addToDigest 63 = .ok (.lload_n 3, 1) := by decide +kernel
theorem dX8_addToDigest_64 : decode cX8_addToDigest 64 = .ok (.lmul, 1) := by decide +kernel
theorem dX8_addToDigest_65 : decode cX8_addToDigest 65 = .ok (.aload_n 0, 1) := by decide +kernel
theorem dX8_addToDigest_66 : decode cX8_addToDigest 66 = .ok (.iload 5, 2) := by decide +kernel
theorem dX8_addToDigest_68 : decode cX8_addToDigest 68 = .ok (.invokevirtual 78, 3) := by decide +kernel
theorem dX8_addToDigest_71 : decode cX8_addToDigest 71 = .ok (.i2l, 1) := by decide +kernel
theorem dX8_addToDigest_72 : decode cX8_addToDigest 72 = .ok (.ladd, 1) := by decide +kernel
theorem dX8_addToDigest_73 : decode cX8_addToDigest 73 = .ok (.lstore_n 3, 1) := by decide +kernel
theorem dX8_addToDigest_74 : decode cX8_addToDigest 74 = .ok (.iinc 5 1, 3) := by decide +kernel
theorem dX8_addToDigest_77 : decode cX8_addToDigest 77 = .ok (.goto (-26), 3) := by decide +kernel
theorem dX8_addToDigest_80 : decode cX8_addToDigest 80 = .ok (.lload_n 3, 1) := by decide +kernel
theorem dX8_addToDigest_81 : decode cX8_addToDigest 81 = .ok (.lreturn, 1) := by decide +kernel
theorem dX10_init_0 : decode cX10_init 0 = .ok (.aload_n 0, 1) := by decide +kernel
theorem dX10_init_1 : decode cX10_init 1 = .ok (.invokespecial 3, 3) := by decide +kernel
theorem dX10_init_4 : decode cX10_init 4 = .ok (.aload_n 0, 1) := by decide +kernel
theorem dX10_init_5 : decode cX10_init 5 = .ok (.new 9, 3) := by decide +kernel
theorem dX10_init_8 : decode cX10_init 8 = .ok (.dup, 1) := by decide +kernel
theorem dX10_init_9 : decode cX10_init 9 = .ok (.invokespecial 11, 3) := by decide +kernel
theorem dX10_init_12 : decode cX10_init 12 = .ok (.putfield 12, 3) := by decide +kernel
theorem dX10_init_15 : decode cX10_init 15 = .ok (.aload_n 0, 1) := by decide +kernel
theorem dX10_init_16 : decode cX10_init 16 = .ok (.new 9, 3) := by decide +kernel
theorem dX10_init_19 : decode cX10_init 19 = .ok (.dup, 1) := by decide +kernel
theorem dX10_init_20 : decode cX10_init 20 = .ok (.invokespecial 11, 3) := by decide +kernel
theorem dX10_init_23 : decode cX10_init 23 = .ok (.putfield 16, 3) := by decide +kernel
theorem dX10_init_26 : decode cX10_init 26 = .ok (.aload_n 0, 1) := by decide +kernel
theorem dX10_init_27 : decode cX10_init 27 = .ok (.iconst 4, 1) := by decide +kernel
theorem dX10_init_28 : decode cX10_init 28 = .ok (.anewarray 9, 3) := by decide +kernel
theorem dX10_init_31 : decode cX10_init 31 = .ok (.putfield 19, 3) := by decide +kernel
theorem dX10_init_34 : decode cX10_init 34 = .ok (.aload_n 0, 1) := by decide +kernel
theorem dX10_init_35 : decode cX10_init 35 = .ok (.iconst 0, 1) := by decide +kernel
theorem dX10_init_36 : decode cX10_init 36 = .ok (.putfield 23, 3) := by decide +kernel
theorem dX10_init_39 : decode cX10_init 39 = .ok (.aload_n 0, 1) := by decide +kernel
theorem dX10_init_40 : decode cX10_init 40 = .ok (.iconst 0, 1) := by decide +kernel
theorem dX10_init_41 : decode cX10_init 41 = .ok (.putfield 27, 3) := by decide +kernel
theorem dX10_init_44 : decode cX10_init 44 = .ok (.aload_n 0, 1) := by decide +kernel
theorem dX10_init_45 : decode cX10_init 45 = .ok (.new 30, 3) := by decide +kernel
theorem dX10_init_48 : decode cX10_init 48 = .ok (.dup, 1) := by decide +kernel
theorem dX10_init_49 : decode cX10_init 49 = .ok (.invokespecial 32, 3) := by decide +kernel
theorem dX10_init_52 : decode cX10_init 52 = .ok (.putfield 33, 3) := by decide +kernel
theorem dX10_init_55 : decode cX10_init 55 = .ok (.iconst 0, 1) := by decide +kernel
theorem dX10_init_56 : decode cX10_init 56 = .ok (.istore_n 1, 1) := by decide +kernel
theorem dX10_init_57 : decode cX10_init 57 = .ok (.iload_n 1, 1) := by decide +kernel
theorem dX10_init_58 : decode cX10_init 58 = .ok (.aload_n 0, 1) := by decide +kernel
theorem dX10_init_59 : decode cX10_init 59 = .ok (.getfield 19, 3) := by decide +kernel
theorem dX10_init_62 : decode cX10_init 62 = .ok (.arraylength, 1) := by decide +kernel
theorem dX10_init_63 : decode cX10_init 63 = .ok (.if_icmp .ge 22, 3) := by decide +kernel
theorem dX10_init_66 : decode cX10_init 66 = .ok (.aload_n 0, 1) := by decide +kernel
theorem dX10_init_67 : decode cX10_init 67 = .ok (.getfield 19, 3) := by decide +kernel
theorem dX10_init_70 : decode cX10_init 70 = .ok (.iload_n 1, 1) := by decide +kernel
theorem dX10_init_71 : decode cX10_init 71 = .ok (.new 9, 3) := by decide +kernel
theorem dX10_init_74 : decode cX10_init 74 = .ok (.dup, 1) := by decide +kernel
theorem dX10_init_75 : decode cX10_init 75 = .ok (.invokespecial 11, 3) := by decide +kernel
theorem dX10_init_78 : decode cX10_init 78 = .ok (.aastore, 1) := by decide +kernel
theorem dX10_init_79 : decode cX10_init 79 = .ok (.iinc 1 1, 3) := by decide +kernel
theorem dX10_init_82 : decode cX10_init 82 = .ok (.goto (-25), 3) := by decide +kernel
theorem dX10_init_85 : decode cX10_init 85 = .ok (.return_, 1) := by decide +kernel
theorem dX10_begin_0 : decode cX10_begin 0 = .ok (.iload_n 1, 1) := by decide +kernel
theorem dX10_begin_1 : decode cX10_begin 1 = .ok (.invokestatic 37, 3) := by decide +kernel
theorem dX10_begin_4 : decode cX10_begin 4 = .ok (.ifCond .ne 13, 3) := by decide +kernel
theorem dX10_begin_7 : decode cX10_begin 7 = .ok (.new 43, 3) := by decide +kernel
theorem dX10_begin_10 : decode cX10_begin 10 = .ok (.dup, 1) := by decide +kernel
theorem dX10_begin_11 : decode cX10_begin 11 = .ok (.ldc 45, 2) := by decide +kernel
theorem dX10_begin_13 : decode cX10_begin 13 = .ok (.invokespecial 47, 3) := by decide +kernel
theorem dX10_begin_16 : decode cX10_begin 16 = .ok (.athrow, 1) := by decide +kernel
theorem dX10_begin_17 : decode cX10_begin 17 = .ok (.aload_n 0, 1) := by decide +kernel
theorem dX10_begin_18 : decode cX10_begin 18 = .ok (.invokevirtual 50, 3) := by decide +kernel
theorem dX10_begin_21 : decode cX10_begin 21 = .ok (.aload_n 0, 1) := by decide +kernel
theorem dX10_begin_22 : decode cX10_begin 22 = .ok (.getfield 12, 3) := by decide +kernel
theorem dX10_begin_25 : decode cX10_begin 25 = .ok (.getfield 53, 3) := by decide +kernel
theorem dX10_begin_28 : decode cX10_begin 28 = .ok (.getfield 57, 3) := by decide +kernel
theorem dX10_begin_31 : decode cX10_begin 31 = .ok (.istore_n 2, 1) := by decide +kernel
theorem dX10_begin_32 : decode cX10_begin 32 = .ok (.aload_n 0, 1) := by decide +kernel
theorem dX10_begin_33 : decode cX10_begin 33 = .ok (.getfield 12, 3) := by decide +kernel
theorem dX10_begin_36 : decode cX10_begin 36 = .ok (.iload_n 1, 1) := by decide +kernel
theorem dX10_begin_37 : decode cX10_begin 37 = .ok (.invokevirtual 62, 3) := by decide +kernel
theorem dX10_begin_40 : decode cX10_begin 40 = .ok (.iload_n 2, 1) := by decide +kernel
theorem dX10_begin_41 : decode cX10_begin 41 = .ok (.ireturn, 1) := by decide +kernel
theorem dX10_setLevel_0 : decode cX10_setLevel 0 = .ok (.aload_n 0, 1) := by decide +kernel
theorem dX10_setLevel_1 : decode cX10_setLevel 1 = .ok (.getfield 12, 3) := by decide +kernel
theorem dX10_setLevel_4 : decode cX10_setLevel 4 = .ok (.getfield 66, 3) := by decide +kernel
theorem dX10_setLevel_7 : decode cX10_setLevel 7 = .ok (.iload_n 1, 1) := by decide +kernel
theorem dX10_setLevel_8 : decode cX10_setLevel 8 = .ok (.invokevirtual 70, 3) := by decide +kernel
theorem dX10_setLevel_11 : decode cX10_setLevel 11 = .ok (.ifCond .ne 13, 3) := by decide +kernel
theorem dX10_setLevel_14 : decode cX10_setLevel 14 = .ok (.new 43, 3) := by decide +kernel
theorem dX10_setLevel_17 : decode cX10_setLevel 17 = .ok (.dup, 1) := by decide +kernel
theorem dX10_setLevel_18 : decode cX10_setLevel 18 = .ok (.ldc 73, 2) := by decide +kernel
theorem dX10_setLevel_20 : decode cX10_setLevel 20 = .ok (.invokespecial 47, 3) := by decide +kernel
theorem dX10_setLevel_23 : decode cX10_setLevel 23 = .ok (.athrow, 1) := by decide +kernel
theorem dX10_setLevel_24 : decode cX10_setLevel 24 = .ok (.aload_n 0, 1) := by decide +kernel
theorem dX10_setLevel_25 : decode cX10_setLevel 25 = .ok (.invokevirtual 50, 3) := by decide +kernel
theorem dX10_setLevel_28 : decode cX10_setLevel 28 = .ok (.aload_n 0, 1) := by decide +kernel
theorem dX10_setLevel_29 : decode cX10_setLevel 29 = .ok (.getfield 12, 3) := by decide +kernel
theorem dX10_setLevel_32 : decode cX10_setLevel 32 = .ok (.getfield 66, 3) := by decide +kernel
theorem dX10_setLevel_35 : decode cX10_setLevel 35 = .ok (.getfield 75, 3) := by decide +kernel
theorem dX10_setLevel_38 : decode cX10_setLevel 38 = .ok (.istore_n 2, 1) := by decide +kernel
theorem dX10_setLevel_39 : decode cX10_setLevel 39 = .ok (.aload_n 0, 1) := by decide +kernel
theorem dX10_setLevel_40 : decode cX10_setLevel 40 = .ok (.getfield 12, 3) := by decide +kernel
theorem dX10_setLevel_43 : decode cX10_setLevel 43 = .ok (.getfield 66, 3) := by decide +kernel
theorem dX10_setLevel_46 : decode cX10_setLevel 46 = .ok (.iload_n 1, 1) := by decide +kernel
theorem dX10_setLevel_47 : decode cX10_setLevel 47 = .ok (.putfield 75, 3) := by decide +kernel
theorem dX10_setLevel_50 : decode cX10_setLevel 50 = .ok (.iload_n 2, 1) := by decide +kernel
theorem dX10_setLevel_51 : decode cX10_setLevel 51 = .ok (.ireturn, 1) := by decide +kernel
theorem dX10_setFlow_0 : decode cX10_setFlow 0 = .ok (.iload_n 1, 1) := by decide +kernel
theorem dX10_setFlow_1 : decode cX10_setFlow 1 = .ok (.invokestatic 78, 3) := by decide +kernel
theorem dX10_setFlow_4 : decode cX10_setFlow 4 = .ok (.ifCond .ne 13, 3) := by decide +kernel
theorem dX10_setFlow_7 : decode cX10_setFlow 7 = .ok (.new 43, 3) := by decide +kernel
theorem dX10_setFlow_10 : decode cX10_setFlow 10 = .ok (.dup, 1) := by decide +kernel
theorem dX10_setFlow_11 : decode cX10_setFlow 11 = .ok (.ldc 81, 2) := by decide +kernel
theorem dX10_setFlow_13 : decode cX10_setFlow 13 = .ok (.invokespecial 47, 3) := by decide +kernel
theorem dX10_setFlow_16 : decode cX10_setFlow 16 = .ok (.athrow, 1) := by decide +kernel
theorem dX10_setFlow_17 : decode cX10_setFlow 17 = .ok (.aload_n 0, 1) := by decide +kernel
theorem dX10_setFlow_18 : decode cX10_setFlow 18 = .ok (.invokevirtual 50, 3) := by decide +kernel
theorem dX10_setFlow_21 : decode cX10_setFlow 21 = .ok (.aload_n 0, 1) := by decide +kernel
theorem dX10_setFlow_22 : decode cX10_setFlow 22 = .ok (.getfield 12, 3) := by decide +kernel
theorem dX10_setFlow_25 : decode cX10_setFlow 25 = .ok (.getfield 66, 3) := by decide +kernel
theorem dX10_setFlow_28 : decode cX10_setFlow 28 = .ok (.getfield 83, 3) := by decide +kernel
theorem dX10_setFlow_31 : decode cX10_setFlow 31 = .ok (.istore_n 2, 1) := by decide +kernel
theorem dX10_setFlow_32 : decode cX10_setFlow 32 = .ok (.aload_n 0, 1) := by decide +kernel
theorem dX10_setFlow_33 : decode cX10_setFlow 33 = .ok (.getfield 12, 3) := by decide +kernel
theorem dX10_setFlow_36 : decode cX10_setFlow 36 = .ok (.getfield 66, 3) := by decide +kernel
theorem dX10_setFlow_39 : decode cX10_setFlow 39 = .ok (.iload_n 1, 1) := by decide +kernel
theorem dX10_setFlow_40 : decode cX10_setFlow 40 = .ok (.putfield 83, 3) := by decide +kernel
theorem dX10_setFlow_43 : decode cX10_setFlow 43 = .ok (.iload_n 2, 1) := by decide +kernel
theorem dX10_setFlow_44 : decode cX10_setFlow 44 = .ok (.ireturn, 1) := by decide +kernel
theorem dX10_setFoam_0 : decode cX10_setFoam 0 = .ok (.iload_n 1, 1) := by decide +kernel
theorem dX10_setFoam_1 : decode cX10_setFoam 1 = .ok (.invokestatic 86, 3) := by decide +kernel
theorem dX10_setFoam_4 : decode cX10_setFoam 4 = .ok (.ifCond .ne 13, 3) := by decide +kernel
theorem dX10_setFoam_7 : decode cX10_setFoam 7 = .ok (.new 43, 3) := by decide +kernel
theorem dX10_setFoam_10 : decode cX10_setFoam 10 = .ok (.dup, 1) := by decide +kernel
theorem dX10_setFoam_11 : decode cX10_setFoam 11 = .ok (.ldc 89, 2) := by decide +kernel
theorem dX10_setFoam_13 : decode cX10_setFoam 13 = .ok (.invokespecial 47, 3) := by decide +kernel
theorem dX10_setFoam_16 : decode cX10_setFoam 16 = .ok (.athrow, 1) := by decide +kernel
theorem dX10_setFoam_17 : decode cX10_setFoam 17 = .ok (.aload_n 0, 1) := by decide +kernel
theorem dX10_setFoam_18 : decode cX10_setFoam 18 = .ok (.invokevirtual 50, 3) := by decide +kernel
theorem dX10_setFoam_21 : decode cX10_setFoam 21 = .ok (.aload_n 0, 1) := by decide +kernel
theorem dX10_setFoam_22 : decode cX10_setFoam 22 = .ok (.getfield 12, 3) := by decide +kernel
theorem dX10_setFoam_25 : decode cX10_setFoam 25 = .ok (.getfield 66, 3) := by decide +kernel
theorem dX10_setFoam_28 : decode cX10_setFoam 28 = .ok (.getfield 91, 3) := by decide +kernel
theorem dX10_setFoam_31 : decode cX10_setFoam 31 = .ok (.istore_n 2, 1) := by decide +kernel
theorem dX10_setFoam_32 : decode cX10_setFoam 32 = .ok (.aload_n 0, 1) := by decide +kernel
theorem dX10_setFoam_33 : decode cX10_setFoam 33 = .ok (.getfield 12, 3) := by decide +kernel
theorem dX10_setFoam_36 : decode cX10_setFoam 36 = .ok (.getfield 66, 3) := by decide +kernel
theorem dX10_setFoam_39 : decode cX10_setFoam 39 = .ok (.iload_n 1, 1) := by decide +kernel
theorem dX10_setFoam_40 : decode cX10_setFoam 40 = .ok (.putfield 91, 3) := by decide +kernel
theorem dX10_setFoam_43 : decode cX10_setFoam 43 = .ok (.iload_n 2, 1) := by decide +kernel
theorem dX10_setFoam_44 : decode cX10_setFoam 44 = .ok (.ireturn, 1) := by decide +kernel
theorem dX10_addThing_0 : decode cX10_addThing 0 = .ok (.iload_n 1, 1) := by decide +kernel
theorem dX10_addThing_1 : decode cX10_addThing 1 = .ok (.iload_n 2, 1) := by decide +kernel
theorem dX10_addThing_2 : decode cX10_addThing 2 = .ok (.invokestatic 94, 3) := by decide +kernel
theorem dX10_addThing_5 : decode cX10_addThing 5 = .ok (.ifCond .ne 13, 3) := by decide +kernel
theorem dX10_addThing_8 : decode cX10_addThing 8 = .ok (.new 43, 3) := by decide +kernel
theorem dX10_addThing_11 : decode cX10_addThing 11 = .ok (.dup, 1) := by decide +kernel
theorem dX10_addThing_12 : decode cX10_addThing 12 = .ok (.ldc 98, 2) := by decide +kernel
theorem dX10_addThing_14 : decode cX10_addThing 14 = .ok (.invokespecial 47, 3) := by decide +kernel
theorem dX10_addThing_17 : decode cX10_addThing 17 = .ok (.athrow, 1) := by decide +kernel
theorem dX10_addThing_18 : decode cX10_addThing 18 = .ok (.aload_n 0, 1) := by decide +kernel
theorem dX10_addThing_19 : decode cX10_addThing 19 = .ok (.getfield 12, 3) := by decide +kernel
theorem dX10_addThing_22 : decode cX10_addThing 22 = .ok (.getfield 66, 3) := by decide +kernel
theorem dX10_addThing_25 : decode cX10_addThing 25 = .ok (.invokevirtual 100, 3) := by decide +kernel
theorem dX10_addThing_28 : decode cX10_addThing 28 = .ok (.ifCond .ne 13, 3) := by decide +kernel
theorem dX10_addThing_31 : decode cX10_addThing 31 = .ok (.new 104, 3) := by decide +kernel
theorem dX10_addThing_34 : decode cX10_addThing 34 = .ok (.dup, 1) := by decide +kernel
theorem dX10_addThing_35 : decode cX10_addThing 35 = .ok (.ldc 106, 2) := by decide +kernel
theorem dX10_addThing_37 : decode cX10_addThing 37 = .ok (.invokespecial 108, 3) := by decide +kernel
theorem dX10_addThing_40 : decode cX10_addThing 40 = .ok (.athrow, 1) := by decide +kernel
theorem dX10_addThing_41 : decode cX10_addThing 41 = .ok (.aload_n 0, 1) := by decide +kernel
theorem dX10_addThing_42 : decode cX10_addThing 42 = .ok (.invokevirtual 50, 3) := by decide +kernel
theorem dX10_addThing_45 : decode cX10_addThing 45 = .ok (.aload_n 0, 1) := by decide +kernel
theorem dX10_addThing_46 : decode cX10_addThing 46 = .ok (.getfield 12, 3) := by decide +kernel
theorem dX10_addThing_49 : decode cX10_addThing 49 = .ok (.getfield 66, 3) := by decide +kernel
theorem dX10_addThing_52 : decode cX10_addThing 52 = .ok (.iload_n 1, 1) := by decide +kernel
