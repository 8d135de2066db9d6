theorem dX11_setS_11 : decode cX11_setS 11 = .ok (.invokevirtual 37, 3) := by decide +kernel
theorem dX11_setS_14 : decode cX11_setS 14 = .ok (.ifCond .eq 13, 3) := by decide +kernel
theorem dX11_setS_17 : decode cX11_setS 17 = .ok (.aload_n 0, 1) := by decide +kernel
theorem dX11_setS_18 : decode cX11_setS 18 = .ok (.bipush 11, 2) := by decide +kernel
theorem dX11_setS_20 : decode cX11_setS 20 = .ok (.iload_n 1, 1) := by decide +kernel
theorem dX11_setS_21 : decode cX11_setS 21 = .ok (.invokevirtual 136, 3) := by decide +kernel
theorem dX11_setS_24 : decode cX11_setS 24 = .ok (.goto 4, 3) := by decide +kernel
theorem dX11_setS_27 : decode cX11_setS 27 = .ok (.iconst 0, 1) := by decide +kernel
theorem dX11_setS_28 : decode cX11_setS 28 = .ok (.ireturn, 1) := by decide +kernel
theorem dX11_mask_0 : decode cX11_mask 0 = .ok (.aload_n 0, 1) := by decide +kernel
theorem dX11_mask_1 : decode cX11_mask 1 = .ok (.iload_n 1, 1) := by decide +kernel
theorem dX11_mask_2 : decode cX11_mask 2 = .ok (.iconst 0, 1) := by decide +kernel
theorem dX11_mask_3 : decode cX11_mask 3 = .ok (.sipush 10000, 3) := by decide +kernel
theorem dX11_mask_6 : decode cX11_mask 6 = .ok (.invokestatic 89, 3) := by decide +kernel
theorem dX11_mask_9 : decode cX11_mask 9 = .ok (.iconst 1, 1) := by decide +kernel
theorem dX11_mask_10 : decode cX11_mask 10 = .ok (.invokevirtual 37, 3) := by decide +kernel
theorem dX11_mask_13 : decode cX11_mask 13 = .ok (.ifCond .eq 27, 3) := by decide +kernel
theorem dX11_mask_16 : decode cX11_mask 16 = .ok (.aload_n 0, 1) := by decide +kernel
theorem dX11_mask_17 : decode cX11_mask 17 = .ok (.sipush 146, 3) := by decide +kernel
theorem dX11_mask_20 : decode cX11_mask 20 = .ok (.iload_n 1, 1) := by decide +kernel
theorem dX11_mask_21 : decode cX11_mask 21 = .ok (.bipush 20, 2) := by decide +kernel
theorem dX11_mask_23 : decode cX11_mask 23 = .ok (.idiv, 1) := by decide +kernel
theorem dX11_mask_24 : decode cX11_mask 24 = .ok (.iadd, 1) := by decide +kernel
theorem dX11_mask_25 : decode cX11_mask 25 = .ok (.iload_n 2, 1) := by decide +kernel
theorem dX11_mask_26 : decode cX11_mask 26 = .ok (.ifCond .eq 7, 3) := by decide +kernel
theorem dX11_mask_29 : decode cX11_mask 29 = .ok (.iconst 1, 1) := by decide +kernel
theorem dX11_mask_30 : decode cX11_mask 30 = .ok (.goto 4, 3) := by decide +kernel
theorem dX11_mask_33 : decode cX11_mask 33 = .ok (.iconst 0, 1) := by decide +kernel
theorem dX11_mask_34 : decode cX11_mask 34 = .ok (.invokevirtual 136, 3) := by decide +kernel
theorem dX11_mask_37 : decode cX11_mask 37 = .ok (.goto 4, 3) := by decide +kernel
theorem dX11_mask_40 : decode cX11_mask 40 = .ok (.iconst 0, 1) := by decide +kernel
theorem dX11_mask_41 : decode cX11_mask 41 = .ok (.ireturn, 1) := by decide +kernel
theorem dX11_masked_0 : decode cX11_masked 0 = .ok (.iconst 0, 1) := by decide +kernel
theorem dX11_masked_1 : decode cX11_masked 1 = .ok (.istore_n 1, 1) := by decide +kernel
theorem dX11_masked_2 : decode cX11_masked 2 = .ok (.iconst 0, 1) := by decide +kernel
theorem dX11_masked_3 : decode cX11_masked 3 = .ok (.istore_n 2, 1) := by decide +kernel
theorem dX11_masked_4 : decode cX11_masked 4 = .ok (.iload_n 2, 1) := by decide +kernel
theorem dX11_masked_5 : decode cX11_masked 5 = .ok (.sipush 501, 3) := by decide +kernel
theorem dX11_masked_8 : decode cX11_masked 8 = .ok (.if_icmp .ge 22, 3) := by decide +kernel
theorem dX11_masked_11 : decode cX11_masked 11 = .ok (.iload_n 1, 1) := by decide +kernel
theorem dX11_masked_12 : decode cX11_masked 12 = .ok (.aload_n 0, 1) := by decide +kernel
theorem dX11_masked_13 : decode cX11_masked 13 = .ok (.getfield 7, 3) := by decide +kernel
theorem dX11_masked_16 : decode cX11_masked 16 = .ok (.sipush 146, 3) := by decide +kernel
theorem dX11_masked_19 : decode cX11_masked 19 = .ok (.iload_n 2, 1) := by decide +kernel
theorem dX11_masked_20 : decode cX11_masked 20 = .ok (.iadd, 1) := by decide +kernel
theorem dX11_masked_21 : decode cX11_masked 21 = .ok (.iaload, 1) := by decide +kernel
theorem dX11_masked_22 : decode cX11_masked 22 = .ok (.iadd, 1) := by decide +kernel
theorem dX11_masked_23 : decode cX11_masked 23 = .ok (.istore_n 1, 1) := by decide +kernel
theorem dX11_masked_24 : decode cX11_masked 24 = .ok (.iinc 2 1, 3) := by decide +kernel
theorem dX11_masked_27 : decode cX11_masked 27 = .ok (.goto (-23), 3) := by decide +kernel
theorem dX11_masked_30 : decode cX11_masked 30 = .ok (.iload_n 1, 1) := by decide +kernel
theorem dX11_masked_31 : decode cX11_masked 31 = .ok (.ireturn, 1) := by decide +kernel
theorem dX11_canLearn_0 : decode cX11_canLearn 0 = .ok (.iload_n 0, 1) := by decide +kernel
theorem dX11_canLearn_1 : decode cX11_canLearn 1 = .ok (.iconst 1, 1) := by decide +kernel
theorem dX11_canLearn_2 : decode cX11_canLearn 2 = .ok (.bipush 50, 2) := by decide +kernel
theorem dX11_canLearn_4 : decode cX11_canLearn 4 = .ok (.invokestatic 89, 3) := by decide +kernel
theorem dX11_canLearn_7 : decode cX11_canLearn 7 = .ok (.ireturn, 1) := by decide +kernel
theorem dX11_learns_0 : decode cX11_learns 0 = .ok (.iconst 0, 1) := by decide +kernel
theorem dX11_learns_1 : decode cX11_learns 1 = .ok (.istore_n 2, 1) := by decide +kernel
theorem dX11_learns_2 : decode cX11_learns 2 = .ok (.iload_n 2, 1) := by decide +kernel
theorem dX11_learns_3 : decode cX11_learns 3 = .ok (.iload_n 1, 1) := by decide +kernel
theorem dX11_learns_4 : decode cX11_learns 4 = .ok (.if_icmp .ge 91, 3) := by decide +kernel
theorem dX11_learns_7 : decode cX11_learns 7 = .ok (.aload_n 0, 1) := by decide +kernel
theorem dX11_learns_8 : decode cX11_learns 8 = .ok (.invokevirtual 106, 3) := by decide +kernel
theorem dX11_learns_11 : decode cX11_learns 11 = .ok (.iconst 0, 1) := by decide +kernel
theorem dX11_learns_12 : decode cX11_learns 12 = .ok (.istore_n 3, 1) := by decide +kernel
theorem dX11_learns_13 : decode cX11_learns 13 = .ok (.iload_n 3, 1) := by decide +kernel
theorem dX11_learns_14 : decode cX11_learns 14 = .ok (.aload_n 0, 1) := by decide +kernel
theorem dX11_learns_15 : decode cX11_learns 15 = .ok (.getfield 7, 3) := by decide +kernel
theorem dX11_learns_18 : decode cX11_learns 18 = .ok (.bipush 41, 2) := by decide +kernel
theorem dX11_learns_20 : decode cX11_learns 20 = .ok (.iaload, 1) := by decide +kernel
theorem dX11_learns_21 : decode cX11_learns 21 = .ok (.if_icmp .ge 68, 3) := by decide +kernel
theorem dX11_learns_24 : decode cX11_learns 24 = .ok (.bipush 42, 2) := by decide +kernel
theorem dX11_learns_26 : decode cX11_learns 26 = .ok (.iconst 4, 1) := by decide +kernel
theorem dX11_learns_27 : decode cX11_learns 27 = .ok (.iload_n 3, 1) := by decide +kernel
theorem dX11_learns_28 : decode cX11_learns 28 = .ok (.imul, 1) := by decide +kernel
theorem dX11_learns_29 : decode cX11_learns 29 = .ok (.iadd, 1) := by decide +kernel
theorem dX11_learns_30 : decode cX11_learns 30 = .ok (.istore 4, 2) := by decide +kernel
theorem dX11_learns_32 : decode cX11_learns 32 = .ok (.aload_n 0, 1) := by decide +kernel
theorem dX11_learns_33 : decode cX11_learns 33 = .ok (.getfield 7, 3) := by decide +kernel
theorem dX11_learns_36 : decode cX11_learns 36 = .ok (.iload 4, 2) := by decide +kernel
theorem dX11_learns_38 : decode cX11_learns 38 = .ok (.iaload, 1) := by decide +kernel
theorem dX11_learns_39 : decode cX11_learns 39 = .ok (.iconst 2, 1) := by decide +kernel
theorem dX11_learns_40 : decode cX11_learns 40 = .ok (.if_icmp .ge 43, 3) := by decide +kernel
theorem dX11_learns_43 : decode cX11_learns 43 = .ok (.aload_n 0, 1) := by decide +kernel
theorem dX11_learns_44 : decode cX11_learns 44 = .ok (.getfield 7, 3) := by decide +kernel
theorem dX11_learns_47 : decode cX11_learns 47 = .ok (.iload 4, 2) := by decide +kernel
theorem dX11_learns_49 : decode cX11_learns 49 = .ok (.iconst 1, 1) := by decide +kernel
theorem dX11_learns_50 : decode cX11_learns 50 = .ok (.iadd, 1) := by decide +kernel
theorem dX11_learns_51 : decode cX11_learns 51 = .ok (.iaload, 1) := by decide +kernel
theorem dX11_learns_52 : decode cX11_learns 52 = .ok (.aload_n 0, 1) := by decide +kernel
theorem dX11_learns_53 : decode cX11_learns 53 = .ok (.getfield 7, 3) := by decide +kernel
theorem dX11_learns_56 : decode cX11_learns 56 = .ok (.iconst 0, 1) := by decide +kernel
theorem dX11_learns_57 : decode cX11_learns 57 = .ok (.iaload, 1) := by decide +kernel
theorem dX11_learns_58 : decode cX11_learns 58 = .ok (.if_icmp .gt 25, 3) := by decide +kernel
theorem dX11_learns_61 : decode cX11_learns 61 = .ok (.aload_n 0, 1) := by decide +kernel
theorem dX11_learns_62 : decode cX11_learns 62 = .ok (.getfield 7, 3) := by decide +kernel
theorem dX11_learns_65 : decode cX11_learns 65 = .ok (.sipush 146, 3) := by decide +kernel
theorem dX11_learns_68 : decode cX11_learns 68 = .ok (.aload_n 0, 1) := by decide +kernel
theorem dX11_learns_69 : decode cX11_learns 69 = .ok (.getfield 7, 3) := by decide +kernel
theorem dX11_learns_72 : decode cX11_learns 72 = .ok (.iload 4, 2) := by decide +kernel
theorem dX11_learns_74 : decode cX11_learns 74 = .ok (.iconst 1, 1) := by decide +kernel
theorem dX11_learns_75 : decode cX11_learns 75 = .ok (.iadd, 1) := by decide +kernel
theorem dX11_learns_76 : decode cX11_learns 76 = .ok (.iaload, 1) := by decide +kernel
theorem dX11_learns_77 : decode cX11_learns 77 = .ok (.bipush 20, 2) := by decide +kernel
theorem dX11_learns_79 : decode cX11_learns 79 = .ok (.idiv, 1) := by decide +kernel
theorem dX11_learns_80 : decode cX11_learns 80 = .ok (.iadd, 1) := by decide +kernel
theorem dX11_learns_81 : decode cX11_learns 81 = .ok (.iconst 1, 1) := by decide +kernel
theorem dX11_learns_82 : decode cX11_learns 82 = .ok (.iastore, 1) := by decide +kernel
theorem dX11_learns_83 : decode cX11_learns 83 = .ok (.iinc 3 1, 3) := by decide +kernel
theorem dX11_learns_86 : decode cX11_learns 86 = .ok (.goto (-73), 3) := by decide +kernel
theorem dX11_learns_89 : decode cX11_learns 89 = .ok (.iinc 2 1, 3) := by decide +kernel
theorem dX11_learns_92 : decode cX11_learns 92 = .ok (.goto (-90), 3) := by decide +kernel
theorem dX11_learns_95 : decode cX11_learns 95 = .ok (.return_, 1) := by decide +kernel
theorem dX11_learn_0 : decode cX11_learn 0 = .ok (.aload_n 0, 1) := by decide +kernel
theorem dX11_learn_1 : decode cX11_learn 1 = .ok (.iload_n 1, 1) := by decide +kernel
theorem dX11_learn_2 : decode cX11_learn 2 = .ok (.invokestatic 175, 3) := by decide +kernel
theorem dX11_learn_5 : decode cX11_learn 5 = .ok (.iconst 1, 1) := by decide +kernel
theorem dX11_learn_6 : decode cX11_learn 6 = .ok (.invokevirtual 37, 3) := by decide +kernel
theorem dX11_learn_9 : decode cX11_learn 9 = .ok (.ifCond .ne 5, 3) := by decide +kernel
theorem dX11_learn_12 : decode cX11_learn 12 = .ok (.iconst 0, 1) := by decide +kernel
theorem dX11_learn_13 : decode cX11_learn 13 = .ok (.ireturn, 1) := by decide +kernel
theorem dX11_learn_14 : decode cX11_learn 14 = .ok (.aload_n 0, 1) := by decide +kernel
theorem dX11_learn_15 : decode cX11_learn 15 = .ok (.invokevirtual 130, 3) := by decide +kernel
theorem dX11_learn_18 : decode cX11_learn 18 = .ok (.aload_n 0, 1) := by decide +kernel
theorem dX11_learn_19 : decode cX11_learn 19 = .ok (.iload_n 1, 1) := by decide +kernel
theorem dX11_learn_20 : decode cX11_learn 20 = .ok (.invokevirtual 178, 3) := by decide +kernel
theorem dX11_learn_23 : decode cX11_learn 23 = .ok (.aload_n 0, 1) := by decide +kernel
theorem dX11_learn_24 : decode cX11_learn 24 = .ok (.invokevirtual 181, 3) := by decide +kernel
theorem dX11_learn_27 : decode cX11_learn 27 = .ok (.ireturn, 1) := by decide +kernel
theorem dX11_forget_0 : decode cX11_forget 0 = .ok (.aload_n 0, 1) := by decide +kernel
theorem dX11_forget_1 : decode cX11_forget 1 = .ok (.iconst 0, 1) := by decide +kernel
theorem dX11_forget_2 : decode cX11_forget 2 = .ok (.putfield 30, 3) := by decide +kernel
theorem dX11_forget_5 : decode cX11_forget 5 = .ok (.aload_n 0, 1) := by decide +kernel
theorem dX11_forget_6 : decode cX11_forget 6 = .ok (.invokevirtual 130, 3) := by decide +kernel
theorem dX11_forget_9 : decode cX11_forget 9 = .ok (.aload_n 0, 1) := by decide +kernel
theorem dX11_forget_10 : decode cX11_forget 10 = .ok (.invokevirtual 181, 3) := by decide +kernel
theorem dX11_forget_13 : decode cX11_forget 13 = .ok (.istore_n 1, 1) := by decide +kernel
theorem dX11_forget_14 : decode cX11_forget 14 = .ok (.iconst 0, 1) := by decide +kernel
theorem dX11_forget_15 : decode cX11_forget 15 = .ok (.istore_n 2, 1) := by decide +kernel
theorem dX11_forget_16 : decode cX11_forget 16 = .ok (.iload_n 2, 1) := by decide +kernel
theorem dX11_forget_17 : decode cX11_forget 17 = .ok (.sipush 501, 3) := by decide +kernel
theorem dX11_forget_20 : decode cX11_forget 20 = .ok (.if_icmp .ge 20, 3) := by decide +kernel
theorem dX11_forget_23 : decode cX11_forget 23 = .ok (.aload_n 0, 1) := by decide +kernel
theorem dX11_forget_24 : decode cX11_forget 24 = .ok (.getfield 7, 3) := by decide +kernel
theorem dX11_forget_27 : decode cX11_forget 27 = .ok (.sipush 146, 3) := by decide +kernel
theorem dX11_forget_30 : decode cX11_forget 30 = .ok (.iload_n 2, 1) := by decide +kernel
theorem dX11_forget_31 : decode cX11_forget 31 = .ok (.iadd, 1) := by decide +kernel
theorem dX11_forget_32 : decode cX11_forget 32 = .ok (.iconst 0, 1) := by decide +kernel
theorem dX11_forget_33 : decode cX11_forget 33 = .ok (.iastore, 1) := by decide +kernel
theorem dX11_forget_34 : decode cX11_forget 34 = .ok (.iinc 2 1, 3) := by decide +kernel
theorem dX11_forget_37 : decode cX11_forget 37 = .ok (.goto (-21), 3) := by decide +kernel
theorem dX11_forget_40 : decode cX11_forget 40 = .ok (.iload_n 1, 1) := by decide +kernel
theorem dX11_forget_41 : decode cX11_forget 41 = .ok (.ireturn, 1) := by decide +kernel
theorem dX11_canShoot_0 : decode cX11_canShoot 0 = .ok (.iload_n 0, 1) := by decide +kernel
theorem dX11_canShoot_1 : decode cX11_canShoot 1 = .ok (.iconst 1, 1) := by decide +kernel
theorem dX11_canShoot_2 : decode cX11_canShoot 2 = .ok (.sipush 500, 3) := by decide +kernel
theorem dX11_canShoot_5 : decode cX11_canShoot 5 = .ok (.invokestatic 89, 3) := by decide +kernel
theorem dX11_canShoot_8 : decode cX11_canShoot 8 = .ok (.ireturn, 1) := by decide +kernel
theorem dX11_shoots_0 : decode cX11_shoots 0 = .ok (.iconst 0, 1) := by decide +kernel
theorem dX11_shoots_1 : decode cX11_shoots 1 = .ok (.istore_n 2, 1) := by decide +kernel
theorem dX11_shoots_2 : decode cX11_shoots 2 = .ok (.iconst 0, 1) := by decide +kernel
theorem dX11_shoots_3 : decode cX11_shoots 3 = .ok (.istore_n 3, 1) := by decide +kernel
theorem dX11_shoots_4 : decode cX11_shoots 4 = .ok (.iload_n 3, 1) := by decide +kernel
theorem dX11_shoots_5 : decode cX11_shoots 5 = .ok (.iload_n 1, 1) := by decide +kernel
theorem dX11_shoots_6 : decode cX11_shoots 6 = .ok (.if_icmp .ge 24, 3) := by decide +kernel
theorem dX11_shoots_9 : decode cX11_shoots 9 = .ok (.iload_n 2, 1) := by decide +kernel
theorem dX11_shoots_10 : decode cX11_shoots 10 = .ok (.aload_n 0, 1) := by decide +kernel
theorem dX11_shoots_11 : decode cX11_shoots 11 = .ok (.invokevirtual 184, 3) := by decide +kernel
theorem dX11_shoots_14 : decode cX11_shoots 14 = .ok (.ifCond .eq 7, 3) := by decide +kernel
theorem dX11_shoots_17 : decode cX11_shoots 17 = .ok (.iconst 1, 1) := by decide +kernel
theorem dX11_shoots_18 : decode cX11_shoots 18 = .ok (.goto 4, 3) := by decide +kernel
theorem dX11_shoots_21 : decode cX11_shoots 21 = .ok (.iconst 0, 1) := by decide +kernel
theorem dX11_shoots_22 : decode cX11_shoots 22 = .ok (.iadd, 1) := by decide +kernel
theorem dX11_shoots_23 : decode cX11_shoots 23 = .ok (.istore_n 2, 1) := by decide +kernel
theorem dX11_shoots_24 : decode cX11_shoots 24 = .ok (.iinc 3 1, 3) := by decide +kernel
theorem dX11_shoots_27 : decode cX11_shoots 27 = .ok (.goto (-23), 3) := by decide +kernel
theorem dX11_shoots_30 : decode cX11_shoots 30 = .ok (.iload_n 2, 1) := by decide +kernel
theorem dX11_shoots_31 : decode cX11_shoots 31 = .ok (.ireturn, 1) := by decide +kernel
theorem dX11_shoot_0 : decode cX11_shoot 0 = .ok (.aload_n 0, 1) := by decide +kernel
theorem dX11_shoot_1 : decode cX11_shoot 1 = .ok (.iload_n 1, 1) := by decide +kernel
theorem dX11_shoot_2 : decode cX11_shoot 2 = .ok (.invokestatic 188, 3) := by decide +kernel
theorem dX11_shoot_5 : decode cX11_shoot 5 = .ok (.iconst 1, 1) := by decide +kernel
theorem dX11_shoot_6 : decode cX11_shoot 6 = .ok (.invokevirtual 37, 3) := by decide +kernel
theorem dX11_shoot_9 : decode cX11_shoot 9 = .ok (.ifCond .ne 5, 3) := by decide +kernel
theorem dX11_shoot_12 : decode cX11_shoot 12 = .ok (.iconst 0, 1) := by decide +kernel
theorem dX11_shoot_13 : decode cX11_shoot 13 = .ok (.ireturn, 1) := by decide +kernel
theorem dX11_shoot_14 : decode cX11_shoot 14 = .ok (.aload_n 0, 1) := by decide +kernel
theorem dX11_shoot_15 : decode cX11_shoot 15 = .ok (.invokevirtual 130, 3) := by decide +kernel
theorem dX11_shoot_18 : decode cX11_shoot 18 = .ok (.aload_n 0, 1) := by decide +kernel
theorem dX11_shoot_19 : decode cX11_shoot 19 = .ok (.iload_n 1, 1) := by decide +kernel
theorem dX11_shoot_20 : decode cX11_shoot 20 = .ok (.invokevirtual 191, 3) := by decide +kernel
theorem dX11_shoot_23 : decode cX11_shoot 23 = .ok (.ireturn, 1) := by decide +kernel
theorem dX11_echoOf_0 : decode cX11_echoOf 0 = .ok (.bipush 42, 2) := by decide +kernel
theorem dX11_echoOf_2 : decode cX11_echoOf 2 = .ok (.iconst 4, 1) := by decide +kernel
theorem dX11_echoOf_3 : decode cX11_echoOf 3 = .ok (.iload_n 1, 1) := by decide +kernel
theorem dX11_echoOf_4 : decode cX11_echoOf 4 = .ok (.imul, 1) := by decide +kernel
theorem dX11_echoOf_5 : decode cX11_echoOf 5 = .ok (.iadd, 1) := by decide +kernel
theorem dX11_echoOf_6 : decode cX11_echoOf 6 = .ok (.istore_n 3, 1) := by decide +kernel
theorem dX11_echoOf_7 : decode cX11_echoOf 7 = .ok (.iload_n 2, 1) := by decide +kernel
theorem dX11_echoOf_8 : decode cX11_echoOf 8 = .ok (.iconst 3, 1) := by decide +kernel
theorem dX11_echoOf_9 : decode cX11_echoOf 9 = .ok (.if_icmp .ge 12, 3) := by decide +kernel
theorem dX11_echoOf_12 : decode cX11_echoOf 12 = .ok (.aload_n 0, 1) := by decide +kernel
theorem dX11_echoOf_13 : decode cX11_echoOf 13 = .ok (.getfield 7, 3) := by decide +kernel
theorem dX11_echoOf_16 : decode cX11_echoOf 16 = .ok (.iload_n 3, 1) := by decide +kernel
theorem dX11_echoOf_17 : decode cX11_echoOf 17 = .ok (.iload_n 2, 1) := by decide +kernel
theorem dX11_echoOf_18 : decode cX11_echoOf 18 = .ok (.iadd, 1) := by decide +kernel
theorem dX11_echoOf_19 : decode cX11_echoOf 19 = .ok (.iaload, 1) := by decide +kernel
theorem dX11_echoOf_20 : decode cX11_echoOf 20 = .ok (.ireturn, 1) := by decide +kernel
theorem dX11_echoOf_21 : decode cX11_echoOf 21 = .ok (.aload_n 0, 1) := by decide +kernel
theorem dX11_echoOf_22 : decode cX11_echoOf 22 = .ok (.getfield 7, 3) := by decide +kernel
theorem dX11_echoOf_25 : decode cX11_echoOf 25 = .ok (.iload_n 3, 1) := by decide +kernel
theorem dX11_echoOf_26 : decode cX11_echoOf 26 = .ok (.iconst 3, 1) := by decide +kernel
theorem dX11_echoOf_27 : decode cX11_echoOf 27 = .ok (.iadd, 1) := by decide +kernel
theorem dX11_echoOf_28 : decode cX11_echoOf 28 = .ok (.iaload, 1) := by decide +kernel
theorem dX11_echoOf_29 : decode cX11_echoOf 29 = .ok (.iload_n 2, 1) := by decide +kernel
theorem dX11_echoOf_30 : decode cX11_echoOf 30 = .ok (.iconst 3, 1) := by decide +kernel
theorem dX11_echoOf_31 : decode cX11_echoOf 31 = .ok (.if_icmp .ne 7, 3) := by decide +kernel
theorem dX11_echoOf_34 : decode cX11_echoOf 34 = .ok (.iconst 0, 1) := by decide +kernel
theorem dX11_echoOf_35 : decode cX11_echoOf 35 = .ok (.goto 13, 3) := by decide +kernel
theorem dX11_echoOf_38 : decode cX11_echoOf 38 = .ok (.iload_n 2, 1) := by decide +kernel
theorem dX11_echoOf_39 : decode cX11_echoOf 39 = .ok (.iconst 4, 1) := by decide +kernel
theorem dX11_echoOf_40 : decode cX11_echoOf 40 = .ok (.if_icmp .ne 7, 3) := by decide +kernel
theorem dX11_echoOf_43 : decode cX11_echoOf 43 = .ok (.iconst 1, 1) := by decide +kernel
theorem dX11_echoOf_44 : decode cX11_echoOf 44 = .ok (.goto 4, 3) := by decide +kernel
theorem dX11_echoOf_47 : decode cX11_echoOf 47 = .ok (.iconst 2, 1) := by decide +kernel
theorem dX11_echoOf_48 : decode cX11_echoOf 48 = .ok (.ishr, 1) := by decide +kernel
theorem dX11_echoOf_49 : decode cX11_echoOf 49 = .ok (.iconst 1, 1) := by decide +kernel
theorem dX11_echoOf_50 : decode cX11_echoOf 50 = .ok (.iand, 1) := by decide +kernel
theorem dX11_echoOf_51 : decode cX11_echoOf 51 = .ok (.ireturn, 1) := by decide +kernel
theorem dX11_echo_0 : decode cX11_echo 0 = .ok (.aload_n 0, 1) := by decide +kernel
theorem dX11_echo_1 : decode cX11_echo 1 = .ok (.iload_n 1, 1) := by decide +kernel
theorem dX11_echo_2 : decode cX11_echo 2 = .ok (.ifCond .lt 16, 3) := by decide +kernel
theorem dX11_echo_5 : decode cX11_echo 5 = .ok (.iload_n 2, 1) := by decide +kernel
theorem dX11_echo_6 : decode cX11_echo 6 = .ok (.iconst 0, 1) := by decide +kernel
theorem dX11_echo_7 : decode cX11_echo 7 = .ok (.iconst 5, 1) := by decide +kernel
theorem dX11_echo_8 : decode cX11_echo 8 = .ok (.invokestatic 89, 3) := by decide +kernel
theorem dX11_echo_11 : decode cX11_echo 11 = .ok (.ifCond .eq 7, 3) := by decide +kernel
theorem dX11_echo_14 : decode cX11_echo 14 = .ok (.iconst 1, 1) := by decide +kernel
theorem dX11_echo_15 : decode cX11_echo 15 = .ok (.goto 4, 3) := by decide +kernel
theorem dX11_echo_18 : decode cX11_echo 18 = .ok (.iconst 0, 1) := by decide +kernel
theorem dX11_echo_19 : decode cX11_echo 19 = .ok (.iconst 1, 1) := by decide +kernel
theorem dX11_echo_20 : decode cX11_echo 20 = .ok (.invokevirtual 37, 3) := by decide +kernel
theorem dX11_echo_23 : decode cX11_echo 23 = .ok (.ifCond .ne 5, 3) := by decide +kernel
theorem dX11_echo_26 : decode cX11_echo 26 = .ok (.iconst 0, 1) := by decide +kernel
theorem dX11_echo_27 : decode cX11_echo 27 = .ok (.ireturn, 1) := by decide +kernel
theorem dX11_echo_28 : decode cX11_echo 28 = .ok (.iload_n 1, 1) := by decide +kernel
theorem dX11_echo_29 : decode cX11_echo 29 = .ok (.aload_n 0, 1) := by decide +kernel
theorem dX11_echo_30 : decode cX11_echo 30 = .ok (.getfield 7, 3) := by decide +kernel
theorem dX11_echo_33 : decode cX11_echo 33 = .ok (.bipush 41, 2) := by decide +kernel
theorem dX11_echo_35 : decode cX11_echo 35 = .ok (.iaload, 1) := by decide +kernel
theorem dX11_echo_36 : decode cX11_echo 36 = .ok (.if_icmp .ge 12, 3) := by decide +kernel
theorem dX11_echo_39 : decode cX11_echo 39 = .ok (.aload_n 0, 1) := by decide +kernel
theorem dX11_echo_40 : decode cX11_echo 40 = .ok (.iload_n 1, 1) := by decide +kernel
theorem dX11_echo_41 : decode cX11_echo 41 = .ok (.iload_n 2, 1) := by decide +kernel
theorem dX11_echo_42 : decode cX11_echo 42 = .ok (.invokevirtual 194, 3) := by decide +kernel
theorem dX11_echo_45 : decode cX11_echo 45 = .ok (.goto 4, 3) := by decide +kernel
theorem dX11_echo_48 : decode cX11_echo 48 = .ok (.iconst (-1), 1) := by decide +kernel
theorem dX11_echo_49 : decode cX11_echo 49 = .ok (.ireturn, 1) := by decide +kernel
theorem dX11_pick_0 : decode cX11_pick 0 = .ok (.aload_n 0, 1) := by decide +kernel
theorem dX11_pick_1 : decode cX11_pick 1 = .ok (.iload_n 1, 1) := by decide +kernel
theorem dX11_pick_2 : decode cX11_pick 2 = .ok (.ifCond .lt 7, 3) := by decide +kernel
theorem dX11_pick_5 : decode cX11_pick 5 = .ok (.iconst 1, 1) := by decide +kernel
theorem dX11_pick_6 : decode cX11_pick 6 = .ok (.goto 4, 3) := by decide +kernel
theorem dX11_pick_9 : decode cX11_pick 9 = .ok (.iconst 0, 1) := by decide +kernel
theorem dX11_pick_10 : decode cX11_pick 10 = .ok (.iconst 1, 1) := by decide +kernel
theorem dX11_pick_11 : decode cX11_pick 11 = .ok (.invokevirtual 37, 3) := by decide +kernel
theorem dX11_pick_14 : decode cX11_pick 14 = .ok (.ifCond .ne 5, 3) := by decide +kernel
theorem dX11_pick_17 : decode cX11_pick 17 = .ok (.iconst 0, 1) := by decide +kernel
theorem dX11_pick_18 : decode cX11_pick 18 = .ok (.ireturn, 1) := by decide +kernel
theorem dX11_pick_19 : decode cX11_pick 19 = .ok (.iload_n 1, 1) := by decide +kernel
theorem dX11_pick_20 : decode cX11_pick 20 = .ok (.aload_n 0, 1) := by decide +kernel
theorem dX11_pick_21 : decode cX11_pick 21 = .ok (.getfield 7, 3) := by decide +kernel
theorem dX11_pick_24 : decode cX11_pick 24 = .ok (.bipush 31, 2) := by decide +kernel
theorem dX11_pick_26 : decode cX11_pick 26 = .ok (.iaload, 1) := by decide +kernel
theorem dX11_pick_27 : decode cX11_pick 27 = .ok (.if_icmp .ge 15, 3) := by decide +kernel
theorem dX11_pick_30 : decode cX11_pick 30 = .ok (.aload_n 0, 1) := by decide +kernel
theorem dX11_pick_31 : decode cX11_pick 31 = .ok (.getfield 7, 3) := by decide +kernel
theorem dX11_pick_34 : decode cX11_pick 34 = .ok (.bipush 32, 2) := by decide +kernel
theorem dX11_pick_36 : decode cX11_pick 36 = .ok (.iload_n 1, 1) := by decide +kernel
theorem dX11_pick_37 : decode cX11_pick 37 = .ok (.iadd, 1) := by decide +kernel
theorem dX11_pick_38 : decode cX11_pick 38 = .ok (.iaload, 1) := by decide +kernel
theorem dX11_pick_39 : decode cX11_pick 39 = .ok (.goto 4, 3) := by decide +kernel
theorem dX11_pick_42 : decode cX11_pick 42 = .ok (.iconst (-1), 1) := by decide +kernel
theorem dX11_pick_43 : decode cX11_pick 43 = .ok (.ireturn, 1) := by decide +kernel
theorem dX11_isMasked_0 : decode cX11_isMasked 0 = .ok (.aload_n 0, 1) := by decide +kernel
theorem dX11_isMasked_1 : decode cX11_isMasked 1 = .ok (.iload_n 1, 1) := by decide +kernel
theorem dX11_isMasked_2 : decode cX11_isMasked 2 = .ok (.iconst 0, 1) := by decide +kernel
theorem dX11_isMasked_3 : decode cX11_isMasked 3 = .ok (.sipush 10000, 3) := by decide +kernel
theorem dX11_isMasked_6 : decode cX11_isMasked 6 = .ok (.invokestatic 89, 3) := by decide +kernel
theorem dX11_isMasked_9 : decode cX11_isMasked 9 = .ok (.iconst 1, 1) := by decide +kernel
theorem dX11_isMasked_10 : decode cX11_isMasked 10 = .ok (.invokevirtual 37, 3) := by decide +kernel
theorem dX11_isMasked_13 : decode cX11_isMasked 13 = .ok (.ifCond .eq 24, 3) := by decide +kernel
theorem dX11_isMasked_16 : decode cX11_isMasked 16 = .ok (.aload_n 0, 1) := by decide +kernel
theorem dX11_isMasked_17 : decode cX11_isMasked 17 = .ok (.getfield 7, 3) := by decide +kernel
theorem dX11_isMasked_20 : decode cX11_isMasked 20 = .ok (.sipush 146, 3) := by decide +kernel
theorem dX11_isMasked_23 : decode cX11_isMasked 23 = .ok (.iload_n 1, 1) := by decide +kernel
theorem dX11_isMasked_24 : decode cX11_isMasked 24 = .ok (.bipush 20, 2) := by decide +kernel
theorem dX11_isMasked_26 : decode cX11_isMasked 26 = .ok (.idiv, 1) := by decide +kernel
theorem dX11_isMasked_27 : decode cX11_isMasked 27 = .ok (.iadd, 1) := by decide +kernel
theorem dX11_isMasked_28 : decode cX11_isMasked 28 = .ok (.iaload, 1) := by decide +kernel
theorem dX11_isMasked_29 : decode cX11_isMasked 29 = .ok (.iconst 1, 1) := by decide +kernel
theorem dX11_isMasked_30 : decode cX11_isMasked 30 = .ok (.if_icmp .ne 7, 3) := by decide +kernel
theorem dX11_isMasked_33 : decode cX11_isMasked 33 = .ok (.iconst 1, 1) := by decide +kernel
theorem dX11_isMasked_34 : decode cX11_isMasked 34 = .ok (.goto 4, 3) := by decide +kernel
theorem dX11_isMasked_37 : decode cX11_isMasked 37 = .ok (.iconst 0, 1) := by decide +kernel
theorem dX11_isMasked_38 : decode cX11_isMasked 38 = .ok (.ireturn, 1) := by decide +kernel
theorem dX11_need_0 : decode cX11_need 0 = .ok (.aload_n 0, 1) := by decide +kernel
theorem dX11_need_1 : decode cX11_need 1 = .ok (.iload_n 1, 1) := by decide +kernel
theorem dX11_need_2 : decode cX11_need 2 = .ok (.iconst 0, 1) := by decide +kernel
theorem dX11_need_3 : decode cX11_need 3 = .ok (.sipush 10000, 3) := by decide +kernel
theorem dX11_need_6 : decode cX11_need 6 = .ok (.invokestatic 89, 3) := by decide +kernel
theorem dX11_need_9 : decode cX11_need 9 = .ok (.iconst 1, 1) := by decide +kernel
theorem dX11_need_10 : decode cX11_need 10 = .ok (.invokevirtual 37, 3) := by decide +kernel
theorem dX11_need_13 : decode cX11_need 13 = .ok (.ifCond .eq 11, 3) := by decide +kernel
theorem dX11_need_16 : decode cX11_need 16 = .ok (.aload_n 0, 1) := by decide +kernel
theorem dX11_need_17 : decode cX11_need 17 = .ok (.iload_n 1, 1) := by decide +kernel
theorem dX11_need_18 : decode cX11_need 18 = .ok (.invokevirtual 80, 3) := by decide +kernel
theorem dX11_need_21 : decode cX11_need 21 = .ok (.goto 4, 3) := by decide +kernel
theorem dX11_need_24 : decode cX11_need 24 = .ok (.iconst 0, 1) := by decide +kernel
theorem dX11_need_25 : decode cX11_need 25 = .ok (.ireturn, 1) := by decide +kernel
theorem dX11_thing_0 : decode cX11_thing 0 = .ok (.aload_n 0, 1) := by decide +kernel
theorem dX11_thing_1 : decode cX11_thing 1 = .ok (.aload_n 0, 1) := by decide +kernel
theorem dX11_thing_2 : decode cX11_thing 2 = .ok (.iload_n 1, 1) := by decide +kernel
theorem dX11_thing_3 : decode cX11_thing 3 = .ok (.invokevirtual 152, 3) := by decide +kernel
theorem dX11_thing_6 : decode cX11_thing 6 = .ok (.iconst 1, 1) := by decide +kernel
theorem dX11_thing_7 : decode cX11_thing 7 = .ok (.invokevirtual 37, 3) := by decide +kernel
theorem dX11_thing_10 : decode cX11_thing 10 = .ok (.ifCond .eq 34, 3) := by decide +kernel
theorem dX11_thing_13 : decode cX11_thing 13 = .ok (.aload_n 0, 1) := by decide +kernel
theorem dX11_thing_14 : decode cX11_thing 14 = .ok (.iload_n 2, 1) := by decide +kernel
theorem dX11_thing_15 : decode cX11_thing 15 = .ok (.iconst 0, 1) := by decide +kernel
theorem dX11_thing_16 : decode cX11_thing 16 = .ok (.iconst 1, 1) := by decide +kernel
theorem dX11_thing_17 : decode cX11_thing 17 = .ok (.invokestatic 89, 3) := by decide +kernel
theorem dX11_thing_20 : decode cX11_thing 20 = .ok (.iconst 2, 1) := by decide +kernel
theorem dX11_thing_21 : decode cX11_thing 21 = .ok (.invokevirtual 37, 3) := by decide +kernel
theorem dX11_thing_24 : decode cX11_thing 24 = .ok (.ifCond .eq 20, 3) := by decide +kernel
theorem dX11_thing_27 : decode cX11_thing 27 = .ok (.aload_n 0, 1) := by decide +kernel
theorem dX11_thing_28 : decode cX11_thing 28 = .ok (.getfield 7, 3) := by decide +kernel
theorem dX11_thing_31 : decode cX11_thing 31 = .ok (.sipush 134, 3) := by decide +kernel
theorem dX11_thing_34 : decode cX11_thing 34 = .ok (.iconst 2, 1) := by decide +kernel
theorem dX11_thing_35 : decode cX11_thing 35 = .ok (.iload_n 1, 1) := by decide +kernel
theorem dX11_thing_36 : decode cX11_thing 36 = .ok (.imul, 1) := by decide +kernel
theorem dX11_thing_37 : decode cX11_thing 37 = .ok (.iadd, 1) := by decide +kernel
theorem dX11_thing_38 : decode cX11_thing 38 = .ok (.iload_n 2, 1) := by decide +kernel
theorem dX11_thing_39 : decode cX11_thing 39 = .ok (.iadd, 1) := by decide +kernel
theorem dX11_thing_40 : decode cX11_thing 40 = .ok (.iaload, 1) := by decide +kernel
theorem dX11_thing_41 : decode cX11_thing 41 = .ok (.goto 4, 3) := by decide +kernel
theorem dX11_thing_44 : decode cX11_thing 44 = .ok (.iconst 0, 1) := by decide +kernel
theorem dX11_thing_45 : decode cX11_thing 45 = .ok (.ireturn, 1) := by decide +kernel
theorem dX11_angle_0 : decode cX11_angle 0 = .ok (.aload_n 0, 1) := by decide +kernel
theorem dX11_angle_1 : decode cX11_angle 1 = .ok (.iload_n 1, 1) := by decide +kernel
theorem dX11_angle_2 : decode cX11_angle 2 = .ok (.iconst 0, 1) := by decide +kernel
theorem dX11_angle_3 : decode cX11_angle 3 = .ok (.aload_n 0, 1) := by decide +kernel
theorem dX11_angle_4 : decode cX11_angle 4 = .ok (.getfield 7, 3) := by decide +kernel
theorem dX11_angle_7 : decode cX11_angle 7 = .ok (.iconst 5, 1) := by decide +kernel
theorem dX11_angle_8 : decode cX11_angle 8 = .ok (.iaload, 1) := by decide +kernel
theorem dX11_angle_9 : decode cX11_angle 9 = .ok (.iconst 1, 1) := by decide +kernel
theorem dX11_angle_10 : decode cX11_angle 10 = .ok (.isub, 1) := by decide +kernel
theorem dX11_angle_11 : decode cX11_angle 11 = .ok (.invokestatic 89, 3) := by decide +kernel
theorem dX11_angle_14 : decode cX11_angle 14 = .ok (.iconst 1, 1) := by decide +kernel
theorem dX11_angle_15 : decode cX11_angle 15 = .ok (.invokevirtual 37, 3) := by decide +kernel
theorem dX11_angle_18 : decode cX11_angle 18 = .ok (.ifCond .eq 11, 3) := by decide +kernel
theorem dX11_angle_21 : decode cX11_angle 21 = .ok (.aload_n 0, 1) := by decide +kernel
theorem dX11_angle_22 : decode cX11_angle 22 = .ok (.iload_n 1, 1) := by decide +kernel
theorem dX11_angle_23 : decode cX11_angle 23 = .ok (.invokevirtual 56, 3) := by decide +kernel
theorem dX11_angle_26 : decode cX11_angle 26 = .ok (.goto 4, 3) := by decide +kernel
theorem dX11_angle_29 : decode cX11_angle 29 = .ok (.iconst 0, 1) := by decide +kernel
theorem dX11_angle_30 : decode cX11_angle 30 = .ok (.ireturn, 1) := by decide +kernel
theorem dX11_tank_0 : decode cX11_tank 0 = .ok (.aload_n 0, 1) := by decide +kernel
theorem dX11_tank_1 : decode cX11_tank 1 = .ok (.iload_n 1, 1) := by decide +kernel
theorem dX11_tank_2 : decode cX11_tank 2 = .ok (.iconst 0, 1) := by decide +kernel
theorem dX11_tank_3 : decode cX11_tank 3 = .ok (.bipush 11, 2) := by decide +kernel
theorem dX11_tank_5 : decode cX11_tank 5 = .ok (.invokestatic 89, 3) := by decide +kernel
theorem dX11_tank_8 : decode cX11_tank 8 = .ok (.iconst 1, 1) := by decide +kernel
theorem dX11_tank_9 : decode cX11_tank 9 = .ok (.invokevirtual 37, 3) := by decide +kernel
theorem dX11_tank_12 : decode cX11_tank 12 = .ok (.ifCond .eq 12, 3) := by decide +kernel
theorem dX11_tank_15 : decode cX11_tank 15 = .ok (.aload_n 0, 1) := by decide +kernel
theorem dX11_tank_16 : decode cX11_tank 16 = .ok (.getfield 7, 3) := by decide +kernel
theorem dX11_tank_19 : decode cX11_tank 19 = .ok (.iload_n 1, 1) := by decide +kernel
theorem dX11_tank_20 : decode cX11_tank 20 = .ok (.iaload, 1) := by decide +kernel
theorem dX11_tank_21 : decode cX11_tank 21 = .ok (.goto 4, 3) := by decide +kernel
theorem dX11_tank_24 : decode cX11_tank 24 = .ok (.iconst 0, 1) := by decide +kernel
theorem dX11_tank_25 : decode cX11_tank 25 = .ok (.ireturn, 1) := by decide +kernel
theorem dX11_setting_0 : decode cX11_setting 0 = .ok (.aload_n 0, 1) := by decide +kernel
theorem dX11_setting_1 : decode cX11_setting 1 = .ok (.iload_n 1, 1) := by decide +kernel
theorem dX11_setting_2 : decode cX11_setting 2 = .ok (.iconst 0, 1) := by decide +kernel
theorem dX11_setting_3 : decode cX11_setting 3 = .ok (.bipush 11, 2) := by decide +kernel
theorem dX11_setting_5 : decode cX11_setting 5 = .ok (.invokestatic 89, 3) := by decide +kernel
theorem dX11_setting_8 : decode cX11_setting 8 = .ok (.iconst 1, 1) := by decide +kernel
theorem dX11_setting_9 : decode cX11_setting 9 = .ok (.invokevirtual 37, 3) := by decide +kernel
theorem dX11_setting_12 : decode cX11_setting 12 = .ok (.ifCond .eq 15, 3) := by decide +kernel
theorem dX11_setting_15 : decode cX11_setting 15 = .ok (.aload_n 0, 1) := by decide +kernel
theorem dX11_setting_16 : decode cX11_setting 16 = .ok (.getfield 7, 3) := by decide +kernel
theorem dX11_setting_19 : decode cX11_setting 19 = .ok (.bipush 12, 2) := by decide +kernel
theorem dX11_setting_21 : decode cX11_setting 21 = .ok (.iload_n 1, 1) := by decide +kernel
theorem dX11_setting_22 : decode cX11_setting 22 = .ok (.iadd, 1) := by decide +kernel
theorem dX11_setting_23 : decode cX11_setting 23 = .ok (.iaload, 1) := by decide +kernel
theorem dX11_setting_24 : decode cX11_setting 24 = .ok (.goto 4, 3) := by decide +kernel
theorem dX11_setting_27 : decode cX11_setting 27 = .ok (.iconst 0, 1) := by decide +kernel
theorem dX11_setting_28 : decode cX11_setting 28 = .ok (.ireturn, 1) := by decide +kernel
theorem dX11_gaugeOf_0 : decode cX11_gaugeOf 0 = .ok (.iload_n 1, 1) := by decide +kernel
theorem dX11_gaugeOf_1 : decode cX11_gaugeOf 1 = .ok (.tableswitch 172 0 11 #[63, 71, 79, 87, 117, 125, 133, 138, 146, 154, 159, 164], 63) := by decide +kernel
theorem dX11_gaugeOf_64 : decode cX11_gaugeOf 64 = .ok (.aload_n 0, 1) := by decide +kernel
theorem dX11_gaugeOf_65 : decode cX11_gaugeOf 65 = .ok (.getfield 7, 3) := by decide +kernel
theorem dX11_gaugeOf_68 : decode cX11_gaugeOf 68 = .ok (.bipush 24, 2) := by decide +kernel
theorem dX11_gaugeOf_70 : decode cX11_gaugeOf 70 = .ok (.iaload, 1) := by decide +kernel
theorem dX11_gaugeOf_71 : decode cX11_gaugeOf 71 = .ok (.ireturn, 1) := by decide +kernel
theorem dX11_gaugeOf_72 : decode cX11_gaugeOf 72 = .ok (.aload_n 0, 1) := by decide +kernel
theorem dX11_gaugeOf_73 : decode cX11_gaugeOf 73 = .ok (.getfield 7, 3) := by decide +kernel
theorem dX11_gaugeOf_76 : decode cX11_gaugeOf 76 = .ok (.bipush 25, 2) := by decide +kernel
theorem dX11_gaugeOf_78 : decode cX11_gaugeOf 78 = .ok (.iaload, 1) := by decide +kernel
theorem dX11_gaugeOf_79 : decode cX11_gaugeOf 79 = .ok (.ireturn, 1) := by decide +kernel
theorem dX11_gaugeOf_80 : decode cX11_gaugeOf 80 = .ok (.aload_n 0, 1) := by decide +kernel
theorem dX11_gaugeOf_81 : decode cX11_gaugeOf 81 = .ok (.getfield 7, 3) := by decide +kernel
theorem dX11_gaugeOf_84 : decode cX11_gaugeOf 84 = .ok (.bipush 26, 2) := by decide +kernel
theorem dX11_gaugeOf_86 : decode cX11_gaugeOf 86 = .ok (.iaload, 1) := by decide +kernel
theorem dX11_gaugeOf_87 : decode cX11_gaugeOf 87 = .ok (.ireturn, 1) := by decide +kernel
theorem dX11_gaugeOf_88 : decode cX11_gaugeOf 88 = .ok (.aload_n 0, 1) := by decide +kernel
theorem dX11_gaugeOf_89 : decode cX11_gaugeOf 89 = .ok (.getfield 7, 3) := by decide +kernel
theorem dX11_gaugeOf_92 : decode cX11_gaugeOf 92 = .ok (.bipush 26, 2) := by decide +kernel
theorem dX11_gaugeOf_94 : decode cX11_gaugeOf 94 = .ok (.iaload, 1) := by decide +kernel
theorem dX11_gaugeOf_95 : decode cX11_gaugeOf 95 = .ok (.iconst (-1), 1) := by decide +kernel
theorem dX11_gaugeOf_96 : decode cX11_gaugeOf 96 = .ok (.if_icmp .ne 7, 3) := by decide +kernel
theorem dX11_gaugeOf_99 : decode cX11_gaugeOf 99 = .ok (.iconst (-1), 1) := by decide +kernel
theorem dX11_gaugeOf_100 : decode cX11_gaugeOf 100 = .ok (.goto 17, 3) := by decide +kernel
theorem dX11_gaugeOf_103 : decode cX11_gaugeOf 103 = .ok (.aload_n 0, 1) := by decide +kernel
theorem dX11_gaugeOf_104 : decode cX11_gaugeOf 104 = .ok (.getfield 7, 3) := by decide +kernel
theorem dX11_gaugeOf_107 : decode cX11_gaugeOf 107 = .ok (.iconst 0, 1) := by decide +kernel
theorem dX11_gaugeOf_108 : decode cX11_gaugeOf 108 = .ok (.iaload, 1) := by decide +kernel
theorem dX11_gaugeOf_109 : decode cX11_gaugeOf 109 = .ok (.aload_n 0, 1) := by decide +kernel
theorem dX11_gaugeOf_110 : decode cX11_gaugeOf 110 = .ok (.getfield 7, 3) := by decide +kernel
theorem dX11_gaugeOf_113 : decode cX11_gaugeOf 113 = .ok (.bipush 26, 2) := by decide +kernel
theorem dX11_gaugeOf_115 : decode cX11_gaugeOf 115 = .ok (.iaload, 1) := by decide +kernel
theorem dX11_gaugeOf_116 : decode cX11_gaugeOf 116 = .ok (.isub, 1) := by decide +kernel
theorem dX11_gaugeOf_117 : decode cX11_gaugeOf 117 = .ok (.ireturn, 1) := by decide +kernel
theorem dX11_gaugeOf_118 : decode cX11_gaugeOf 118 = .ok (.aload_n 0, 1) := by decide +kernel
theorem dX11_gaugeOf_119 : decode cX11_gaugeOf 119 = .ok (.getfield 7, 3) := by decide +kernel
theorem dX11_gaugeOf_122 : decode cX11_gaugeOf 122 = .ok (.bipush 27, 2) := by decide +kernel
theorem dX11_gaugeOf_124 : decode cX11_gaugeOf 124 = .ok (.iaload, 1) := by decide +kernel
theorem dX11_gaugeOf_125 : decode cX11_gaugeOf 125 = .ok (.ireturn, 1) := by decide +kernel
theorem dX11_gaugeOf_126 : decode cX11_gaugeOf 126 = .ok (.aload_n 0, 1) := by decide +kernel
theorem dX11_gaugeOf_127 : decode cX11_gaugeOf 127 = .ok (.getfield 7, 3) := by decide +kernel
theorem dX11_gaugeOf_130 : decode cX11_gaugeOf 130 = .ok (.bipush 28, 2) := by decide +kernel
theorem dX11_gaugeOf_132 : decode cX11_gaugeOf 132 = .ok (.iaload, 1) := by decide +kernel
theorem dX11_gaugeOf_133 : decode cX11_gaugeOf 133 = .ok (.ireturn, 1) := by decide +kernel
theorem dX11_gaugeOf_134 : decode cX11_gaugeOf 134 = .ok (.aload_n 0, 1) := by decide +kernel
theorem dX11_gaugeOf_135 : decode cX11_gaugeOf 135 = .ok (.invokevirtual 181, 3) := by decide +kernel
theorem dX11_gaugeOf_138 : decode cX11_gaugeOf 138 = .ok (.ireturn, 1) := by decide +kernel
theorem dX11_gaugeOf_139 : decode cX11_gaugeOf 139 = .ok (.aload_n 0, 1) := by decide +kernel
theorem dX11_gaugeOf_140 : decode cX11_gaugeOf 140 = .ok (.getfield 7, 3) := by decide +kernel
theorem dX11_gaugeOf_143 : decode cX11_gaugeOf 143 = .ok (.bipush 41, 2) := by decide +kernel
theorem dX11_gaugeOf_145 : decode cX11_gaugeOf 145 = .ok (.iaload, 1) := by decide +kernel
theorem dX11_gaugeOf_146 : decode cX11_gaugeOf 146 = .ok (.ireturn, 1) := by decide +kernel
theorem dX11_gaugeOf_147 : decode cX11_gaugeOf 147 = .ok (.aload_n 0, 1) := by decide +kernel
theorem dX11_gaugeOf_148 : decode cX11_gaugeOf 148 = .ok (.getfield 7, 3) := by decide +kernel
theorem dX11_gaugeOf_151 : decode cX11_gaugeOf 151 = .ok (.bipush 31, 2) := by decide +kernel
theorem dX11_gaugeOf_153 : decode cX11_gaugeOf 153 = .ok (.iaload, 1) := by decide +kernel
theorem dX11_gaugeOf_154 : decode cX11_gaugeOf 154 = .ok (.ireturn, 1) := by decide +kernel
theorem dX11_gaugeOf_155 : decode cX11_gaugeOf 155 = .ok (.aload_n 0, 1) := by decide +kernel
theorem dX11_gaugeOf_156 : decode cX11_gaugeOf 156 = .ok (.invokevirtual 100, 3) := by decide +kernel
theorem dX11_gaugeOf_159 : decode cX11_gaugeOf 159 = .ok (.ireturn, 1) := by decide +kernel
theorem dX11_gaugeOf_160 : decode cX11_gaugeOf 160 = .ok (.aload_n 0, 1) := by decide +kernel
theorem dX11_gaugeOf_161 : decode cX11_gaugeOf 161 = .ok (.invokevirtual 103, 3) := by decide +kernel
theorem dX11_gaugeOf_164 : decode cX11_gaugeOf 164 = .ok (.ireturn, 1) := by decide +kernel
theorem dX11_gaugeOf_165 : decode cX11_gaugeOf 165 = .ok (.aload_n 0, 1) := by decide +kernel
theorem dX11_gaugeOf_166 : decode cX11_gaugeOf 166 = .ok (.getfield 7, 3) := by decide +kernel
theorem dX11_gaugeOf_169 : decode cX11_gaugeOf 169 = .ok (.bipush 29, 2) := by decide +kernel
theorem dX11_gaugeOf_171 : decode cX11_gaugeOf 171 = .ok (.iaload, 1) := by decide +kernel
theorem dX11_gaugeOf_172 : decode cX11_gaugeOf 172 = .ok (.ireturn, 1) := by decide +kernel
theorem dX11_gaugeOf_173 : decode cX11_gaugeOf 173 = .ok (.aload_n 0, 1) := by decide +kernel
theorem dX11_gaugeOf_174 : decode cX11_gaugeOf 174 = .ok (.getfield 7, 3) := by decide +kernel
theorem dX11_gaugeOf_177 : decode cX11_gaugeOf 177 = .ok (.bipush 30, 2) := by decide +kernel
theorem dX11_gaugeOf_179 : decode cX11_gaugeOf 179 = .ok (.iaload, 1) := by decide +kernel
theorem dX11_gaugeOf_180 : decode cX11_gaugeOf 180 = .ok (.ireturn, 1) := by decide +kernel
theorem dX11_gauge_0 : decode cX11_gauge 0 = .ok (.aload_n 0, 1) := by decide +kernel
theorem dX11_gauge_1 : decode cX11_gauge 1 = .ok (.iload_n 1, 1) := by decide +kernel
theorem dX11_gauge_2 : decode cX11_gauge 2 = .ok (.iconst 0, 1) := by decide +kernel
theorem dX11_gauge_3 : decode cX11_gauge 3 = .ok (.bipush 12, 2) := by decide +kernel
theorem dX11_gauge_5 : decode cX11_gauge 5 = .ok (.invokestatic 89, 3) := by decide +kernel
theorem dX11_gauge_8 : decode cX11_gauge 8 = .ok (.iconst 1, 1) := by decide +kernel
theorem dX11_gauge_9 : decode cX11_gauge 9 = .ok (.invokevirtual 37, 3) := by decide +kernel
theorem dX11_gauge_12 : decode cX11_gauge 12 = .ok (.ifCond .eq 11, 3) := by decide +kernel
theorem dX11_gauge_15 : decode cX11_gauge 15 = .ok (.aload_n 0, 1) := by decide +kernel
theorem dX11_gauge_16 : decode cX11_gauge 16 = .ok (.iload_n 1, 1) := by decide +kernel
theorem dX11_gauge_17 : decode cX11_gauge 17 = .ok (.invokevirtual 197, 3) := by decide +kernel
theorem dX11_gauge_20 : decode cX11_gauge 20 = .ok (.goto 4, 3) := by decide +kernel
theorem dX11_gauge_23 : decode cX11_gauge 23 = .ok (.iconst 0, 1) := by decide +kernel
theorem dX11_gauge_24 : decode cX11_gauge 24 = .ok (.ireturn, 1) := by decide +kernel
theorem dX11_meanPick_0 : decode cX11_meanPick 0 = .ok (.aload_n 0, 1) := by decide +kernel
theorem dX11_meanPick_1 : decode cX11_meanPick 1 = .ok (.iconst 0, 1) := by decide +kernel
theorem dX11_meanPick_2 : decode cX11_meanPick 2 = .ok (.putfield 30, 3) := by decide +kernel
theorem dX11_meanPick_5 : decode cX11_meanPick 5 = .ok (.iconst 0, 1) := by decide +kernel
theorem dX11_meanPick_6 : decode cX11_meanPick 6 = .ok (.istore_n 1, 1) := by decide +kernel
theorem dX11_meanPick_7 : decode cX11_meanPick 7 = .ok (.iconst 0, 1) := by decide +kernel
theorem dX11_meanPick_8 : decode cX11_meanPick 8 = .ok (.istore_n 2, 1) := by decide +kernel
theorem dX11_meanPick_9 : decode cX11_meanPick 9 = .ok (.iload_n 2, 1) := by decide +kernel
theorem dX11_meanPick_10 : decode cX11_meanPick 10 = .ok (.aload_n 0, 1) := by decide +kernel
theorem dX11_meanPick_11 : decode cX11_meanPick 11 = .ok (.getfield 7, 3) := by decide +kernel
theorem dX11_meanPick_14 : decode cX11_meanPick 14 = .ok (.bipush 31, 2) := by decide +kernel
theorem dX11_meanPick_16 : decode cX11_meanPick 16 = .ok (.iaload, 1) := by decide +kernel
theorem dX11_meanPick_17 : decode cX11_meanPick 17 = .ok (.if_icmp .ge 38, 3) := by decide +kernel
theorem dX11_meanPick_20 : decode cX11_meanPick 20 = .ok (.iload_n 1, 1) := by decide +kernel
theorem dX11_meanPick_21 : decode cX11_meanPick 21 = .ok (.aload_n 0, 1) := by decide +kernel
theorem dX11_meanPick_22 : decode cX11_meanPick 22 = .ok (.getfield 7, 3) := by decide +kernel
theorem dX11_meanPick_25 : decode cX11_meanPick 25 = .ok (.bipush 32, 2) := by decide +kernel
theorem dX11_meanPick_27 : decode cX11_meanPick 27 = .ok (.iload_n 2, 1) := by decide +kernel
theorem dX11_meanPick_28 : decode cX11_meanPick 28 = .ok (.iadd, 1) := by decide +kernel
theorem dX11_meanPick_29 : decode cX11_meanPick 29 = .ok (.iaload, 1) := by decide +kernel
theorem dX11_meanPick_30 : decode cX11_meanPick 30 = .ok (.iconst (-1), 1) := by decide +kernel
theorem dX11_meanPick_31 : decode cX11_meanPick 31 = .ok (.if_icmp .eq 15, 3) := by decide +kernel
theorem dX11_meanPick_34 : decode cX11_meanPick 34 = .ok (.aload_n 0, 1) := by decide +kernel
theorem dX11_meanPick_35 : decode cX11_meanPick 35 = .ok (.getfield 7, 3) := by decide +kernel
theorem dX11_meanPick_38 : decode cX11_meanPick 38 = .ok (.bipush 32, 2) := by decide +kernel
theorem dX11_meanPick_40 : decode cX11_meanPick 40 = .ok (.iload_n 2, 1) := by decide +kernel
theorem dX11_meanPick_41 : decode cX11_meanPick 41 = .ok (.iadd, 1) := by decide +kernel
theorem dX11_meanPick_42 : decode cX11_meanPick 42 = .ok (.iaload, 1) := by decide +kernel
theorem dX11_meanPick_43 : decode cX11_meanPick 43 = .ok (.goto 4, 3) := by decide +kernel
theorem dX11_meanPick_46 : decode cX11_meanPick 46 = .ok (.iconst 0, 1) := by decide +kernel
theorem dX11_meanPick_47 : decode cX11_meanPick 47 = .ok (.iadd, 1) := by decide +kernel
theorem dX11_meanPick_48 : decode cX11_meanPick 48 = .ok (.istore_n 1, 1) := by decide +kernel
theorem dX11_meanPick_49 : decode cX11_meanPick 49 = .ok (.iinc 2 1, 3) := by decide +kernel
theorem dX11_meanPick_52 : decode cX11_meanPick 52 = .ok (.goto (-43), 3) := by decide +kernel
theorem dX11_meanPick_55 : decode cX11_meanPick 55 = .ok (.aload_n 0, 1) := by decide +kernel
theorem dX11_meanPick_56 : decode cX11_meanPick 56 = .ok (.invokevirtual 100, 3) := by decide +kernel
theorem dX11_meanPick_59 : decode cX11_meanPick 59 = .ok (.ifCond .ne 9, 3) := by decide +kernel
theorem dX11_meanPick_62 : decode cX11_meanPick 62 = .ok (.ldc2_w 200, 3) := by decide +kernel
theorem dX11_meanPick_65 : decode cX11_meanPick 65 = .ok (.goto 11, 3) := by decide +kernel
theorem dX11_meanPick_68 : decode cX11_meanPick 68 = .ok (.iload_n 1, 1) := by decide +kernel
theorem dX11_meanPick_69 : decode cX11_meanPick 69 = .ok (.i2d, 1) := by decide +kernel
theorem dX11_meanPick_70 : decode cX11_meanPick 70 = .ok (.aload_n 0, 1) := by decide +kernel
theorem dX11_meanPick_71 : decode cX11_meanPick 71 = .ok (.invokevirtual 100, 3) := by decide +kernel
theorem dX11_meanPick_74 : decode cX11_meanPick 74 = .ok (.i2d, 1) := by decide +kernel
theorem dX11_meanPick_75 : decode cX11_meanPick 75 = .ok (.ddiv, 1) := by decide +kernel
theorem dX11_meanPick_76 : decode cX11_meanPick 76 = .ok (.dreturn, 1) := by decide +kernel
theorem dX11_toldAfter_0 : decode cX11_toldAfter 0 = .ok (.aload_n 0, 1) := by decide +kernel
theorem dX11_toldAfter_1 : decode cX11_toldAfter 1 = .ok (.iload_n 1, 1) := by decide +kernel
theorem dX11_toldAfter_2 : decode cX11_toldAfter 2 = .ok (.iconst 0, 1) := by decide +kernel
theorem dX11_toldAfter_3 : decode cX11_toldAfter 3 = .ok (.sipush 500, 3) := by decide +kernel
theorem dX11_toldAfter_6 : decode cX11_toldAfter 6 = .ok (.invokestatic 89, 3) := by decide +kernel
theorem dX11_toldAfter_9 : decode cX11_toldAfter 9 = .ok (.iconst 1, 1) := by decide +kernel
theorem dX11_toldAfter_10 : decode cX11_toldAfter 10 = .ok (.invokevirtual 37, 3) := by decide +kernel
theorem dX11_toldAfter_13 : decode cX11_toldAfter 13 = .ok (.ifCond .ne 5, 3) := by decide +kernel
theorem dX11_toldAfter_16 : decode cX11_toldAfter 16 = .ok (.iconst 0, 1) := by decide +kernel
theorem dX11_toldAfter_17 : decode cX11_toldAfter 17 = .ok (.ireturn, 1) := by decide +kernel
theorem dX11_toldAfter_18 : decode cX11_toldAfter 18 = .ok (.aload_n 0, 1) := by decide +kernel
theorem dX11_toldAfter_19 : decode cX11_toldAfter 19 = .ok (.invokevirtual 202, 3) := by decide +kernel
theorem dX11_toldAfter_22 : decode cX11_toldAfter 22 = .ok (.iconst 0, 1) := by decide +kernel
theorem dX11_toldAfter_23 : decode cX11_toldAfter 23 = .ok (.istore_n 2, 1) := by decide +kernel
theorem dX11_toldAfter_24 : decode cX11_toldAfter 24 = .ok (.iconst 0, 1) := by decide +kernel
theorem dX11_toldAfter_25 : decode cX11_toldAfter 25 = .ok (.istore_n 3, 1) := by decide +kernel
theorem dX11_toldAfter_26 : decode cX11_toldAfter 26 = .ok (.iload_n 2, 1) := by decide +kernel
theorem dX11_toldAfter_27 : decode cX11_toldAfter 27 = .ok (.iload_n 1, 1) := by decide +kernel
theorem dX11_toldAfter_28 : decode cX11_toldAfter 28 = .ok (.if_icmp .ge 35, 3) := by decide +kernel
theorem dX11_toldAfter_31 : decode cX11_toldAfter 31 = .ok (.aload_n 0, 1) := by decide +kernel
theorem dX11_toldAfter_32 : decode cX11_toldAfter 32 = .ok (.getfield 7, 3) := by decide +kernel
theorem dX11_toldAfter_35 : decode cX11_toldAfter 35 = .ok (.bipush 26, 2) := by decide +kernel
theorem dX11_toldAfter_37 : decode cX11_toldAfter 37 = .ok (.iaload, 1) := by decide +kernel
theorem dX11_toldAfter_38 : decode cX11_toldAfter 38 = .ok (.iconst (-1), 1) := by decide +kernel
theorem dX11_toldAfter_39 : decode cX11_toldAfter 39 = .ok (.if_icmp .ne 24, 3) := by decide +kernel
theorem dX11_toldAfter_42 : decode cX11_toldAfter 42 = .ok (.iload_n 3, 1) := by decide +kernel
theorem dX11_toldAfter_43 : decode cX11_toldAfter 43 = .ok (.aload_n 0, 1) := by decide +kernel
theorem dX11_toldAfter_44 : decode cX11_toldAfter 44 = .ok (.invokevirtual 184, 3) := by decide +kernel
theorem dX11_toldAfter_47 : decode cX11_toldAfter 47 = .ok (.ifCond .eq 7, 3) := by decide +kernel
theorem dX11_toldAfter_50 : decode cX11_toldAfter 50 = .ok (.iconst 1, 1) := by decide +kernel
theorem dX11_toldAfter_51 : decode cX11_toldAfter 51 = .ok (.goto 4, 3) := by decide +kernel
theorem dX11_toldAfter_54 : decode cX11_toldAfter 54 = .ok (.iconst 0, 1) := by decide +kernel
theorem dX11_toldAfter_55 : decode cX11_toldAfter 55 = .ok (.iadd, 1) := by decide +kernel
theorem dX11_toldAfter_56 : decode cX11_toldAfter 56 = .ok (.istore_n 3, 1) := by decide +kernel
theorem dX11_toldAfter_57 : decode cX11_toldAfter 57 = .ok (.iinc 2 1, 3) := by decide +kernel
theorem dX11_toldAfter_60 : decode cX11_toldAfter 60 = .ok (.goto (-34), 3) := by decide +kernel
theorem dX11_toldAfter_63 : decode cX11_toldAfter 63 = .ok (.aload_n 0, 1) := by decide +kernel
theorem dX11_toldAfter_64 : decode cX11_toldAfter 64 = .ok (.getfield 7, 3) := by decide +kernel
theorem dX11_toldAfter_67 : decode cX11_toldAfter 67 = .ok (.bipush 26, 2) := by decide +kernel
theorem dX11_toldAfter_69 : decode cX11_toldAfter 69 = .ok (.iaload, 1) := by decide +kernel
theorem dX11_toldAfter_70 : decode cX11_toldAfter 70 = .ok (.iconst (-1), 1) := by decide +kernel
theorem dX11_toldAfter_71 : decode cX11_toldAfter 71 = .ok (.if_icmp .eq 8, 3) := by decide +kernel
theorem dX11_toldAfter_74 : decode cX11_toldAfter 74 = .ok (.iload_n 3, 1) := by decide +kernel
theorem dX11_toldAfter_75 : decode cX11_toldAfter 75 = .ok (.iload_n 2, 1) := by decide +kernel
theorem dX11_toldAfter_76 : decode cX11_toldAfter 76 = .ok (.if_icmp .le 7, 3) := by decide +kernel
theorem dX11_toldAfter_79 : decode cX11_toldAfter 79 = .ok (.iconst (-1), 1) := by decide +kernel
theorem dX11_toldAfter_80 : decode cX11_toldAfter 80 = .ok (.goto 4, 3) := by decide +kernel
theorem dX11_toldAfter_83 : decode cX11_toldAfter 83 = .ok (.iload_n 2, 1) := by decide +kernel
theorem dX11_toldAfter_84 : decode cX11_toldAfter 84 = .ok (.istore_n 2, 1) := by decide +kernel
theorem dX11_toldAfter_85 : decode cX11_toldAfter 85 = .ok (.aload_n 0, 1) := by decide +kernel
theorem dX11_toldAfter_86 : decode cX11_toldAfter 86 = .ok (.invokevirtual 205, 3) := by decide +kernel
theorem dX11_toldAfter_89 : decode cX11_toldAfter 89 = .ok (.iload_n 2, 1) := by decide +kernel
theorem dX11_toldAfter_90 : decode cX11_toldAfter 90 = .ok (.ireturn, 1) := by decide +kernel
theorem dX11_worst_0 : decode cX11_worst 0 = .ok (.aload_n 0, 1) := by decide +kernel
theorem dX11_worst_1 : decode cX11_worst 1 = .ok (.invokevirtual 202, 3) := by decide +kernel
theorem dX11_worst_4 : decode cX11_worst 4 = .ok (.aload_n 0, 1) := by decide +kernel
theorem dX11_worst_5 : decode cX11_worst 5 = .ok (.getfield 7, 3) := by decide +kernel
theorem dX11_worst_8 : decode cX11_worst 8 = .ok (.bipush 17, 2) := by decide +kernel
theorem dX11_worst_10 : decode cX11_worst 10 = .ok (.iload_n 2, 1) := by decide +kernel
theorem dX11_worst_11 : decode cX11_worst 11 = .ok (.iastore, 1) := by decide +kernel
theorem dX11_worst_12 : decode cX11_worst 12 = .ok (.iconst 0, 1) := by decide +kernel
theorem dX11_worst_13 : decode cX11_worst 13 = .ok (.istore_n 3, 1) := by decide +kernel
theorem dX11_worst_14 : decode cX11_worst 14 = .ok (.iconst 0, 1) := by decide +kernel
theorem dX11_worst_15 : decode cX11_worst 15 = .ok (.istore 4, 2) := by decide +kernel
theorem dX11_worst_17 : decode cX11_worst 17 = .ok (.iconst 0, 1) := by decide +kernel
theorem dX11_worst_18 : decode cX11_worst 18 = .ok (.istore 5, 2) := by decide +kernel
theorem dX11_worst_20 : decode cX11_worst 20 = .ok (.iload 5, 2) := by decide +kernel
theorem dX11_worst_22 : decode cX11_worst 22 = .ok (.iload_n 1, 1) := by decide +kernel
theorem dX11_worst_23 : decode cX11_worst 23 = .ok (.if_icmp .ge 73, 3) := by decide +kernel
theorem dX11_worst_26 : decode cX11_worst 26 = .ok (.iload 4, 2) := by decide +kernel
theorem dX11_worst_28 : decode cX11_worst 28 = .ok (.aload_n 0, 1) := by decide +kernel
theorem dX11_worst_29 : decode cX11_worst 29 = .ok (.invokevirtual 184, 3) := by decide +kernel
theorem dX11_worst_32 : decode cX11_worst 32 = .ok (.ifCond .eq 7, 3) := by decide +kernel
theorem dX11_worst_35 : decode cX11_worst 35 = .ok (.iconst 1, 1) := by decide +kernel
theorem dX11_worst_36 : decode cX11_worst 36 = .ok (.goto 4, 3) := by decide +kernel
theorem dX11_worst_39 : decode cX11_worst 39 = .ok (.iconst 0, 1) := by decide +kernel
theorem dX11_worst_40 : decode cX11_worst 40 = .ok (.iadd, 1) := by decide +kernel
theorem dX11_worst_41 : decode cX11_worst 41 = .ok (.istore 4, 2) := by decide +kernel
theorem dX11_worst_43 : decode cX11_worst 43 = .ok (.aload_n 0, 1) := by decide +kernel
theorem dX11_worst_44 : decode cX11_worst 44 = .ok (.getfield 7, 3) := by decide +kernel
theorem dX11_worst_47 : decode cX11_worst 47 = .ok (.bipush 26, 2) := by decide +kernel
theorem dX11_worst_49 : decode cX11_worst 49 = .ok (.iaload, 1) := by decide +kernel
theorem dX11_worst_50 : decode cX11_worst 50 = .ok (.iconst (-1), 1) := by decide +kernel
theorem dX11_worst_51 : decode cX11_worst 51 = .ok (.if_icmp .ne 7, 3) := by decide +kernel
theorem dX11_worst_54 : decode cX11_worst 54 = .ok (.iconst 0, 1) := by decide +kernel
theorem dX11_worst_55 : decode cX11_worst 55 = .ok (.goto 26, 3) := by decide +kernel
theorem dX11_worst_58 : decode cX11_worst 58 = .ok (.aload_n 0, 1) := by decide +kernel
theorem dX11_worst_59 : decode cX11_worst 59 = .ok (.getfield 7, 3) := by decide +kernel
theorem dX11_worst_62 : decode cX11_worst 62 = .ok (.iconst 1, 1) := by decide +kernel
theorem dX11_worst_63 : decode cX11_worst 63 = .ok (.iaload, 1) := by decide +kernel
theorem dX11_worst_64 : decode cX11_worst 64 = .ok (.aload_n 0, 1) := by decide +kernel
theorem dX11_worst_65 : decode cX11_worst 65 = .ok (.getfield 7, 3) := by decide +kernel
theorem dX11_worst_68 : decode cX11_worst 68 = .ok (.iconst 0, 1) := by decide +kernel
theorem dX11_worst_69 : decode cX11_worst 69 = .ok (.iaload, 1) := by decide +kernel
theorem dX11_worst_70 : decode cX11_worst 70 = .ok (.aload_n 0, 1) := by decide +kernel
theorem dX11_worst_71 : decode cX11_worst 71 = .ok (.getfield 7, 3) := by decide +kernel
theorem dX11_worst_74 : decode cX11_worst 74 = .ok (.bipush 26, 2) := by decide +kernel
theorem dX11_worst_76 : decode cX11_worst 76 = .ok (.iaload, 1) := by decide +kernel
theorem dX11_worst_77 : decode cX11_worst 77 = .ok (.isub, 1) := by decide +kernel
theorem dX11_worst_78 : decode cX11_worst 78 = .ok (.invokestatic 83, 3) := by decide +kernel
theorem dX11_worst_81 : decode cX11_worst 81 = .ok (.istore 6, 2) := by decide +kernel
theorem dX11_worst_83 : decode cX11_worst 83 = .ok (.iload_n 3, 1) := by decide +kernel
theorem dX11_worst_84 : decode cX11_worst 84 = .ok (.iload 6, 2) := by decide +kernel
theorem dX11_worst_86 : decode cX11_worst 86 = .ok (.invokestatic 60, 3) := by decide +kernel
theorem dX11_worst_89 : decode cX11_worst 89 = .ok (.istore_n 3, 1) := by decide +kernel
theorem dX11_worst_90 : decode cX11_worst 90 = .ok (.iinc 5 1, 3) := by decide +kernel
theorem dX11_worst_93 : decode cX11_worst 93 = .ok (.goto (-73), 3) := by decide +kernel
theorem dX11_worst_96 : decode cX11_worst 96 = .ok (.aload_n 0, 1) := by decide +kernel
theorem dX11_worst_97 : decode cX11_worst 97 = .ok (.invokevirtual 205, 3) := by decide +kernel
theorem dX11_worst_100 : decode cX11_worst 100 = .ok (.iload 4, 2) := by decide +kernel
theorem dX11_worst_102 : decode cX11_worst 102 = .ok (.ifCond .lt 7, 3) := by decide +kernel
theorem dX11_worst_105 : decode cX11_worst 105 = .ok (.iload_n 3, 1) := by decide +kernel
theorem dX11_worst_106 : decode cX11_worst 106 = .ok (.goto 4, 3) := by decide +kernel
theorem dX11_worst_109 : decode cX11_worst 109 = .ok (.iconst (-1), 1) := by decide +kernel
theorem dX11_worst_110 : decode cX11_worst 110 = .ok (.ireturn, 1) := by decide +kernel
theorem dX11_worstError_0 : decode cX11_worstError 0 = .ok (.aload_n 0, 1) := by decide +kernel
theorem dX11_worstError_1 : decode cX11_worstError 1 = .ok (.iload_n 1, 1) := by decide +kernel
theorem dX11_worstError_2 : decode cX11_worstError 2 = .ok (.iconst 1, 1) := by decide +kernel
theorem dX11_worstError_3 : decode cX11_worstError 3 = .ok (.sipush 200, 3) := by decide +kernel
theorem dX11_worstError_6 : decode cX11_worstError 6 = .ok (.invokestatic 89, 3) := by decide +kernel
theorem dX11_worstError_9 : decode cX11_worstError 9 = .ok (.iconst 1, 1) := by decide +kernel
theorem dX11_worstError_10 : decode cX11_worstError 10 = .ok (.invokevirtual 37, 3) := by decide +kernel
theorem dX11_worstError_13 : decode cX11_worstError 13 = .ok (.ifCond .eq 18, 3) := by decide +kernel
theorem dX11_worstError_16 : decode cX11_worstError 16 = .ok (.aload_n 0, 1) := by decide +kernel
theorem dX11_worstError_17 : decode cX11_worstError 17 = .ok (.iload_n 1, 1) := by decide +kernel
theorem dX11_worstError_18 : decode cX11_worstError 18 = .ok (.aload_n 0, 1) := by decide +kernel
theorem dX11_worstError_19 : decode cX11_worstError 19 = .ok (.getfield 7, 3) := by decide +kernel
theorem dX11_worstError_22 : decode cX11_worstError 22 = .ok (.bipush 17, 2) := by decide +kernel
theorem dX11_worstError_24 : decode cX11_worstError 24 = .ok (.iaload, 1) := by decide +kernel
theorem dX11_worstError_25 : decode cX11_worstError 25 = .ok (.invokevirtual 208, 3) := by decide +kernel
theorem dX11_worstError_28 : decode cX11_worstError 28 = .ok (.goto 4, 3) := by decide +kernel
theorem dX11_worstError_31 : decode cX11_worstError 31 = .ok (.iconst 0, 1) := by decide +kernel
theorem dX11_worstError_32 : decode cX11_worstError 32 = .ok (.ireturn, 1) := by decide +kernel
theorem dX11_bestMode_0 : decode cX11_bestMode 0 = .ok (.aload_n 0, 1) := by decide +kernel
theorem dX11_bestMode_1 : decode cX11_bestMode 1 = .ok (.iload_n 1, 1) := by decide +kernel
theorem dX11_bestMode_2 : decode cX11_bestMode 2 = .ok (.iconst 1, 1) := by decide +kernel
theorem dX11_bestMode_3 : decode cX11_bestMode 3 = .ok (.sipush 200, 3) := by decide +kernel
theorem dX11_bestMode_6 : decode cX11_bestMode 6 = .ok (.invokestatic 89, 3) := by decide +kernel
theorem dX11_bestMode_9 : decode cX11_bestMode 9 = .ok (.iconst 1, 1) := by decide +kernel
theorem dX11_bestMode_10 : decode cX11_bestMode 10 = .ok (.invokevirtual 37, 3) := by decide +kernel
theorem dX11_bestMode_13 : decode cX11_bestMode 13 = .ok (.ifCond .ne 5, 3) := by decide +kernel
theorem dX11_bestMode_16 : decode cX11_bestMode 16 = .ok (.iconst 0, 1) := by decide +kernel
theorem dX11_bestMode_17 : decode cX11_bestMode 17 = .ok (.ireturn, 1) := by decide +kernel
theorem dX11_bestMode_18 : decode cX11_bestMode 18 = .ok (.iconst 0, 1) := by decide +kernel
theorem dX11_bestMode_19 : decode cX11_bestMode 19 = .ok (.istore_n 2, 1) := by decide +kernel
theorem dX11_bestMode_20 : decode cX11_bestMode 20 = .ok (.aload_n 0, 1) := by decide +kernel
theorem dX11_bestMode_21 : decode cX11_bestMode 21 = .ok (.iload_n 1, 1) := by decide +kernel
theorem dX11_bestMode_22 : decode cX11_bestMode 22 = .ok (.iconst 0, 1) := by decide +kernel
theorem dX11_bestMode_23 : decode cX11_bestMode 23 = .ok (.invokevirtual 208, 3) := by decide +kernel
theorem dX11_bestMode_26 : decode cX11_bestMode 26 = .ok (.istore_n 3, 1) := by decide +kernel
theorem dX11_bestMode_27 : decode cX11_bestMode 27 = .ok (.iconst 1, 1) := by decide +kernel
theorem dX11_bestMode_28 : decode cX11_bestMode 28 = .ok (.istore 4, 2) := by decide +kernel
theorem dX11_bestMode_30 : decode cX11_bestMode 30 = .ok (.iload 4, 2) := by decide +kernel
theorem dX11_bestMode_32 : decode cX11_bestMode 32 = .ok (.iconst 3, 1) := by decide +kernel
theorem dX11_bestMode_33 : decode cX11_bestMode 33 = .ok (.if_icmp .ge 44, 3) := by decide +kernel
theorem dX11_bestMode_36 : decode cX11_bestMode 36 = .ok (.aload_n 0, 1) := by decide +kernel
theorem dX11_bestMode_37 : decode cX11_bestMode 37 = .ok (.iload_n 1, 1) := by decide +kernel
theorem dX11_bestMode_38 : decode cX11_bestMode 38 = .ok (.iload 4, 2) := by decide +kernel
theorem dX11_bestMode_40 : decode cX11_bestMode 40 = .ok (.invokevirtual 208, 3) := by decide +kernel
theorem dX11_bestMode_43 : decode cX11_bestMode 43 = .ok (.istore 5, 2) := by decide +kernel
theorem dX11_bestMode_45 : decode cX11_bestMode 45 = .ok (.iload 5, 2) := by decide +kernel
theorem dX11_bestMode_47 : decode cX11_bestMode 47 = .ok (.iload_n 3, 1) := by decide +kernel
theorem dX11_bestMode_48 : decode cX11_bestMode 48 = .ok (.if_icmp .ge 8, 3) := by decide +kernel
theorem dX11_bestMode_51 : decode cX11_bestMode 51 = .ok (.iload 4, 2) := by decide +kernel
theorem dX11_bestMode_53 : decode cX11_bestMode 53 = .ok (.goto 4, 3) := by decide +kernel
theorem dX11_bestMode_56 : decode cX11_bestMode 56 = .ok (.iload_n 2, 1) := by decide +kernel
theorem dX11_bestMode_57 : decode cX11_bestMode 57 = .ok (.istore_n 2, 1) := by decide +kernel
theorem dX11_bestMode_58 : decode cX11_bestMode 58 = .ok (.iload 5, 2) := by decide +kernel
theorem dX11_bestMode_60 : decode cX11_bestMode 60 = .ok (.iload_n 3, 1) := by decide +kernel
theorem dX11_bestMode_61 : decode cX11_bestMode 61 = .ok (.if_icmp .ge 8, 3) := by decide +kernel
theorem dX11_bestMode_64 : decode cX11_bestMode 64 = .ok (.iload 5, 2) := by decide +kernel
theorem dX11_bestMode_66 : decode cX11_bestMode 66 = .ok (.goto 4, 3) := by decide +kernel
theorem dX11_bestMode_69 : decode cX11_bestMode 69 = .ok (.iload_n 3, 1) := by decide +kernel
theorem dX11_bestMode_70 : decode cX11_bestMode 70 = .ok (.istore_n 3, 1) := by decide +kernel
theorem dX11_bestMode_71 : decode cX11_bestMode 71 = .ok (.iinc 4 1, 3) := by decide +kernel
theorem dX11_bestMode_74 : decode cX11_bestMode 74 = .ok (.goto (-44), 3) := by decide +kernel
theorem dX11_bestMode_77 : decode cX11_bestMode 77 = .ok (.iload_n 2, 1) := by decide +kernel
theorem dX11_bestMode_78 : decode cX11_bestMode 78 = .ok (.ireturn, 1) := by decide +kernel
theorem dX11_type_0 : decode cX11_type 0 = .ok (.aload_n 0, 1) := by decide +kernel
theorem dX11_type_1 : decode cX11_type 1 = .ok (.iload_n 1, 1) := by decide +kernel
theorem dX11_type_2 : decode cX11_type 2 = .ok (.iconst 0, 1) := by decide +kernel
theorem dX11_type_3 : decode cX11_type 3 = .ok (.bipush 127, 2) := by decide +kernel
theorem dX11_type_5 : decode cX11_type 5 = .ok (.invokestatic 89, 3) := by decide +kernel
theorem dX11_type_8 : decode cX11_type 8 = .ok (.iconst 1, 1) := by decide +kernel
theorem dX11_type_9 : decode cX11_type 9 = .ok (.invokevirtual 37, 3) := by decide +kernel
theorem dX11_type_12 : decode cX11_type 12 = .ok (.ifCond .eq 26, 3) := by decide +kernel
theorem dX11_type_15 : decode cX11_type 15 = .ok (.aload_n 0, 1) := by decide +kernel
theorem dX11_type_16 : decode cX11_type 16 = .ok (.aload_n 0, 1) := by decide +kernel
theorem dX11_type_17 : decode cX11_type 17 = .ok (.getfield 211, 3) := by decide +kernel
theorem dX11_type_20 : decode cX11_type 20 = .ok (.sipush 150, 3) := by decide +kernel
theorem dX11_type_23 : decode cX11_type 23 = .ok (.if_icmp .ge 7, 3) := by decide +kernel
theorem dX11_type_26 : decode cX11_type 26 = .ok (.iconst 1, 1) := by decide +kernel
theorem dX11_type_27 : decode cX11_type 27 = .ok (.goto 4, 3) := by decide +kernel
theorem dX11_type_30 : decode cX11_type 30 = .ok (.iconst 0, 1) := by decide +kernel
theorem dX11_type_31 : decode cX11_type 31 = .ok (.iconst 2, 1) := by decide +kernel
theorem dX11_type_32 : decode cX11_type 32 = .ok (.invokevirtual 37, 3) := by decide +kernel
theorem dX11_type_35 : decode cX11_type 35 = .ok (.ifCond .ne 5, 3) := by decide +kernel
theorem dX11_type_38 : decode cX11_type 38 = .ok (.iconst 0, 1) := by decide +kernel
theorem dX11_type_39 : decode cX11_type 39 = .ok (.ireturn, 1) := by decide +kernel
theorem dX11_type_40 : decode cX11_type 40 = .ok (.aload_n 0, 1) := by decide +kernel
theorem dX11_type_41 : decode cX11_type 41 = .ok (.getfield 19, 3) := by decide +kernel
theorem dX11_type_44 : decode cX11_type 44 = .ok (.aload_n 0, 1) := by decide +kernel
theorem dX11_type_45 : decode cX11_type 45 = .ok (.getfield 211, 3) := by decide +kernel
theorem dX11_type_48 : decode cX11_type 48 = .ok (.iload_n 1, 1) := by decide +kernel
theorem dX11_type_49 : decode cX11_type 49 = .ok (.i2b, 1) := by decide +kernel
theorem dX11_type_50 : decode cX11_type 50 = .ok (.bastore, 1) := by decide +kernel
theorem dX11_type_51 : decode cX11_type 51 = .ok (.aload_n 0, 1) := by decide +kernel
theorem dX11_type_52 : decode cX11_type 52 = .ok (.dup, 1) := by decide +kernel
theorem dX11_type_53 : decode cX11_type 53 = .ok (.getfield 211, 3) := by decide +kernel
theorem dX11_type_56 : decode cX11_type 56 = .ok (.iconst 1, 1) := by decide +kernel
theorem dX11_type_57 : decode cX11_type 57 = .ok (.iadd, 1) := by decide +kernel
theorem dX11_type_58 : decode cX11_type 58 = .ok (.putfield 211, 3) := by decide +kernel
theorem dX11_type_61 : decode cX11_type 61 = .ok (.aload_n 0, 1) := by decide +kernel
theorem dX11_type_62 : decode cX11_type 62 = .ok (.getfield 211, 3) := by decide +kernel
theorem dX11_type_65 : decode cX11_type 65 = .ok (.ireturn, 1) := by decide +kernel
theorem dX11_clearCommands_0 : decode cX11_clearCommands 0 = .ok (.aload_n 0, 1) := by decide +kernel
theorem dX11_clearCommands_1 : decode cX11_clearCommands 1 = .ok (.iconst 0, 1) := by decide +kernel
theorem dX11_clearCommands_2 : decode cX11_clearCommands 2 = .ok (.putfield 30, 3) := by decide +kernel
theorem dX11_clearCommands_5 : decode cX11_clearCommands 5 = .ok (.aload_n 0, 1) := by decide +kernel
theorem dX11_clearCommands_6 : decode cX11_clearCommands 6 = .ok (.getfield 211, 3) := by decide +kernel
theorem dX11_clearCommands_9 : decode cX11_clearCommands 9 = .ok (.istore_n 1, 1) := by decide +kernel
theorem dX11_clearCommands_10 : decode cX11_clearCommands 10 = .ok (.aload_n 0, 1) := by decide +kernel
theorem dX11_clearCommands_11 : decode cX11_clearCommands 11 = .ok (.iconst 0, 1) := by decide +kernel
theorem dX11_clearCommands_12 : decode cX11_clearCommands 12 = .ok (.putfield 211, 3) := by decide +kernel
theorem dX11_clearCommands_15 : decode cX11_clearCommands 15 = .ok (.iload_n 1, 1) := by decide +kernel
theorem dX11_clearCommands_16 : decode cX11_clearCommands 16 = .ok (.ireturn, 1) := by decide +kernel
theorem dX11_isAt_0 : decode cX11_isAt 0 = .ok (.aload_n 0, 1) := by decide +kernel
theorem dX11_isAt_1 : decode cX11_isAt 1 = .ok (.getfield 214, 3) := by decide +kernel
theorem dX11_isAt_4 : decode cX11_isAt 4 = .ok (.aload_n 0, 1) := by decide +kernel
theorem dX11_isAt_5 : decode cX11_isAt 5 = .ok (.getfield 211, 3) := by decide +kernel
theorem dX11_isAt_8 : decode cX11_isAt 8 = .ok (.if_icmp .ge 24, 3) := by decide +kernel
theorem dX11_isAt_11 : decode cX11_isAt 11 = .ok (.aload_n 0, 1) := by decide +kernel
theorem dX11_isAt_12 : decode cX11_isAt 12 = .ok (.getfield 19, 3) := by decide +kernel
theorem dX11_isAt_15 : decode cX11_isAt 15 = .ok (.aload_n 0, 1) := by decide +kernel
theorem dX11_isAt_16 : decode cX11_isAt 16 = .ok (.getfield 214, 3) := by decide +kernel
theorem dX11_isAt_19 : decode cX11_isAt 19 = .ok (.baload, 1) := by decide +kernel
theorem dX11_isAt_20 : decode cX11_isAt 20 = .ok (.iload_n 1, 1) := by decide +kernel
theorem dX11_isAt_21 : decode cX11_isAt 21 = .ok (.iload_n 2, 1) := by decide +kernel
theorem dX11_isAt_22 : decode cX11_isAt 22 = .ok (.invokestatic 89, 3) := by decide +kernel
theorem dX11_isAt_25 : decode cX11_isAt 25 = .ok (.ifCond .eq 7, 3) := by decide +kernel
theorem dX11_isAt_28 : decode cX11_isAt 28 = .ok (.iconst 1, 1) := by decide +kernel
theorem dX11_isAt_29 : decode cX11_isAt 29 = .ok (.goto 4, 3) := by decide +kernel
theorem dX11_isAt_32 : decode cX11_isAt 32 = .ok (.iconst 0, 1) := by decide +kernel
theorem dX11_isAt_33 : decode cX11_isAt 33 = .ok (.ireturn, 1) := by decide +kernel
theorem dX11_spaces_0 : decode cX11_spaces 0 = .ok (.aload_n 0, 1) := by decide +kernel
theorem dX11_spaces_1 : decode cX11_spaces 1 = .ok (.bipush 32, 2) := by decide +kernel
theorem dX11_spaces_3 : decode cX11_spaces 3 = .ok (.bipush 32, 2) := by decide +kernel
theorem dX11_spaces_5 : decode cX11_spaces 5 = .ok (.invokevirtual 217, 3) := by decide +kernel
theorem dX11_spaces_8 : decode cX11_spaces 8 = .ok (.ifCond .eq 16, 3) := by decide +kernel
theorem dX11_spaces_11 : decode cX11_spaces 11 = .ok (.aload_n 0, 1) := by decide +kernel
theorem dX11_spaces_12 : decode cX11_spaces 12 = .ok (.dup, 1) := by decide +kernel
theorem dX11_spaces_13 : decode cX11_spaces 13 = .ok (.getfield 214, 3) := by decide +kernel
theorem dX11_spaces_16 : decode cX11_spaces 16 = .ok (.iconst 1, 1) := by decide +kernel
theorem dX11_spaces_17 : decode cX11_spaces 17 = .ok (.iadd, 1) := by decide +kernel
theorem dX11_spaces_18 : decode cX11_spaces 18 = .ok (.putfield 214, 3) := by decide +kernel
theorem dX11_spaces_21 : decode cX11_spaces 21 = .ok (.goto (-21), 3) := by decide +kernel
theorem dX11_spaces_24 : decode cX11_spaces 24 = .ok (.return_, 1) := by decide +kernel
theorem dX11_manyOf_0 : decode cX11_manyOf 0 = .ok (.lload_n 0, 1) := by decide +kernel
theorem dX11_manyOf_1 : decode cX11_manyOf 1 = .ok (.ldc2_w 220, 3) := by decide +kernel
theorem dX11_manyOf_4 : decode cX11_manyOf 4 = .ok (.lcmp, 1) := by decide +kernel
theorem dX11_manyOf_5 : decode cX11_manyOf 5 = .ok (.ifCond .eq 43, 3) := by decide +kernel
theorem dX11_manyOf_8 : decode cX11_manyOf 8 = .ok (.lload_n 0, 1) := by decide +kernel
theorem dX11_manyOf_9 : decode cX11_manyOf 9 = .ok (.ldc2_w 222, 3) := by decide +kernel
theorem dX11_manyOf_12 : decode cX11_manyOf 12 = .ok (.lcmp, 1) := by decide +kernel
theorem dX11_manyOf_13 : decode cX11_manyOf 13 = .ok (.ifCond .eq 35, 3) := by decide +kernel
theorem dX11_manyOf_16 : decode cX11_manyOf 16 = .ok (.lload_n 0, 1) := by decide +kernel
theorem dX11_manyOf_17 : decode cX11_manyOf 17 = .ok (.ldc2_w 224, 3) := by decide +kernel
theorem dX11_manyOf_20 : decode cX11_manyOf 20 = .ok (.lcmp, 1) := by decide +kernel
theorem dX11_manyOf_21 : decode cX11_manyOf 21 = .ok (.ifCond .eq 27, 3) := by decide +kernel
theorem dX11_manyOf_24 : decode cX11_manyOf 24 = .ok (.lload_n 0, 1) := by decide +kernel
theorem dX11_manyOf_25 : decode cX11_manyOf 25 = .ok (.ldc2_w 226, 3) := by decide +kernel
theorem dX11_manyOf_28 : decode cX11_manyOf 28 = .ok (.lcmp, 1) := by decide +kernel
theorem dX11_manyOf_29 : decode cX11_manyOf 29 = .ok (.ifCond .eq 19, 3) := by decide +kernel
theorem dX11_manyOf_32 : decode cX11_manyOf 32 = .ok (.lload_n 0, 1) := by decide +kernel
theorem dX11_manyOf_33 : decode cX11_manyOf 33 = .ok (.ldc2_w 228, 3) := by decide +kernel
theorem dX11_manyOf_36 : decode cX11_manyOf 36 = .ok (.lcmp, 1) := by decide +kernel
theorem dX11_manyOf_37 : decode cX11_manyOf 37 = .ok (.ifCond .eq 11, 3) := by decide +kernel
theorem dX11_manyOf_40 : decode cX11_manyOf 40 = .ok (.lload_n 0, 1) := by decide +kernel
theorem dX11_manyOf_41 : decode cX11_manyOf 41 = .ok (.ldc2_w 230, 3) := by decide +kernel
theorem dX11_manyOf_44 : decode cX11_manyOf 44 = .ok (.lcmp, 1) := by decide +kernel
theorem dX11_manyOf_45 : decode cX11_manyOf 45 = .ok (.ifCond .ne 5, 3) := by decide +kernel
theorem dX11_manyOf_48 : decode cX11_manyOf 48 = .ok (.iconst 1, 1) := by decide +kernel
theorem dX11_manyOf_49 : decode cX11_manyOf 49 = .ok (.ireturn, 1) := by decide +kernel
theorem dX11_manyOf_50 : decode cX11_manyOf 50 = .ok (.lload_n 0, 1) := by decide +kernel
theorem dX11_manyOf_51 : decode cX11_manyOf 51 = .ok (.ldc2_w 232, 3) := by decide +kernel
theorem dX11_manyOf_54 : decode cX11_manyOf 54 = .ok (.lcmp, 1) := by decide +kernel
theorem dX11_manyOf_55 : decode cX11_manyOf 55 = .ok (.ifCond .eq 11, 3) := by decide +kernel
theorem dX11_manyOf_58 : decode cX11_manyOf 58 = .ok (.lload_n 0, 1) := by decide +kernel
theorem dX11_manyOf_59 : decode cX11_manyOf 59 = .ok (.ldc2_w 234, 3) := by decide +kernel
theorem dX11_manyOf_62 : decode cX11_manyOf 62 = .ok (.lcmp, 1) := by decide +kernel
theorem dX11_manyOf_63 : decode cX11_manyOf 63 = .ok (.ifCond .ne 7, 3) := by decide +kernel
theorem dX11_manyOf_66 : decode cX11_manyOf 66 = .ok (.iconst 2, 1) := by decide +kernel
theorem dX11_manyOf_67 : decode cX11_manyOf 67 = .ok (.goto 16, 3) := by decide +kernel
theorem dX11_manyOf_70 : decode cX11_manyOf 70 = .ok (.lload_n 0, 1) := by decide +kernel
theorem dX11_manyOf_71 : decode cX11_manyOf 71 = .ok (.ldc2_w 236, 3) := by decide +kernel
theorem dX11_manyOf_74 : decode cX11_manyOf 74 = .ok (.lcmp, 1) := by decide +kernel
theorem dX11_manyOf_75 : decode cX11_manyOf 75 = .ok (.ifCond .ne 7, 3) := by decide +kernel
theorem dX11_manyOf_78 : decode cX11_manyOf 78 = .ok (.iconst 5, 1) := by decide +kernel
theorem dX11_manyOf_79 : decode cX11_manyOf 79 = .ok (.goto 4, 3) := by decide +kernel
theorem dX11_manyOf_82 : decode cX11_manyOf 82 = .ok (.iconst (-1), 1) := by decide +kernel
theorem dX11_manyOf_83 : decode cX11_manyOf 83 = .ok (.ireturn, 1) := by decide +kernel
theorem dX11_readsWord_0 : decode cX11_readsWord 0 = .ok (.aload_n 0, 1) := by decide +kernel
theorem dX11_readsWord_1 : decode cX11_readsWord 1 = .ok (.getfield 214, 3) := by decide +kernel
theorem dX11_readsWord_4 : decode cX11_readsWord 4 = .ok (.istore_n 1, 1) := by decide +kernel
theorem dX11_readsWord_5 : decode cX11_readsWord 5 = .ok (.aload_n 0, 1) := by decide +kernel
theorem dX11_readsWord_6 : decode cX11_readsWord 6 = .ok (.lconst 0, 1) := by decide +kernel
theorem dX11_readsWord_7 : decode cX11_readsWord 7 = .ok (.putfield 238, 3) := by decide +kernel
theorem dX11_readsWord_10 : decode cX11_readsWord 10 = .ok (.aload_n 0, 1) := by decide +kernel
theorem dX11_readsWord_11 : decode cX11_readsWord 11 = .ok (.bipush 97, 2) := by decide +kernel
theorem dX11_readsWord_13 : decode cX11_readsWord 13 = .ok (.bipush 122, 2) := by decide +kernel
theorem dX11_readsWord_15 : decode cX11_readsWord 15 = .ok (.invokevirtual 217, 3) := by decide +kernel
theorem dX11_readsWord_18 : decode cX11_readsWord 18 = .ok (.ifCond .eq 58, 3) := by decide +kernel
theorem dX11_readsWord_21 : decode cX11_readsWord 21 = .ok (.aload_n 0, 1) := by decide +kernel
theorem dX11_readsWord_22 : decode cX11_readsWord 22 = .ok (.aload_n 0, 1) := by decide +kernel
theorem dX11_readsWord_23 : decode cX11_readsWord 23 = .ok (.getfield 214, 3) := by decide +kernel
theorem dX11_readsWord_26 : decode cX11_readsWord 26 = .ok (.iload_n 1, 1) := by decide +kernel
theorem dX11_readsWord_27 : decode cX11_readsWord 27 = .ok (.isub, 1) := by decide +kernel
theorem dX11_readsWord_28 : decode cX11_readsWord 28 = .ok (.bipush 8, 2) := by decide +kernel
theorem dX11_readsWord_30 : decode cX11_readsWord 30 = .ok (.if_icmp .ge 29, 3) := by decide +kernel
theorem dX11_readsWord_33 : decode cX11_readsWord 33 = .ok (.ldc2_w 242, 3) := by decide +kernel
theorem dX11_readsWord_36 : decode cX11_readsWord 36 = .ok (.aload_n 0, 1) := by decide +kernel
theorem dX11_readsWord_37 : decode cX11_readsWord 37 = .ok (.getfield 238, 3) := by decide +kernel
theorem dX11_readsWord_40 : decode cX11_readsWord 40 = .ok (.lmul, 1) := by decide +kernel
theorem dX11_readsWord_41 : decode cX11_readsWord 41 = .ok (.aload_n 0, 1) := by decide +kernel
theorem dX11_readsWord_42 : decode cX11_readsWord 42 = .ok (.getfield 19, 3) := by decide +kernel
theorem dX11_readsWord_45 : decode cX11_readsWord 45 = .ok (.aload_n 0, 1) := by decide +kernel
theorem dX11_readsWord_46 : decode cX11_readsWord 46 = .ok (.getfield 214, 3) := by decide +kernel
theorem dX11_readsWord_49 : decode cX11_readsWord 49 = .ok (.baload, 1) := by decide +kernel
theorem dX11_readsWord_50 : decode cX11_readsWord 50 = .ok (.i2l, 1) := by decide +kernel
theorem dX11_readsWord_51 : decode cX11_readsWord 51 = .ok (.ladd, 1) := by decide +kernel
theorem dX11_readsWord_52 : decode cX11_readsWord 52 = .ok (.ldc2_w 244, 3) := by decide +kernel
theorem dX11_readsWord_55 : decode cX11_readsWord 55 = .ok (.lsub, 1) := by decide +kernel
theorem dX11_readsWord_56 : decode cX11_readsWord 56 = .ok (.goto 4, 3) := by decide +kernel
theorem dX11_readsWord_59 : decode cX11_readsWord 59 = .ok (.lconst 0, 1) := by decide +kernel
theorem dX11_readsWord_60 : decode cX11_readsWord 60 = .ok (.putfield 238, 3) := by decide +kernel
theorem dX11_readsWord_63 : decode cX11_readsWord 63 = .ok (.aload_n 0, 1) := by decide +kernel
theorem dX11_readsWord_64 : decode cX11_readsWord 64 = .ok (.dup, 1) := by decide +kernel
theorem dX11_readsWord_65 : decode cX11_readsWord 65 = .ok (.getfield 214, 3) := by decide +kernel
theorem dX11_readsWord_68 : decode cX11_readsWord 68 = .ok (.iconst 1, 1) := by decide +kernel
theorem dX11_readsWord_69 : decode cX11_readsWord 69 = .ok (.iadd, 1) := by decide +kernel
theorem dX11_readsWord_70 : decode cX11_readsWord 70 = .ok (.putfield 214, 3) := by decide +kernel
theorem dX11_readsWord_73 : decode cX11_readsWord 73 = .ok (.goto (-63), 3) := by decide +kernel
theorem dX11_readsWord_76 : decode cX11_readsWord 76 = .ok (.aload_n 0, 1) := by decide +kernel
theorem dX11_readsWord_77 : decode cX11_readsWord 77 = .ok (.getfield 214, 3) := by decide +kernel
theorem dX11_readsWord_80 : decode cX11_readsWord 80 = .ok (.iload_n 1, 1) := by decide +kernel
theorem dX11_readsWord_81 : decode cX11_readsWord 81 = .ok (.if_icmp .le 29, 3) := by decide +kernel
theorem dX11_readsWord_84 : decode cX11_readsWord 84 = .ok (.aload_n 0, 1) := by decide +kernel
theorem dX11_readsWord_85 : decode cX11_readsWord 85 = .ok (.getfield 214, 3) := by decide +kernel
theorem dX11_readsWord_88 : decode cX11_readsWord 88 = .ok (.iload_n 1, 1) := by decide +kernel
theorem dX11_readsWord_89 : decode cX11_readsWord 89 = .ok (.isub, 1) := by decide +kernel
theorem dX11_readsWord_90 : decode cX11_readsWord 90 = .ok (.bipush 8, 2) := by decide +kernel
theorem dX11_readsWord_92 : decode cX11_readsWord 92 = .ok (.if_icmp .gt 18, 3) := by decide +kernel
theorem dX11_readsWord_95 : decode cX11_readsWord 95 = .ok (.aload_n 0, 1) := by decide +kernel
theorem dX11_readsWord_96 : decode cX11_readsWord 96 = .ok (.getfield 238, 3) := by decide +kernel
theorem dX11_readsWord_99 : decode cX11_readsWord 99 = .ok (.invokestatic 246, 3) := by decide +kernel
theorem dX11_readsWord_102 : decode cX11_readsWord 102 = .ok (.iconst (-1), 1) := by decide +kernel
theorem dX11_readsWord_103 : decode cX11_readsWord 103 = .ok (.if_icmp .eq 7, 3) := by decide +kernel
theorem dX11_readsWord_106 : decode cX11_readsWord 106 = .ok (.iconst 1, 1) := by decide +kernel
theorem dX11_readsWord_107 : decode cX11_readsWord 107 = .ok (.goto 4, 3) := by decide +kernel
theorem dX11_readsWord_110 : decode cX11_readsWord 110 = .ok (.iconst 0, 1) := by decide +kernel
theorem dX11_readsWord_111 : decode cX11_readsWord 111 = .ok (.istore_n 2, 1) := by decide +kernel
theorem dX11_readsWord_112 : decode cX11_readsWord 112 = .ok (.aload_n 0, 1) := by decide +kernel
theorem dX11_readsWord_113 : decode cX11_readsWord 113 = .ok (.iload_n 2, 1) := by decide +kernel
theorem dX11_readsWord_114 : decode cX11_readsWord 114 = .ok (.ifCond .eq 10, 3) := by decide +kernel
theorem dX11_readsWord_117 : decode cX11_readsWord 117 = .ok (.aload_n 0, 1) := by decide +kernel
theorem dX11_readsWord_118 : decode cX11_readsWord 118 = .ok (.getfield 214, 3) := by decide +kernel
theorem dX11_readsWord_121 : decode cX11_readsWord 121 = .ok (.goto 4, 3) := by decide +kernel
theorem dX11_readsWord_124 : decode cX11_readsWord 124 = .ok (.iload_n 1, 1) := by decide +kernel
theorem dX11_readsWord_125 : decode cX11_readsWord 125 = .ok (.putfield 214, 3) := by decide +kernel
theorem dX11_readsWord_128 : decode cX11_readsWord 128 = .ok (.iload_n 2, 1) := by decide +kernel
theorem dX11_readsWord_129 : decode cX11_readsWord 129 = .ok (.ireturn, 1) := by decide +kernel
theorem dX11_readsNumber_0 : decode cX11_readsNumber 0 = .ok (.aload_n 0, 1) := by decide +kernel
theorem dX11_readsNumber_1 : decode cX11_readsNumber 1 = .ok (.bipush 32, 2) := by decide +kernel
theorem dX11_readsNumber_3 : decode cX11_readsNumber 3 = .ok (.bipush 32, 2) := by decide +kernel
theorem dX11_readsNumber_5 : decode cX11_readsNumber 5 = .ok (.invokevirtual 217, 3) := by decide +kernel
theorem dX11_readsNumber_8 : decode cX11_readsNumber 8 = .ok (.ifCond .ne 5, 3) := by decide +kernel
theorem dX11_readsNumber_11 : decode cX11_readsNumber 11 = .ok (.iconst 0, 1) := by decide +kernel
theorem dX11_readsNumber_12 : decode cX11_readsNumber 12 = .ok (.ireturn, 1) := by decide +kernel
theorem dX11_readsNumber_13 : decode cX11_readsNumber 13 = .ok (.aload_n 0, 1) := by decide +kernel
theorem dX11_readsNumber_14 : decode cX11_readsNumber 14 = .ok (.invokevirtual 250, 3) := by decide +kernel
theorem dX11_readsNumber_17 : decode cX11_readsNumber 17 = .ok (.aload_n 0, 1) := by decide +kernel
theorem dX11_readsNumber_18 : decode cX11_readsNumber 18 = .ok (.getfield 214, 3) := by decide +kernel
theorem dX11_readsNumber_21 : decode cX11_readsNumber 21 = .ok (.istore_n 2, 1) := by decide +kernel
theorem dX11_readsNumber_22 : decode cX11_readsNumber 22 = .ok (.aload_n 0, 1) := by decide +kernel
theorem dX11_readsNumber_23 : decode cX11_readsNumber 23 = .ok (.getfield 23, 3) := by decide +kernel
theorem dX11_readsNumber_26 : decode cX11_readsNumber 26 = .ok (.iload_n 1, 1) := by decide +kernel
theorem dX11_readsNumber_27 : decode cX11_readsNumber 27 = .ok (.iconst 0, 1) := by decide +kernel
theorem dX11_readsNumber_28 : decode cX11_readsNumber 28 = .ok (.iastore, 1) := by decide +kernel
theorem dX11_readsNumber_29 : decode cX11_readsNumber 29 = .ok (.aload_n 0, 1) := by decide +kernel
theorem dX11_readsNumber_30 : decode cX11_readsNumber 30 = .ok (.getfield 214, 3) := by decide +kernel
theorem dX11_readsNumber_33 : decode cX11_readsNumber 33 = .ok (.iload_n 2, 1) := by decide +kernel
theorem dX11_readsNumber_34 : decode cX11_readsNumber 34 = .ok (.isub, 1) := by decide +kernel
theorem dX11_readsNumber_35 : decode cX11_readsNumber 35 = .ok (.iconst 5, 1) := by decide +kernel
theorem dX11_readsNumber_36 : decode cX11_readsNumber 36 = .ok (.if_icmp .ge 55, 3) := by decide +kernel
theorem dX11_readsNumber_39 : decode cX11_readsNumber 39 = .ok (.aload_n 0, 1) := by decide +kernel
theorem dX11_readsNumber_40 : decode cX11_readsNumber 40 = .ok (.bipush 48, 2) := by decide +kernel
theorem dX11_readsNumber_42 : decode cX11_readsNumber 42 = .ok (.bipush 57, 2) := by decide +kernel
theorem dX11_readsNumber_44 : decode cX11_readsNumber 44 = .ok (.invokevirtual 217, 3) := by decide +kernel
theorem dX11_readsNumber_47 : decode cX11_readsNumber 47 = .ok (.ifCond .eq 44, 3) := by decide +kernel
theorem dX11_readsNumber_50 : decode cX11_readsNumber 50 = .ok (.aload_n 0, 1) := by decide +kernel
theorem dX11_readsNumber_51 : decode cX11_readsNumber 51 = .ok (.getfield 23, 3) := by decide +kernel
theorem dX11_readsNumber_54 : decode cX11_readsNumber 54 = .ok (.iload_n 1, 1) := by decide +kernel
theorem dX11_readsNumber_55 : decode cX11_readsNumber 55 = .ok (.bipush 10, 2) := by decide +kernel
theorem dX11_readsNumber_57 : decode cX11_readsNumber 57 = .ok (.aload_n 0, 1) := by decide +kernel
theorem dX11_readsNumber_58 : decode cX11_readsNumber 58 = .ok (.getfield 23, 3) := by decide +kernel
theorem dX11_readsNumber_61 : decode cX11_readsNumber 61 = .ok (.iload_n 1, 1) := by decide +kernel
theorem dX11_readsNumber_62 : decode cX11_readsNumber 62 = .ok (.iaload, 1) := by decide +kernel
theorem dX11_readsNumber_63 : decode cX11_readsNumber 63 = .ok (.imul, 1) := by decide +kernel
theorem dX11_readsNumber_64 : decode cX11_readsNumber 64 = .ok (.aload_n 0, 1) := by decide +kernel
theorem dX11_readsNumber_65 : decode cX11_readsNumber 65 = .ok (.getfield 19, 3) := by decide +kernel
theorem dX11_readsNumber_68 : decode cX11_readsNumber 68 = .ok (.aload_n 0, 1) := by decide +kernel
theorem dX11_readsNumber_69 : decode cX11_readsNumber 69 = .ok (.getfield 214, 3) := by decide +kernel
theorem dX11_readsNumber_72 : decode cX11_readsNumber 72 = .ok (.baload, 1) := by decide +kernel
theorem dX11_readsNumber_73 : decode cX11_readsNumber 73 = .ok (.iadd, 1) := by decide +kernel
theorem dX11_readsNumber_74 : decode cX11_readsNumber 74 = .ok (.bipush 48, 2) := by decide +kernel
theorem dX11_readsNumber_76 : decode cX11_readsNumber 76 = .ok (.isub, 1) := by decide +kernel
theorem dX11_readsNumber_77 : decode cX11_readsNumber 77 = .ok (.iastore, 1) := by decide +kernel
theorem dX11_readsNumber_78 : decode cX11_readsNumber 78 = .ok (.aload_n 0, 1) := by decide +kernel
theorem dX11_readsNumber_79 : decode cX11_readsNumber 79 = .ok (.dup, 1) := by decide +kernel
theorem dX11_readsNumber_80 : decode cX11_readsNumber 80 = .ok (.getfield 214, 3) := by decide +kernel
theorem dX11_readsNumber_83 : decode cX11_readsNumber 83 = .ok (.iconst 1, 1) := by decide +kernel
theorem dX11_readsNumber_84 : decode cX11_readsNumber 84 = .ok (.iadd, 1) := by decide +kernel
theorem dX11_readsNumber_85 : decode cX11_readsNumber 85 = .ok (.putfield 214, 3) := by decide +kernel
theorem dX11_readsNumber_88 : decode cX11_readsNumber 88 = .ok (.goto (-59), 3) := by decide +kernel
theorem dX11_readsNumber_91 : decode cX11_readsNumber 91 = .ok (.aload_n 0, 1) := by decide +kernel
theorem dX11_readsNumber_92 : decode cX11_readsNumber 92 = .ok (.getfield 214, 3) := by decide +kernel
theorem dX11_readsNumber_95 : decode cX11_readsNumber 95 = .ok (.iload_n 2, 1) := by decide +kernel
theorem dX11_readsNumber_96 : decode cX11_readsNumber 96 = .ok (.if_icmp .le 7, 3) := by decide +kernel
theorem dX11_readsNumber_99 : decode cX11_readsNumber 99 = .ok (.iconst 1, 1) := by decide +kernel
theorem dX11_readsNumber_100 : decode cX11_readsNumber 100 = .ok (.goto 4, 3) := by decide +kernel
theorem dX11_readsNumber_103 : decode cX11_readsNumber 103 = .ok (.iconst 0, 1) := by decide +kernel
theorem dX11_readsNumber_104 : decode cX11_readsNumber 104 = .ok (.ireturn, 1) := by decide +kernel
theorem dX11_readsCommand_0 : decode cX11_readsCommand 0 = .ok (.aload_n 0, 1) := by decide +kernel
theorem dX11_readsCommand_1 : decode cX11_readsCommand 1 = .ok (.invokevirtual 253, 3) := by decide +kernel
theorem dX11_readsCommand_4 : decode cX11_readsCommand 4 = .ok (.ifCond .ne 5, 3) := by decide +kernel
theorem dX11_readsCommand_7 : decode cX11_readsCommand 7 = .ok (.iconst 0, 1) := by decide +kernel
theorem dX11_readsCommand_8 : decode cX11_readsCommand 8 = .ok (.ireturn, 1) := by decide +kernel
theorem dX11_readsCommand_9 : decode cX11_readsCommand 9 = .ok (.aload_n 0, 1) := by decide +kernel
theorem dX11_readsCommand_10 : decode cX11_readsCommand 10 = .ok (.getfield 238, 3) := by decide +kernel
theorem dX11_readsCommand_13 : decode cX11_readsCommand 13 = .ok (.invokestatic 246, 3) := by decide +kernel
theorem dX11_readsCommand_16 : decode cX11_readsCommand 16 = .ok (.istore_n 1, 1) := by decide +kernel
theorem dX11_readsCommand_17 : decode cX11_readsCommand 17 = .ok (.iconst 0, 1) := by decide +kernel
theorem dX11_readsCommand_18 : decode cX11_readsCommand 18 = .ok (.istore_n 2, 1) := by decide +kernel
theorem dX11_readsCommand_19 : decode cX11_readsCommand 19 = .ok (.iload_n 2, 1) := by decide +kernel
theorem dX11_readsCommand_20 : decode cX11_readsCommand 20 = .ok (.iload_n 1, 1) := by decide +kernel
theorem dX11_readsCommand_21 : decode cX11_readsCommand 21 = .ok (.if_icmp .ge 19, 3) := by decide +kernel
theorem dX11_readsCommand_24 : decode cX11_readsCommand 24 = .ok (.aload_n 0, 1) := by decide +kernel
theorem dX11_readsCommand_25 : decode cX11_readsCommand 25 = .ok (.iload_n 2, 1) := by decide +kernel
theorem dX11_readsCommand_26 : decode cX11_readsCommand 26 = .ok (.invokevirtual 256, 3) := by decide +kernel
theorem dX11_readsCommand_29 : decode cX11_readsCommand 29 = .ok (.ifCond .ne 5, 3) := by decide +kernel
theorem dX11_readsCommand_32 : decode cX11_readsCommand 32 = .ok (.iconst 0, 1) := by decide +kernel
theorem dX11_readsCommand_33 : decode cX11_readsCommand 33 = .ok (.ireturn, 1) := by decide +kernel
theorem dX11_readsCommand_34 : decode cX11_readsCommand 34 = .ok (.iinc 2 1, 3) := by decide +kernel
theorem dX11_readsCommand_37 : decode cX11_readsCommand 37 = .ok (.goto (-18), 3) := by decide +kernel
theorem dX11_readsCommand_40 : decode cX11_readsCommand 40 = .ok (.aload_n 0, 1) := by decide +kernel
theorem dX11_readsCommand_41 : decode cX11_readsCommand 41 = .ok (.invokevirtual 250, 3) := by decide +kernel
theorem dX11_readsCommand_44 : decode cX11_readsCommand 44 = .ok (.aload_n 0, 1) := by decide +kernel
theorem dX11_readsCommand_45 : decode cX11_readsCommand 45 = .ok (.bipush 59, 2) := by decide +kernel
theorem dX11_readsCommand_47 : decode cX11_readsCommand 47 = .ok (.bipush 59, 2) := by decide +kernel
theorem dX11_readsCommand_49 : decode cX11_readsCommand 49 = .ok (.invokevirtual 217, 3) := by decide +kernel
theorem dX11_readsCommand_52 : decode cX11_readsCommand 52 = .ok (.istore_n 2, 1) := by decide +kernel
theorem dX11_readsCommand_53 : decode cX11_readsCommand 53 = .ok (.aload_n 0, 1) := by decide +kernel
theorem dX11_readsCommand_54 : decode cX11_readsCommand 54 = .ok (.dup, 1) := by decide +kernel
theorem dX11_readsCommand_55 : decode cX11_readsCommand 55 = .ok (.getfield 214, 3) := by decide +kernel
theorem dX11_readsCommand_58 : decode cX11_readsCommand 58 = .ok (.iload_n 2, 1) := by decide +kernel
theorem dX11_readsCommand_59 : decode cX11_readsCommand 59 = .ok (.ifCond .eq 7, 3) := by decide +kernel
theorem dX11_readsCommand_62 : decode cX11_readsCommand 62 = .ok (.iconst 1, 1) := by decide +kernel
theorem dX11_readsCommand_63 : decode cX11_readsCommand 63 = .ok (.goto 4, 3) := by decide +kernel
theorem dX11_readsCommand_66 : decode cX11_readsCommand 66 = .ok (.iconst 0, 1) := by decide +kernel
theorem dX11_readsCommand_67 : decode cX11_readsCommand 67 = .ok (.iadd, 1) := by decide +kernel
theorem dX11_readsCommand_68 : decode cX11_readsCommand 68 = .ok (.putfield 214, 3) := by decide +kernel
theorem dX11_readsCommand_71 : decode cX11_readsCommand 71 = .ok (.aload_n 0, 1) := by decide +kernel
theorem dX11_readsCommand_72 : decode cX11_readsCommand 72 = .ok (.invokevirtual 250, 3) := by decide +kernel
theorem dX11_readsCommand_75 : decode cX11_readsCommand 75 = .ok (.iload_n 2, 1) := by decide +kernel
theorem dX11_readsCommand_76 : decode cX11_readsCommand 76 = .ok (.ireturn, 1) := by decide +kernel
theorem dX11_does_0 : decode cX11_does 0 = .ok (.aload_n 0, 1) := by decide +kernel
theorem dX11_does_1 : decode cX11_does 1 = .ok (.getfield 23, 3) := by decide +kernel
theorem dX11_does_4 : decode cX11_does 4 = .ok (.iconst 0, 1) := by decide +kernel
theorem dX11_does_5 : decode cX11_does 5 = .ok (.iaload, 1) := by decide +kernel
theorem dX11_does_6 : decode cX11_does 6 = .ok (.istore_n 1, 1) := by decide +kernel
theorem dX11_does_7 : decode cX11_does 7 = .ok (.aload_n 0, 1) := by decide +kernel
theorem dX11_does_8 : decode cX11_does 8 = .ok (.getfield 23, 3) := by decide +kernel
theorem dX11_does_11 : decode cX11_does 11 = .ok (.iconst 1, 1) := by decide +kernel
theorem dX11_does_12 : decode cX11_does 12 = .ok (.iaload, 1) := by decide +kernel
theorem dX11_does_13 : decode cX11_does 13 = .ok (.istore_n 2, 1) := by decide +kernel
theorem dX11_does_14 : decode cX11_does 14 = .ok (.aload_n 0, 1) := by decide +kernel
theorem dX11_does_15 : decode cX11_does 15 = .ok (.getfield 238, 3) := by decide +kernel
theorem dX11_does_18 : decode cX11_does 18 = .ok (.ldc2_w 220, 3) := by decide +kernel
theorem dX11_does_21 : decode cX11_does 21 = .ok (.lcmp, 1) := by decide +kernel
theorem dX11_does_22 : decode cX11_does 22 = .ok (.ifCond .ne 19, 3) := by decide +kernel
theorem dX11_does_25 : decode cX11_does 25 = .ok (.aload_n 0, 1) := by decide +kernel
theorem dX11_does_26 : decode cX11_does 26 = .ok (.iload_n 1, 1) := by decide +kernel
theorem dX11_does_27 : decode cX11_does 27 = .ok (.invokevirtual 127, 3) := by decide +kernel
theorem dX11_does_30 : decode cX11_does 30 = .ok (.ifCond .eq 11, 3) := by decide +kernel
theorem dX11_does_33 : decode cX11_does 33 = .ok (.aload_n 0, 1) := by decide +kernel
theorem dX11_does_34 : decode cX11_does 34 = .ok (.iload_n 1, 1) := by decide +kernel
theorem dX11_does_35 : decode cX11_does 35 = .ok (.invokevirtual 26, 3) := by decide +kernel
theorem dX11_does_38 : decode cX11_does 38 = .ok (.goto 279, 3) := by decide +kernel
theorem dX11_does_41 : decode cX11_does 41 = .ok (.aload_n 0, 1) := by decide +kernel
theorem dX11_does_42 : decode cX11_does 42 = .ok (.getfield 238, 3) := by decide +kernel
theorem dX11_does_45 : decode cX11_does 45 = .ok (.ldc2_w 222, 3) := by decide +kernel
theorem dX11_does_48 : decode cX11_does 48 = .ok (.lcmp, 1) := by decide +kernel
theorem dX11_does_49 : decode cX11_does 49 = .ok (.ifCond .ne 21, 3) := by decide +kernel
theorem dX11_does_52 : decode cX11_does 52 = .ok (.aload_n 0, 1) := by decide +kernel
theorem dX11_does_53 : decode cX11_does 53 = .ok (.iload_n 1, 1) := by decide +kernel
theorem dX11_does_54 : decode cX11_does 54 = .ok (.invokevirtual 133, 3) := by decide +kernel
theorem dX11_does_57 : decode cX11_does 57 = .ok (.ifCond .eq 13, 3) := by decide +kernel
theorem dX11_does_60 : decode cX11_does 60 = .ok (.aload_n 0, 1) := by decide +kernel
theorem dX11_does_61 : decode cX11_does 61 = .ok (.getfield 7, 3) := by decide +kernel
theorem dX11_does_64 : decode cX11_does 64 = .ok (.iconst 1, 1) := by decide +kernel
theorem dX11_does_65 : decode cX11_does 65 = .ok (.iload_n 1, 1) := by decide +kernel
theorem dX11_does_66 : decode cX11_does 66 = .ok (.iastore, 1) := by decide +kernel
theorem dX11_does_67 : decode cX11_does 67 = .ok (.goto 250, 3) := by decide +kernel
theorem dX11_does_70 : decode cX11_does 70 = .ok (.aload_n 0, 1) := by decide +kernel
theorem dX11_does_71 : decode cX11_does 71 = .ok (.getfield 238, 3) := by decide +kernel
theorem dX11_does_74 : decode cX11_does 74 = .ok (.ldc2_w 224, 3) := by decide +kernel
theorem dX11_does_77 : decode cX11_does 77 = .ok (.lcmp, 1) := by decide +kernel
theorem dX11_does_78 : decode cX11_does 78 = .ok (.ifCond .ne 21, 3) := by decide +kernel
theorem dX11_does_81 : decode cX11_does 81 = .ok (.aload_n 0, 1) := by decide +kernel
theorem dX11_does_82 : decode cX11_does 82 = .ok (.iload_n 1, 1) := by decide +kernel
theorem dX11_does_83 : decode cX11_does 83 = .ok (.invokevirtual 139, 3) := by decide +kernel
theorem dX11_does_86 : decode cX11_does 86 = .ok (.ifCond .eq 13, 3) := by decide +kernel
theorem dX11_does_89 : decode cX11_does 89 = .ok (.aload_n 0, 1) := by decide +kernel
theorem dX11_does_90 : decode cX11_does 90 = .ok (.getfield 7, 3) := by decide +kernel
theorem dX11_does_93 : decode cX11_does 93 = .ok (.iconst 2, 1) := by decide +kernel
theorem dX11_does_94 : decode cX11_does 94 = .ok (.iload_n 1, 1) := by decide +kernel
theorem dX11_does_95 : decode cX11_does 95 = .ok (.iastore, 1) := by decide +kernel
theorem dX11_does_96 : decode cX11_does 96 = .ok (.goto 221, 3) := by decide +kernel
theorem dX11_does_99 : decode cX11_does 99 = .ok (.aload_n 0, 1) := by decide +kernel
theorem dX11_does_100 : decode cX11_does 100 = .ok (.getfield 238, 3) := by decide +kernel
theorem dX11_does_103 : decode cX11_does 103 = .ok (.ldc2_w 226, 3) := by decide +kernel
theorem dX11_does_106 : decode cX11_does 106 = .ok (.lcmp, 1) := by decide +kernel
theorem dX11_does_107 : decode cX11_does 107 = .ok (.ifCond .ne 21, 3) := by decide +kernel
theorem dX11_does_110 : decode cX11_does 110 = .ok (.aload_n 0, 1) := by decide +kernel
theorem dX11_does_111 : decode cX11_does 111 = .ok (.iload_n 1, 1) := by decide +kernel
theorem dX11_does_112 : decode cX11_does 112 = .ok (.invokevirtual 142, 3) := by decide +kernel
theorem dX11_does_115 : decode cX11_does 115 = .ok (.ifCond .eq 13, 3) := by decide +kernel
theorem dX11_does_118 : decode cX11_does 118 = .ok (.aload_n 0, 1) := by decide +kernel
theorem dX11_does_119 : decode cX11_does 119 = .ok (.getfield 7, 3) := by decide +kernel
theorem dX11_does_122 : decode cX11_does 122 = .ok (.iconst 3, 1) := by decide +kernel
theorem dX11_does_123 : decode cX11_does 123 = .ok (.iload_n 1, 1) := by decide +kernel
theorem dX11_does_124 : decode cX11_does 124 = .ok (.iastore, 1) := by decide +kernel
theorem dX11_does_125 : decode cX11_does 125 = .ok (.goto 192, 3) := by decide +kernel
theorem dX11_does_128 : decode cX11_does 128 = .ok (.aload_n 0, 1) := by decide +kernel
theorem dX11_does_129 : decode cX11_does 129 = .ok (.getfield 238, 3) := by decide +kernel
theorem dX11_does_132 : decode cX11_does 132 = .ok (.ldc2_w 232, 3) := by decide +kernel
theorem dX11_does_135 : decode cX11_does 135 = .ok (.lcmp, 1) := by decide +kernel
theorem dX11_does_136 : decode cX11_does 136 = .ok (.ifCond .ne 32, 3) := by decide +kernel
theorem dX11_does_139 : decode cX11_does 139 = .ok (.aload_n 0, 1) := by decide +kernel
theorem dX11_does_140 : decode cX11_does 140 = .ok (.iload_n 1, 1) := by decide +kernel
theorem dX11_does_141 : decode cX11_does 141 = .ok (.iload_n 2, 1) := by decide +kernel
theorem dX11_does_142 : decode cX11_does 142 = .ok (.invokevirtual 145, 3) := by decide +kernel
theorem dX11_does_145 : decode cX11_does 145 = .ok (.ifCond .eq 23, 3) := by decide +kernel
theorem dX11_does_148 : decode cX11_does 148 = .ok (.aload_n 0, 1) := by decide +kernel
theorem dX11_does_149 : decode cX11_does 149 = .ok (.getfield 7, 3) := by decide +kernel
theorem dX11_does_152 : decode cX11_does 152 = .ok (.iconst 4, 1) := by decide +kernel
theorem dX11_does_153 : decode cX11_does 153 = .ok (.iaload, 1) := by decide +kernel
theorem dX11_does_154 : decode cX11_does 154 = .ok (.bipush 6, 2) := by decide +kernel
theorem dX11_does_156 : decode cX11_does 156 = .ok (.if_icmp .ge 12, 3) := by decide +kernel
theorem dX11_does_159 : decode cX11_does 159 = .ok (.aload_n 0, 1) := by decide +kernel
theorem dX11_does_160 : decode cX11_does 160 = .ok (.iload_n 1, 1) := by decide +kernel
theorem dX11_does_161 : decode cX11_does 161 = .ok (.iload_n 2, 1) := by decide +kernel
theorem dX11_does_162 : decode cX11_does 162 = .ok (.invokevirtual 148, 3) := by decide +kernel
theorem dX11_does_165 : decode cX11_does 165 = .ok (.goto 152, 3) := by decide +kernel
theorem dX11_does_168 : decode cX11_does 168 = .ok (.aload_n 0, 1) := by decide +kernel
theorem dX11_does_169 : decode cX11_does 169 = .ok (.getfield 238, 3) := by decide +kernel
theorem dX11_does_172 : decode cX11_does 172 = .ok (.ldc2_w 236, 3) := by decide +kernel
theorem dX11_does_175 : decode cX11_does 175 = .ok (.lcmp, 1) := by decide +kernel
theorem dX11_does_176 : decode cX11_does 176 = .ok (.ifCond .ne 57, 3) := by decide +kernel
theorem dX11_does_179 : decode cX11_does 179 = .ok (.aload_n 0, 1) := by decide +kernel
theorem dX11_does_180 : decode cX11_does 180 = .ok (.iload_n 1, 1) := by decide +kernel
theorem dX11_does_181 : decode cX11_does 181 = .ok (.iload_n 2, 1) := by decide +kernel
theorem dX11_does_182 : decode cX11_does 182 = .ok (.aload_n 0, 1) := by decide +kernel
theorem dX11_does_183 : decode cX11_does 183 = .ok (.getfield 23, 3) := by decide +kernel
theorem dX11_does_186 : decode cX11_does 186 = .ok (.iconst 2, 1) := by decide +kernel
theorem dX11_does_187 : decode cX11_does 187 = .ok (.iaload, 1) := by decide +kernel
theorem dX11_does_188 : decode cX11_does 188 = .ok (.aload_n 0, 1) := by decide +kernel
theorem dX11_does_189 : decode cX11_does 189 = .ok (.getfield 23, 3) := by decide +kernel
theorem dX11_does_192 : decode cX11_does 192 = .ok (.iconst 3, 1) := by decide +kernel
theorem dX11_does_193 : decode cX11_does 193 = .ok (.iaload, 1) := by decide +kernel
theorem dX11_does_194 : decode cX11_does 194 = .ok (.aload_n 0, 1) := by decide +kernel
theorem dX11_does_195 : decode cX11_does 195 = .ok (.getfield 23, 3) := by decide +kernel
theorem dX11_does_198 : decode cX11_does 198 = .ok (.iconst 4, 1) := by decide +kernel
theorem dX11_does_199 : decode cX11_does 199 = .ok (.iaload, 1) := by decide +kernel
theorem dX11_does_200 : decode cX11_does 200 = .ok (.invokevirtual 155, 3) := by decide +kernel
theorem dX11_does_203 : decode cX11_does 203 = .ok (.ifCond .eq 30, 3) := by decide +kernel
theorem dX11_does_206 : decode cX11_does 206 = .ok (.aload_n 0, 1) := by decide +kernel
theorem dX11_does_207 : decode cX11_does 207 = .ok (.iload_n 1, 1) := by decide +kernel
theorem dX11_does_208 : decode cX11_does 208 = .ok (.iload_n 2, 1) := by decide +kernel
theorem dX11_does_209 : decode cX11_does 209 = .ok (.aload_n 0, 1) := by decide +kernel
theorem dX11_does_210 : decode cX11_does 210 = .ok (.getfield 23, 3) := by decide +kernel
theorem dX11_does_213 : decode cX11_does 213 = .ok (.iconst 2, 1) := by decide +kernel
theorem dX11_does_214 : decode cX11_does 214 = .ok (.iaload, 1) := by decide +kernel
theorem dX11_does_215 : decode cX11_does 215 = .ok (.aload_n 0, 1) := by decide +kernel
theorem dX11_does_216 : decode cX11_does 216 = .ok (.getfield 23, 3) := by decide +kernel
theorem dX11_does_219 : decode cX11_does 219 = .ok (.iconst 3, 1) := by decide +kernel
theorem dX11_does_220 : decode cX11_does 220 = .ok (.iaload, 1) := by decide +kernel
theorem dX11_does_221 : decode cX11_does 221 = .ok (.aload_n 0, 1) := by decide +kernel
theorem dX11_does_222 : decode cX11_does 222 = .ok (.getfield 23, 3) := by decide +kernel
theorem dX11_does_225 : decode cX11_does 225 = .ok (.iconst 4, 1) := by decide +kernel
theorem dX11_does_226 : decode cX11_does 226 = .ok (.iaload, 1) := by decide +kernel
theorem dX11_does_227 : decode cX11_does 227 = .ok (.invokevirtual 159, 3) := by decide +kernel
theorem dX11_does_230 : decode cX11_does 230 = .ok (.goto 87, 3) := by decide +kernel
theorem dX11_does_233 : decode cX11_does 233 = .ok (.aload_n 0, 1) := by decide +kernel
theorem dX11_does_234 : decode cX11_does 234 = .ok (.getfield 238, 3) := by decide +kernel
theorem dX11_does_237 : decode cX11_does 237 = .ok (.ldc2_w 234, 3) := by decide +kernel
theorem dX11_does_240 : decode cX11_does 240 = .ok (.lcmp, 1) := by decide +kernel
theorem dX11_does_241 : decode cX11_does 241 = .ok (.ifCond .ne 21, 3) := by decide +kernel
theorem dX11_does_244 : decode cX11_does 244 = .ok (.aload_n 0, 1) := by decide +kernel
theorem dX11_does_245 : decode cX11_does 245 = .ok (.iload_n 1, 1) := by decide +kernel
theorem dX11_does_246 : decode cX11_does 246 = .ok (.iload_n 2, 1) := by decide +kernel
theorem dX11_does_247 : decode cX11_does 247 = .ok (.invokevirtual 169, 3) := by decide +kernel
theorem dX11_does_250 : decode cX11_does 250 = .ok (.ifCond .eq 12, 3) := by decide +kernel
theorem dX11_does_253 : decode cX11_does 253 = .ok (.aload_n 0, 1) := by decide +kernel
theorem dX11_does_254 : decode cX11_does 254 = .ok (.iload_n 1, 1) := by decide +kernel
theorem dX11_does_255 : decode cX11_does 255 = .ok (.iload_n 2, 1) := by decide +kernel
theorem dX11_does_256 : decode cX11_does 256 = .ok (.invokevirtual 172, 3) := by decide +kernel
theorem dX11_does_259 : decode cX11_does 259 = .ok (.goto 58, 3) := by decide +kernel
theorem dX11_does_262 : decode cX11_does 262 = .ok (.aload_n 0, 1) := by decide +kernel
theorem dX11_does_263 : decode cX11_does 263 = .ok (.getfield 238, 3) := by decide +kernel
theorem dX11_does_266 : decode cX11_does 266 = .ok (.ldc2_w 228, 3) := by decide +kernel
theorem dX11_does_269 : decode cX11_does 269 = .ok (.lcmp, 1) := by decide +kernel
theorem dX11_does_270 : decode cX11_does 270 = .ok (.ifCond .ne 18, 3) := by decide +kernel
theorem dX11_does_273 : decode cX11_does 273 = .ok (.iload_n 1, 1) := by decide +kernel
theorem dX11_does_274 : decode cX11_does 274 = .ok (.invokestatic 175, 3) := by decide +kernel
theorem dX11_does_277 : decode cX11_does 277 = .ok (.ifCond .eq 11, 3) := by decide +kernel
theorem dX11_does_280 : decode cX11_does 280 = .ok (.aload_n 0, 1) := by decide +kernel
theorem dX11_does_281 : decode cX11_does 281 = .ok (.iload_n 1, 1) := by decide +kernel
theorem dX11_does_282 : decode cX11_does 282 = .ok (.invokevirtual 178, 3) := by decide +kernel
theorem dX11_does_285 : decode cX11_does 285 = .ok (.goto 32, 3) := by decide +kernel
theorem dX11_does_288 : decode cX11_does 288 = .ok (.aload_n 0, 1) := by decide +kernel
theorem dX11_does_289 : decode cX11_does 289 = .ok (.getfield 238, 3) := by decide +kernel
theorem dX11_does_292 : decode cX11_does 292 = .ok (.ldc2_w 230, 3) := by decide +kernel
theorem dX11_does_295 : decode cX11_does 295 = .ok (.lcmp, 1) := by decide +kernel
theorem dX11_does_296 : decode cX11_does 296 = .ok (.ifCond .ne 19, 3) := by decide +kernel
theorem dX11_does_299 : decode cX11_does 299 = .ok (.iload_n 1, 1) := by decide +kernel
theorem dX11_does_300 : decode cX11_does 300 = .ok (.invokestatic 188, 3) := by decide +kernel
theorem dX11_does_303 : decode cX11_does 303 = .ok (.ifCond .eq 12, 3) := by decide +kernel
theorem dX11_does_306 : decode cX11_does 306 = .ok (.aload_n 0, 1) := by decide +kernel
theorem dX11_does_307 : decode cX11_does 307 = .ok (.iload_n 1, 1) := by decide +kernel
theorem dX11_does_308 : decode cX11_does 308 = .ok (.invokevirtual 191, 3) := by decide +kernel
theorem dX11_does_311 : decode cX11_does 311 = .ok (.pop, 1) := by decide +kernel
theorem dX11_does_312 : decode cX11_does 312 = .ok (.goto 5, 3) := by decide +kernel
theorem dX11_does_315 : decode cX11_does 315 = .ok (.iconst 0, 1) := by decide +kernel
theorem dX11_does_316 : decode cX11_does 316 = .ok (.ireturn, 1) := by decide +kernel
theorem dX11_does_317 : decode cX11_does 317 = .ok (.iconst 1, 1) := by decide +kernel
theorem dX11_does_318 : decode cX11_does 318 = .ok (.ireturn, 1) := by decide +kernel
theorem dX11_runCommands_0 : decode cX11_runCommands 0 = .ok (.aload_n 0, 1) := by decide +kernel
theorem dX11_runCommands_1 : decode cX11_runCommands 1 = .ok (.iconst 0, 1) := by decide +kernel
theorem dX11_runCommands_2 : decode cX11_runCommands 2 = .ok (.putfield 30, 3) := by decide +kernel
theorem dX11_runCommands_5 : decode cX11_runCommands 5 = .ok (.aload_n 0, 1) := by decide +kernel
theorem dX11_runCommands_6 : decode cX11_runCommands 6 = .ok (.iconst 0, 1) := by decide +kernel
theorem dX11_runCommands_7 : decode cX11_runCommands 7 = .ok (.putfield 214, 3) := by decide +kernel
theorem dX11_runCommands_10 : decode cX11_runCommands 10 = .ok (.aload_n 0, 1) := by decide +kernel
theorem dX11_runCommands_11 : decode cX11_runCommands 11 = .ok (.invokevirtual 250, 3) := by decide +kernel
theorem dX11_runCommands_14 : decode cX11_runCommands 14 = .ok (.iconst 1, 1) := by decide +kernel
theorem dX11_runCommands_15 : decode cX11_runCommands 15 = .ok (.istore_n 1, 1) := by decide +kernel
theorem dX11_runCommands_16 : decode cX11_runCommands 16 = .ok (.iload_n 1, 1) := by decide +kernel
theorem dX11_runCommands_17 : decode cX11_runCommands 17 = .ok (.ifCond .eq 22, 3) := by decide +kernel
theorem dX11_runCommands_20 : decode cX11_runCommands 20 = .ok (.aload_n 0, 1) := by decide +kernel
theorem dX11_runCommands_21 : decode cX11_runCommands 21 = .ok (.getfield 214, 3) := by decide +kernel
theorem dX11_runCommands_24 : decode cX11_runCommands 24 = .ok (.aload_n 0, 1) := by decide +kernel
theorem dX11_runCommands_25 : decode cX11_runCommands 25 = .ok (.getfield 211, 3) := by decide +kernel
theorem dX11_runCommands_28 : decode cX11_runCommands 28 = .ok (.if_icmp .ge 11, 3) := by decide +kernel
theorem dX11_runCommands_31 : decode cX11_runCommands 31 = .ok (.aload_n 0, 1) := by decide +kernel
theorem dX11_runCommands_32 : decode cX11_runCommands 32 = .ok (.invokevirtual 259, 3) := by decide +kernel
theorem dX11_runCommands_35 : decode cX11_runCommands 35 = .ok (.istore_n 1, 1) := by decide +kernel
theorem dX11_runCommands_36 : decode cX11_runCommands 36 = .ok (.goto (-20), 3) := by decide +kernel
theorem dX11_runCommands_39 : decode cX11_runCommands 39 = .ok (.iload_n 1, 1) := by decide +kernel
theorem dX11_runCommands_40 : decode cX11_runCommands 40 = .ok (.ifCond .ne 11, 3) := by decide +kernel
theorem dX11_runCommands_43 : decode cX11_runCommands 43 = .ok (.bipush (-10), 2) := by decide +kernel
theorem dX11_runCommands_45 : decode cX11_runCommands 45 = .ok (.aload_n 0, 1) := by decide +kernel
theorem dX11_runCommands_46 : decode cX11_runCommands 46 = .ok (.getfield 214, 3) := by decide +kernel
theorem dX11_runCommands_49 : decode cX11_runCommands 49 = .ok (.isub, 1) := by decide +kernel
theorem dX11_runCommands_50 : decode cX11_runCommands 50 = .ok (.ireturn, 1) := by decide +kernel
theorem dX11_runCommands_51 : decode cX11_runCommands 51 = .ok (.aload_n 0, 1) := by decide +kernel
theorem dX11_runCommands_52 : decode cX11_runCommands 52 = .ok (.invokevirtual 130, 3) := by decide +kernel
theorem dX11_runCommands_55 : decode cX11_runCommands 55 = .ok (.aload_n 0, 1) := by decide +kernel
theorem dX11_runCommands_56 : decode cX11_runCommands 56 = .ok (.iconst 0, 1) := by decide +kernel
theorem dX11_runCommands_57 : decode cX11_runCommands 57 = .ok (.putfield 214, 3) := by decide +kernel
theorem dX11_runCommands_60 : decode cX11_runCommands 60 = .ok (.aload_n 0, 1) := by decide +kernel
theorem dX11_runCommands_61 : decode cX11_runCommands 61 = .ok (.invokevirtual 250, 3) := by decide +kernel
theorem dX11_runCommands_64 : decode cX11_runCommands 64 = .ok (.iconst 0, 1) := by decide +kernel
theorem dX11_runCommands_65 : decode cX11_runCommands 65 = .ok (.istore_n 2, 1) := by decide +kernel
theorem dX11_runCommands_66 : decode cX11_runCommands 66 = .ok (.aload_n 0, 1) := by decide +kernel
theorem dX11_runCommands_67 : decode cX11_runCommands 67 = .ok (.getfield 214, 3) := by decide +kernel
theorem dX11_runCommands_70 : decode cX11_runCommands 70 = .ok (.aload_n 0, 1) := by decide +kernel
theorem dX11_runCommands_71 : decode cX11_runCommands 71 = .ok (.getfield 211, 3) := by decide +kernel
theorem dX11_runCommands_74 : decode cX11_runCommands 74 = .ok (.if_icmp .ge 23, 3) := by decide +kernel
theorem dX11_runCommands_77 : decode cX11_runCommands 77 = .ok (.aload_n 0, 1) := by decide +kernel
theorem dX11_runCommands_78 : decode cX11_runCommands 78 = .ok (.invokevirtual 259, 3) := by decide +kernel
theorem dX11_runCommands_81 : decode cX11_runCommands 81 = .ok (.ifCond .eq 16, 3) := by decide +kernel
theorem dX11_runCommands_84 : decode cX11_runCommands 84 = .ok (.aload_n 0, 1) := by decide +kernel
theorem dX11_runCommands_85 : decode cX11_runCommands 85 = .ok (.invokevirtual 262, 3) := by decide +kernel
theorem dX11_runCommands_88 : decode cX11_runCommands 88 = .ok (.ifCond .eq 9, 3) := by decide +kernel
theorem dX11_runCommands_91 : decode cX11_runCommands 91 = .ok (.iinc 2 1, 3) := by decide +kernel
theorem dX11_runCommands_94 : decode cX11_runCommands 94 = .ok (.goto (-28), 3) := by decide +kernel
theorem dX11_runCommands_97 : decode cX11_runCommands 97 = .ok (.iload_n 2, 1) := by decide +kernel
theorem dX11_runCommands_98 : decode cX11_runCommands 98 = .ok (.ireturn, 1) := by decide +kernel
theorem dX11_mixes_0 : decode cX11_mixes 0 = .ok (.aload_n 0, 1) := by decide +kernel
theorem dX11_mixes_1 : decode cX11_mixes 1 = .ok (.ldc2_w 265, 3) := by decide +kernel
theorem dX11_mixes_4 : decode cX11_mixes 4 = .ok (.aload_n 0, 1) := by decide +kernel
theorem dX11_mixes_5 : decode cX11_mixes 5 = .ok (.getfield 267, 3) := by decide +kernel
theorem dX11_mixes_8 : decode cX11_mixes 8 = .ok (.lmul, 1) := by decide +kernel
theorem dX11_mixes_9 : decode cX11_mixes 9 = .ok (.iload_n 1, 1) := by decide +kernel
theorem dX11_mixes_10 : decode cX11_mixes 10 = .ok (.i2l, 1) := by decide +kernel
theorem dX11_mixes_11 : decode cX11_mixes 11 = .ok (.ladd, 1) := by decide +kernel
theorem dX11_mixes_12 : decode cX11_mixes 12 = .ok (.putfield 267, 3) := by decide +kernel
theorem dX11_mixes_15 : decode cX11_mixes 15 = .ok (.return_, 1) := by decide +kernel
theorem dX11_digest_0 : decode cX11_digest 0 = .ok (.aload_n 0, 1) := by decide +kernel
theorem dX11_digest_1 : decode cX11_digest 1 = .ok (.iconst 0, 1) := by decide +kernel
theorem dX11_digest_2 : decode cX11_digest 2 = .ok (.putfield 30, 3) := by decide +kernel
theorem dX11_digest_5 : decode cX11_digest 5 = .ok (.aload_n 0, 1) := by decide +kernel
theorem dX11_digest_6 : decode cX11_digest 6 = .ok (.ldc2_w 270, 3) := by decide +kernel
theorem dX11_digest_9 : decode cX11_digest 9 = .ok (.putfield 267, 3) := by decide +kernel
theorem dX11_digest_12 : decode cX11_digest 12 = .ok (.aload_n 0, 1) := by decide +kernel
theorem dX11_digest_13 : decode cX11_digest 13 = .ok (.aload_n 0, 1) := by decide +kernel
theorem dX11_digest_14 : decode cX11_digest 14 = .ok (.getfield 34, 3) := by decide +kernel
theorem dX11_digest_17 : decode cX11_digest 17 = .ok (.invokevirtual 272, 3) := by decide +kernel
theorem dX11_digest_20 : decode cX11_digest 20 = .ok (.aload_n 0, 1) := by decide +kernel
theorem dX11_digest_21 : decode cX11_digest 21 = .ok (.aload_n 0, 1) := by decide +kernel
theorem dX11_digest_22 : decode cX11_digest 22 = .ok (.getfield 211, 3) := by decide +kernel
theorem dX11_digest_25 : decode cX11_digest 25 = .ok (.invokevirtual 272, 3) := by decide +kernel
theorem dX11_digest_28 : decode cX11_digest 28 = .ok (.iconst 0, 1) := by decide +kernel
theorem dX11_digest_29 : decode cX11_digest 29 = .ok (.istore_n 1, 1) := by decide +kernel
theorem dX11_digest_30 : decode cX11_digest 30 = .ok (.iload_n 1, 1) := by decide +kernel
theorem dX11_digest_31 : decode cX11_digest 31 = .ok (.bipush 24, 2) := by decide +kernel
theorem dX11_digest_33 : decode cX11_digest 33 = .ok (.if_icmp .ge 19, 3) := by decide +kernel
theorem dX11_digest_36 : decode cX11_digest 36 = .ok (.aload_n 0, 1) := by decide +kernel
theorem dX11_digest_37 : decode cX11_digest 37 = .ok (.aload_n 0, 1) := by decide +kernel
theorem dX11_digest_38 : decode cX11_digest 38 = .ok (.getfield 7, 3) := by decide +kernel
theorem dX11_digest_41 : decode cX11_digest 41 = .ok (.iload_n 1, 1) := by decide +kernel
theorem dX11_digest_42 : decode cX11_digest 42 = .ok (.iaload, 1) := by decide +kernel
theorem dX11_digest_43 : decode cX11_digest 43 = .ok (.invokevirtual 272, 3) := by decide +kernel
theorem dX11_digest_46 : decode cX11_digest 46 = .ok (.iinc 1 1, 3) := by decide +kernel
theorem dX11_digest_49 : decode cX11_digest 49 = .ok (.goto (-19), 3) := by decide +kernel
theorem dX11_digest_52 : decode cX11_digest 52 = .ok (.iconst 0, 1) := by decide +kernel
theorem dX11_digest_53 : decode cX11_digest 53 = .ok (.istore_n 1, 1) := by decide +kernel
theorem dX11_digest_54 : decode cX11_digest 54 = .ok (.iload_n 1, 1) := by decide +kernel
theorem dX11_digest_55 : decode cX11_digest 55 = .ok (.bipush 13, 2) := by decide +kernel
theorem dX11_digest_57 : decode cX11_digest 57 = .ok (.if_icmp .ge 18, 3) := by decide +kernel
theorem dX11_digest_60 : decode cX11_digest 60 = .ok (.aload_n 0, 1) := by decide +kernel
theorem dX11_digest_61 : decode cX11_digest 61 = .ok (.aload_n 0, 1) := by decide +kernel
theorem dX11_digest_62 : decode cX11_digest 62 = .ok (.iload_n 1, 1) := by decide +kernel
theorem dX11_digest_63 : decode cX11_digest 63 = .ok (.invokevirtual 197, 3) := by decide +kernel
theorem dX11_digest_66 : decode cX11_digest 66 = .ok (.invokevirtual 272, 3) := by decide +kernel
theorem dX11_digest_69 : decode cX11_digest 69 = .ok (.iinc 1 1, 3) := by decide +kernel
theorem dX11_digest_72 : decode cX11_digest 72 = .ok (.goto (-18), 3) := by decide +kernel
theorem dX11_digest_75 : decode cX11_digest 75 = .ok (.iconst 0, 1) := by decide +kernel
theorem dX11_digest_76 : decode cX11_digest 76 = .ok (.istore_n 1, 1) := by decide +kernel
theorem dX11_digest_77 : decode cX11_digest 77 = .ok (.iload_n 1, 1) := by decide +kernel
theorem dX11_digest_78 : decode cX11_digest 78 = .ok (.iconst 2, 1) := by decide +kernel
theorem dX11_digest_79 : decode cX11_digest 79 = .ok (.aload_n 0, 1) := by decide +kernel
theorem dX11_digest_80 : decode cX11_digest 80 = .ok (.getfield 7, 3) := by decide +kernel
theorem dX11_digest_83 : decode cX11_digest 83 = .ok (.iconst 4, 1) := by decide +kernel
theorem dX11_digest_84 : decode cX11_digest 84 = .ok (.iaload, 1) := by decide +kernel
theorem dX11_digest_85 : decode cX11_digest 85 = .ok (.imul, 1) := by decide +kernel
theorem dX11_digest_86 : decode cX11_digest 86 = .ok (.if_icmp .ge 23, 3) := by decide +kernel
theorem dX11_digest_89 : decode cX11_digest 89 = .ok (.aload_n 0, 1) := by decide +kernel
theorem dX11_digest_90 : decode cX11_digest 90 = .ok (.aload_n 0, 1) := by decide +kernel
theorem dX11_digest_91 : decode cX11_digest 91 = .ok (.getfield 7, 3) := by decide +kernel
theorem dX11_digest_94 : decode cX11_digest 94 = .ok (.sipush 134, 3) := by decide +kernel
theorem dX11_digest_97 : decode cX11_digest 97 = .ok (.iload_n 1, 1) := by decide +kernel
theorem dX11_digest_98 : decode cX11_digest 98 = .ok (.iadd, 1) := by decide +kernel
theorem dX11_digest_99 : decode cX11_digest 99 = .ok (.iaload, 1) := by decide +kernel
theorem dX11_digest_100 : decode cX11_digest 100 = .ok (.invokevirtual 272, 3) := by decide +kernel
theorem dX11_digest_103 : decode cX11_digest 103 = .ok (.iinc 1 1, 3) := by decide +kernel
theorem dX11_digest_106 : decode cX11_digest 106 = .ok (.goto (-29), 3) := by decide +kernel
theorem dX11_digest_109 : decode cX11_digest 109 = .ok (.iconst 0, 1) := by decide +kernel
theorem dX11_digest_110 : decode cX11_digest 110 = .ok (.istore_n 1, 1) := by decide +kernel
theorem dX11_digest_111 : decode cX11_digest 111 = .ok (.iload_n 1, 1) := by decide +kernel
theorem dX11_digest_112 : decode cX11_digest 112 = .ok (.aload_n 0, 1) := by decide +kernel
theorem dX11_digest_113 : decode cX11_digest 113 = .ok (.getfield 7, 3) := by decide +kernel
theorem dX11_digest_116 : decode cX11_digest 116 = .ok (.iconst 5, 1) := by decide +kernel
theorem dX11_digest_117 : decode cX11_digest 117 = .ok (.iaload, 1) := by decide +kernel
theorem dX11_digest_118 : decode cX11_digest 118 = .ok (.if_icmp .ge 18, 3) := by decide +kernel
theorem dX11_digest_121 : decode cX11_digest 121 = .ok (.aload_n 0, 1) := by decide +kernel
theorem dX11_digest_122 : decode cX11_digest 122 = .ok (.aload_n 0, 1) := by decide +kernel
theorem dX11_digest_123 : decode cX11_digest 123 = .ok (.iload_n 1, 1) := by decide +kernel
theorem dX11_digest_124 : decode cX11_digest 124 = .ok (.invokevirtual 56, 3) := by decide +kernel
theorem dX11_digest_127 : decode cX11_digest 127 = .ok (.invokevirtual 272, 3) := by decide +kernel
theorem dX11_digest_130 : decode cX11_digest 130 = .ok (.iinc 1 1, 3) := by decide +kernel
theorem dX11_digest_133 : decode cX11_digest 133 = .ok (.goto (-22), 3) := by decide +kernel
theorem dX11_digest_136 : decode cX11_digest 136 = .ok (.iconst 0, 1) := by decide +kernel
theorem dX11_digest_137 : decode cX11_digest 137 = .ok (.istore_n 1, 1) := by decide +kernel
theorem dX11_digest_138 : decode cX11_digest 138 = .ok (.iload_n 1, 1) := by decide +kernel
theorem dX11_digest_139 : decode cX11_digest 139 = .ok (.bipush 6, 2) := by decide +kernel
theorem dX11_digest_141 : decode cX11_digest 141 = .ok (.aload_n 0, 1) := by decide +kernel
theorem dX11_digest_142 : decode cX11_digest 142 = .ok (.getfield 7, 3) := by decide +kernel
theorem dX11_digest_145 : decode cX11_digest 145 = .ok (.bipush 41, 2) := by decide +kernel
theorem dX11_digest_147 : decode cX11_digest 147 = .ok (.iaload, 1) := by decide +kernel
theorem dX11_digest_148 : decode cX11_digest 148 = .ok (.imul, 1) := by decide +kernel
theorem dX11_digest_149 : decode cX11_digest 149 = .ok (.if_icmp .ge 25, 3) := by decide +kernel
theorem dX11_digest_152 : decode cX11_digest 152 = .ok (.aload_n 0, 1) := by decide +kernel
theorem dX11_digest_153 : decode cX11_digest 153 = .ok (.aload_n 0, 1) := by decide +kernel
theorem dX11_digest_154 : decode cX11_digest 154 = .ok (.iload_n 1, 1) := by decide +kernel
theorem dX11_digest_155 : decode cX11_digest 155 = .ok (.bipush 6, 2) := by decide +kernel
theorem dX11_digest_157 : decode cX11_digest 157 = .ok (.idiv, 1) := by decide +kernel
theorem dX11_digest_158 : decode cX11_digest 158 = .ok (.iload_n 1, 1) := by decide +kernel
theorem dX11_digest_159 : decode cX11_digest 159 = .ok (.bipush 6, 2) := by decide +kernel
theorem dX11_digest_161 : decode cX11_digest 161 = .ok (.irem, 1) := by decide +kernel
theorem dX11_digest_162 : decode cX11_digest 162 = .ok (.invokevirtual 194, 3) := by decide +kernel
theorem dX11_digest_165 : decode cX11_digest 165 = .ok (.invokevirtual 272, 3) := by decide +kernel
theorem dX11_digest_168 : decode cX11_digest 168 = .ok (.iinc 1 1, 3) := by decide +kernel
theorem dX11_digest_171 : decode cX11_digest 171 = .ok (.goto (-33), 3) := by decide +kernel
theorem dX11_digest_174 : decode cX11_digest 174 = .ok (.iconst 0, 1) := by decide +kernel
theorem dX11_digest_175 : decode cX11_digest 175 = .ok (.istore_n 1, 1) := by decide +kernel
theorem dX11_digest_176 : decode cX11_digest 176 = .ok (.iload_n 1, 1) := by decide +kernel
theorem dX11_digest_177 : decode cX11_digest 177 = .ok (.aload_n 0, 1) := by decide +kernel
theorem dX11_digest_178 : decode cX11_digest 178 = .ok (.getfield 7, 3) := by decide +kernel
theorem dX11_digest_181 : decode cX11_digest 181 = .ok (.bipush 18, 2) := by decide +kernel
theorem dX11_digest_183 : decode cX11_digest 183 = .ok (.iaload, 1) := by decide +kernel
theorem dX11_digest_184 : decode cX11_digest 184 = .ok (.if_icmp .ge 37, 3) := by decide +kernel
theorem dX11_digest_187 : decode cX11_digest 187 = .ok (.aload_n 0, 1) := by decide +kernel
theorem dX11_digest_188 : decode cX11_digest 188 = .ok (.iload_n 1, 1) := by decide +kernel
theorem dX11_digest_189 : decode cX11_digest 189 = .ok (.aload_n 0, 1) := by decide +kernel
theorem dX11_digest_190 : decode cX11_digest 190 = .ok (.getfield 7, 3) := by decide +kernel
theorem dX11_digest_193 : decode cX11_digest 193 = .ok (.bipush 31, 2) := by decide +kernel
theorem dX11_digest_195 : decode cX11_digest 195 = .ok (.iaload, 1) := by decide +kernel
theorem dX11_digest_196 : decode cX11_digest 196 = .ok (.if_icmp .ge 15, 3) := by decide +kernel
theorem dX11_digest_199 : decode cX11_digest 199 = .ok (.aload_n 0, 1) := by decide +kernel
theorem dX11_digest_200 : decode cX11_digest 200 = .ok (.getfield 7, 3) := by decide +kernel
theorem dX11_digest_203 : decode cX11_digest 203 = .ok (.bipush 32, 2) := by decide +kernel
theorem dX11_digest_205 : decode cX11_digest 205 = .ok (.iload_n 1, 1) := by decide +kernel
theorem dX11_digest_206 : decode cX11_digest 206 = .ok (.iadd, 1) := by decide +kernel
theorem dX11_digest_207 : decode cX11_digest 207 = .ok (.iaload, 1) := by decide +kernel
theorem dX11_digest_208 : decode cX11_digest 208 = .ok (.goto 4, 3) := by decide +kernel
theorem dX11_digest_211 : decode cX11_digest 211 = .ok (.iconst (-1), 1) := by decide +kernel
theorem dX11_digest_212 : decode cX11_digest 212 = .ok (.invokevirtual 272, 3) := by decide +kernel
theorem dX11_digest_215 : decode cX11_digest 215 = .ok (.iinc 1 1, 3) := by decide +kernel
theorem dX11_digest_218 : decode cX11_digest 218 = .ok (.goto (-42), 3) := by decide +kernel
theorem dX11_digest_221 : decode cX11_digest 221 = .ok (.iconst 0, 1) := by decide +kernel
theorem dX11_digest_222 : decode cX11_digest 222 = .ok (.istore_n 1, 1) := by decide +kernel
theorem dX11_digest_223 : decode cX11_digest 223 = .ok (.iload_n 1, 1) := by decide +kernel
theorem dX11_digest_224 : decode cX11_digest 224 = .ok (.sipush 501, 3) := by decide +kernel
theorem dX11_digest_227 : decode cX11_digest 227 = .ok (.if_icmp .ge 23, 3) := by decide +kernel
theorem dX11_digest_230 : decode cX11_digest 230 = .ok (.aload_n 0, 1) := by decide +kernel
theorem dX11_digest_231 : decode cX11_digest 231 = .ok (.aload_n 0, 1) := by decide +kernel
theorem dX11_digest_232 : decode cX11_digest 232 = .ok (.getfield 7, 3) := by decide +kernel
theorem dX11_digest_235 : decode cX11_digest 235 = .ok (.sipush 146, 3) := by decide +kernel
theorem dX11_digest_238 : decode cX11_digest 238 = .ok (.iload_n 1, 1) := by decide +kernel
theorem dX11_digest_239 : decode cX11_digest 239 = .ok (.iadd, 1) := by decide +kernel
theorem dX11_digest_240 : decode cX11_digest 240 = .ok (.iaload, 1) := by decide +kernel
theorem dX11_digest_241 : decode cX11_digest 241 = .ok (.invokevirtual 272, 3) := by decide +kernel
theorem dX11_digest_244 : decode cX11_digest 244 = .ok (.iinc 1 1, 3) := by decide +kernel
theorem dX11_digest_247 : decode cX11_digest 247 = .ok (.goto (-24), 3) := by decide +kernel
theorem dX11_digest_250 : decode cX11_digest 250 = .ok (.aload_n 0, 1) := by decide +kernel
theorem dX11_digest_251 : decode cX11_digest 251 = .ok (.getfield 267, 3) := by decide +kernel
theorem dX11_digest_254 : decode cX11_digest 254 = .ok (.lreturn, 1) := by decide +kernel
theorem dJx29ce0_ordinal_8abf5_0 : decode cJx29ce0_ordinal_8abf5 0 = .ok (.aload_n 0, 1) := by decide +kernel
theorem dJx29ce0_ordinal_8abf5_1 : decode cJx29ce0_ordinal_8abf5 1 = .ok (.getfield 7, 3) := by decide +kernel
theorem dJx29ce0_ordinal_8abf5_4 : decode cJx29ce0_ordinal_8abf5 4 = .ok (.ireturn, 1) := by decide +kernel
theorem dJ9_abs_0f7a4_0 : decode cJ9_abs_0f7a4 0 = .ok (.iload_n 0, 1) := by decide +kernel
theorem dJ9_abs_0f7a4_1 : decode cJ9_abs_0f7a4 1 = .ok (.ifCond .ge 8, 3) := by decide +kernel
theorem dJ9_abs_0f7a4_4 : decode cJ9_abs_0f7a4 4 = .ok (.iload_n 0, 1) := by decide +kernel
theorem dJ9_abs_0f7a4_5 : decode cJ9_abs_0f7a4 5 = .ok (.ineg, 1) := by decide +kernel
theorem dJ9_abs_0f7a4_6 : decode cJ9_abs_0f7a4 6 = .ok (.goto 4, 3) := by decide +kernel
theorem dJ9_abs_0f7a4_9 : decode cJ9_abs_0f7a4 9 = .ok (.iload_n 0, 1) := by decide +kernel
theorem dJ9_abs_0f7a4_10 : decode cJ9_abs_0f7a4 10 = .ok (.ireturn, 1) := by decide +kernel
theorem dJ9_max_7cf53_0 : decode cJ9_max_7cf53 0 = .ok (.iload_n 0, 1) := by decide +kernel
theorem dJ9_max_7cf53_1 : decode cJ9_max_7cf53 1 = .ok (.iload_n 1, 1) := by decide +kernel
theorem dJ9_max_7cf53_2 : decode cJ9_max_7cf53 2 = .ok (.if_icmp .lt 7, 3) := by decide +kernel
theorem dJ9_max_7cf53_5 : decode cJ9_max_7cf53 5 = .ok (.iload_n 0, 1) := by decide +kernel
theorem dJ9_max_7cf53_6 : decode cJ9_max_7cf53 6 = .ok (.goto 4, 3) := by decide +kernel
theorem dJ9_max_7cf53_9 : decode cJ9_max_7cf53 9 = .ok (.iload_n 1, 1) := by decide +kernel
theorem dJ9_max_7cf53_10 : decode cJ9_max_7cf53 10 = .ok (.ireturn, 1) := by decide +kernel
theorem dJ9_min_7cf53_0 : decode cJ9_min_7cf53 0 = .ok (.iload_n 0, 1) := by decide +kernel
theorem dJ9_min_7cf53_1 : decode cJ9_min_7cf53 1 = .ok (.iload_n 1, 1) := by decide +kernel
theorem dJ9_min_7cf53_2 : decode cJ9_min_7cf53 2 = .ok (.if_icmp .gt 7, 3) := by decide +kernel
theorem dJ9_min_7cf53_5 : decode cJ9_min_7cf53 5 = .ok (.iload_n 0, 1) := by decide +kernel
theorem dJ9_min_7cf53_6 : decode cJ9_min_7cf53 6 = .ok (.goto 4, 3) := by decide +kernel
theorem dJ9_min_7cf53_9 : decode cJ9_min_7cf53 9 = .ok (.iload_n 1, 1) := by decide +kernel
theorem dJ9_min_7cf53_10 : decode cJ9_min_7cf53 10 = .ok (.ireturn, 1) := by decide +kernel
theorem dJ0_length_8abf5_0 : decode cJ0_length_8abf5 0 = .ok (.aload_n 0, 1) := by decide +kernel
theorem dJ0_length_8abf5_1 : decode cJ0_length_8abf5 1 = .ok (.getfield 9, 3) := by decide +kernel
theorem dJ0_length_8abf5_4 : decode cJ0_length_8abf5 4 = .ok (.arraylength, 1) := by decide +kernel
theorem dJ0_length_8abf5_5 : decode cJ0_length_8abf5 5 = .ok (.aload_n 0, 1) := by decide +kernel
theorem dJ0_length_8abf5_6 : decode cJ0_length_8abf5 6 = .ok (.invokevirtual 335, 3) := by decide +kernel
theorem dJ0_length_8abf5_9 : decode cJ0_length_8abf5 9 = .ok (.ishr, 1) := by decide +kernel
theorem dJ0_length_8abf5_10 : decode cJ0_length_8abf5 10 = .ok (.ireturn, 1) := by decide +kernel
theorem dJ0_charAt_5068e_0 : decode cJ0_charAt_5068e 0 = .ok (.aload_n 0, 1) := by decide +kernel
theorem dJ0_charAt_5068e_1 : decode cJ0_charAt_5068e 1 = .ok (.invokevirtual 492, 3) := by decide +kernel
theorem dJ0_charAt_5068e_4 : decode cJ0_charAt_5068e 4 = .ok (.ifCond .eq 12, 3) := by decide +kernel
theorem dJ0_charAt_5068e_7 : decode cJ0_charAt_5068e 7 = .ok (.aload_n 0, 1) := by decide +kernel
theorem dJ0_charAt_5068e_8 : decode cJ0_charAt_5068e 8 = .ok (.getfield 9, 3) := by decide +kernel
theorem dJ0_charAt_5068e_11 : decode cJ0_charAt_5068e 11 = .ok (.iload_n 1, 1) := by decide +kernel
theorem dJ0_charAt_5068e_12 : decode cJ0_charAt_5068e 12 = .ok (.invokestatic 495, 3) := by decide +kernel
theorem dJ0_charAt_5068e_15 : decode cJ0_charAt_5068e 15 = .ok (.ireturn, 1) := by decide +kernel
theorem dJ0_charAt_5068e_16 : decode cJ0_charAt_5068e 16 = .ok (.aload_n 0, 1) := by decide +kernel
theorem dJ0_charAt_5068e_17 : decode cJ0_charAt_5068e 17 = .ok (.getfield 9, 3) := by decide +kernel
theorem dJ0_charAt_5068e_20 : decode cJ0_charAt_5068e 20 = .ok (.iload_n 1, 1) := by decide +kernel
theorem dJ0_charAt_5068e_21 : decode cJ0_charAt_5068e 21 = .ok (.invokestatic 498, 3) := by decide +kernel
theorem dJ0_charAt_5068e_24 : decode cJ0_charAt_5068e 24 = .ok (.ireturn, 1) := by decide +kernel
theorem dJ0_coder_7d493_0 : decode cJ0_coder_7d493 0 = .ok (.getstatic 38, 3) := by decide +kernel
theorem dJ0_coder_7d493_3 : decode cJ0_coder_7d493 3 = .ok (.ifCond .eq 10, 3) := by decide +kernel
theorem dJ0_coder_7d493_6 : decode cJ0_coder_7d493 6 = .ok (.aload_n 0, 1) := by decide +kernel
theorem dJ0_coder_7d493_7 : decode cJ0_coder_7d493 7 = .ok (.getfield 15, 3) := by decide +kernel
theorem dJ0_coder_7d493_10 : decode cJ0_coder_7d493 10 = .ok (.goto 4, 3) := by decide +kernel
theorem dJ0_coder_7d493_13 : decode cJ0_coder_7d493 13 = .ok (.iconst 1, 1) := by decide +kernel
theorem dJ0_coder_7d493_14 : decode cJ0_coder_7d493 14 = .ok (.ireturn, 1) := by decide +kernel
theorem dJ0_isLatin1_aae02_0 : decode cJ0_isLatin1_aae02 0 = .ok (.getstatic 38, 3) := by decide +kernel
theorem dJ0_isLatin1_aae02_3 : decode cJ0_isLatin1_aae02 3 = .ok (.ifCond .eq 14, 3) := by decide +kernel
theorem dJ0_isLatin1_aae02_6 : decode cJ0_isLatin1_aae02 6 = .ok (.aload_n 0, 1) := by decide +kernel
theorem dJ0_isLatin1_aae02_7 : decode cJ0_isLatin1_aae02 7 = .ok (.getfield 15, 3) := by decide +kernel
theorem dJ0_isLatin1_aae02_10 : decode cJ0_isLatin1_aae02 10 = .ok (.ifCond .ne 7, 3) := by decide +kernel
theorem dJ0_isLatin1_aae02_13 : decode cJ0_isLatin1_aae02 13 = .ok (.iconst 1, 1) := by decide +kernel
theorem dJ0_isLatin1_aae02_14 : decode cJ0_isLatin1_aae02 14 = .ok (.goto 4, 3) := by decide +kernel
theorem dJ0_isLatin1_aae02_17 : decode cJ0_isLatin1_aae02 17 = .ok (.iconst 0, 1) := by decide +kernel
theorem dJ0_isLatin1_aae02_18 : decode cJ0_isLatin1_aae02 18 = .ok (.ireturn, 1) := by decide +kernel
theorem dJ0_checkIndex_df160_0 : decode cJ0_checkIndex_df160 0 = .ok (.iload_n 0, 1) := by decide +kernel
theorem dJ0_checkIndex_df160_1 : decode cJ0_checkIndex_df160 1 = .ok (.iload_n 1, 1) := by decide +kernel
theorem dJ0_checkIndex_df160_2 : decode cJ0_checkIndex_df160 2 = .ok (.getstatic 1053, 3) := by decide +kernel
theorem dJ0_checkIndex_df160_5 : decode cJ0_checkIndex_df160 5 = .ok (.invokestatic 1059, 3) := by decide +kernel
theorem dJ0_checkIndex_df160_8 : decode cJ0_checkIndex_df160 8 = .ok (.pop, 1) := by decide +kernel
theorem dJ0_checkIndex_df160_9 : decode cJ0_checkIndex_df160 9 = .ok (.return_, 1) := by decide +kernel
theorem dJ1_charAt_3b067_0 : decode cJ1_charAt_3b067 0 = .ok (.iload_n 1, 1) := by decide +kernel
theorem dJ1_charAt_3b067_1 : decode cJ1_charAt_3b067 1 = .ok (.aload_n 0, 1) := by decide +kernel
theorem dJ1_charAt_3b067_2 : decode cJ1_charAt_3b067 2 = .ok (.arraylength, 1) := by decide +kernel
theorem dJ1_charAt_3b067_3 : decode cJ1_charAt_3b067 3 = .ok (.invokestatic 9, 3) := by decide +kernel
theorem dJ1_charAt_3b067_6 : decode cJ1_charAt_3b067 6 = .ok (.aload_n 0, 1) := by decide +kernel
theorem dJ1_charAt_3b067_7 : decode cJ1_charAt_3b067 7 = .ok (.iload_n 1, 1) := by decide +kernel
theorem dJ1_charAt_3b067_8 : decode cJ1_charAt_3b067 8 = .ok (.baload, 1) := by decide +kernel
theorem dJ1_charAt_3b067_9 : decode cJ1_charAt_3b067 9 = .ok (.sipush 255, 3) := by decide +kernel
theorem dJ1_charAt_3b067_12 : decode cJ1_charAt_3b067 12 = .ok (.iand, 1) := by decide +kernel
theorem dJ1_charAt_3b067_13 : decode cJ1_charAt_3b067 13 = .ok (.i2c, 1) := by decide +kernel
theorem dJ1_charAt_3b067_14 : decode cJ1_charAt_3b067 14 = .ok (.ireturn, 1) := by decide +kernel
theorem dJ2_getChar_3b067_0 : decode cJ2_getChar_3b067 0 = .ok (.getstatic 44, 3) := by decide +kernel
theorem dJ2_getChar_3b067_3 : decode cJ2_getChar_3b067 3 = .ok (.ifCond .ne 25, 3) := by decide +kernel
theorem dJ2_getChar_3b067_6 : decode cJ2_getChar_3b067 6 = .ok (.iload_n 1, 1) := by decide +kernel
theorem dJ2_getChar_3b067_7 : decode cJ2_getChar_3b067 7 = .ok (.ifCond .lt 11, 3) := by decide +kernel
theorem dJ2_getChar_3b067_10 : decode cJ2_getChar_3b067 10 = .ok (.iload_n 1, 1) := by decide +kernel
theorem dJ2_getChar_3b067_11 : decode cJ2_getChar_3b067 11 = .ok (.aload_n 0, 1) := by decide +kernel
theorem dJ2_getChar_3b067_12 : decode cJ2_getChar_3b067 12 = .ok (.invokestatic 48, 3) := by decide +kernel
theorem dJ2_getChar_3b067_15 : decode cJ2_getChar_3b067 15 = .ok (.if_icmp .lt 13, 3) := by decide +kernel
theorem dJ2_getChar_3b067_18 : decode cJ2_getChar_3b067 18 = .ok (.new 52, 3) := by decide +kernel
theorem dJ2_getChar_3b067_21 : decode cJ2_getChar_3b067 21 = .ok (.dup, 1) := by decide +kernel
theorem dJ2_getChar_3b067_22 : decode cJ2_getChar_3b067 22 = .ok (.ldc 54, 2) := by decide +kernel
theorem dJ2_getChar_3b067_24 : decode cJ2_getChar_3b067 24 = .ok (.invokespecial 56, 3) := by decide +kernel
theorem dJ2_getChar_3b067_27 : decode cJ2_getChar_3b067 27 = .ok (.athrow, 1) := by decide +kernel
theorem dJ2_getChar_3b067_28 : decode cJ2_getChar_3b067 28 = .ok (.iload_n 1, 1) := by decide +kernel
theorem dJ2_getChar_3b067_29 : decode cJ2_getChar_3b067 29 = .ok (.iconst 1, 1) := by decide +kernel
theorem dJ2_getChar_3b067_30 : decode cJ2_getChar_3b067 30 = .ok (.ishl, 1) := by decide +kernel
theorem dJ2_getChar_3b067_31 : decode cJ2_getChar_3b067 31 = .ok (.istore_n 1, 1) := by decide +kernel
theorem dJ2_getChar_3b067_32 : decode cJ2_getChar_3b067 32 = .ok (.aload_n 0, 1) := by decide +kernel
theorem dJ2_getChar_3b067_33 : decode cJ2_getChar_3b067 33 = .ok (.iload_n 1, 1) := by decide +kernel
theorem dJ2_getChar_3b067_34 : decode cJ2_getChar_3b067 34 = .ok (.iinc 1 1, 3) := by decide +kernel
theorem dJ2_getChar_3b067_37 : decode cJ2_getChar_3b067 37 = .ok (.baload, 1) := by decide +kernel
theorem dJ2_getChar_3b067_38 : decode cJ2_getChar_3b067 38 = .ok (.sipush 255, 3) := by decide +kernel
theorem dJ2_getChar_3b067_41 : decode cJ2_getChar_3b067 41 = .ok (.iand, 1) := by decide +kernel
theorem dJ2_getChar_3b067_42 : decode cJ2_getChar_3b067 42 = .ok (.getstatic 59, 3) := by decide +kernel
theorem dJ2_getChar_3b067_45 : decode cJ2_getChar_3b067 45 = .ok (.ishl, 1) := by decide +kernel
theorem dJ2_getChar_3b067_46 : decode cJ2_getChar_3b067 46 = .ok (.aload_n 0, 1) := by decide +kernel
theorem dJ2_getChar_3b067_47 : decode cJ2_getChar_3b067 47 = .ok (.iload_n 1, 1) := by decide +kernel
theorem dJ2_getChar_3b067_48 : decode cJ2_getChar_3b067 48 = .ok (.baload, 1) := by decide +kernel
theorem dJ2_getChar_3b067_49 : decode cJ2_getChar_3b067 49 = .ok (.sipush 255, 3) := by decide +kernel
theorem dJ2_getChar_3b067_52 : decode cJ2_getChar_3b067 52 = .ok (.iand, 1) := by decide +kernel
theorem dJ2_getChar_3b067_53 : decode cJ2_getChar_3b067 53 = .ok (.getstatic 63, 3) := by decide +kernel
theorem dJ2_getChar_3b067_56 : decode cJ2_getChar_3b067 56 = .ok (.ishl, 1) := by decide +kernel
theorem dJ2_getChar_3b067_57 : decode cJ2_getChar_3b067 57 = .ok (.ior, 1) := by decide +kernel
theorem dJ2_getChar_3b067_58 : decode cJ2_getChar_3b067 58 = .ok (.i2c, 1) := by decide +kernel
theorem dJ2_getChar_3b067_59 : decode cJ2_getChar_3b067 59 = .ok (.ireturn, 1) := by decide +kernel
theorem dJ2_length_9d52b_0 : decode cJ2_length_9d52b 0 = .ok (.aload_n 0, 1) := by decide +kernel
theorem dJ2_length_9d52b_1 : decode cJ2_length_9d52b 1 = .ok (.arraylength, 1) := by decide +kernel
theorem dJ2_length_9d52b_2 : decode cJ2_length_9d52b 2 = .ok (.iconst 1, 1) := by decide +kernel
theorem dJ2_length_9d52b_3 : decode cJ2_length_9d52b 3 = .ok (.ishr, 1) := by decide +kernel
theorem dJ2_length_9d52b_4 : decode cJ2_length_9d52b 4 = .ok (.ireturn, 1) := by decide +kernel
theorem dJ2_charAt_3b067_0 : decode cJ2_charAt_3b067 0 = .ok (.iload_n 1, 1) := by decide +kernel
theorem dJ2_charAt_3b067_1 : decode cJ2_charAt_3b067 1 = .ok (.aload_n 0, 1) := by decide +kernel
theorem dJ2_charAt_3b067_2 : decode cJ2_charAt_3b067 2 = .ok (.invokestatic 67, 3) := by decide +kernel
theorem dJ2_charAt_3b067_5 : decode cJ2_charAt_3b067 5 = .ok (.aload_n 0, 1) := by decide +kernel
theorem dJ2_charAt_3b067_6 : decode cJ2_charAt_3b067 6 = .ok (.iload_n 1, 1) := by decide +kernel
theorem dJ2_charAt_3b067_7 : decode cJ2_charAt_3b067 7 = .ok (.invokestatic 71, 3) := by decide +kernel
theorem dJ2_charAt_3b067_10 : decode cJ2_charAt_3b067 10 = .ok (.ireturn, 1) := by decide +kernel
theorem dJ2_checkIndex_2214a_0 : decode cJ2_checkIndex_2214a 0 = .ok (.iload_n 0, 1) := by decide +kernel
theorem dJ2_checkIndex_2214a_1 : decode cJ2_checkIndex_2214a 1 = .ok (.aload_n 1, 1) := by decide +kernel
theorem dJ2_checkIndex_2214a_2 : decode cJ2_checkIndex_2214a 2 = .ok (.invokestatic 48, 3) := by decide +kernel
theorem dJ2_checkIndex_2214a_5 : decode cJ2_checkIndex_2214a 5 = .ok (.invokestatic 414, 3) := by decide +kernel
theorem dJ2_checkIndex_2214a_8 : decode cJ2_checkIndex_2214a 8 = .ok (.return_, 1) := by decide +kernel
theorem dJ3_checkIndex_8e157_0 : decode cJ3_checkIndex_8e157 0 = .ok (.iload_n 0, 1) := by decide +kernel
theorem dJ3_checkIndex_8e157_1 : decode cJ3_checkIndex_8e157 1 = .ok (.ifCond .lt 8, 3) := by decide +kernel
theorem dJ3_checkIndex_8e157_4 : decode cJ3_checkIndex_8e157 4 = .ok (.iload_n 0, 1) := by decide +kernel
theorem dJ3_checkIndex_8e157_5 : decode cJ3_checkIndex_8e157 5 = .ok (.iload_n 1, 1) := by decide +kernel
theorem dJ3_checkIndex_8e157_6 : decode cJ3_checkIndex_8e157 6 = .ok (.if_icmp .lt 10, 3) := by decide +kernel
theorem dJ3_checkIndex_8e157_9 : decode cJ3_checkIndex_8e157 9 = .ok (.aload_n 2, 1) := by decide +kernel
theorem dJ3_checkIndex_8e157_10 : decode cJ3_checkIndex_8e157 10 = .ok (.iload_n 0, 1) := by decide +kernel
theorem dJ3_checkIndex_8e157_11 : decode cJ3_checkIndex_8e157 11 = .ok (.iload_n 1, 1) := by decide +kernel
theorem dJ3_checkIndex_8e157_12 : decode cJ3_checkIndex_8e157 12 = .ok (.invokestatic 95, 3) := by decide +kernel
theorem dJ3_checkIndex_8e157_15 : decode cJ3_checkIndex_8e157 15 = .ok (.athrow, 1) := by decide +kernel
theorem dJ3_checkIndex_8e157_16 : decode cJ3_checkIndex_8e157 16 = .ok (.iload_n 0, 1) := by decide +kernel
theorem dJ3_checkIndex_8e157_17 : decode cJ3_checkIndex_8e157 17 = .ok (.ireturn, 1) := by decide +kernel
theorem dL_begin_0 : decode cL_begin 0 = .ok (.aload_n 2, 1) := by decide +kernel
theorem dL_begin_1 : decode cL_begin 1 = .ok (.iconst 0, 1) := by decide +kernel
theorem dL_begin_2 : decode cL_begin 2 = .ok (.aload_n 0, 1) := by decide +kernel
theorem dL_begin_3 : decode cL_begin 3 = .ok (.iload_n 1, 1) := by decide +kernel
theorem dL_begin_4 : decode cL_begin 4 = .ok (.invokevirtual 7, 3) := by decide +kernel
theorem dL_begin_7 : decode cL_begin 7 = .ok (.i2l, 1) := by decide +kernel
theorem dL_begin_8 : decode cL_begin 8 = .ok (.lastore, 1) := by decide +kernel
theorem dL_begin_9 : decode cL_begin 9 = .ok (.goto 6, 3) := by decide +kernel
theorem dL_begin_12 : decode cL_begin 12 = .ok (.astore_n 3, 1) := by decide +kernel
theorem dL_begin_13 : decode cL_begin 13 = .ok (.iconst 1, 1) := by decide +kernel
theorem dL_begin_14 : decode cL_begin 14 = .ok (.ireturn, 1) := by decide +kernel
theorem dL_begin_15 : decode cL_begin 15 = .ok (.iconst 0, 1) := by decide +kernel
theorem dL_begin_16 : decode cL_begin 16 = .ok (.ireturn, 1) := by decide +kernel
theorem dL_setLevel_0 : decode cL_setLevel 0 = .ok (.aload_n 2, 1) := by decide +kernel
theorem dL_setLevel_1 : decode cL_setLevel 1 = .ok (.iconst 0, 1) := by decide +kernel
theorem dL_setLevel_2 : decode cL_setLevel 2 = .ok (.aload_n 0, 1) := by decide +kernel
theorem dL_setLevel_3 : decode cL_setLevel 3 = .ok (.iload_n 1, 1) := by decide +kernel
theorem dL_setLevel_4 : decode cL_setLevel 4 = .ok (.invokevirtual 15, 3) := by decide +kernel
theorem dL_setLevel_7 : decode cL_setLevel 7 = .ok (.i2l, 1) := by decide +kernel
theorem dL_setLevel_8 : decode cL_setLevel 8 = .ok (.lastore, 1) := by decide +kernel
theorem dL_setLevel_9 : decode cL_setLevel 9 = .ok (.goto 6, 3) := by decide +kernel
theorem dL_setLevel_12 : decode cL_setLevel 12 = .ok (.astore_n 3, 1) := by decide +kernel
theorem dL_setLevel_13 : decode cL_setLevel 13 = .ok (.iconst 1, 1) := by decide +kernel
theorem dL_setLevel_14 : decode cL_setLevel 14 = .ok (.ireturn, 1) := by decide +kernel
theorem dL_setLevel_15 : decode cL_setLevel 15 = .ok (.iconst 0, 1) := by decide +kernel
theorem dL_setLevel_16 : decode cL_setLevel 16 = .ok (.ireturn, 1) := by decide +kernel
theorem dL_setFlow_0 : decode cL_setFlow 0 = .ok (.aload_n 2, 1) := by decide +kernel
theorem dL_setFlow_1 : decode cL_setFlow 1 = .ok (.iconst 0, 1) := by decide +kernel
theorem dL_setFlow_2 : decode cL_setFlow 2 = .ok (.aload_n 0, 1) := by decide +kernel
theorem dL_setFlow_3 : decode cL_setFlow 3 = .ok (.iload_n 1, 1) := by decide +kernel
theorem dL_setFlow_4 : decode cL_setFlow 4 = .ok (.invokevirtual 18, 3) := by decide +kernel
theorem dL_setFlow_7 : decode cL_setFlow 7 = .ok (.i2l, 1) := by decide +kernel
theorem dL_setFlow_8 : decode cL_setFlow 8 = .ok (.lastore, 1) := by decide +kernel
theorem dL_setFlow_9 : decode cL_setFlow 9 = .ok (.goto 6, 3) := by decide +kernel
theorem dL_setFlow_12 : decode cL_setFlow 12 = .ok (.astore_n 3, 1) := by decide +kernel
theorem dL_setFlow_13 : decode cL_setFlow 13 = .ok (.iconst 1, 1) := by decide +kernel
theorem dL_setFlow_14 : decode cL_setFlow 14 = .ok (.ireturn, 1) := by decide +kernel
theorem dL_setFlow_15 : decode cL_setFlow 15 = .ok (.iconst 0, 1) := by decide +kernel
theorem dL_setFlow_16 : decode cL_setFlow 16 = .ok (.ireturn, 1) := by decide +kernel
theorem dL_setFoam_0 : decode cL_setFoam 0 = .ok (.aload_n 2, 1) := by decide +kernel
theorem dL_setFoam_1 : decode cL_setFoam 1 = .ok (.iconst 0, 1) := by decide +kernel
theorem dL_setFoam_2 : decode cL_setFoam 2 = .ok (.aload_n 0, 1) := by decide +kernel
theorem dL_setFoam_3 : decode cL_setFoam 3 = .ok (.iload_n 1, 1) := by decide +kernel
theorem dL_setFoam_4 : decode cL_setFoam 4 = .ok (.invokevirtual 21, 3) := by decide +kernel
theorem dL_setFoam_7 : decode cL_setFoam 7 = .ok (.i2l, 1) := by decide +kernel
theorem dL_setFoam_8 : decode cL_setFoam 8 = .ok (.lastore, 1) := by decide +kernel
theorem dL_setFoam_9 : decode cL_setFoam 9 = .ok (.goto 6, 3) := by decide +kernel
theorem dL_setFoam_12 : decode cL_setFoam 12 = .ok (.astore_n 3, 1) := by decide +kernel
theorem dL_setFoam_13 : decode cL_setFoam 13 = .ok (.iconst 1, 1) := by decide +kernel
theorem dL_setFoam_14 : decode cL_setFoam 14 = .ok (.ireturn, 1) := by decide +kernel
theorem dL_setFoam_15 : decode cL_setFoam 15 = .ok (.iconst 0, 1) := by decide +kernel
theorem dL_setFoam_16 : decode cL_setFoam 16 = .ok (.ireturn, 1) := by decide +kernel
theorem dL_addThing_0 : decode cL_addThing 0 = .ok (.aload_n 3, 1) := by decide +kernel
theorem dL_addThing_1 : decode cL_addThing 1 = .ok (.iconst 0, 1) := by decide +kernel
theorem dL_addThing_2 : decode cL_addThing 2 = .ok (.aload_n 0, 1) := by decide +kernel
theorem dL_addThing_3 : decode cL_addThing 3 = .ok (.iload_n 1, 1) := by decide +kernel
theorem dL_addThing_4 : decode cL_addThing 4 = .ok (.iload_n 2, 1) := by decide +kernel
theorem dL_addThing_5 : decode cL_addThing 5 = .ok (.invokevirtual 24, 3) := by decide +kernel
theorem dL_addThing_8 : decode cL_addThing 8 = .ok (.i2l, 1) := by decide +kernel
theorem dL_addThing_9 : decode cL_addThing 9 = .ok (.lastore, 1) := by decide +kernel
theorem dL_addThing_10 : decode cL_addThing 10 = .ok (.goto 11, 3) := by decide +kernel
theorem dL_addThing_13 : decode cL_addThing 13 = .ok (.astore 4, 2) := by decide +kernel
theorem dL_addThing_15 : decode cL_addThing 15 = .ok (.iconst 1, 1) := by decide +kernel
theorem dL_addThing_16 : decode cL_addThing 16 = .ok (.ireturn, 1) := by decide +kernel
theorem dL_addThing_17 : decode cL_addThing 17 = .ok (.astore 4, 2) := by decide +kernel
theorem dL_addThing_19 : decode cL_addThing 19 = .ok (.iconst 2, 1) := by decide +kernel
theorem dL_addThing_20 : decode cL_addThing 20 = .ok (.ireturn, 1) := by decide +kernel
theorem dL_addThing_21 : decode cL_addThing 21 = .ok (.iconst 0, 1) := by decide +kernel
theorem dL_addThing_22 : decode cL_addThing 22 = .ok (.ireturn, 1) := by decide +kernel
theorem dL_removeThing_0 : decode cL_removeThing 0 = .ok (.aload_n 2, 1) := by decide +kernel
theorem dL_removeThing_1 : decode cL_removeThing 1 = .ok (.iconst 0, 1) := by decide +kernel
theorem dL_removeThing_2 : decode cL_removeThing 2 = .ok (.aload_n 0, 1) := by decide +kernel
theorem dL_removeThing_3 : decode cL_removeThing 3 = .ok (.iload_n 1, 1) := by decide +kernel
theorem dL_removeThing_4 : decode cL_removeThing 4 = .ok (.invokevirtual 30, 3) := by decide +kernel
theorem dL_removeThing_7 : decode cL_removeThing 7 = .ok (.i2l, 1) := by decide +kernel
theorem dL_removeThing_8 : decode cL_removeThing 8 = .ok (.lastore, 1) := by decide +kernel
theorem dL_removeThing_9 : decode cL_removeThing 9 = .ok (.goto 6, 3) := by decide +kernel
theorem dL_removeThing_12 : decode cL_removeThing 12 = .ok (.astore_n 3, 1) := by decide +kernel
theorem dL_removeThing_13 : decode cL_removeThing 13 = .ok (.iconst 1, 1) := by decide +kernel
theorem dL_removeThing_14 : decode cL_removeThing 14 = .ok (.ireturn, 1) := by decide +kernel
theorem dL_removeThing_15 : decode cL_removeThing 15 = .ok (.iconst 0, 1) := by decide +kernel
theorem dL_removeThing_16 : decode cL_removeThing 16 = .ok (.ireturn, 1) := by decide +kernel
theorem dL_setStirrer_0 : decode cL_setStirrer 0 = .ok (.aload 6, 2) := by decide +kernel
theorem dL_setStirrer_2 : decode cL_setStirrer 2 = .ok (.iconst 0, 1) := by decide +kernel
theorem dL_setStirrer_3 : decode cL_setStirrer 3 = .ok (.aload_n 0, 1) := by decide +kernel
theorem dL_setStirrer_4 : decode cL_setStirrer 4 = .ok (.iload_n 1, 1) := by decide +kernel
theorem dL_setStirrer_5 : decode cL_setStirrer 5 = .ok (.iload_n 2, 1) := by decide +kernel
theorem dL_setStirrer_6 : decode cL_setStirrer 6 = .ok (.iload_n 3, 1) := by decide +kernel
theorem dL_setStirrer_7 : decode cL_setStirrer 7 = .ok (.iload 4, 2) := by decide +kernel
theorem dL_setStirrer_9 : decode cL_setStirrer 9 = .ok (.iload 5, 2) := by decide +kernel
theorem dL_setStirrer_11 : decode cL_setStirrer 11 = .ok (.invokevirtual 35, 3) := by decide +kernel
theorem dL_setStirrer_14 : decode cL_setStirrer 14 = .ok (.i2l, 1) := by decide +kernel
theorem dL_setStirrer_15 : decode cL_setStirrer 15 = .ok (.lastore, 1) := by decide +kernel
theorem dL_setStirrer_16 : decode cL_setStirrer 16 = .ok (.goto 7, 3) := by decide +kernel
theorem dL_setStirrer_19 : decode cL_setStirrer 19 = .ok (.astore 7, 2) := by decide +kernel
theorem dL_setStirrer_21 : decode cL_setStirrer 21 = .ok (.iconst 1, 1) := by decide +kernel
theorem dL_setStirrer_22 : decode cL_setStirrer 22 = .ok (.ireturn, 1) := by decide +kernel
theorem dL_setStirrer_23 : decode cL_setStirrer 23 = .ok (.iconst 0, 1) := by decide +kernel
theorem dL_setStirrer_24 : decode cL_setStirrer 24 = .ok (.ireturn, 1) := by decide +kernel
theorem dL_set_0 : decode cL_set 0 = .ok (.aload_n 3, 1) := by decide +kernel
theorem dL_set_1 : decode cL_set 1 = .ok (.iconst 0, 1) := by decide +kernel
theorem dL_set_2 : decode cL_set 2 = .ok (.aload_n 0, 1) := by decide +kernel
theorem dL_set_3 : decode cL_set 3 = .ok (.iload_n 1, 1) := by decide +kernel
theorem dL_set_4 : decode cL_set 4 = .ok (.iload_n 2, 1) := by decide +kernel
theorem dL_set_5 : decode cL_set 5 = .ok (.invokevirtual 39, 3) := by decide +kernel
theorem dL_set_8 : decode cL_set 8 = .ok (.i2l, 1) := by decide +kernel
theorem dL_set_9 : decode cL_set 9 = .ok (.lastore, 1) := by decide +kernel
theorem dL_set_10 : decode cL_set 10 = .ok (.goto 7, 3) := by decide +kernel
theorem dL_set_13 : decode cL_set 13 = .ok (.astore 4, 2) := by decide +kernel
theorem dL_set_15 : decode cL_set 15 = .ok (.iconst 1, 1) := by decide +kernel
theorem dL_set_16 : decode cL_set 16 = .ok (.ireturn, 1) := by decide +kernel
theorem dL_set_17 : decode cL_set 17 = .ok (.iconst 0, 1) := by decide +kernel
theorem dL_set_18 : decode cL_set 18 = .ok (.ireturn, 1) := by decide +kernel
theorem dL_setS_0 : decode cL_setS 0 = .ok (.aload_n 2, 1) := by decide +kernel
theorem dL_setS_1 : decode cL_setS 1 = .ok (.iconst 0, 1) := by decide +kernel
theorem dL_setS_2 : decode cL_setS 2 = .ok (.aload_n 0, 1) := by decide +kernel
theorem dL_setS_3 : decode cL_setS 3 = .ok (.iload_n 1, 1) := by decide +kernel
theorem dL_setS_4 : decode cL_setS 4 = .ok (.invokevirtual 42, 3) := by decide +kernel
theorem dL_setS_7 : decode cL_setS 7 = .ok (.i2l, 1) := by decide +kernel
theorem dL_setS_8 : decode cL_setS 8 = .ok (.lastore, 1) := by decide +kernel
theorem dL_setS_9 : decode cL_setS 9 = .ok (.goto 6, 3) := by decide +kernel
theorem dL_setS_12 : decode cL_setS 12 = .ok (.astore_n 3, 1) := by decide +kernel
theorem dL_setS_13 : decode cL_setS 13 = .ok (.iconst 1, 1) := by decide +kernel
theorem dL_setS_14 : decode cL_setS 14 = .ok (.ireturn, 1) := by decide +kernel
theorem dL_setS_15 : decode cL_setS 15 = .ok (.iconst 0, 1) := by decide +kernel
theorem dL_setS_16 : decode cL_setS 16 = .ok (.ireturn, 1) := by decide +kernel
theorem dL_mask_0 : decode cL_mask 0 = .ok (.aload_n 3, 1) := by decide +kernel
theorem dL_mask_1 : decode cL_mask 1 = .ok (.iconst 0, 1) := by decide +kernel
theorem dL_mask_2 : decode cL_mask 2 = .ok (.aload_n 0, 1) := by decide +kernel
theorem dL_mask_3 : decode cL_mask 3 = .ok (.iload_n 1, 1) := by decide +kernel
theorem dL_mask_4 : decode cL_mask 4 = .ok (.iload_n 2, 1) := by decide +kernel
theorem dL_mask_5 : decode cL_mask 5 = .ok (.invokevirtual 45, 3) := by decide +kernel
theorem dL_mask_8 : decode cL_mask 8 = .ok (.i2l, 1) := by decide +kernel
theorem dL_mask_9 : decode cL_mask 9 = .ok (.lastore, 1) := by decide +kernel
theorem dL_mask_10 : decode cL_mask 10 = .ok (.goto 7, 3) := by decide +kernel
theorem dL_mask_13 : decode cL_mask 13 = .ok (.astore 4, 2) := by decide +kernel
theorem dL_mask_15 : decode cL_mask 15 = .ok (.iconst 1, 1) := by decide +kernel
theorem dL_mask_16 : decode cL_mask 16 = .ok (.ireturn, 1) := by decide +kernel
theorem dL_mask_17 : decode cL_mask 17 = .ok (.iconst 0, 1) := by decide +kernel
theorem dL_mask_18 : decode cL_mask 18 = .ok (.ireturn, 1) := by decide +kernel
theorem dL_learn_0 : decode cL_learn 0 = .ok (.aload_n 2, 1) := by decide +kernel
theorem dL_learn_1 : decode cL_learn 1 = .ok (.iconst 0, 1) := by decide +kernel
theorem dL_learn_2 : decode cL_learn 2 = .ok (.aload_n 0, 1) := by decide +kernel
theorem dL_learn_3 : decode cL_learn 3 = .ok (.iload_n 1, 1) := by decide +kernel
theorem dL_learn_4 : decode cL_learn 4 = .ok (.invokevirtual 49, 3) := by decide +kernel
theorem dL_learn_7 : decode cL_learn 7 = .ok (.i2l, 1) := by decide +kernel
theorem dL_learn_8 : decode cL_learn 8 = .ok (.lastore, 1) := by decide +kernel
theorem dL_learn_9 : decode cL_learn 9 = .ok (.goto 6, 3) := by decide +kernel
theorem dL_learn_12 : decode cL_learn 12 = .ok (.astore_n 3, 1) := by decide +kernel
theorem dL_learn_13 : decode cL_learn 13 = .ok (.iconst 1, 1) := by decide +kernel
theorem dL_learn_14 : decode cL_learn 14 = .ok (.ireturn, 1) := by decide +kernel
theorem dL_learn_15 : decode cL_learn 15 = .ok (.iconst 0, 1) := by decide +kernel
theorem dL_learn_16 : decode cL_learn 16 = .ok (.ireturn, 1) := by decide +kernel
theorem dL_shoot_0 : decode cL_shoot 0 = .ok (.aload_n 2, 1) := by decide +kernel
theorem dL_shoot_1 : decode cL_shoot 1 = .ok (.iconst 0, 1) := by decide +kernel
theorem dL_shoot_2 : decode cL_shoot 2 = .ok (.aload_n 0, 1) := by decide +kernel
theorem dL_shoot_3 : decode cL_shoot 3 = .ok (.iload_n 1, 1) := by decide +kernel
theorem dL_shoot_4 : decode cL_shoot 4 = .ok (.invokevirtual 52, 3) := by decide +kernel
theorem dL_shoot_7 : decode cL_shoot 7 = .ok (.i2l, 1) := by decide +kernel
theorem dL_shoot_8 : decode cL_shoot 8 = .ok (.lastore, 1) := by decide +kernel
theorem dL_shoot_9 : decode cL_shoot 9 = .ok (.goto 6, 3) := by decide +kernel
theorem dL_shoot_12 : decode cL_shoot 12 = .ok (.astore_n 3, 1) := by decide +kernel
theorem dL_shoot_13 : decode cL_shoot 13 = .ok (.iconst 1, 1) := by decide +kernel
theorem dL_shoot_14 : decode cL_shoot 14 = .ok (.ireturn, 1) := by decide +kernel
theorem dL_shoot_15 : decode cL_shoot 15 = .ok (.iconst 0, 1) := by decide +kernel
theorem dL_shoot_16 : decode cL_shoot 16 = .ok (.ireturn, 1) := by decide +kernel
theorem dL_echo_0 : decode cL_echo 0 = .ok (.aload_n 3, 1) := by decide +kernel
theorem dL_echo_1 : decode cL_echo 1 = .ok (.iconst 0, 1) := by decide +kernel
theorem dL_echo_2 : decode cL_echo 2 = .ok (.aload_n 0, 1) := by decide +kernel
theorem dL_echo_3 : decode cL_echo 3 = .ok (.iload_n 1, 1) := by decide +kernel
theorem dL_echo_4 : decode cL_echo 4 = .ok (.iload_n 2, 1) := by decide +kernel
theorem dL_echo_5 : decode cL_echo 5 = .ok (.invokevirtual 55, 3) := by decide +kernel
theorem dL_echo_8 : decode cL_echo 8 = .ok (.i2l, 1) := by decide +kernel
theorem dL_echo_9 : decode cL_echo 9 = .ok (.lastore, 1) := by decide +kernel
theorem dL_echo_10 : decode cL_echo 10 = .ok (.goto 7, 3) := by decide +kernel
theorem dL_echo_13 : decode cL_echo 13 = .ok (.astore 4, 2) := by decide +kernel
theorem dL_echo_15 : decode cL_echo 15 = .ok (.iconst 1, 1) := by decide +kernel
theorem dL_echo_16 : decode cL_echo 16 = .ok (.ireturn, 1) := by decide +kernel
theorem dL_echo_17 : decode cL_echo 17 = .ok (.iconst 0, 1) := by decide +kernel
theorem dL_echo_18 : decode cL_echo 18 = .ok (.ireturn, 1) := by decide +kernel
theorem dL_pick_0 : decode cL_pick 0 = .ok (.aload_n 2, 1) := by decide +kernel
theorem dL_pick_1 : decode cL_pick 1 = .ok (.iconst 0, 1) := by decide +kernel
theorem dL_pick_2 : decode cL_pick 2 = .ok (.aload_n 0, 1) := by decide +kernel
theorem dL_pick_3 : decode cL_pick 3 = .ok (.iload_n 1, 1) := by decide +kernel
theorem dL_pick_4 : decode cL_pick 4 = .ok (.invokevirtual 58, 3) := by decide +kernel
theorem dL_pick_7 : decode cL_pick 7 = .ok (.i2l, 1) := by decide +kernel
theorem dL_pick_8 : decode cL_pick 8 = .ok (.lastore, 1) := by decide +kernel
theorem dL_pick_9 : decode cL_pick 9 = .ok (.goto 6, 3) := by decide +kernel
theorem dL_pick_12 : decode cL_pick 12 = .ok (.astore_n 3, 1) := by decide +kernel
theorem dL_pick_13 : decode cL_pick 13 = .ok (.iconst 1, 1) := by decide +kernel
theorem dL_pick_14 : decode cL_pick 14 = .ok (.ireturn, 1) := by decide +kernel
theorem dL_pick_15 : decode cL_pick 15 = .ok (.iconst 0, 1) := by decide +kernel
theorem dL_pick_16 : decode cL_pick 16 = .ok (.ireturn, 1) := by decide +kernel
theorem dL_isMasked_0 : decode cL_isMasked 0 = .ok (.aload_n 2, 1) := by decide +kernel
theorem dL_isMasked_1 : decode cL_isMasked 1 = .ok (.iconst 0, 1) := by decide +kernel
theorem dL_isMasked_2 : decode cL_isMasked 2 = .ok (.aload_n 0, 1) := by decide +kernel
theorem dL_isMasked_3 : decode cL_isMasked 3 = .ok (.iload_n 1, 1) := by decide +kernel
theorem dL_isMasked_4 : decode cL_isMasked 4 = .ok (.invokevirtual 61, 3) := by decide +kernel
theorem dL_isMasked_7 : decode cL_isMasked 7 = .ok (.ifCond .eq 7, 3) := by decide +kernel
theorem dL_isMasked_10 : decode cL_isMasked 10 = .ok (.lconst 1, 1) := by decide +kernel
theorem dL_isMasked_11 : decode cL_isMasked 11 = .ok (.goto 4, 3) := by decide +kernel
theorem dL_isMasked_14 : decode cL_isMasked 14 = .ok (.lconst 0, 1) := by decide +kernel
theorem dL_isMasked_15 : decode cL_isMasked 15 = .ok (.lastore, 1) := by decide +kernel
theorem dL_isMasked_16 : decode cL_isMasked 16 = .ok (.goto 6, 3) := by decide +kernel
theorem dL_isMasked_19 : decode cL_isMasked 19 = .ok (.astore_n 3, 1) := by decide +kernel
theorem dL_isMasked_20 : decode cL_isMasked 20 = .ok (.iconst 1, 1) := by decide +kernel
theorem dL_isMasked_21 : decode cL_isMasked 21 = .ok (.ireturn, 1) := by decide +kernel
theorem dL_isMasked_22 : decode cL_isMasked 22 = .ok (.iconst 0, 1) := by decide +kernel
theorem dL_isMasked_23 : decode cL_isMasked 23 = .ok (.ireturn, 1) := by decide +kernel
theorem dL_need_0 : decode cL_need 0 = .ok (.aload_n 2, 1) := by decide +kernel
theorem dL_need_1 : decode cL_need 1 = .ok (.iconst 0, 1) := by decide +kernel
theorem dL_need_2 : decode cL_need 2 = .ok (.aload_n 0, 1) := by decide +kernel
theorem dL_need_3 : decode cL_need 3 = .ok (.iload_n 1, 1) := by decide +kernel
theorem dL_need_4 : decode cL_need 4 = .ok (.invokevirtual 65, 3) := by decide +kernel
theorem dL_need_7 : decode cL_need 7 = .ok (.i2l, 1) := by decide +kernel
theorem dL_need_8 : decode cL_need 8 = .ok (.lastore, 1) := by decide +kernel
theorem dL_need_9 : decode cL_need 9 = .ok (.goto 6, 3) := by decide +kernel
theorem dL_need_12 : decode cL_need 12 = .ok (.astore_n 3, 1) := by decide +kernel
theorem dL_need_13 : decode cL_need 13 = .ok (.iconst 1, 1) := by decide +kernel
theorem dL_need_14 : decode cL_need 14 = .ok (.ireturn, 1) := by decide +kernel
theorem dL_need_15 : decode cL_need 15 = .ok (.iconst 0, 1) := by decide +kernel
theorem dL_need_16 : decode cL_need 16 = .ok (.ireturn, 1) := by decide +kernel
theorem dL_thing_0 : decode cL_thing 0 = .ok (.aload_n 3, 1) := by decide +kernel
theorem dL_thing_1 : decode cL_thing 1 = .ok (.iconst 0, 1) := by decide +kernel
theorem dL_thing_2 : decode cL_thing 2 = .ok (.aload_n 0, 1) := by decide +kernel
theorem dL_thing_3 : decode cL_thing 3 = .ok (.iload_n 1, 1) := by decide +kernel
theorem dL_thing_4 : decode cL_thing 4 = .ok (.iload_n 2, 1) := by decide +kernel
theorem dL_thing_5 : decode cL_thing 5 = .ok (.invokevirtual 68, 3) := by decide +kernel
theorem dL_thing_8 : decode cL_thing 8 = .ok (.i2l, 1) := by decide +kernel
theorem dL_thing_9 : decode cL_thing 9 = .ok (.lastore, 1) := by decide +kernel
theorem dL_thing_10 : decode cL_thing 10 = .ok (.goto 11, 3) := by decide +kernel
theorem dL_thing_13 : decode cL_thing 13 = .ok (.astore 4, 2) := by decide +kernel
theorem dL_thing_15 : decode cL_thing 15 = .ok (.iconst 1, 1) := by decide +kernel
theorem dL_thing_16 : decode cL_thing 16 = .ok (.ireturn, 1) := by decide +kernel
theorem dL_thing_17 : decode cL_thing 17 = .ok (.astore 4, 2) := by decide +kernel
theorem dL_thing_19 : decode cL_thing 19 = .ok (.iconst 2, 1) := by decide +kernel
theorem dL_thing_20 : decode cL_thing 20 = .ok (.ireturn, 1) := by decide +kernel
theorem dL_thing_21 : decode cL_thing 21 = .ok (.iconst 0, 1) := by decide +kernel
theorem dL_thing_22 : decode cL_thing 22 = .ok (.ireturn, 1) := by decide +kernel
theorem dL_angle_0 : decode cL_angle 0 = .ok (.aload_n 2, 1) := by decide +kernel
theorem dL_angle_1 : decode cL_angle 1 = .ok (.iconst 0, 1) := by decide +kernel
theorem dL_angle_2 : decode cL_angle 2 = .ok (.aload_n 0, 1) := by decide +kernel
theorem dL_angle_3 : decode cL_angle 3 = .ok (.iload_n 1, 1) := by decide +kernel
theorem dL_angle_4 : decode cL_angle 4 = .ok (.invokevirtual 71, 3) := by decide +kernel
theorem dL_angle_7 : decode cL_angle 7 = .ok (.i2l, 1) := by decide +kernel
theorem dL_angle_8 : decode cL_angle 8 = .ok (.lastore, 1) := by decide +kernel
theorem dL_angle_9 : decode cL_angle 9 = .ok (.goto 6, 3) := by decide +kernel
theorem dL_angle_12 : decode cL_angle 12 = .ok (.astore_n 3, 1) := by decide +kernel
theorem dL_angle_13 : decode cL_angle 13 = .ok (.iconst 1, 1) := by decide +kernel
theorem dL_angle_14 : decode cL_angle 14 = .ok (.ireturn, 1) := by decide +kernel
theorem dL_angle_15 : decode cL_angle 15 = .ok (.iconst 0, 1) := by decide +kernel
theorem dL_angle_16 : decode cL_angle 16 = .ok (.ireturn, 1) := by decide +kernel
theorem dL_tank_0 : decode cL_tank 0 = .ok (.aload_n 2, 1) := by decide +kernel
theorem dL_tank_1 : decode cL_tank 1 = .ok (.iconst 0, 1) := by decide +kernel
theorem dL_tank_2 : decode cL_tank 2 = .ok (.aload_n 0, 1) := by decide +kernel
theorem dL_tank_3 : decode cL_tank 3 = .ok (.iload_n 1, 1) := by decide +kernel
theorem dL_tank_4 : decode cL_tank 4 = .ok (.invokevirtual 74, 3) := by decide +kernel
theorem dL_tank_7 : decode cL_tank 7 = .ok (.i2l, 1) := by decide +kernel
theorem dL_tank_8 : decode cL_tank 8 = .ok (.lastore, 1) := by decide +kernel
theorem dL_tank_9 : decode cL_tank 9 = .ok (.goto 6, 3) := by decide +kernel
theorem dL_tank_12 : decode cL_tank 12 = .ok (.astore_n 3, 1) := by decide +kernel
theorem dL_tank_13 : decode cL_tank 13 = .ok (.iconst 1, 1) := by decide +kernel
theorem dL_tank_14 : decode cL_tank 14 = .ok (.ireturn, 1) := by decide +kernel
theorem dL_tank_15 : decode cL_tank 15 = .ok (.iconst 0, 1) := by decide +kernel
theorem dL_tank_16 : decode cL_tank 16 = .ok (.ireturn, 1) := by decide +kernel
theorem dL_setting_0 : decode cL_setting 0 = .ok (.aload_n 2, 1) := by decide +kernel
theorem dL_setting_1 : decode cL_setting 1 = .ok (.iconst 0, 1) := by decide +kernel
theorem dL_setting_2 : decode cL_setting 2 = .ok (.aload_n 0, 1) := by decide +kernel
theorem dL_setting_3 : decode cL_setting 3 = .ok (.iload_n 1, 1) := by decide +kernel
theorem dL_setting_4 : decode cL_setting 4 = .ok (.invokevirtual 77, 3) := by decide +kernel
theorem dL_setting_7 : decode cL_setting 7 = .ok (.i2l, 1) := by decide +kernel
theorem dL_setting_8 : decode cL_setting 8 = .ok (.lastore, 1) := by decide +kernel
theorem dL_setting_9 : decode cL_setting 9 = .ok (.goto 6, 3) := by decide +kernel
theorem dL_setting_12 : decode cL_setting 12 = .ok (.astore_n 3, 1) := by decide +kernel
theorem dL_setting_13 : decode cL_setting 13 = .ok (.iconst 1, 1) := by decide +kernel
theorem dL_setting_14 : decode cL_setting 14 = .ok (.ireturn, 1) := by decide +kernel
theorem dL_setting_15 : decode cL_setting 15 = .ok (.iconst 0, 1) := by decide +kernel
theorem dL_setting_16 : decode cL_setting 16 = .ok (.ireturn, 1) := by decide +kernel
theorem dL_gauge_0 : decode cL_gauge 0 = .ok (.aload_n 2, 1) := by decide +kernel
theorem dL_gauge_1 : decode cL_gauge 1 = .ok (.iconst 0, 1) := by decide +kernel
theorem dL_gauge_2 : decode cL_gauge 2 = .ok (.aload_n 0, 1) := by decide +kernel
theorem dL_gauge_3 : decode cL_gauge 3 = .ok (.iload_n 1, 1) := by decide +kernel
theorem dL_gauge_4 : decode cL_gauge 4 = .ok (.invokevirtual 80, 3) := by decide +kernel
theorem dL_gauge_7 : decode cL_gauge 7 = .ok (.i2l, 1) := by decide +kernel
theorem dL_gauge_8 : decode cL_gauge 8 = .ok (.lastore, 1) := by decide +kernel
theorem dL_gauge_9 : decode cL_gauge 9 = .ok (.goto 6, 3) := by decide +kernel
theorem dL_gauge_12 : decode cL_gauge 12 = .ok (.astore_n 3, 1) := by decide +kernel
theorem dL_gauge_13 : decode cL_gauge 13 = .ok (.iconst 1, 1) := by decide +kernel
theorem dL_gauge_14 : decode cL_gauge 14 = .ok (.ireturn, 1) := by decide +kernel
theorem dL_gauge_15 : decode cL_gauge 15 = .ok (.iconst 0, 1) := by decide +kernel
theorem dL_gauge_16 : decode cL_gauge 16 = .ok (.ireturn, 1) := by decide +kernel
theorem dL_toldAfter_0 : decode cL_toldAfter 0 = .ok (.aload_n 2, 1) := by decide +kernel
theorem dL_toldAfter_1 : decode cL_toldAfter 1 = .ok (.iconst 0, 1) := by decide +kernel
theorem dL_toldAfter_2 : decode cL_toldAfter 2 = .ok (.aload_n 0, 1) := by decide +kernel
theorem dL_toldAfter_3 : decode cL_toldAfter 3 = .ok (.iload_n 1, 1) := by decide +kernel
theorem dL_toldAfter_4 : decode cL_toldAfter 4 = .ok (.invokevirtual 83, 3) := by decide +kernel
theorem dL_toldAfter_7 : decode cL_toldAfter 7 = .ok (.i2l, 1) := by decide +kernel
theorem dL_toldAfter_8 : decode cL_toldAfter 8 = .ok (.lastore, 1) := by decide +kernel
theorem dL_toldAfter_9 : decode cL_toldAfter 9 = .ok (.goto 6, 3) := by decide +kernel
theorem dL_toldAfter_12 : decode cL_toldAfter 12 = .ok (.astore_n 3, 1) := by decide +kernel
theorem dL_toldAfter_13 : decode cL_toldAfter 13 = .ok (.iconst 1, 1) := by decide +kernel
theorem dL_toldAfter_14 : decode cL_toldAfter 14 = .ok (.ireturn, 1) := by decide +kernel
theorem dL_toldAfter_15 : decode cL_toldAfter 15 = .ok (.iconst 0, 1) := by decide +kernel
theorem dL_toldAfter_16 : decode cL_toldAfter 16 = .ok (.ireturn, 1) := by decide +kernel
theorem dL_worstError_0 : decode cL_worstError 0 = .ok (.aload_n 2, 1) := by decide +kernel
theorem dL_worstError_1 : decode cL_worstError 1 = .ok (.iconst 0, 1) := by decide +kernel
theorem dL_worstError_2 : decode cL_worstError 2 = .ok (.aload_n 0, 1) := by decide +kernel
theorem dL_worstError_3 : decode cL_worstError 3 = .ok (.iload_n 1, 1) := by decide +kernel
theorem dL_worstError_4 : decode cL_worstError 4 = .ok (.invokevirtual 86, 3) := by decide +kernel
theorem dL_worstError_7 : decode cL_worstError 7 = .ok (.i2l, 1) := by decide +kernel
theorem dL_worstError_8 : decode cL_worstError 8 = .ok (.lastore, 1) := by decide +kernel
theorem dL_worstError_9 : decode cL_worstError 9 = .ok (.goto 6, 3) := by decide +kernel
theorem dL_worstError_12 : decode cL_worstError 12 = .ok (.astore_n 3, 1) := by decide +kernel
theorem dL_worstError_13 : decode cL_worstError 13 = .ok (.iconst 1, 1) := by decide +kernel
theorem dL_worstError_14 : decode cL_worstError 14 = .ok (.ireturn, 1) := by decide +kernel
theorem dL_worstError_15 : decode cL_worstError 15 = .ok (.iconst 0, 1) := by decide +kernel
theorem dL_worstError_16 : decode cL_worstError 16 = .ok (.ireturn, 1) := by decide +kernel
theorem dL_bestMode_0 : decode cL_bestMode 0 = .ok (.aload_n 2, 1) := by decide +kernel
theorem dL_bestMode_1 : decode cL_bestMode 1 = .ok (.iconst 0, 1) := by decide +kernel
theorem dL_bestMode_2 : decode cL_bestMode 2 = .ok (.aload_n 0, 1) := by decide +kernel
theorem dL_bestMode_3 : decode cL_bestMode 3 = .ok (.iload_n 1, 1) := by decide +kernel
theorem dL_bestMode_4 : decode cL_bestMode 4 = .ok (.invokevirtual 89, 3) := by decide +kernel
theorem dL_bestMode_7 : decode cL_bestMode 7 = .ok (.i2l, 1) := by decide +kernel
theorem dL_bestMode_8 : decode cL_bestMode 8 = .ok (.lastore, 1) := by decide +kernel
theorem dL_bestMode_9 : decode cL_bestMode 9 = .ok (.goto 6, 3) := by decide +kernel
theorem dL_bestMode_12 : decode cL_bestMode 12 = .ok (.astore_n 3, 1) := by decide +kernel
theorem dL_bestMode_13 : decode cL_bestMode 13 = .ok (.iconst 1, 1) := by decide +kernel
theorem dL_bestMode_14 : decode cL_bestMode 14 = .ok (.ireturn, 1) := by decide +kernel
theorem dL_bestMode_15 : decode cL_bestMode 15 = .ok (.iconst 0, 1) := by decide +kernel
theorem dL_bestMode_16 : decode cL_bestMode 16 = .ok (.ireturn, 1) := by decide +kernel
theorem dL_type_0 : decode cL_type 0 = .ok (.aload_n 2, 1) := by decide +kernel
theorem dL_type_1 : decode cL_type 1 = .ok (.iconst 0, 1) := by decide +kernel
theorem dL_type_2 : decode cL_type 2 = .ok (.aload_n 0, 1) := by decide +kernel
theorem dL_type_3 : decode cL_type 3 = .ok (.iload_n 1, 1) := by decide +kernel
theorem dL_type_4 : decode cL_type 4 = .ok (.invokevirtual 92, 3) := by decide +kernel
theorem dL_type_7 : decode cL_type 7 = .ok (.i2l, 1) := by decide +kernel
theorem dL_type_8 : decode cL_type 8 = .ok (.lastore, 1) := by decide +kernel
theorem dL_type_9 : decode cL_type 9 = .ok (.goto 9, 3) := by decide +kernel
theorem dL_type_12 : decode cL_type 12 = .ok (.astore_n 3, 1) := by decide +kernel
theorem dL_type_13 : decode cL_type 13 = .ok (.iconst 1, 1) := by decide +kernel
theorem dL_type_14 : decode cL_type 14 = .ok (.ireturn, 1) := by decide +kernel
theorem dL_type_15 : decode cL_type 15 = .ok (.astore_n 3, 1) := by decide +kernel
theorem dL_type_16 : decode cL_type 16 = .ok (.iconst 2, 1) := by decide +kernel
theorem dL_type_17 : decode cL_type 17 = .ok (.ireturn, 1) := by decide +kernel
theorem dL_type_18 : decode cL_type 18 = .ok (.iconst 0, 1) := by decide +kernel
theorem dL_type_19 : decode cL_type 19 = .ok (.ireturn, 1) := by decide +kernel
theorem dL_undo_0 : decode cL_undo 0 = .ok (.aload_n 1, 1) := by decide +kernel
theorem dL_undo_1 : decode cL_undo 1 = .ok (.iconst 0, 1) := by decide +kernel
theorem dL_undo_2 : decode cL_undo 2 = .ok (.aload_n 0, 1) := by decide +kernel
theorem dL_undo_3 : decode cL_undo 3 = .ok (.invokevirtual 95, 3) := by decide +kernel
theorem dL_undo_6 : decode cL_undo 6 = .ok (.i2l, 1) := by decide +kernel
theorem dL_undo_7 : decode cL_undo 7 = .ok (.lastore, 1) := by decide +kernel
theorem dL_undo_8 : decode cL_undo 8 = .ok (.goto 6, 3) := by decide +kernel
theorem dL_undo_11 : decode cL_undo 11 = .ok (.astore_n 2, 1) := by decide +kernel
theorem dL_undo_12 : decode cL_undo 12 = .ok (.iconst 1, 1) := by decide +kernel
theorem dL_undo_13 : decode cL_undo 13 = .ok (.ireturn, 1) := by decide +kernel
theorem dL_undo_14 : decode cL_undo 14 = .ok (.iconst 0, 1) := by decide +kernel
theorem dL_undo_15 : decode cL_undo 15 = .ok (.ireturn, 1) := by decide +kernel
theorem dL_law_0 : decode cL_law 0 = .ok (.new 8, 3) := by decide +kernel
theorem dL_law_3 : decode cL_law 3 = .ok (.dup, 1) := by decide +kernel
theorem dL_law_4 : decode cL_law 4 = .ok (.invokespecial 99, 3) := by decide +kernel
theorem dL_law_7 : decode cL_law 7 = .ok (.astore_n 1, 1) := by decide +kernel
theorem dL_law_8 : decode cL_law 8 = .ok (.new 100, 3) := by decide +kernel
theorem dL_law_11 : decode cL_law 11 = .ok (.dup, 1) := by decide +kernel
theorem dL_law_12 : decode cL_law 12 = .ok (.invokespecial 102, 3) := by decide +kernel
theorem dL_law_15 : decode cL_law 15 = .ok (.astore_n 2, 1) := by decide +kernel
theorem dL_law_16 : decode cL_law 16 = .ok (.iconst 1, 1) := by decide +kernel
theorem dL_law_17 : decode cL_law 17 = .ok (.newarray .long, 2) := by decide +kernel
theorem dL_law_19 : decode cL_law 19 = .ok (.astore_n 3, 1) := by decide +kernel
theorem dL_law_20 : decode cL_law 20 = .ok (.iconst 0, 1) := by decide +kernel
theorem dL_law_21 : decode cL_law 21 = .ok (.istore 4, 2) := by decide +kernel
theorem dL_law_23 : decode cL_law 23 = .ok (.iload 4, 2) := by decide +kernel
theorem dL_law_25 : decode cL_law 25 = .ok (.aload_n 0, 1) := by decide +kernel
theorem dL_law_26 : decode cL_law 26 = .ok (.arraylength, 1) := by decide +kernel
theorem dL_law_27 : decode cL_law 27 = .ok (.bipush 6, 2) := by decide +kernel
theorem dL_law_29 : decode cL_law 29 = .ok (.isub, 1) := by decide +kernel
theorem dL_law_30 : decode cL_law 30 = .ok (.if_icmp .gt 1825, 3) := by decide +kernel
theorem dL_law_33 : decode cL_law 33 = .ok (.aload_n 0, 1) := by decide +kernel
theorem dL_law_34 : decode cL_law 34 = .ok (.iload 4, 2) := by decide +kernel
theorem dL_law_36 : decode cL_law 36 = .ok (.iaload, 1) := by decide +kernel
theorem dL_law_37 : decode cL_law 37 = .ok (.bipush 31, 2) := by decide +kernel
theorem dL_law_39 : decode cL_law 39 = .ok (.iand, 1) := by decide +kernel
theorem dL_law_40 : decode cL_law 40 = .ok (.tableswitch 1809 0 30 #[140, 196, 252, 308, 364, 432, 488, 592, 660, 716, 800, 856, 869, 925, 993, 1049, 1112, 1168, 1236, 1292, 1348, 1404, 1460, 1501, 1557, 1613, 1669, 1725, 1738, 1751, 1795], 140) := by decide +kernel
theorem dL_law_180 : decode cL_law 180 = .ok (.aload_n 1, 1) := by decide +kernel
theorem dL_law_181 : decode cL_law 181 = .ok (.aload_n 0, 1) := by decide +kernel
theorem dL_law_182 : decode cL_law 182 = .ok (.iload 4, 2) := by decide +kernel
theorem dL_law_184 : decode cL_law 184 = .ok (.iconst 1, 1) := by decide +kernel
theorem dL_law_185 : decode cL_law 185 = .ok (.iadd, 1) := by decide +kernel
theorem dL_law_186 : decode cL_law 186 = .ok (.iaload, 1) := by decide +kernel
theorem dL_law_187 : decode cL_law 187 = .ok (.aload_n 3, 1) := by decide +kernel
theorem dL_law_188 : decode cL_law 188 = .ok (.invokestatic 103, 3) := by decide +kernel
theorem dL_law_191 : decode cL_law 191 = .ok (.istore 5, 2) := by decide +kernel
theorem dL_law_193 : decode cL_law 193 = .ok (.aload_n 2, 1) := by decide +kernel
theorem dL_law_194 : decode cL_law 194 = .ok (.aload_n 0, 1) := by decide +kernel
theorem dL_law_195 : decode cL_law 195 = .ok (.iload 4, 2) := by decide +kernel
theorem dL_law_197 : decode cL_law 197 = .ok (.iconst 1, 1) := by decide +kernel
theorem dL_law_198 : decode cL_law 198 = .ok (.iadd, 1) := by decide +kernel
theorem dL_law_199 : decode cL_law 199 = .ok (.iaload, 1) := by decide +kernel
theorem dL_law_200 : decode cL_law 200 = .ok (.invokevirtual 108, 3) := by decide +kernel
theorem dL_law_203 : decode cL_law 203 = .ok (.istore 6, 2) := by decide +kernel
theorem dL_law_205 : decode cL_law 205 = .ok (.aload_n 2, 1) := by decide +kernel
theorem dL_law_206 : decode cL_law 206 = .ok (.invokevirtual 109, 3) := by decide +kernel
theorem dL_law_209 : decode cL_law 209 = .ok (.iload 5, 2) := by decide +kernel
theorem dL_law_211 : decode cL_law 211 = .ok (.if_icmp .eq 5, 3) := by decide +kernel
theorem dL_law_214 : decode cL_law 214 = .ok (.iconst 0, 1) := by decide +kernel
theorem dL_law_215 : decode cL_law 215 = .ok (.ireturn, 1) := by decide +kernel
theorem dL_law_216 : decode cL_law 216 = .ok (.iload 5, 2) := by decide +kernel
theorem dL_law_218 : decode cL_law 218 = .ok (.ifCond .ne 15, 3) := by decide +kernel
theorem dL_law_221 : decode cL_law 221 = .ok (.aload_n 3, 1) := by decide +kernel
theorem dL_law_222 : decode cL_law 222 = .ok (.iconst 0, 1) := by decide +kernel
theorem dL_law_223 : decode cL_law 223 = .ok (.laload, 1) := by decide +kernel
theorem dL_law_224 : decode cL_law 224 = .ok (.iload 6, 2) := by decide +kernel
theorem dL_law_226 : decode cL_law 226 = .ok (.i2l, 1) := by decide +kernel
theorem dL_law_227 : decode cL_law 227 = .ok (.lcmp, 1) := by decide +kernel
theorem dL_law_228 : decode cL_law 228 = .ok (.ifCond .eq 5, 3) := by decide +kernel
theorem dL_law_231 : decode cL_law 231 = .ok (.iconst 0, 1) := by decide +kernel
theorem dL_law_232 : decode cL_law 232 = .ok (.ireturn, 1) := by decide +kernel
theorem dL_law_233 : decode cL_law 233 = .ok (.goto 1616, 3) := by decide +kernel
theorem dL_law_236 : decode cL_law 236 = .ok (.aload_n 1, 1) := by decide +kernel
theorem dL_law_237 : decode cL_law 237 = .ok (.aload_n 0, 1) := by decide +kernel
theorem dL_law_238 : decode cL_law 238 = .ok (.iload 4, 2) := by decide +kernel
theorem dL_law_240 : decode cL_law 240 = .ok (.iconst 1, 1) := by decide +kernel
theorem dL_law_241 : decode cL_law 241 = .ok (.iadd, 1) := by decide +kernel
theorem dL_law_242 : decode cL_law 242 = .ok (.iaload, 1) := by decide +kernel
theorem dL_law_243 : decode cL_law 243 = .ok (.aload_n 3, 1) := by decide +kernel
theorem dL_law_244 : decode cL_law 244 = .ok (.invokestatic 112, 3) := by decide +kernel
theorem dL_law_247 : decode cL_law 247 = .ok (.istore 5, 2) := by decide +kernel
theorem dL_law_249 : decode cL_law 249 = .ok (.aload_n 2, 1) := by decide +kernel
theorem dL_law_250 : decode cL_law 250 = .ok (.aload_n 0, 1) := by decide +kernel
theorem dL_law_251 : decode cL_law 251 = .ok (.iload 4, 2) := by decide +kernel
theorem dL_law_253 : decode cL_law 253 = .ok (.iconst 1, 1) := by decide +kernel
theorem dL_law_254 : decode cL_law 254 = .ok (.iadd, 1) := by decide +kernel
theorem dL_law_255 : decode cL_law 255 = .ok (.iaload, 1) := by decide +kernel
theorem dL_law_256 : decode cL_law 256 = .ok (.invokevirtual 114, 3) := by decide +kernel
theorem dL_law_259 : decode cL_law 259 = .ok (.istore 6, 2) := by decide +kernel
theorem dL_law_261 : decode cL_law 261 = .ok (.aload_n 2, 1) := by decide +kernel
theorem dL_law_262 : decode cL_law 262 = .ok (.invokevirtual 109, 3) := by decide +kernel
theorem dL_law_265 : decode cL_law 265 = .ok (.iload 5, 2) := by decide +kernel
theorem dL_law_267 : decode cL_law 267 = .ok (.if_icmp .eq 5, 3) := by decide +kernel
theorem dL_law_270 : decode cL_law 270 = .ok (.iconst 0, 1) := by decide +kernel
theorem dL_law_271 : decode cL_law 271 = .ok (.ireturn, 1) := by decide +kernel
theorem dL_law_272 : decode cL_law 272 = .ok (.iload 5, 2) := by decide +kernel
theorem dL_law_274 : decode cL_law 274 = .ok (.ifCond .ne 15, 3) := by decide +kernel
theorem dL_law_277 : decode cL_law 277 = .ok (.aload_n 3, 1) := by decide +kernel
theorem dL_law_278 : decode cL_law 278 = .ok (.iconst 0, 1) := by decide +kernel
theorem dL_law_279 : decode cL_law 279 = .ok (.laload, 1) := by decide +kernel
theorem dL_law_280 : decode cL_law 280 = .ok (.iload 6, 2) := by decide +kernel
theorem dL_law_282 : decode cL_law 282 = .ok (.i2l, 1) := by decide +kernel
theorem dL_law_283 : decode cL_law 283 = .ok (.lcmp, 1) := by decide +kernel
theorem dL_law_284 : decode cL_law 284 = .ok (.ifCond .eq 5, 3) := by decide +kernel
theorem dL_law_287 : decode cL_law 287 = .ok (.iconst 0, 1) := by decide +kernel
theorem dL_law_288 : decode cL_law 288 = .ok (.ireturn, 1) := by decide +kernel
theorem dL_law_289 : decode cL_law 289 = .ok (.goto 1560, 3) := by decide +kernel
theorem dL_law_292 : decode cL_law 292 = .ok (.aload_n 1, 1) := by decide +kernel
theorem dL_law_293 : decode cL_law 293 = .ok (.aload_n 0, 1) := by decide +kernel
theorem dL_law_294 : decode cL_law 294 = .ok (.iload 4, 2) := by decide +kernel
theorem dL_law_296 : decode cL_law 296 = .ok (.iconst 1, 1) := by decide +kernel
theorem dL_law_297 : decode cL_law 297 = .ok (.iadd, 1) := by decide +kernel
theorem dL_law_298 : decode cL_law 298 = .ok (.iaload, 1) := by decide +kernel
theorem dL_law_299 : decode cL_law 299 = .ok (.aload_n 3, 1) := by decide +kernel
theorem dL_law_300 : decode cL_law 300 = .ok (.invokestatic 115, 3) := by decide +kernel
theorem dL_law_303 : decode cL_law 303 = .ok (.istore 5, 2) := by decide +kernel
theorem dL_law_305 : decode cL_law 305 = .ok (.aload_n 2, 1) := by decide +kernel
theorem dL_law_306 : decode cL_law 306 = .ok (.aload_n 0, 1) := by decide +kernel
theorem dL_law_307 : decode cL_law 307 = .ok (.iload 4, 2) := by decide +kernel
theorem dL_law_309 : decode cL_law 309 = .ok (.iconst 1, 1) := by decide +kernel
theorem dL_law_310 : decode cL_law 310 = .ok (.iadd, 1) := by decide +kernel
theorem dL_law_311 : decode cL_law 311 = .ok (.iaload, 1) := by decide +kernel
theorem dL_law_312 : decode cL_law 312 = .ok (.invokevirtual 117, 3) := by decide +kernel
theorem dL_law_315 : decode cL_law 315 = .ok (.istore 6, 2) := by decide +kernel
theorem dL_law_317 : decode cL_law 317 = .ok (.aload_n 2, 1) := by decide +kernel
theorem dL_law_318 : decode cL_law 318 = .ok (.invokevirtual 109, 3) := by decide +kernel
theorem dL_law_321 : decode cL_law 321 = .ok (.iload 5, 2) := by decide +kernel
theorem dL_law_323 : decode cL_law 323 = .ok (.if_icmp .eq 5, 3) := by decide +kernel
theorem dL_law_326 : decode cL_law 326 = .ok (.iconst 0, 1) := by decide +kernel
theorem dL_law_327 : decode cL_law 327 = .ok (.ireturn, 1) := by decide +kernel
theorem dL_law_328 : decode cL_law 328 = .ok (.iload 5, 2) := by decide +kernel
theorem dL_law_330 : decode cL_law 330 = .ok (.ifCond .ne 15, 3) := by decide +kernel
theorem dL_law_333 : decode cL_law 333 = .ok (.aload_n 3, 1) := by decide +kernel
theorem dL_law_334 : decode cL_law 334 = .ok (.iconst 0, 1) := by decide +kernel
theorem dL_law_335 : decode cL_law 335 = .ok (.laload, 1) := by decide +kernel
theorem dL_law_336 : decode cL_law 336 = .ok (.iload 6, 2) := by decide +kernel
theorem dL_law_338 : decode cL_law 338 = .ok (.i2l, 1) := by decide +kernel
theorem dL_law_339 : decode cL_law 339 = .ok (.lcmp, 1) := by decide +kernel
theorem dL_law_340 : decode cL_law 340 = .ok (.ifCond .eq 5, 3) := by decide +kernel
theorem dL_law_343 : decode cL_law 343 = .ok (.iconst 0, 1) := by decide +kernel
theorem dL_law_344 : decode cL_law 344 = .ok (.ireturn, 1) := by decide +kernel
theorem dL_law_345 : decode cL_law 345 = .ok (.goto 1504, 3) := by decide +kernel
theorem dL_law_348 : decode cL_law 348 = .ok (.aload_n 1, 1) := by decide +kernel
theorem dL_law_349 : decode cL_law 349 = .ok (.aload_n 0, 1) := by decide +kernel
theorem dL_law_350 : decode cL_law 350 = .ok (.iload 4, 2) := by decide +kernel
theorem dL_law_352 : decode cL_law 352 = .ok (.iconst 1, 1) := by decide +kernel
theorem dL_law_353 : decode cL_law 353 = .ok (.iadd, 1) := by decide +kernel
theorem dL_law_354 : decode cL_law 354 = .ok (.iaload, 1) := by decide +kernel
theorem dL_law_355 : decode cL_law 355 = .ok (.aload_n 3, 1) := by decide +kernel
theorem dL_law_356 : decode cL_law 356 = .ok (.invokestatic 118, 3) := by decide +kernel
theorem dL_law_359 : decode cL_law 359 = .ok (.istore 5, 2) := by decide +kernel
theorem dL_law_361 : decode cL_law 361 = .ok (.aload_n 2, 1) := by decide +kernel
theorem dL_law_362 : decode cL_law 362 = .ok (.aload_n 0, 1) := by decide +kernel
theorem dL_law_363 : decode cL_law 363 = .ok (.iload 4, 2) := by decide +kernel
theorem dL_law_365 : decode cL_law 365 = .ok (.iconst 1, 1) := by decide +kernel
theorem dL_law_366 : decode cL_law 366 = .ok (.iadd, 1) := by decide +kernel
theorem dL_law_367 : decode cL_law 367 = .ok (.iaload, 1) := by decide +kernel
theorem dL_law_368 : decode cL_law 368 = .ok (.invokevirtual 120, 3) := by decide +kernel
theorem dL_law_371 : decode cL_law 371 = .ok (.istore 6, 2) := by decide +kernel
theorem dL_law_373 : decode cL_law 373 = .ok (.aload_n 2, 1) := by decide +kernel
theorem dL_law_374 : decode cL_law 374 = .ok (.invokevirtual 109, 3) := by decide +kernel
theorem dL_law_377 : decode cL_law 377 = .ok (.iload 5, 2) := by decide +kernel
theorem dL_law_379 : decode cL_law 379 = .ok (.if_icmp .eq 5, 3) := by decide +kernel
theorem dL_law_382 : decode cL_law 382 = .ok (.iconst 0, 1) := by decide +kernel
theorem dL_law_383 : decode cL_law 383 = .ok (.ireturn, 1) := by decide +kernel
theorem dL_law_384 : decode cL_law 384 = .ok (.iload 5, 2) := by decide +kernel
theorem dL_law_386 : decode cL_law 386 = .ok (.ifCond .ne 15, 3) := by decide +kernel
theorem dL_law_389 : decode cL_law 389 = .ok (.aload_n 3, 1) := by decide +kernel
theorem dL_law_390 : decode cL_law 390 = .ok (.iconst 0, 1) := by decide +kernel
theorem dL_law_391 : decode cL_law 391 = .ok (.laload, 1) := by decide +kernel
theorem dL_law_392 : decode cL_law 392 = .ok (.iload 6, 2) := by decide +kernel
theorem dL_law_394 : decode cL_law 394 = .ok (.i2l, 1) := by decide +kernel
theorem dL_law_395 : decode cL_law 395 = .ok (.lcmp, 1) := by decide +kernel
theorem dL_law_396 : decode cL_law 396 = .ok (.ifCond .eq 5, 3) := by decide +kernel
theorem dL_law_399 : decode cL_law 399 = .ok (.iconst 0, 1) := by decide +kernel
theorem dL_law_400 : decode cL_law 400 = .ok (.ireturn, 1) := by decide +kernel
theorem dL_law_401 : decode cL_law 401 = .ok (.goto 1448, 3) := by decide +kernel
theorem dL_law_404 : decode cL_law 404 = .ok (.aload_n 1, 1) := by decide +kernel
theorem dL_law_405 : decode cL_law 405 = .ok (.aload_n 0, 1) := by decide +kernel
theorem dL_law_406 : decode cL_law 406 = .ok (.iload 4, 2) := by decide +kernel
theorem dL_law_408 : decode cL_law 408 = .ok (.iconst 1, 1) := by decide +kernel
theorem dL_law_409 : decode cL_law 409 = .ok (.iadd, 1) := by decide +kernel
theorem dL_law_410 : decode cL_law 410 = .ok (.iaload, 1) := by decide +kernel
theorem dL_law_411 : decode cL_law 411 = .ok (.aload_n 0, 1) := by decide +kernel
theorem dL_law_412 : decode cL_law 412 = .ok (.iload 4, 2) := by decide +kernel
theorem dL_law_414 : decode cL_law 414 = .ok (.iconst 2, 1) := by decide +kernel
theorem dL_law_415 : decode cL_law 415 = .ok (.iadd, 1) := by decide +kernel
theorem dL_law_416 : decode cL_law 416 = .ok (.iaload, 1) := by decide +kernel
theorem dL_law_417 : decode cL_law 417 = .ok (.aload_n 3, 1) := by decide +kernel
theorem dL_law_418 : decode cL_law 418 = .ok (.invokestatic 121, 3) := by decide +kernel
theorem dL_law_421 : decode cL_law 421 = .ok (.istore 5, 2) := by decide +kernel
theorem dL_law_423 : decode cL_law 423 = .ok (.aload_n 2, 1) := by decide +kernel
theorem dL_law_424 : decode cL_law 424 = .ok (.aload_n 0, 1) := by decide +kernel
theorem dL_law_425 : decode cL_law 425 = .ok (.iload 4, 2) := by decide +kernel
theorem dL_law_427 : decode cL_law 427 = .ok (.iconst 1, 1) := by decide +kernel
theorem dL_law_428 : decode cL_law 428 = .ok (.iadd, 1) := by decide +kernel
theorem dL_law_429 : decode cL_law 429 = .ok (.iaload, 1) := by decide +kernel
theorem dL_law_430 : decode cL_law 430 = .ok (.aload_n 0, 1) := by decide +kernel
theorem dL_law_431 : decode cL_law 431 = .ok (.iload 4, 2) := by decide +kernel
theorem dL_law_433 : decode cL_law 433 = .ok (.iconst 2, 1) := by decide +kernel
theorem dL_law_434 : decode cL_law 434 = .ok (.iadd, 1) := by decide +kernel
theorem dL_law_435 : decode cL_law 435 = .ok (.iaload, 1) := by decide +kernel
theorem dL_law_436 : decode cL_law 436 = .ok (.invokevirtual 124, 3) := by decide +kernel
theorem dL_law_439 : decode cL_law 439 = .ok (.istore 6, 2) := by decide +kernel
theorem dL_law_441 : decode cL_law 441 = .ok (.aload_n 2, 1) := by decide +kernel
theorem dL_law_442 : decode cL_law 442 = .ok (.invokevirtual 109, 3) := by decide +kernel
theorem dL_law_445 : decode cL_law 445 = .ok (.iload 5, 2) := by decide +kernel
theorem dL_law_447 : decode cL_law 447 = .ok (.if_icmp .eq 5, 3) := by decide +kernel
theorem dL_law_450 : decode cL_law 450 = .ok (.iconst 0, 1) := by decide +kernel
theorem dL_law_451 : decode cL_law 451 = .ok (.ireturn, 1) := by decide +kernel
theorem dL_law_452 : decode cL_law 452 = .ok (.iload 5, 2) := by decide +kernel
theorem dL_law_454 : decode cL_law 454 = .ok (.ifCond .ne 15, 3) := by decide +kernel
theorem dL_law_457 : decode cL_law 457 = .ok (.aload_n 3, 1) := by decide +kernel
theorem dL_law_458 : decode cL_law 458 = .ok (.iconst 0, 1) := by decide +kernel
theorem dL_law_459 : decode cL_law 459 = .ok (.laload, 1) := by decide +kernel
theorem dL_law_460 : decode cL_law 460 = .ok (.iload 6, 2) := by decide +kernel
theorem dL_law_462 : decode cL_law 462 = .ok (.i2l, 1) := by decide +kernel
theorem dL_law_463 : decode cL_law 463 = .ok (.lcmp, 1) := by decide +kernel
theorem dL_law_464 : decode cL_law 464 = .ok (.ifCond .eq 5, 3) := by decide +kernel
theorem dL_law_467 : decode cL_law 467 = .ok (.iconst 0, 1) := by decide +kernel
theorem dL_law_468 : decode cL_law 468 = .ok (.ireturn, 1) := by decide +kernel
theorem dL_law_469 : decode cL_law 469 = .ok (.goto 1380, 3) := by decide +kernel
theorem dL_law_472 : decode cL_law 472 = .ok (.aload_n 1, 1) := by decide +kernel
theorem dL_law_473 : decode cL_law 473 = .ok (.aload_n 0, 1) := by decide +kernel
theorem dL_law_474 : decode cL_law 474 = .ok (.iload 4, 2) := by decide +kernel
theorem dL_law_476 : decode cL_law 476 = .ok (.iconst 1, 1) := by decide +kernel
theorem dL_law_477 : decode cL_law 477 = .ok (.iadd, 1) := by decide +kernel
theorem dL_law_478 : decode cL_law 478 = .ok (.iaload, 1) := by decide +kernel
theorem dL_law_479 : decode cL_law 479 = .ok (.aload_n 3, 1) := by decide +kernel
theorem dL_law_480 : decode cL_law 480 = .ok (.invokestatic 125, 3) := by decide +kernel
theorem dL_law_483 : decode cL_law 483 = .ok (.istore 5, 2) := by decide +kernel
theorem dL_law_485 : decode cL_law 485 = .ok (.aload_n 2, 1) := by decide +kernel
theorem dL_law_486 : decode cL_law 486 = .ok (.aload_n 0, 1) := by decide +kernel
theorem dL_law_487 : decode cL_law 487 = .ok (.iload 4, 2) := by decide +kernel
theorem dL_law_489 : decode cL_law 489 = .ok (.iconst 1, 1) := by decide +kernel
theorem dL_law_490 : decode cL_law 490 = .ok (.iadd, 1) := by decide +kernel
theorem dL_law_491 : decode cL_law 491 = .ok (.iaload, 1) := by decide +kernel
theorem dL_law_492 : decode cL_law 492 = .ok (.invokevirtual 127, 3) := by decide +kernel
theorem dL_law_495 : decode cL_law 495 = .ok (.istore 6, 2) := by decide +kernel
theorem dL_law_497 : decode cL_law 497 = .ok (.aload_n 2, 1) := by decide +kernel
theorem dL_law_498 : decode cL_law 498 = .ok (.invokevirtual 109, 3) := by decide +kernel
theorem dL_law_501 : decode cL_law 501 = .ok (.iload 5, 2) := by decide +kernel
theorem dL_law_503 : decode cL_law 503 = .ok (.if_icmp .eq 5, 3) := by decide +kernel
theorem dL_law_506 : decode cL_law 506 = .ok (.iconst 0, 1) := by decide +kernel
theorem dL_law_507 : decode cL_law 507 = .ok (.ireturn, 1) := by decide +kernel
theorem dL_law_508 : decode cL_law 508 = .ok (.iload 5, 2) := by decide +kernel
theorem dL_law_510 : decode cL_law 510 = .ok (.ifCond .ne 15, 3) := by decide +kernel
theorem dL_law_513 : decode cL_law 513 = .ok (.aload_n 3, 1) := by decide +kernel
theorem dL_law_514 : decode cL_law 514 = .ok (.iconst 0, 1) := by decide +kernel
theorem dL_law_515 : decode cL_law 515 = .ok (.laload, 1) := by decide +kernel
theorem dL_law_516 : decode cL_law 516 = .ok (.iload 6, 2) := by decide +kernel
theorem dL_law_518 : decode cL_law 518 = .ok (.i2l, 1) := by decide +kernel
theorem dL_law_519 : decode cL_law 519 = .ok (.lcmp, 1) := by decide +kernel
theorem dL_law_520 : decode cL_law 520 = .ok (.ifCond .eq 5, 3) := by decide +kernel
theorem dL_law_523 : decode cL_law 523 = .ok (.iconst 0, 1) := by decide +kernel
theorem dL_law_524 : decode cL_law 524 = .ok (.ireturn, 1) := by decide +kernel
theorem dL_law_525 : decode cL_law 525 = .ok (.goto 1324, 3) := by decide +kernel
theorem dL_law_528 : decode cL_law 528 = .ok (.aload_n 1, 1) := by decide +kernel
theorem dL_law_529 : decode cL_law 529 = .ok (.aload_n 0, 1) := by decide +kernel
theorem dL_law_530 : decode cL_law 530 = .ok (.iload 4, 2) := by decide +kernel
theorem dL_law_532 : decode cL_law 532 = .ok (.iconst 1, 1) := by decide +kernel
theorem dL_law_533 : decode cL_law 533 = .ok (.iadd, 1) := by decide +kernel
theorem dL_law_534 : decode cL_law 534 = .ok (.iaload, 1) := by decide +kernel
theorem dL_law_535 : decode cL_law 535 = .ok (.aload_n 0, 1) := by decide +kernel
theorem dL_law_536 : decode cL_law 536 = .ok (.iload 4, 2) := by decide +kernel
theorem dL_law_538 : decode cL_law 538 = .ok (.iconst 2, 1) := by decide +kernel
theorem dL_law_539 : decode cL_law 539 = .ok (.iadd, 1) := by decide +kernel
theorem dL_law_540 : decode cL_law 540 = .ok (.iaload, 1) := by decide +kernel
theorem dL_law_541 : decode cL_law 541 = .ok (.aload_n 0, 1) := by decide +kernel
theorem dL_law_542 : decode cL_law 542 = .ok (.iload 4, 2) := by decide +kernel
theorem dL_law_544 : decode cL_law 544 = .ok (.iconst 3, 1) := by decide +kernel
theorem dL_law_545 : decode cL_law 545 = .ok (.iadd, 1) := by decide +kernel
theorem dL_law_546 : decode cL_law 546 = .ok (.iaload, 1) := by decide +kernel
theorem dL_law_547 : decode cL_law 547 = .ok (.aload_n 0, 1) := by decide +kernel
theorem dL_law_548 : decode cL_law 548 = .ok (.iload 4, 2) := by decide +kernel
theorem dL_law_550 : decode cL_law 550 = .ok (.iconst 4, 1) := by decide +kernel
theorem dL_law_551 : decode cL_law 551 = .ok (.iadd, 1) := by decide +kernel
theorem dL_law_552 : decode cL_law 552 = .ok (.iaload, 1) := by decide +kernel
theorem dL_law_553 : decode cL_law 553 = .ok (.aload_n 0, 1) := by decide +kernel
theorem dL_law_554 : decode cL_law 554 = .ok (.iload 4, 2) := by decide +kernel
theorem dL_law_556 : decode cL_law 556 = .ok (.iconst 5, 1) := by decide +kernel
theorem dL_law_557 : decode cL_law 557 = .ok (.iadd, 1) := by decide +kernel
theorem dL_law_558 : decode cL_law 558 = .ok (.iaload, 1) := by decide +kernel
theorem dL_law_559 : decode cL_law 559 = .ok (.aload_n 3, 1) := by decide +kernel
theorem dL_law_560 : decode cL_law 560 = .ok (.invokestatic 128, 3) := by decide +kernel
theorem dL_law_563 : decode cL_law 563 = .ok (.istore 5, 2) := by decide +kernel
theorem dL_law_565 : decode cL_law 565 = .ok (.aload_n 2, 1) := by decide +kernel
theorem dL_law_566 : decode cL_law 566 = .ok (.aload_n 0, 1) := by decide +kernel
theorem dL_law_567 : decode cL_law 567 = .ok (.iload 4, 2) := by decide +kernel
theorem dL_law_569 : decode cL_law 569 = .ok (.iconst 1, 1) := by decide +kernel
theorem dL_law_570 : decode cL_law 570 = .ok (.iadd, 1) := by decide +kernel
theorem dL_law_571 : decode cL_law 571 = .ok (.iaload, 1) := by decide +kernel
theorem dL_law_572 : decode cL_law 572 = .ok (.aload_n 0, 1) := by decide +kernel
theorem dL_law_573 : decode cL_law 573 = .ok (.iload 4, 2) := by decide +kernel
theorem dL_law_575 : decode cL_law 575 = .ok (.iconst 2, 1) := by decide +kernel
theorem dL_law_576 : decode cL_law 576 = .ok (.iadd, 1) := by decide +kernel
theorem dL_law_577 : decode cL_law 577 = .ok (.iaload, 1) := by decide +kernel
theorem dL_law_578 : decode cL_law 578 = .ok (.aload_n 0, 1) := by decide +kernel
theorem dL_law_579 : decode cL_law 579 = .ok (.iload 4, 2) := by decide +kernel
theorem dL_law_581 : decode cL_law 581 = .ok (.iconst 3, 1) := by decide +kernel
theorem dL_law_582 : decode cL_law 582 = .ok (.iadd, 1) := by decide +kernel
theorem dL_law_583 : decode cL_law 583 = .ok (.iaload, 1) := by decide +kernel
theorem dL_law_584 : decode cL_law 584 = .ok (.aload_n 0, 1) := by decide +kernel
theorem dL_law_585 : decode cL_law 585 = .ok (.iload 4, 2) := by decide +kernel
theorem dL_law_587 : decode cL_law 587 = .ok (.iconst 4, 1) := by decide +kernel
theorem dL_law_588 : decode cL_law 588 = .ok (.iadd, 1) := by decide +kernel
theorem dL_law_589 : decode cL_law 589 = .ok (.iaload, 1) := by decide +kernel
theorem dL_law_590 : decode cL_law 590 = .ok (.aload_n 0, 1) := by decide +kernel
theorem dL_law_591 : decode cL_law 591 = .ok (.iload 4, 2) := by decide +kernel
theorem dL_law_593 : decode cL_law 593 = .ok (.iconst 5, 1) := by decide +kernel
theorem dL_law_594 : decode cL_law 594 = .ok (.iadd, 1) := by decide +kernel
theorem dL_law_595 : decode cL_law 595 = .ok (.iaload, 1) := by decide +kernel
theorem dL_law_596 : decode cL_law 596 = .ok (.invokevirtual 131, 3) := by decide +kernel
theorem dL_law_599 : decode cL_law 599 = .ok (.istore 6, 2) := by decide +kernel
theorem dL_law_601 : decode cL_law 601 = .ok (.aload_n 2, 1) := by decide +kernel
theorem dL_law_602 : decode cL_law 602 = .ok (.invokevirtual 109, 3) := by decide +kernel
theorem dL_law_605 : decode cL_law 605 = .ok (.iload 5, 2) := by decide +kernel
theorem dL_law_607 : decode cL_law 607 = .ok (.if_icmp .eq 5, 3) := by decide +kernel
theorem dL_law_610 : decode cL_law 610 = .ok (.iconst 0, 1) := by decide +kernel
theorem dL_law_611 : decode cL_law 611 = .ok (.ireturn, 1) := by decide +kernel
theorem dL_law_612 : decode cL_law 612 = .ok (.iload 5, 2) := by decide +kernel
theorem dL_law_614 : decode cL_law 614 = .ok (.ifCond .ne 15, 3) := by decide +kernel
theorem dL_law_617 : decode cL_law 617 = .ok (.aload_n 3, 1) := by decide +kernel
theorem dL_law_618 : decode cL_law 618 = .ok (.iconst 0, 1) := by decide +kernel
theorem dL_law_619 : decode cL_law 619 = .ok (.laload, 1) := by decide +kernel
theorem dL_law_620 : decode cL_law 620 = .ok (.iload 6, 2) := by decide +kernel
theorem dL_law_622 : decode cL_law 622 = .ok (.i2l, 1) := by decide +kernel
theorem dL_law_623 : decode cL_law 623 = .ok (.lcmp, 1) := by decide +kernel
theorem dL_law_624 : decode cL_law 624 = .ok (.ifCond .eq 5, 3) := by decide +kernel
theorem dL_law_627 : decode cL_law 627 = .ok (.iconst 0, 1) := by decide +kernel
theorem dL_law_628 : decode cL_law 628 = .ok (.ireturn, 1) := by decide +kernel
theorem dL_law_629 : decode cL_law 629 = .ok (.goto 1220, 3) := by decide +kernel
theorem dL_law_632 : decode cL_law 632 = .ok (.aload_n 1, 1) := by decide +kernel
theorem dL_law_633 : decode cL_law 633 = .ok (.aload_n 0, 1) := by decide +kernel
theorem dL_law_634 : decode cL_law 634 = .ok (.iload 4, 2) := by decide +kernel
theorem dL_law_636 : decode cL_law 636 = .ok (.iconst 1, 1) := by decide +kernel
theorem dL_law_637 : decode cL_law 637 = .ok (.iadd, 1) := by decide +kernel
theorem dL_law_638 : decode cL_law 638 = .ok (.iaload, 1) := by decide +kernel
theorem dL_law_639 : decode cL_law 639 = .ok (.aload_n 0, 1) := by decide +kernel
theorem dL_law_640 : decode cL_law 640 = .ok (.iload 4, 2) := by decide +kernel
theorem dL_law_642 : decode cL_law 642 = .ok (.iconst 2, 1) := by decide +kernel
theorem dL_law_643 : decode cL_law 643 = .ok (.iadd, 1) := by decide +kernel
theorem dL_law_644 : decode cL_law 644 = .ok (.iaload, 1) := by decide +kernel
theorem dL_law_645 : decode cL_law 645 = .ok (.aload_n 3, 1) := by decide +kernel
theorem dL_law_646 : decode cL_law 646 = .ok (.invokestatic 132, 3) := by decide +kernel
theorem dL_law_649 : decode cL_law 649 = .ok (.istore 5, 2) := by decide +kernel
theorem dL_law_651 : decode cL_law 651 = .ok (.aload_n 2, 1) := by decide +kernel
theorem dL_law_652 : decode cL_law 652 = .ok (.aload_n 0, 1) := by decide +kernel
theorem dL_law_653 : decode cL_law 653 = .ok (.iload 4, 2) := by decide +kernel
theorem dL_law_655 : decode cL_law 655 = .ok (.iconst 1, 1) := by decide +kernel
theorem dL_law_656 : decode cL_law 656 = .ok (.iadd, 1) := by decide +kernel
theorem dL_law_657 : decode cL_law 657 = .ok (.iaload, 1) := by decide +kernel
theorem dL_law_658 : decode cL_law 658 = .ok (.aload_n 0, 1) := by decide +kernel
theorem dL_law_659 : decode cL_law 659 = .ok (.iload 4, 2) := by decide +kernel
theorem dL_law_661 : decode cL_law 661 = .ok (.iconst 2, 1) := by decide +kernel
theorem dL_law_662 : decode cL_law 662 = .ok (.iadd, 1) := by decide +kernel
theorem dL_law_663 : decode cL_law 663 = .ok (.iaload, 1) := by decide +kernel
theorem dL_law_664 : decode cL_law 664 = .ok (.invokevirtual 134, 3) := by decide +kernel
theorem dL_law_667 : decode cL_law 667 = .ok (.istore 6, 2) := by decide +kernel
theorem dL_law_669 : decode cL_law 669 = .ok (.aload_n 2, 1) := by decide +kernel
theorem dL_law_670 : decode cL_law 670 = .ok (.invokevirtual 109, 3) := by decide +kernel
theorem dL_law_673 : decode cL_law 673 = .ok (.iload 5, 2) := by decide +kernel
theorem dL_law_675 : decode cL_law 675 = .ok (.if_icmp .eq 5, 3) := by decide +kernel
theorem dL_law_678 : decode cL_law 678 = .ok (.iconst 0, 1) := by decide +kernel
theorem dL_law_679 : decode cL_law 679 = .ok (.ireturn, 1) := by decide +kernel
theorem dL_law_680 : decode cL_law 680 = .ok (.iload 5, 2) := by decide +kernel
theorem dL_law_682 : decode cL_law 682 = .ok (.ifCond .ne 15, 3) := by decide +kernel
theorem dL_law_685 : decode cL_law 685 = .ok (.aload_n 3, 1) := by decide +kernel
theorem dL_law_686 : decode cL_law 686 = .ok (.iconst 0, 1) := by decide +kernel
theorem dL_law_687 : decode cL_law 687 = .ok (.laload, 1) := by decide +kernel
theorem dL_law_688 : decode cL_law 688 = .ok (.iload 6, 2) := by decide +kernel
theorem dL_law_690 : decode cL_law 690 = .ok (.i2l, 1) := by decide +kernel
theorem dL_law_691 : decode cL_law 691 = .ok (.lcmp, 1) := by decide +kernel
theorem dL_law_692 : decode cL_law 692 = .ok (.ifCond .eq 5, 3) := by decide +kernel
theorem dL_law_695 : decode cL_law 695 = .ok (.iconst 0, 1) := by decide +kernel
theorem dL_law_696 : decode cL_law 696 = .ok (.ireturn, 1) := by decide +kernel
theorem dL_law_697 : decode cL_law 697 = .ok (.goto 1152, 3) := by decide +kernel
theorem dL_law_700 : decode cL_law 700 = .ok (.aload_n 1, 1) := by decide +kernel
theorem dL_law_701 : decode cL_law 701 = .ok (.aload_n 0, 1) := by decide +kernel
theorem dL_law_702 : decode cL_law 702 = .ok (.iload 4, 2) := by decide +kernel
theorem dL_law_704 : decode cL_law 704 = .ok (.iconst 1, 1) := by decide +kernel
theorem dL_law_705 : decode cL_law 705 = .ok (.iadd, 1) := by decide +kernel
theorem dL_law_706 : decode cL_law 706 = .ok (.iaload, 1) := by decide +kernel
theorem dL_law_707 : decode cL_law 707 = .ok (.aload_n 3, 1) := by decide +kernel
theorem dL_law_708 : decode cL_law 708 = .ok (.invokestatic 135, 3) := by decide +kernel
theorem dL_law_711 : decode cL_law 711 = .ok (.istore 5, 2) := by decide +kernel
theorem dL_law_713 : decode cL_law 713 = .ok (.aload_n 2, 1) := by decide +kernel
theorem dL_law_714 : decode cL_law 714 = .ok (.aload_n 0, 1) := by decide +kernel
theorem dL_law_715 : decode cL_law 715 = .ok (.iload 4, 2) := by decide +kernel
theorem dL_law_717 : decode cL_law 717 = .ok (.iconst 1, 1) := by decide +kernel
theorem dL_law_718 : decode cL_law 718 = .ok (.iadd, 1) := by decide +kernel
theorem dL_law_719 : decode cL_law 719 = .ok (.iaload, 1) := by decide +kernel
theorem dL_law_720 : decode cL_law 720 = .ok (.invokevirtual 137, 3) := by decide +kernel
theorem dL_law_723 : decode cL_law 723 = .ok (.istore 6, 2) := by decide +kernel
theorem dL_law_725 : decode cL_law 725 = .ok (.aload_n 2, 1) := by decide +kernel
theorem dL_law_726 : decode cL_law 726 = .ok (.invokevirtual 109, 3) := by decide +kernel
theorem dL_law_729 : decode cL_law 729 = .ok (.iload 5, 2) := by decide +kernel
theorem dL_law_731 : decode cL_law 731 = .ok (.if_icmp .eq 5, 3) := by decide +kernel
theorem dL_law_734 : decode cL_law 734 = .ok (.iconst 0, 1) := by decide +kernel
theorem dL_law_735 : decode cL_law 735 = .ok (.ireturn, 1) := by decide +kernel
theorem dL_law_736 : decode cL_law 736 = .ok (.iload 5, 2) := by decide +kernel
theorem dL_law_738 : decode cL_law 738 = .ok (.ifCond .ne 15, 3) := by decide +kernel
theorem dL_law_741 : decode cL_law 741 = .ok (.aload_n 3, 1) := by decide +kernel
theorem dL_law_742 : decode cL_law 742 = .ok (.iconst 0, 1) := by decide +kernel
theorem dL_law_743 : decode cL_law 743 = .ok (.laload, 1) := by decide +kernel
theorem dL_law_744 : decode cL_law 744 = .ok (.iload 6, 2) := by decide +kernel
theorem dL_law_746 : decode cL_law 746 = .ok (.i2l, 1) := by decide +kernel
theorem dL_law_747 : decode cL_law 747 = .ok (.lcmp, 1) := by decide +kernel
theorem dL_law_748 : decode cL_law 748 = .ok (.ifCond .eq 5, 3) := by decide +kernel
theorem dL_law_751 : decode cL_law 751 = .ok (.iconst 0, 1) := by decide +kernel
theorem dL_law_752 : decode cL_law 752 = .ok (.ireturn, 1) := by decide +kernel
theorem dL_law_753 : decode cL_law 753 = .ok (.goto 1096, 3) := by decide +kernel
theorem dL_law_756 : decode cL_law 756 = .ok (.aload_n 1, 1) := by decide +kernel
theorem dL_law_757 : decode cL_law 757 = .ok (.aload_n 0, 1) := by decide +kernel
theorem dL_law_758 : decode cL_law 758 = .ok (.iload 4, 2) := by decide +kernel
theorem dL_law_760 : decode cL_law 760 = .ok (.iconst 1, 1) := by decide +kernel
theorem dL_law_761 : decode cL_law 761 = .ok (.iadd, 1) := by decide +kernel
theorem dL_law_762 : decode cL_law 762 = .ok (.iaload, 1) := by decide +kernel
theorem dL_law_763 : decode cL_law 763 = .ok (.aload_n 0, 1) := by decide +kernel
theorem dL_law_764 : decode cL_law 764 = .ok (.iload 4, 2) := by decide +kernel
theorem dL_law_766 : decode cL_law 766 = .ok (.iconst 2, 1) := by decide +kernel
theorem dL_law_767 : decode cL_law 767 = .ok (.iadd, 1) := by decide +kernel
theorem dL_law_768 : decode cL_law 768 = .ok (.iaload, 1) := by decide +kernel
theorem dL_law_769 : decode cL_law 769 = .ok (.ifCond .eq 7, 3) := by decide +kernel
theorem dL_law_772 : decode cL_law 772 = .ok (.iconst 1, 1) := by decide +kernel
theorem dL_law_773 : decode cL_law 773 = .ok (.goto 4, 3) := by decide +kernel
theorem dL_law_776 : decode cL_law 776 = .ok (.iconst 0, 1) := by decide +kernel
theorem dL_law_777 : decode cL_law 777 = .ok (.aload_n 3, 1) := by decide +kernel
theorem dL_law_778 : decode cL_law 778 = .ok (.invokestatic 138, 3) := by decide +kernel
theorem dL_law_781 : decode cL_law 781 = .ok (.istore 5, 2) := by decide +kernel
theorem dL_law_783 : decode cL_law 783 = .ok (.aload_n 2, 1) := by decide +kernel
theorem dL_law_784 : decode cL_law 784 = .ok (.aload_n 0, 1) := by decide +kernel
theorem dL_law_785 : decode cL_law 785 = .ok (.iload 4, 2) := by decide +kernel
theorem dL_law_787 : decode cL_law 787 = .ok (.iconst 1, 1) := by decide +kernel
theorem dL_law_788 : decode cL_law 788 = .ok (.iadd, 1) := by decide +kernel
theorem dL_law_789 : decode cL_law 789 = .ok (.iaload, 1) := by decide +kernel
theorem dL_law_790 : decode cL_law 790 = .ok (.aload_n 0, 1) := by decide +kernel
theorem dL_law_791 : decode cL_law 791 = .ok (.iload 4, 2) := by decide +kernel
theorem dL_law_793 : decode cL_law 793 = .ok (.iconst 2, 1) := by decide +kernel
theorem dL_law_794 : decode cL_law 794 = .ok (.iadd, 1) := by decide +kernel
theorem dL_law_795 : decode cL_law 795 = .ok (.iaload, 1) := by decide +kernel
theorem dL_law_796 : decode cL_law 796 = .ok (.ifCond .eq 7, 3) := by decide +kernel
theorem dL_law_799 : decode cL_law 799 = .ok (.iconst 1, 1) := by decide +kernel
theorem dL_law_800 : decode cL_law 800 = .ok (.goto 4, 3) := by decide +kernel
theorem dL_law_803 : decode cL_law 803 = .ok (.iconst 0, 1) := by decide +kernel
theorem dL_law_804 : decode cL_law 804 = .ok (.invokevirtual 141, 3) := by decide +kernel
theorem dL_law_807 : decode cL_law 807 = .ok (.istore 6, 2) := by decide +kernel
theorem dL_law_809 : decode cL_law 809 = .ok (.aload_n 2, 1) := by decide +kernel
theorem dL_law_810 : decode cL_law 810 = .ok (.invokevirtual 109, 3) := by decide +kernel
theorem dL_law_813 : decode cL_law 813 = .ok (.iload 5, 2) := by decide +kernel
theorem dL_law_815 : decode cL_law 815 = .ok (.if_icmp .eq 5, 3) := by decide +kernel
theorem dL_law_818 : decode cL_law 818 = .ok (.iconst 0, 1) := by decide +kernel
theorem dL_law_819 : decode cL_law 819 = .ok (.ireturn, 1) := by decide +kernel
theorem dL_law_820 : decode cL_law 820 = .ok (.iload 5, 2) := by decide +kernel
theorem dL_law_822 : decode cL_law 822 = .ok (.ifCond .ne 15, 3) := by decide +kernel
theorem dL_law_825 : decode cL_law 825 = .ok (.aload_n 3, 1) := by decide +kernel
theorem dL_law_826 : decode cL_law 826 = .ok (.iconst 0, 1) := by decide +kernel
theorem dL_law_827 : decode cL_law 827 = .ok (.laload, 1) := by decide +kernel
theorem dL_law_828 : decode cL_law 828 = .ok (.iload 6, 2) := by decide +kernel
theorem dL_law_830 : decode cL_law 830 = .ok (.i2l, 1) := by decide +kernel
theorem dL_law_831 : decode cL_law 831 = .ok (.lcmp, 1) := by decide +kernel
theorem dL_law_832 : decode cL_law 832 = .ok (.ifCond .eq 5, 3) := by decide +kernel
theorem dL_law_835 : decode cL_law 835 = .ok (.iconst 0, 1) := by decide +kernel
theorem dL_law_836 : decode cL_law 836 = .ok (.ireturn, 1) := by decide +kernel
theorem dL_law_837 : decode cL_law 837 = .ok (.goto 1012, 3) := by decide +kernel
theorem dL_law_840 : decode cL_law 840 = .ok (.aload_n 1, 1) := by decide +kernel
theorem dL_law_841 : decode cL_law 841 = .ok (.aload_n 0, 1) := by decide +kernel
theorem dL_law_842 : decode cL_law 842 = .ok (.iload 4, 2) := by decide +kernel
theorem dL_law_844 : decode cL_law 844 = .ok (.iconst 1, 1) := by decide +kernel
theorem dL_law_845 : decode cL_law 845 = .ok (.iadd, 1) := by decide +kernel
theorem dL_law_846 : decode cL_law 846 = .ok (.iaload, 1) := by decide +kernel
theorem dL_law_847 : decode cL_law 847 = .ok (.aload_n 3, 1) := by decide +kernel
theorem dL_law_848 : decode cL_law 848 = .ok (.invokestatic 142, 3) := by decide +kernel
theorem dL_law_851 : decode cL_law 851 = .ok (.istore 5, 2) := by decide +kernel
theorem dL_law_853 : decode cL_law 853 = .ok (.aload_n 2, 1) := by decide +kernel
theorem dL_law_854 : decode cL_law 854 = .ok (.aload_n 0, 1) := by decide +kernel
theorem dL_law_855 : decode cL_law 855 = .ok (.iload 4, 2) := by decide +kernel
theorem dL_law_857 : decode cL_law 857 = .ok (.iconst 1, 1) := by decide +kernel
theorem dL_law_858 : decode cL_law 858 = .ok (.iadd, 1) := by decide +kernel
theorem dL_law_859 : decode cL_law 859 = .ok (.iaload, 1) := by decide +kernel
theorem dL_law_860 : decode cL_law 860 = .ok (.invokevirtual 144, 3) := by decide +kernel
theorem dL_law_863 : decode cL_law 863 = .ok (.istore 6, 2) := by decide +kernel
theorem dL_law_865 : decode cL_law 865 = .ok (.aload_n 2, 1) := by decide +kernel
theorem dL_law_866 : decode cL_law 866 = .ok (.invokevirtual 109, 3) := by decide +kernel
theorem dL_law_869 : decode cL_law 869 = .ok (.iload 5, 2) := by decide +kernel
theorem dL_law_871 : decode cL_law 871 = .ok (.if_icmp .eq 5, 3) := by decide +kernel
theorem dL_law_874 : decode cL_law 874 = .ok (.iconst 0, 1) := by decide +kernel
theorem dL_law_875 : decode cL_law 875 = .ok (.ireturn, 1) := by decide +kernel
theorem dL_law_876 : decode cL_law 876 = .ok (.iload 5, 2) := by decide +kernel
theorem dL_law_878 : decode cL_law 878 = .ok (.ifCond .ne 15, 3) := by decide +kernel
theorem dL_law_881 : decode cL_law 881 = .ok (.aload_n 3, 1) := by decide +kernel
theorem dL_law_882 : decode cL_law 882 = .ok (.iconst 0, 1) := by decide +kernel
theorem dL_law_883 : decode cL_law 883 = .ok (.laload, 1) := by decide +kernel
theorem dL_law_884 : decode cL_law 884 = .ok (.iload 6, 2) := by decide +kernel
theorem dL_law_886 : decode cL_law 886 = .ok (.i2l, 1) := by decide +kernel
theorem dL_law_887 : decode cL_law 887 = .ok (.lcmp, 1) := by decide +kernel
theorem dL_law_888 : decode cL_law 888 = .ok (.ifCond .eq 5, 3) := by decide +kernel
theorem dL_law_891 : decode cL_law 891 = .ok (.iconst 0, 1) := by decide +kernel
theorem dL_law_892 : decode cL_law 892 = .ok (.ireturn, 1) := by decide +kernel
theorem dL_law_893 : decode cL_law 893 = .ok (.goto 956, 3) := by decide +kernel
theorem dL_law_896 : decode cL_law 896 = .ok (.aload_n 1, 1) := by decide +kernel
theorem dL_law_897 : decode cL_law 897 = .ok (.invokevirtual 145, 3) := by decide +kernel
theorem dL_law_900 : decode cL_law 900 = .ok (.aload_n 2, 1) := by decide +kernel
theorem dL_law_901 : decode cL_law 901 = .ok (.invokevirtual 148, 3) := by decide +kernel
theorem dL_law_904 : decode cL_law 904 = .ok (.if_icmp .eq 945, 3) := by decide +kernel
theorem dL_law_907 : decode cL_law 907 = .ok (.iconst 0, 1) := by decide +kernel
theorem dL_law_908 : decode cL_law 908 = .ok (.ireturn, 1) := by decide +kernel
theorem dL_law_909 : decode cL_law 909 = .ok (.aload_n 1, 1) := by decide +kernel
theorem dL_law_910 : decode cL_law 910 = .ok (.aload_n 0, 1) := by decide +kernel
theorem dL_law_911 : decode cL_law 911 = .ok (.iload 4, 2) := by decide +kernel
theorem dL_law_913 : decode cL_law 913 = .ok (.iconst 1, 1) := by decide +kernel
theorem dL_law_914 : decode cL_law 914 = .ok (.iadd, 1) := by decide +kernel
theorem dL_law_915 : decode cL_law 915 = .ok (.iaload, 1) := by decide +kernel
theorem dL_law_916 : decode cL_law 916 = .ok (.aload_n 3, 1) := by decide +kernel
theorem dL_law_917 : decode cL_law 917 = .ok (.invokestatic 149, 3) := by decide +kernel
theorem dL_law_920 : decode cL_law 920 = .ok (.istore 5, 2) := by decide +kernel
theorem dL_law_922 : decode cL_law 922 = .ok (.aload_n 2, 1) := by decide +kernel
theorem dL_law_923 : decode cL_law 923 = .ok (.aload_n 0, 1) := by decide +kernel
theorem dL_law_924 : decode cL_law 924 = .ok (.iload 4, 2) := by decide +kernel
theorem dL_law_926 : decode cL_law 926 = .ok (.iconst 1, 1) := by decide +kernel
theorem dL_law_927 : decode cL_law 927 = .ok (.iadd, 1) := by decide +kernel
theorem dL_law_928 : decode cL_law 928 = .ok (.iaload, 1) := by decide +kernel
theorem dL_law_929 : decode cL_law 929 = .ok (.invokevirtual 151, 3) := by decide +kernel
theorem dL_law_932 : decode cL_law 932 = .ok (.istore 6, 2) := by decide +kernel
theorem dL_law_934 : decode cL_law 934 = .ok (.aload_n 2, 1) := by decide +kernel
theorem dL_law_935 : decode cL_law 935 = .ok (.invokevirtual 109, 3) := by decide +kernel
theorem dL_law_938 : decode cL_law 938 = .ok (.iload 5, 2) := by decide +kernel
theorem dL_law_940 : decode cL_law 940 = .ok (.if_icmp .eq 5, 3) := by decide +kernel
theorem dL_law_943 : decode cL_law 943 = .ok (.iconst 0, 1) := by decide +kernel
theorem dL_law_944 : decode cL_law 944 = .ok (.ireturn, 1) := by decide +kernel
theorem dL_law_945 : decode cL_law 945 = .ok (.iload 5, 2) := by decide +kernel
theorem dL_law_947 : decode cL_law 947 = .ok (.ifCond .ne 15, 3) := by decide +kernel
theorem dL_law_950 : decode cL_law 950 = .ok (.aload_n 3, 1) := by decide +kernel
theorem dL_law_951 : decode cL_law 951 = .ok (.iconst 0, 1) := by decide +kernel
theorem dL_law_952 : decode cL_law 952 = .ok (.laload, 1) := by decide +kernel
theorem dL_law_953 : decode cL_law 953 = .ok (.iload 6, 2) := by decide +kernel
theorem dL_law_955 : decode cL_law 955 = .ok (.i2l, 1) := by decide +kernel
theorem dL_law_956 : decode cL_law 956 = .ok (.lcmp, 1) := by decide +kernel
theorem dL_law_957 : decode cL_law 957 = .ok (.ifCond .eq 5, 3) := by decide +kernel
theorem dL_law_960 : decode cL_law 960 = .ok (.iconst 0, 1) := by decide +kernel
theorem dL_law_961 : decode cL_law 961 = .ok (.ireturn, 1) := by decide +kernel
theorem dL_law_962 : decode cL_law 962 = .ok (.goto 887, 3) := by decide +kernel
theorem dL_law_965 : decode cL_law 965 = .ok (.aload_n 1, 1) := by decide +kernel
theorem dL_law_966 : decode cL_law 966 = .ok (.aload_n 0, 1) := by decide +kernel
theorem dL_law_967 : decode cL_law 967 = .ok (.iload 4, 2) := by decide +kernel
theorem dL_law_969 : decode cL_law 969 = .ok (.iconst 1, 1) := by decide +kernel
theorem dL_law_970 : decode cL_law 970 = .ok (.iadd, 1) := by decide +kernel
theorem dL_law_971 : decode cL_law 971 = .ok (.iaload, 1) := by decide +kernel
theorem dL_law_972 : decode cL_law 972 = .ok (.aload_n 0, 1) := by decide +kernel
theorem dL_law_973 : decode cL_law 973 = .ok (.iload 4, 2) := by decide +kernel
theorem dL_law_975 : decode cL_law 975 = .ok (.iconst 2, 1) := by decide +kernel
theorem dL_law_976 : decode cL_law 976 = .ok (.iadd, 1) := by decide +kernel
theorem dL_law_977 : decode cL_law 977 = .ok (.iaload, 1) := by decide +kernel
theorem dL_law_978 : decode cL_law 978 = .ok (.aload_n 3, 1) := by decide +kernel
theorem dL_law_979 : decode cL_law 979 = .ok (.invokestatic 152, 3) := by decide +kernel
theorem dL_law_982 : decode cL_law 982 = .ok (.istore 5, 2) := by decide +kernel
theorem dL_law_984 : decode cL_law 984 = .ok (.aload_n 2, 1) := by decide +kernel
theorem dL_law_985 : decode cL_law 985 = .ok (.aload_n 0, 1) := by decide +kernel
theorem dL_law_986 : decode cL_law 986 = .ok (.iload 4, 2) := by decide +kernel
theorem dL_law_988 : decode cL_law 988 = .ok (.iconst 1, 1) := by decide +kernel
theorem dL_law_989 : decode cL_law 989 = .ok (.iadd, 1) := by decide +kernel
theorem dL_law_990 : decode cL_law 990 = .ok (.iaload, 1) := by decide +kernel
theorem dL_law_991 : decode cL_law 991 = .ok (.aload_n 0, 1) := by decide +kernel
theorem dL_law_992 : decode cL_law 992 = .ok (.iload 4, 2) := by decide +kernel
theorem dL_law_994 : decode cL_law 994 = .ok (.iconst 2, 1) := by decide +kernel
theorem dL_law_995 : decode cL_law 995 = .ok (.iadd, 1) := by decide +kernel
theorem dL_law_996 : decode cL_law 996 = .ok (.iaload, 1) := by decide +kernel
theorem dL_law_997 : decode cL_law 997 = .ok (.invokevirtual 154, 3) := by decide +kernel
theorem dL_law_1000 : decode cL_law 1000 = .ok (.istore 6, 2) := by decide +kernel
theorem dL_law_1002 : decode cL_law 1002 = .ok (.aload_n 2, 1) := by decide +kernel
theorem dL_law_1003 : decode cL_law 1003 = .ok (.invokevirtual 109, 3) := by decide +kernel
theorem dL_law_1006 : decode cL_law 1006 = .ok (.iload 5, 2) := by decide +kernel
theorem dL_law_1008 : decode cL_law 1008 = .ok (.if_icmp .eq 5, 3) := by decide +kernel
theorem dL_law_1011 : decode cL_law 1011 = .ok (.iconst 0, 1) := by decide +kernel
theorem dL_law_1012 : decode cL_law 1012 = .ok (.ireturn, 1) := by decide +kernel
theorem dL_law_1013 : decode cL_law 1013 = .ok (.iload 5, 2) := by decide +kernel
theorem dL_law_1015 : decode cL_law 1015 = .ok (.ifCond .ne 15, 3) := by decide +kernel
theorem dL_law_1018 : decode cL_law 1018 = .ok (.aload_n 3, 1) := by decide +kernel
theorem dL_law_1019 : decode cL_law 1019 = .ok (.iconst 0, 1) := by decide +kernel
theorem dL_law_1020 : decode cL_law 1020 = .ok (.laload, 1) := by decide +kernel
theorem dL_law_1021 : decode cL_law 1021 = .ok (.iload 6, 2) := by decide +kernel
theorem dL_law_1023 : decode cL_law 1023 = .ok (.i2l, 1) := by decide +kernel
theorem dL_law_1024 : decode cL_law 1024 = .ok (.lcmp, 1) := by decide +kernel
theorem dL_law_1025 : decode cL_law 1025 = .ok (.ifCond .eq 5, 3) := by decide +kernel
theorem dL_law_1028 : decode cL_law 1028 = .ok (.iconst 0, 1) := by decide +kernel
theorem dL_law_1029 : decode cL_law 1029 = .ok (.ireturn, 1) := by decide +kernel
theorem dL_law_1030 : decode cL_law 1030 = .ok (.goto 819, 3) := by decide +kernel
theorem dL_law_1033 : decode cL_law 1033 = .ok (.aload_n 1, 1) := by decide +kernel
theorem dL_law_1034 : decode cL_law 1034 = .ok (.aload_n 0, 1) := by decide +kernel
theorem dL_law_1035 : decode cL_law 1035 = .ok (.iload 4, 2) := by decide +kernel
theorem dL_law_1037 : decode cL_law 1037 = .ok (.iconst 1, 1) := by decide +kernel
theorem dL_law_1038 : decode cL_law 1038 = .ok (.iadd, 1) := by decide +kernel
theorem dL_law_1039 : decode cL_law 1039 = .ok (.iaload, 1) := by decide +kernel
theorem dL_law_1040 : decode cL_law 1040 = .ok (.aload_n 3, 1) := by decide +kernel
theorem dL_law_1041 : decode cL_law 1041 = .ok (.invokestatic 155, 3) := by decide +kernel
theorem dL_law_1044 : decode cL_law 1044 = .ok (.istore 5, 2) := by decide +kernel
theorem dL_law_1046 : decode cL_law 1046 = .ok (.aload_n 2, 1) := by decide +kernel
theorem dL_law_1047 : decode cL_law 1047 = .ok (.aload_n 0, 1) := by decide +kernel
theorem dL_law_1048 : decode cL_law 1048 = .ok (.iload 4, 2) := by decide +kernel
theorem dL_law_1050 : decode cL_law 1050 = .ok (.iconst 1, 1) := by decide +kernel
theorem dL_law_1051 : decode cL_law 1051 = .ok (.iadd, 1) := by decide +kernel
theorem dL_law_1052 : decode cL_law 1052 = .ok (.iaload, 1) := by decide +kernel
theorem dL_law_1053 : decode cL_law 1053 = .ok (.invokevirtual 157, 3) := by decide +kernel
theorem dL_law_1056 : decode cL_law 1056 = .ok (.istore 6, 2) := by decide +kernel
theorem dL_law_1058 : decode cL_law 1058 = .ok (.aload_n 2, 1) := by decide +kernel
theorem dL_law_1059 : decode cL_law 1059 = .ok (.invokevirtual 109, 3) := by decide +kernel
theorem dL_law_1062 : decode cL_law 1062 = .ok (.iload 5, 2) := by decide +kernel
theorem dL_law_1064 : decode cL_law 1064 = .ok (.if_icmp .eq 5, 3) := by decide +kernel
theorem dL_law_1067 : decode cL_law 1067 = .ok (.iconst 0, 1) := by decide +kernel
theorem dL_law_1068 : decode cL_law 1068 = .ok (.ireturn, 1) := by decide +kernel
theorem dL_law_1069 : decode cL_law 1069 = .ok (.iload 5, 2) := by decide +kernel
theorem dL_law_1071 : decode cL_law 1071 = .ok (.ifCond .ne 15, 3) := by decide +kernel
theorem dL_law_1074 : decode cL_law 1074 = .ok (.aload_n 3, 1) := by decide +kernel
theorem dL_law_1075 : decode cL_law 1075 = .ok (.iconst 0, 1) := by decide +kernel
theorem dL_law_1076 : decode cL_law 1076 = .ok (.laload, 1) := by decide +kernel
theorem dL_law_1077 : decode cL_law 1077 = .ok (.iload 6, 2) := by decide +kernel
theorem dL_law_1079 : decode cL_law 1079 = .ok (.i2l, 1) := by decide +kernel
theorem dL_law_1080 : decode cL_law 1080 = .ok (.lcmp, 1) := by decide +kernel
theorem dL_law_1081 : decode cL_law 1081 = .ok (.ifCond .eq 5, 3) := by decide +kernel
theorem dL_law_1084 : decode cL_law 1084 = .ok (.iconst 0, 1) := by decide +kernel
theorem dL_law_1085 : decode cL_law 1085 = .ok (.ireturn, 1) := by decide +kernel
theorem dL_law_1086 : decode cL_law 1086 = .ok (.goto 763, 3) := by decide +kernel
theorem dL_law_1089 : decode cL_law 1089 = .ok (.aload_n 1, 1) := by decide +kernel
theorem dL_law_1090 : decode cL_law 1090 = .ok (.aload_n 0, 1) := by decide +kernel
theorem dL_law_1091 : decode cL_law 1091 = .ok (.iload 4, 2) := by decide +kernel
theorem dL_law_1093 : decode cL_law 1093 = .ok (.iconst 1, 1) := by decide +kernel
theorem dL_law_1094 : decode cL_law 1094 = .ok (.iadd, 1) := by decide +kernel
theorem dL_law_1095 : decode cL_law 1095 = .ok (.iaload, 1) := by decide +kernel
theorem dL_law_1096 : decode cL_law 1096 = .ok (.aload_n 3, 1) := by decide +kernel
theorem dL_law_1097 : decode cL_law 1097 = .ok (.invokestatic 158, 3) := by decide +kernel
theorem dL_law_1100 : decode cL_law 1100 = .ok (.istore 5, 2) := by decide +kernel
theorem dL_law_1102 : decode cL_law 1102 = .ok (.aload_n 2, 1) := by decide +kernel
theorem dL_law_1103 : decode cL_law 1103 = .ok (.aload_n 0, 1) := by decide +kernel
theorem dL_law_1104 : decode cL_law 1104 = .ok (.iload 4, 2) := by decide +kernel
theorem dL_law_1106 : decode cL_law 1106 = .ok (.iconst 1, 1) := by decide +kernel
theorem dL_law_1107 : decode cL_law 1107 = .ok (.iadd, 1) := by decide +kernel
theorem dL_law_1108 : decode cL_law 1108 = .ok (.iaload, 1) := by decide +kernel
theorem dL_law_1109 : decode cL_law 1109 = .ok (.invokevirtual 160, 3) := by decide +kernel
theorem dL_law_1112 : decode cL_law 1112 = .ok (.istore 6, 2) := by decide +kernel
theorem dL_law_1114 : decode cL_law 1114 = .ok (.aload_n 2, 1) := by decide +kernel
theorem dL_law_1115 : decode cL_law 1115 = .ok (.invokevirtual 109, 3) := by decide +kernel
theorem dL_law_1118 : decode cL_law 1118 = .ok (.iload 5, 2) := by decide +kernel
theorem dL_law_1120 : decode cL_law 1120 = .ok (.if_icmp .eq 5, 3) := by decide +kernel
theorem dL_law_1123 : decode cL_law 1123 = .ok (.iconst 0, 1) := by decide +kernel
theorem dL_law_1124 : decode cL_law 1124 = .ok (.ireturn, 1) := by decide +kernel
theorem dL_law_1125 : decode cL_law 1125 = .ok (.iload 5, 2) := by decide +kernel
theorem dL_law_1127 : decode cL_law 1127 = .ok (.ifCond .ne 22, 3) := by decide +kernel
theorem dL_law_1130 : decode cL_law 1130 = .ok (.aload_n 3, 1) := by decide +kernel
theorem dL_law_1131 : decode cL_law 1131 = .ok (.iconst 0, 1) := by decide +kernel
theorem dL_law_1132 : decode cL_law 1132 = .ok (.laload, 1) := by decide +kernel
theorem dL_law_1133 : decode cL_law 1133 = .ok (.iload 6, 2) := by decide +kernel
theorem dL_law_1135 : decode cL_law 1135 = .ok (.ifCond .eq 7, 3) := by decide +kernel
theorem dL_law_1138 : decode cL_law 1138 = .ok (.lconst 1, 1) := by decide +kernel
theorem dL_law_1139 : decode cL_law 1139 = .ok (.goto 4, 3) := by decide +kernel
theorem dL_law_1142 : decode cL_law 1142 = .ok (.lconst 0, 1) := by decide +kernel
theorem dL_law_1143 : decode cL_law 1143 = .ok (.lcmp, 1) := by decide +kernel
theorem dL_law_1144 : decode cL_law 1144 = .ok (.ifCond .eq 5, 3) := by decide +kernel
theorem dL_law_1147 : decode cL_law 1147 = .ok (.iconst 0, 1) := by decide +kernel
theorem dL_law_1148 : decode cL_law 1148 = .ok (.ireturn, 1) := by decide +kernel
theorem dL_law_1149 : decode cL_law 1149 = .ok (.goto 700, 3) := by decide +kernel
theorem dL_law_1152 : decode cL_law 1152 = .ok (.aload_n 1, 1) := by decide +kernel
theorem dL_law_1153 : decode cL_law 1153 = .ok (.aload_n 0, 1) := by decide +kernel
theorem dL_law_1154 : decode cL_law 1154 = .ok (.iload 4, 2) := by decide +kernel
theorem dL_law_1156 : decode cL_law 1156 = .ok (.iconst 1, 1) := by decide +kernel
theorem dL_law_1157 : decode cL_law 1157 = .ok (.iadd, 1) := by decide +kernel
theorem dL_law_1158 : decode cL_law 1158 = .ok (.iaload, 1) := by decide +kernel
theorem dL_law_1159 : decode cL_law 1159 = .ok (.aload_n 3, 1) := by decide +kernel
theorem dL_law_1160 : decode cL_law 1160 = .ok (.invokestatic 161, 3) := by decide +kernel
theorem dL_law_1163 : decode cL_law 1163 = .ok (.istore 5, 2) := by decide +kernel
theorem dL_law_1165 : decode cL_law 1165 = .ok (.aload_n 2, 1) := by decide +kernel
theorem dL_law_1166 : decode cL_law 1166 = .ok (.aload_n 0, 1) := by decide +kernel
theorem dL_law_1167 : decode cL_law 1167 = .ok (.iload 4, 2) := by decide +kernel
theorem dL_law_1169 : decode cL_law 1169 = .ok (.iconst 1, 1) := by decide +kernel
theorem dL_law_1170 : decode cL_law 1170 = .ok (.iadd, 1) := by decide +kernel
theorem dL_law_1171 : decode cL_law 1171 = .ok (.iaload, 1) := by decide +kernel
theorem dL_law_1172 : decode cL_law 1172 = .ok (.invokevirtual 163, 3) := by decide +kernel
theorem dL_law_1175 : decode cL_law 1175 = .ok (.istore 6, 2) := by decide +kernel
theorem dL_law_1177 : decode cL_law 1177 = .ok (.aload_n 2, 1) := by decide +kernel
theorem dL_law_1178 : decode cL_law 1178 = .ok (.invokevirtual 109, 3) := by decide +kernel
theorem dL_law_1181 : decode cL_law 1181 = .ok (.iload 5, 2) := by decide +kernel
theorem dL_law_1183 : decode cL_law 1183 = .ok (.if_icmp .eq 5, 3) := by decide +kernel
theorem dL_law_1186 : decode cL_law 1186 = .ok (.iconst 0, 1) := by decide +kernel
theorem dL_law_1187 : decode cL_law 1187 = .ok (.ireturn, 1) := by decide +kernel
theorem dL_law_1188 : decode cL_law 1188 = .ok (.iload 5, 2) := by decide +kernel
theorem dL_law_1190 : decode cL_law 1190 = .ok (.ifCond .ne 15, 3) := by decide +kernel
theorem dL_law_1193 : decode cL_law 1193 = .ok (.aload_n 3, 1) := by decide +kernel
theorem dL_law_1194 : decode cL_law 1194 = .ok (.iconst 0, 1) := by decide +kernel
theorem dL_law_1195 : decode cL_law 1195 = .ok (.laload, 1) := by decide +kernel
theorem dL_law_1196 : decode cL_law 1196 = .ok (.iload 6, 2) := by decide +kernel
theorem dL_law_1198 : decode cL_law 1198 = .ok (.i2l, 1) := by decide +kernel
theorem dL_law_1199 : decode cL_law 1199 = .ok (.lcmp, 1) := by decide +kernel
theorem dL_law_1200 : decode cL_law 1200 = .ok (.ifCond .eq 5, 3) := by decide +kernel
theorem dL_law_1203 : decode cL_law 1203 = .ok (.iconst 0, 1) := by decide +kernel
theorem dL_law_1204 : decode cL_law 1204 = .ok (.ireturn, 1) := by decide +kernel
theorem dL_law_1205 : decode cL_law 1205 = .ok (.goto 644, 3) := by decide +kernel
theorem dL_law_1208 : decode cL_law 1208 = .ok (.aload_n 1, 1) := by decide +kernel
theorem dL_law_1209 : decode cL_law 1209 = .ok (.aload_n 0, 1) := by decide +kernel
theorem dL_law_1210 : decode cL_law 1210 = .ok (.iload 4, 2) := by decide +kernel
theorem dL_law_1212 : decode cL_law 1212 = .ok (.iconst 1, 1) := by decide +kernel
theorem dL_law_1213 : decode cL_law 1213 = .ok (.iadd, 1) := by decide +kernel
theorem dL_law_1214 : decode cL_law 1214 = .ok (.iaload, 1) := by decide +kernel
theorem dL_law_1215 : decode cL_law 1215 = .ok (.aload_n 0, 1) := by decide +kernel
theorem dL_law_1216 : decode cL_law 1216 = .ok (.iload 4, 2) := by decide +kernel
theorem dL_law_1218 : decode cL_law 1218 = .ok (.iconst 2, 1) := by decide +kernel
theorem dL_law_1219 : decode cL_law 1219 = .ok (.iadd, 1) := by decide +kernel
theorem dL_law_1220 : decode cL_law 1220 = .ok (.iaload, 1) := by decide +kernel
theorem dL_law_1221 : decode cL_law 1221 = .ok (.aload_n 3, 1) := by decide +kernel
theorem dL_law_1222 : decode cL_law 1222 = .ok (.invokestatic 164, 3) := by decide +kernel
theorem dL_law_1225 : decode cL_law 1225 = .ok (.istore 5, 2) := by decide +kernel
theorem dL_law_1227 : decode cL_law 1227 = .ok (.aload_n 2, 1) := by decide +kernel
theorem dL_law_1228 : decode cL_law 1228 = .ok (.aload_n 0, 1) := by decide +kernel
theorem dL_law_1229 : decode cL_law 1229 = .ok (.iload 4, 2) := by decide +kernel
theorem dL_law_1231 : decode cL_law 1231 = .ok (.iconst 1, 1) := by decide +kernel
theorem dL_law_1232 : decode cL_law 1232 = .ok (.iadd, 1) := by decide +kernel
theorem dL_law_1233 : decode cL_law 1233 = .ok (.iaload, 1) := by decide +kernel
theorem dL_law_1234 : decode cL_law 1234 = .ok (.aload_n 0, 1) := by decide +kernel
theorem dL_law_1235 : decode cL_law 1235 = .ok (.iload 4, 2) := by decide +kernel
theorem dL_law_1237 : decode cL_law 1237 = .ok (.iconst 2, 1) := by decide +kernel
theorem dL_law_1238 : decode cL_law 1238 = .ok (.iadd, 1) := by decide +kernel
theorem dL_law_1239 : decode cL_law 1239 = .ok (.iaload, 1) := by decide +kernel
theorem dL_law_1240 : decode cL_law 1240 = .ok (.invokevirtual 166, 3) := by decide +kernel
theorem dL_law_1243 : decode cL_law 1243 = .ok (.istore 6, 2) := by decide +kernel
theorem dL_law_1245 : decode cL_law 1245 = .ok (.aload_n 2, 1) := by decide +kernel
theorem dL_law_1246 : decode cL_law 1246 = .ok (.invokevirtual 109, 3) := by decide +kernel
theorem dL_law_1249 : decode cL_law 1249 = .ok (.iload 5, 2) := by decide +kernel
theorem dL_law_1251 : decode cL_law 1251 = .ok (.if_icmp .eq 5, 3) := by decide +kernel
theorem dL_law_1254 : decode cL_law 1254 = .ok (.iconst 0, 1) := by decide +kernel
theorem dL_law_1255 : decode cL_law 1255 = .ok (.ireturn, 1) := by decide +kernel
theorem dL_law_1256 : decode cL_law 1256 = .ok (.iload 5, 2) := by decide +kernel
theorem dL_law_1258 : decode cL_law 1258 = .ok (.ifCond .ne 15, 3) := by decide +kernel
theorem dL_law_1261 : decode cL_law 1261 = .ok (.aload_n 3, 1) := by decide +kernel
theorem dL_law_1262 : decode cL_law 1262 = .ok (.iconst 0, 1) := by decide +kernel
theorem dL_law_1263 : decode cL_law 1263 = .ok (.laload, 1) := by decide +kernel
theorem dL_law_1264 : decode cL_law 1264 = .ok (.iload 6, 2) := by decide +kernel
theorem dL_law_1266 : decode cL_law 1266 = .ok (.i2l, 1) := by decide +kernel
theorem dL_law_1267 : decode cL_law 1267 = .ok (.lcmp, 1) := by decide +kernel
theorem dL_law_1268 : decode cL_law 1268 = .ok (.ifCond .eq 5, 3) := by decide +kernel
theorem dL_law_1271 : decode cL_law 1271 = .ok (.iconst 0, 1) := by decide +kernel
theorem dL_law_1272 : decode cL_law 1272 = .ok (.ireturn, 1) := by decide +kernel
theorem dL_law_1273 : decode cL_law 1273 = .ok (.goto 576, 3) := by decide +kernel
theorem dL_law_1276 : decode cL_law 1276 = .ok (.aload_n 1, 1) := by decide +kernel
theorem dL_law_1277 : decode cL_law 1277 = .ok (.aload_n 0, 1) := by decide +kernel
theorem dL_law_1278 : decode cL_law 1278 = .ok (.iload 4, 2) := by decide +kernel
theorem dL_law_1280 : decode cL_law 1280 = .ok (.iconst 1, 1) := by decide +kernel
theorem dL_law_1281 : decode cL_law 1281 = .ok (.iadd, 1) := by decide +kernel
theorem dL_law_1282 : decode cL_law 1282 = .ok (.iaload, 1) := by decide +kernel
theorem dL_law_1283 : decode cL_law 1283 = .ok (.aload_n 3, 1) := by decide +kernel
theorem dL_law_1284 : decode cL_law 1284 = .ok (.invokestatic 167, 3) := by decide +kernel
theorem dL_law_1287 : decode cL_law 1287 = .ok (.istore 5, 2) := by decide +kernel
theorem dL_law_1289 : decode cL_law 1289 = .ok (.aload_n 2, 1) := by decide +kernel
theorem dL_law_1290 : decode cL_law 1290 = .ok (.aload_n 0, 1) := by decide +kernel
theorem dL_law_1291 : decode cL_law 1291 = .ok (.iload 4, 2) := by decide +kernel
theorem dL_law_1293 : decode cL_law 1293 = .ok (.iconst 1, 1) := by decide +kernel
theorem dL_law_1294 : decode cL_law 1294 = .ok (.iadd, 1) := by decide +kernel
theorem dL_law_1295 : decode cL_law 1295 = .ok (.iaload, 1) := by decide +kernel
theorem dL_law_1296 : decode cL_law 1296 = .ok (.invokevirtual 169, 3) := by decide +kernel
theorem dL_law_1299 : decode cL_law 1299 = .ok (.istore 6, 2) := by decide +kernel
theorem dL_law_1301 : decode cL_law 1301 = .ok (.aload_n 2, 1) := by decide +kernel
theorem dL_law_1302 : decode cL_law 1302 = .ok (.invokevirtual 109, 3) := by decide +kernel
theorem dL_law_1305 : decode cL_law 1305 = .ok (.iload 5, 2) := by decide +kernel
theorem dL_law_1307 : decode cL_law 1307 = .ok (.if_icmp .eq 5, 3) := by decide +kernel
theorem dL_law_1310 : decode cL_law 1310 = .ok (.iconst 0, 1) := by decide +kernel
theorem dL_law_1311 : decode cL_law 1311 = .ok (.ireturn, 1) := by decide +kernel
theorem dL_law_1312 : decode cL_law 1312 = .ok (.iload 5, 2) := by decide +kernel
theorem dL_law_1314 : decode cL_law 1314 = .ok (.ifCond .ne 15, 3) := by decide +kernel
theorem dL_law_1317 : decode cL_law 1317 = .ok (.aload_n 3, 1) := by decide +kernel
theorem dL_law_1318 : decode cL_law 1318 = .ok (.iconst 0, 1) := by decide +kernel
theorem dL_law_1319 : decode cL_law 1319 = .ok (.laload, 1) := by decide +kernel
theorem dL_law_1320 : decode cL_law 1320 = .ok (.iload 6, 2) := by decide +kernel
theorem dL_law_1322 : decode cL_law 1322 = .ok (.i2l, 1) := by decide +kernel
theorem dL_law_1323 : decode cL_law 1323 = .ok (.lcmp, 1) := by decide +kernel
theorem dL_law_1324 : decode cL_law 1324 = .ok (.ifCond .eq 5, 3) := by decide +kernel
theorem dL_law_1327 : decode cL_law 1327 = .ok (.iconst 0, 1) := by decide +kernel
theorem dL_law_1328 : decode cL_law 1328 = .ok (.ireturn, 1) := by decide +kernel
theorem dL_law_1329 : decode cL_law 1329 = .ok (.goto 520, 3) := by decide +kernel
theorem dL_law_1332 : decode cL_law 1332 = .ok (.aload_n 1, 1) := by decide +kernel
theorem dL_law_1333 : decode cL_law 1333 = .ok (.aload_n 0, 1) := by decide +kernel
theorem dL_law_1334 : decode cL_law 1334 = .ok (.iload 4, 2) := by decide +kernel
theorem dL_law_1336 : decode cL_law 1336 = .ok (.iconst 1, 1) := by decide +kernel
theorem dL_law_1337 : decode cL_law 1337 = .ok (.iadd, 1) := by decide +kernel
theorem dL_law_1338 : decode cL_law 1338 = .ok (.iaload, 1) := by decide +kernel
theorem dL_law_1339 : decode cL_law 1339 = .ok (.aload_n 3, 1) := by decide +kernel
theorem dL_law_1340 : decode cL_law 1340 = .ok (.invokestatic 170, 3) := by decide +kernel
theorem dL_law_1343 : decode cL_law 1343 = .ok (.istore 5, 2) := by decide +kernel
theorem dL_law_1345 : decode cL_law 1345 = .ok (.aload_n 2, 1) := by decide +kernel
theorem dL_law_1346 : decode cL_law 1346 = .ok (.aload_n 0, 1) := by decide +kernel
theorem dL_law_1347 : decode cL_law 1347 = .ok (.iload 4, 2) := by decide +kernel
theorem dL_law_1349 : decode cL_law 1349 = .ok (.iconst 1, 1) := by decide +kernel
theorem dL_law_1350 : decode cL_law 1350 = .ok (.iadd, 1) := by decide +kernel
theorem dL_law_1351 : decode cL_law 1351 = .ok (.iaload, 1) := by decide +kernel
theorem dL_law_1352 : decode cL_law 1352 = .ok (.invokevirtual 172, 3) := by decide +kernel
theorem dL_law_1355 : decode cL_law 1355 = .ok (.istore 6, 2) := by decide +kernel
theorem dL_law_1357 : decode cL_law 1357 = .ok (.aload_n 2, 1) := by decide +kernel
theorem dL_law_1358 : decode cL_law 1358 = .ok (.invokevirtual 109, 3) := by decide +kernel
theorem dL_law_1361 : decode cL_law 1361 = .ok (.iload 5, 2) := by decide +kernel
theorem dL_law_1363 : decode cL_law 1363 = .ok (.if_icmp .eq 5, 3) := by decide +kernel
theorem dL_law_1366 : decode cL_law 1366 = .ok (.iconst 0, 1) := by decide +kernel
theorem dL_law_1367 : decode cL_law 1367 = .ok (.ireturn, 1) := by decide +kernel
theorem dL_law_1368 : decode cL_law 1368 = .ok (.iload 5, 2) := by decide +kernel
theorem dL_law_1370 : decode cL_law 1370 = .ok (.ifCond .ne 15, 3) := by decide +kernel
theorem dL_law_1373 : decode cL_law 1373 = .ok (.aload_n 3, 1) := by decide +kernel
theorem dL_law_1374 : decode cL_law 1374 = .ok (.iconst 0, 1) := by decide +kernel
theorem dL_law_1375 : decode cL_law 1375 = .ok (.laload, 1) := by decide +kernel
theorem dL_law_1376 : decode cL_law 1376 = .ok (.iload 6, 2) := by decide +kernel
theorem dL_law_1378 : decode cL_law 1378 = .ok (.i2l, 1) := by decide +kernel
theorem dL_law_1379 : decode cL_law 1379 = .ok (.lcmp, 1) := by decide +kernel
theorem dL_law_1380 : decode cL_law 1380 = .ok (.ifCond .eq 5, 3) := by decide +kernel
theorem dL_law_1383 : decode cL_law 1383 = .ok (.iconst 0, 1) := by decide +kernel
theorem dL_law_1384 : decode cL_law 1384 = .ok (.ireturn, 1) := by decide +kernel
theorem dL_law_1385 : decode cL_law 1385 = .ok (.goto 464, 3) := by decide +kernel
theorem dL_law_1388 : decode cL_law 1388 = .ok (.aload_n 1, 1) := by decide +kernel
theorem dL_law_1389 : decode cL_law 1389 = .ok (.aload_n 0, 1) := by decide +kernel
theorem dL_law_1390 : decode cL_law 1390 = .ok (.iload 4, 2) := by decide +kernel
theorem dL_law_1392 : decode cL_law 1392 = .ok (.iconst 1, 1) := by decide +kernel
theorem dL_law_1393 : decode cL_law 1393 = .ok (.iadd, 1) := by decide +kernel
theorem dL_law_1394 : decode cL_law 1394 = .ok (.iaload, 1) := by decide +kernel
theorem dL_law_1395 : decode cL_law 1395 = .ok (.aload_n 3, 1) := by decide +kernel
theorem dL_law_1396 : decode cL_law 1396 = .ok (.invokestatic 173, 3) := by decide +kernel
theorem dL_law_1399 : decode cL_law 1399 = .ok (.istore 5, 2) := by decide +kernel
theorem dL_law_1401 : decode cL_law 1401 = .ok (.aload_n 2, 1) := by decide +kernel
theorem dL_law_1402 : decode cL_law 1402 = .ok (.aload_n 0, 1) := by decide +kernel
theorem dL_law_1403 : decode cL_law 1403 = .ok (.iload 4, 2) := by decide +kernel
theorem dL_law_1405 : decode cL_law 1405 = .ok (.iconst 1, 1) := by decide +kernel
theorem dL_law_1406 : decode cL_law 1406 = .ok (.iadd, 1) := by decide +kernel
theorem dL_law_1407 : decode cL_law 1407 = .ok (.iaload, 1) := by decide +kernel
theorem dL_law_1408 : decode cL_law 1408 = .ok (.invokevirtual 175, 3) := by decide +kernel
theorem dL_law_1411 : decode cL_law 1411 = .ok (.istore 6, 2) := by decide +kernel
theorem dL_law_1413 : decode cL_law 1413 = .ok (.aload_n 2, 1) := by decide +kernel
theorem dL_law_1414 : decode cL_law 1414 = .ok (.invokevirtual 109, 3) := by decide +kernel
theorem dL_law_1417 : decode cL_law 1417 = .ok (.iload 5, 2) := by decide +kernel
theorem dL_law_1419 : decode cL_law 1419 = .ok (.if_icmp .eq 5, 3) := by decide +kernel
theorem dL_law_1422 : decode cL_law 1422 = .ok (.iconst 0, 1) := by decide +kernel
theorem dL_law_1423 : decode cL_law 1423 = .ok (.ireturn, 1) := by decide +kernel
theorem dL_law_1424 : decode cL_law 1424 = .ok (.iload 5, 2) := by decide +kernel
theorem dL_law_1426 : decode cL_law 1426 = .ok (.ifCond .ne 15, 3) := by decide +kernel
theorem dL_law_1429 : decode cL_law 1429 = .ok (.aload_n 3, 1) := by decide +kernel
theorem dL_law_1430 : decode cL_law 1430 = .ok (.iconst 0, 1) := by decide +kernel
theorem dL_law_1431 : decode cL_law 1431 = .ok (.laload, 1) := by decide +kernel
theorem dL_law_1432 : decode cL_law 1432 = .ok (.iload 6, 2) := by decide +kernel
theorem dL_law_1434 : decode cL_law 1434 = .ok (.i2l, 1) := by decide +kernel
theorem dL_law_1435 : decode cL_law 1435 = .ok (.lcmp, 1) := by decide +kernel
theorem dL_law_1436 : decode cL_law 1436 = .ok (.ifCond .eq 5, 3) := by decide +kernel
theorem dL_law_1439 : decode cL_law 1439 = .ok (.iconst 0, 1) := by decide +kernel
theorem dL_law_1440 : decode cL_law 1440 = .ok (.ireturn, 1) := by decide +kernel
theorem dL_law_1441 : decode cL_law 1441 = .ok (.goto 408, 3) := by decide +kernel
theorem dL_law_1444 : decode cL_law 1444 = .ok (.aload_n 1, 1) := by decide +kernel
theorem dL_law_1445 : decode cL_law 1445 = .ok (.aload_n 0, 1) := by decide +kernel
theorem dL_law_1446 : decode cL_law 1446 = .ok (.iload 4, 2) := by decide +kernel
theorem dL_law_1448 : decode cL_law 1448 = .ok (.iconst 1, 1) := by decide +kernel
theorem dL_law_1449 : decode cL_law 1449 = .ok (.iadd, 1) := by decide +kernel
theorem dL_law_1450 : decode cL_law 1450 = .ok (.iaload, 1) := by decide +kernel
theorem dL_law_1451 : decode cL_law 1451 = .ok (.aload_n 3, 1) := by decide +kernel
theorem dL_law_1452 : decode cL_law 1452 = .ok (.invokestatic 176, 3) := by decide +kernel
theorem dL_law_1455 : decode cL_law 1455 = .ok (.istore 5, 2) := by decide +kernel
theorem dL_law_1457 : decode cL_law 1457 = .ok (.aload_n 2, 1) := by decide +kernel
theorem dL_law_1458 : decode cL_law 1458 = .ok (.aload_n 0, 1) := by decide +kernel
theorem dL_law_1459 : decode cL_law 1459 = .ok (.iload 4, 2) := by decide +kernel
theorem dL_law_1461 : decode cL_law 1461 = .ok (.iconst 1, 1) := by decide +kernel
theorem dL_law_1462 : decode cL_law 1462 = .ok (.iadd, 1) := by decide +kernel
theorem dL_law_1463 : decode cL_law 1463 = .ok (.iaload, 1) := by decide +kernel
theorem dL_law_1464 : decode cL_law 1464 = .ok (.invokevirtual 178, 3) := by decide +kernel
theorem dL_law_1467 : decode cL_law 1467 = .ok (.istore 6, 2) := by decide +kernel
theorem dL_law_1469 : decode cL_law 1469 = .ok (.aload_n 2, 1) := by decide +kernel
theorem dL_law_1470 : decode cL_law 1470 = .ok (.invokevirtual 109, 3) := by decide +kernel
theorem dL_law_1473 : decode cL_law 1473 = .ok (.iload 5, 2) := by decide +kernel
theorem dL_law_1475 : decode cL_law 1475 = .ok (.if_icmp .eq 5, 3) := by decide +kernel
theorem dL_law_1478 : decode cL_law 1478 = .ok (.iconst 0, 1) := by decide +kernel
theorem dL_law_1479 : decode cL_law 1479 = .ok (.ireturn, 1) := by decide +kernel
theorem dL_law_1480 : decode cL_law 1480 = .ok (.iload 5, 2) := by decide +kernel
theorem dL_law_1482 : decode cL_law 1482 = .ok (.ifCond .ne 15, 3) := by decide +kernel
theorem dL_law_1485 : decode cL_law 1485 = .ok (.aload_n 3, 1) := by decide +kernel
theorem dL_law_1486 : decode cL_law 1486 = .ok (.iconst 0, 1) := by decide +kernel
theorem dL_law_1487 : decode cL_law 1487 = .ok (.laload, 1) := by decide +kernel
theorem dL_law_1488 : decode cL_law 1488 = .ok (.iload 6, 2) := by decide +kernel
theorem dL_law_1490 : decode cL_law 1490 = .ok (.i2l, 1) := by decide +kernel
theorem dL_law_1491 : decode cL_law 1491 = .ok (.lcmp, 1) := by decide +kernel
theorem dL_law_1492 : decode cL_law 1492 = .ok (.ifCond .eq 5, 3) := by decide +kernel
theorem dL_law_1495 : decode cL_law 1495 = .ok (.iconst 0, 1) := by decide +kernel
theorem dL_law_1496 : decode cL_law 1496 = .ok (.ireturn, 1) := by decide +kernel
theorem dL_law_1497 : decode cL_law 1497 = .ok (.goto 352, 3) := by decide +kernel
theorem dL_law_1500 : decode cL_law 1500 = .ok (.aload_n 1, 1) := by decide +kernel
theorem dL_law_1501 : decode cL_law 1501 = .ok (.invokevirtual 179, 3) := by decide +kernel
theorem dL_law_1504 : decode cL_law 1504 = .ok (.dstore 5, 2) := by decide +kernel
theorem dL_law_1506 : decode cL_law 1506 = .ok (.aload_n 2, 1) := by decide +kernel
theorem dL_law_1507 : decode cL_law 1507 = .ok (.invokevirtual 183, 3) := by decide +kernel
theorem dL_law_1510 : decode cL_law 1510 = .ok (.dstore 7, 2) := by decide +kernel
theorem dL_law_1512 : decode cL_law 1512 = .ok (.dload 5, 2) := by decide +kernel
theorem dL_law_1514 : decode cL_law 1514 = .ok (.dload 7, 2) := by decide +kernel
theorem dL_law_1516 : decode cL_law 1516 = .ok (.dcmp .l, 1) := by decide +kernel
theorem dL_law_1517 : decode cL_law 1517 = .ok (.ifCond .eq 21, 3) := by decide +kernel
theorem dL_law_1520 : decode cL_law 1520 = .ok (.dload 5, 2) := by decide +kernel
theorem dL_law_1522 : decode cL_law 1522 = .ok (.dload 5, 2) := by decide +kernel
theorem dL_law_1524 : decode cL_law 1524 = .ok (.dcmp .l, 1) := by decide +kernel
theorem dL_law_1525 : decode cL_law 1525 = .ok (.ifCond .eq 11, 3) := by decide +kernel
theorem dL_law_1528 : decode cL_law 1528 = .ok (.dload 7, 2) := by decide +kernel
theorem dL_law_1530 : decode cL_law 1530 = .ok (.dload 7, 2) := by decide +kernel
theorem dL_law_1532 : decode cL_law 1532 = .ok (.dcmp .l, 1) := by decide +kernel
theorem dL_law_1533 : decode cL_law 1533 = .ok (.ifCond .ne 5, 3) := by decide +kernel
theorem dL_law_1536 : decode cL_law 1536 = .ok (.iconst 0, 1) := by decide +kernel
theorem dL_law_1537 : decode cL_law 1537 = .ok (.ireturn, 1) := by decide +kernel
theorem dL_law_1538 : decode cL_law 1538 = .ok (.goto 311, 3) := by decide +kernel
theorem dL_law_1541 : decode cL_law 1541 = .ok (.aload_n 1, 1) := by decide +kernel
theorem dL_law_1542 : decode cL_law 1542 = .ok (.aload_n 0, 1) := by decide +kernel
theorem dL_law_1543 : decode cL_law 1543 = .ok (.iload 4, 2) := by decide +kernel
theorem dL_law_1545 : decode cL_law 1545 = .ok (.iconst 1, 1) := by decide +kernel
theorem dL_law_1546 : decode cL_law 1546 = .ok (.iadd, 1) := by decide +kernel
theorem dL_law_1547 : decode cL_law 1547 = .ok (.iaload, 1) := by decide +kernel
theorem dL_law_1548 : decode cL_law 1548 = .ok (.aload_n 3, 1) := by decide +kernel
theorem dL_law_1549 : decode cL_law 1549 = .ok (.invokestatic 184, 3) := by decide +kernel
theorem dL_law_1552 : decode cL_law 1552 = .ok (.istore 5, 2) := by decide +kernel
theorem dL_law_1554 : decode cL_law 1554 = .ok (.aload_n 2, 1) := by decide +kernel
theorem dL_law_1555 : decode cL_law 1555 = .ok (.aload_n 0, 1) := by decide +kernel
theorem dL_law_1556 : decode cL_law 1556 = .ok (.iload 4, 2) := by decide +kernel
theorem dL_law_1558 : decode cL_law 1558 = .ok (.iconst 1, 1) := by decide +kernel
theorem dL_law_1559 : decode cL_law 1559 = .ok (.iadd, 1) := by decide +kernel
theorem dL_law_1560 : decode cL_law 1560 = .ok (.iaload, 1) := by decide +kernel
theorem dL_law_1561 : decode cL_law 1561 = .ok (.invokevirtual 186, 3) := by decide +kernel
theorem dL_law_1564 : decode cL_law 1564 = .ok (.istore 6, 2) := by decide +kernel
theorem dL_law_1566 : decode cL_law 1566 = .ok (.aload_n 2, 1) := by decide +kernel
theorem dL_law_1567 : decode cL_law 1567 = .ok (.invokevirtual 109, 3) := by decide +kernel
theorem dL_law_1570 : decode cL_law 1570 = .ok (.iload 5, 2) := by decide +kernel
theorem dL_law_1572 : decode cL_law 1572 = .ok (.if_icmp .eq 5, 3) := by decide +kernel
theorem dL_law_1575 : decode cL_law 1575 = .ok (.iconst 0, 1) := by decide +kernel
theorem dL_law_1576 : decode cL_law 1576 = .ok (.ireturn, 1) := by decide +kernel
theorem dL_law_1577 : decode cL_law 1577 = .ok (.iload 5, 2) := by decide +kernel
theorem dL_law_1579 : decode cL_law 1579 = .ok (.ifCond .ne 15, 3) := by decide +kernel
theorem dL_law_1582 : decode cL_law 1582 = .ok (.aload_n 3, 1) := by decide +kernel
theorem dL_law_1583 : decode cL_law 1583 = .ok (.iconst 0, 1) := by decide +kernel
theorem dL_law_1584 : decode cL_law 1584 = .ok (.laload, 1) := by decide +kernel
theorem dL_law_1585 : decode cL_law 1585 = .ok (.iload 6, 2) := by decide +kernel
theorem dL_law_1587 : decode cL_law 1587 = .ok (.i2l, 1) := by decide +kernel
theorem dL_law_1588 : decode cL_law 1588 = .ok (.lcmp, 1) := by decide +kernel
theorem dL_law_1589 : decode cL_law 1589 = .ok (.ifCond .eq 5, 3) := by decide +kernel
theorem dL_law_1592 : decode cL_law 1592 = .ok (.iconst 0, 1) := by decide +kernel
theorem dL_law_1593 : decode cL_law 1593 = .ok (.ireturn, 1) := by decide +kernel
theorem dL_law_1594 : decode cL_law 1594 = .ok (.goto 255, 3) := by decide +kernel
theorem dL_law_1597 : decode cL_law 1597 = .ok (.aload_n 1, 1) := by decide +kernel
theorem dL_law_1598 : decode cL_law 1598 = .ok (.aload_n 0, 1) := by decide +kernel
theorem dL_law_1599 : decode cL_law 1599 = .ok (.iload 4, 2) := by decide +kernel
theorem dL_law_1601 : decode cL_law 1601 = .ok (.iconst 1, 1) := by decide +kernel
theorem dL_law_1602 : decode cL_law 1602 = .ok (.iadd, 1) := by decide +kernel
theorem dL_law_1603 : decode cL_law 1603 = .ok (.iaload, 1) := by decide +kernel
theorem dL_law_1604 : decode cL_law 1604 = .ok (.aload_n 3, 1) := by decide +kernel
theorem dL_law_1605 : decode cL_law 1605 = .ok (.invokestatic 187, 3) := by decide +kernel
theorem dL_law_1608 : decode cL_law 1608 = .ok (.istore 5, 2) := by decide +kernel
theorem dL_law_1610 : decode cL_law 1610 = .ok (.aload_n 2, 1) := by decide +kernel
theorem dL_law_1611 : decode cL_law 1611 = .ok (.aload_n 0, 1) := by decide +kernel
theorem dL_law_1612 : decode cL_law 1612 = .ok (.iload 4, 2) := by decide +kernel
theorem dL_law_1614 : decode cL_law 1614 = .ok (.iconst 1, 1) := by decide +kernel
theorem dL_law_1615 : decode cL_law 1615 = .ok (.iadd, 1) := by decide +kernel
theorem dL_law_1616 : decode cL_law 1616 = .ok (.iaload, 1) := by decide +kernel
theorem dL_law_1617 : decode cL_law 1617 = .ok (.invokevirtual 189, 3) := by decide +kernel
theorem dL_law_1620 : decode cL_law 1620 = .ok (.istore 6, 2) := by decide +kernel
theorem dL_law_1622 : decode cL_law 1622 = .ok (.aload_n 2, 1) := by decide +kernel
theorem dL_law_1623 : decode cL_law 1623 = .ok (.invokevirtual 109, 3) := by decide +kernel
theorem dL_law_1626 : decode cL_law 1626 = .ok (.iload 5, 2) := by decide +kernel
theorem dL_law_1628 : decode cL_law 1628 = .ok (.if_icmp .eq 5, 3) := by decide +kernel
theorem dL_law_1631 : decode cL_law 1631 = .ok (.iconst 0, 1) := by decide +kernel
theorem dL_law_1632 : decode cL_law 1632 = .ok (.ireturn, 1) := by decide +kernel
theorem dL_law_1633 : decode cL_law 1633 = .ok (.iload 5, 2) := by decide +kernel
theorem dL_law_1635 : decode cL_law 1635 = .ok (.ifCond .ne 15, 3) := by decide +kernel
theorem dL_law_1638 : decode cL_law 1638 = .ok (.aload_n 3, 1) := by decide +kernel
theorem dL_law_1639 : decode cL_law 1639 = .ok (.iconst 0, 1) := by decide +kernel
theorem dL_law_1640 : decode cL_law 1640 = .ok (.laload, 1) := by decide +kernel
theorem dL_law_1641 : decode cL_law 1641 = .ok (.iload 6, 2) := by decide +kernel
theorem dL_law_1643 : decode cL_law 1643 = .ok (.i2l, 1) := by decide +kernel
theorem dL_law_1644 : decode cL_law 1644 = .ok (.lcmp, 1) := by decide +kernel
theorem dL_law_1645 : decode cL_law 1645 = .ok (.ifCond .eq 5, 3) := by decide +kernel
theorem dL_law_1648 : decode cL_law 1648 = .ok (.iconst 0, 1) := by decide +kernel
theorem dL_law_1649 : decode cL_law 1649 = .ok (.ireturn, 1) := by decide +kernel
theorem dL_law_1650 : decode cL_law 1650 = .ok (.goto 199, 3) := by decide +kernel
theorem dL_law_1653 : decode cL_law 1653 = .ok (.aload_n 1, 1) := by decide +kernel
theorem dL_law_1654 : decode cL_law 1654 = .ok (.aload_n 0, 1) := by decide +kernel
theorem dL_law_1655 : decode cL_law 1655 = .ok (.iload 4, 2) := by decide +kernel
theorem dL_law_1657 : decode cL_law 1657 = .ok (.iconst 1, 1) := by decide +kernel
theorem dL_law_1658 : decode cL_law 1658 = .ok (.iadd, 1) := by decide +kernel
theorem dL_law_1659 : decode cL_law 1659 = .ok (.iaload, 1) := by decide +kernel
theorem dL_law_1660 : decode cL_law 1660 = .ok (.aload_n 3, 1) := by decide +kernel
theorem dL_law_1661 : decode cL_law 1661 = .ok (.invokestatic 190, 3) := by decide +kernel
theorem dL_law_1664 : decode cL_law 1664 = .ok (.istore 5, 2) := by decide +kernel
theorem dL_law_1666 : decode cL_law 1666 = .ok (.aload_n 2, 1) := by decide +kernel
theorem dL_law_1667 : decode cL_law 1667 = .ok (.aload_n 0, 1) := by decide +kernel
theorem dL_law_1668 : decode cL_law 1668 = .ok (.iload 4, 2) := by decide +kernel
theorem dL_law_1670 : decode cL_law 1670 = .ok (.iconst 1, 1) := by decide +kernel
theorem dL_law_1671 : decode cL_law 1671 = .ok (.iadd, 1) := by decide +kernel
theorem dL_law_1672 : decode cL_law 1672 = .ok (.iaload, 1) := by decide +kernel
theorem dL_law_1673 : decode cL_law 1673 = .ok (.invokevirtual 192, 3) := by decide +kernel
theorem dL_law_1676 : decode cL_law 1676 = .ok (.istore 6, 2) := by decide +kernel
theorem dL_law_1678 : decode cL_law 1678 = .ok (.aload_n 2, 1) := by decide +kernel
theorem dL_law_1679 : decode cL_law 1679 = .ok (.invokevirtual 109, 3) := by decide +kernel
theorem dL_law_1682 : decode cL_law 1682 = .ok (.iload 5, 2) := by decide +kernel
theorem dL_law_1684 : decode cL_law 1684 = .ok (.if_icmp .eq 5, 3) := by decide +kernel
theorem dL_law_1687 : decode cL_law 1687 = .ok (.iconst 0, 1) := by decide +kernel
theorem dL_law_1688 : decode cL_law 1688 = .ok (.ireturn, 1) := by decide +kernel
theorem dL_law_1689 : decode cL_law 1689 = .ok (.iload 5, 2) := by decide +kernel
theorem dL_law_1691 : decode cL_law 1691 = .ok (.ifCond .ne 15, 3) := by decide +kernel
theorem dL_law_1694 : decode cL_law 1694 = .ok (.aload_n 3, 1) := by decide +kernel
theorem dL_law_1695 : decode cL_law 1695 = .ok (.iconst 0, 1) := by decide +kernel
theorem dL_law_1696 : decode cL_law 1696 = .ok (.laload, 1) := by decide +kernel
theorem dL_law_1697 : decode cL_law 1697 = .ok (.iload 6, 2) := by decide +kernel
theorem dL_law_1699 : decode cL_law 1699 = .ok (.i2l, 1) := by decide +kernel
theorem dL_law_1700 : decode cL_law 1700 = .ok (.lcmp, 1) := by decide +kernel
theorem dL_law_1701 : decode cL_law 1701 = .ok (.ifCond .eq 5, 3) := by decide +kernel
theorem dL_law_1704 : decode cL_law 1704 = .ok (.iconst 0, 1) := by decide +kernel
theorem dL_law_1705 : decode cL_law 1705 = .ok (.ireturn, 1) := by decide +kernel
theorem dL_law_1706 : decode cL_law 1706 = .ok (.goto 143, 3) := by decide +kernel
theorem dL_law_1709 : decode cL_law 1709 = .ok (.aload_n 1, 1) := by decide +kernel
theorem dL_law_1710 : decode cL_law 1710 = .ok (.aload_n 0, 1) := by decide +kernel
theorem dL_law_1711 : decode cL_law 1711 = .ok (.iload 4, 2) := by decide +kernel
theorem dL_law_1713 : decode cL_law 1713 = .ok (.iconst 1, 1) := by decide +kernel
theorem dL_law_1714 : decode cL_law 1714 = .ok (.iadd, 1) := by decide +kernel
theorem dL_law_1715 : decode cL_law 1715 = .ok (.iaload, 1) := by decide +kernel
theorem dL_law_1716 : decode cL_law 1716 = .ok (.aload_n 3, 1) := by decide +kernel
theorem dL_law_1717 : decode cL_law 1717 = .ok (.invokestatic 193, 3) := by decide +kernel
theorem dL_law_1720 : decode cL_law 1720 = .ok (.istore 5, 2) := by decide +kernel
theorem dL_law_1722 : decode cL_law 1722 = .ok (.aload_n 2, 1) := by decide +kernel
theorem dL_law_1723 : decode cL_law 1723 = .ok (.aload_n 0, 1) := by decide +kernel
theorem dL_law_1724 : decode cL_law 1724 = .ok (.iload 4, 2) := by decide +kernel
theorem dL_law_1726 : decode cL_law 1726 = .ok (.iconst 1, 1) := by decide +kernel
theorem dL_law_1727 : decode cL_law 1727 = .ok (.iadd, 1) := by decide +kernel
theorem dL_law_1728 : decode cL_law 1728 = .ok (.iaload, 1) := by decide +kernel
theorem dL_law_1729 : decode cL_law 1729 = .ok (.invokevirtual 195, 3) := by decide +kernel
theorem dL_law_1732 : decode cL_law 1732 = .ok (.istore 6, 2) := by decide +kernel
theorem dL_law_1734 : decode cL_law 1734 = .ok (.aload_n 2, 1) := by decide +kernel
theorem dL_law_1735 : decode cL_law 1735 = .ok (.invokevirtual 109, 3) := by decide +kernel
theorem dL_law_1738 : decode cL_law 1738 = .ok (.iload 5, 2) := by decide +kernel
theorem dL_law_1740 : decode cL_law 1740 = .ok (.if_icmp .eq 5, 3) := by decide +kernel
theorem dL_law_1743 : decode cL_law 1743 = .ok (.iconst 0, 1) := by decide +kernel
theorem dL_law_1744 : decode cL_law 1744 = .ok (.ireturn, 1) := by decide +kernel
theorem dL_law_1745 : decode cL_law 1745 = .ok (.iload 5, 2) := by decide +kernel
theorem dL_law_1747 : decode cL_law 1747 = .ok (.ifCond .ne 15, 3) := by decide +kernel
theorem dL_law_1750 : decode cL_law 1750 = .ok (.aload_n 3, 1) := by decide +kernel
theorem dL_law_1751 : decode cL_law 1751 = .ok (.iconst 0, 1) := by decide +kernel
theorem dL_law_1752 : decode cL_law 1752 = .ok (.laload, 1) := by decide +kernel
theorem dL_law_1753 : decode cL_law 1753 = .ok (.iload 6, 2) := by decide +kernel
theorem dL_law_1755 : decode cL_law 1755 = .ok (.i2l, 1) := by decide +kernel
theorem dL_law_1756 : decode cL_law 1756 = .ok (.lcmp, 1) := by decide +kernel
theorem dL_law_1757 : decode cL_law 1757 = .ok (.ifCond .eq 5, 3) := by decide +kernel
theorem dL_law_1760 : decode cL_law 1760 = .ok (.iconst 0, 1) := by decide +kernel
theorem dL_law_1761 : decode cL_law 1761 = .ok (.ireturn, 1) := by decide +kernel
theorem dL_law_1762 : decode cL_law 1762 = .ok (.goto 87, 3) := by decide +kernel
theorem dL_law_1765 : decode cL_law 1765 = .ok (.aload_n 1, 1) := by decide +kernel
theorem dL_law_1766 : decode cL_law 1766 = .ok (.invokevirtual 196, 3) := by decide +kernel
theorem dL_law_1769 : decode cL_law 1769 = .ok (.aload_n 2, 1) := by decide +kernel
theorem dL_law_1770 : decode cL_law 1770 = .ok (.invokevirtual 199, 3) := by decide +kernel
theorem dL_law_1773 : decode cL_law 1773 = .ok (.if_icmp .eq 76, 3) := by decide +kernel
theorem dL_law_1776 : decode cL_law 1776 = .ok (.iconst 0, 1) := by decide +kernel
theorem dL_law_1777 : decode cL_law 1777 = .ok (.ireturn, 1) := by decide +kernel
theorem dL_law_1778 : decode cL_law 1778 = .ok (.aload_n 1, 1) := by decide +kernel
theorem dL_law_1779 : decode cL_law 1779 = .ok (.invokevirtual 200, 3) := by decide +kernel
theorem dL_law_1782 : decode cL_law 1782 = .ok (.aload_n 2, 1) := by decide +kernel
theorem dL_law_1783 : decode cL_law 1783 = .ok (.invokevirtual 203, 3) := by decide +kernel
theorem dL_law_1786 : decode cL_law 1786 = .ok (.if_icmp .eq 63, 3) := by decide +kernel
theorem dL_law_1789 : decode cL_law 1789 = .ok (.iconst 0, 1) := by decide +kernel
theorem dL_law_1790 : decode cL_law 1790 = .ok (.ireturn, 1) := by decide +kernel
theorem dL_law_1791 : decode cL_law 1791 = .ok (.aload_n 1, 1) := by decide +kernel
theorem dL_law_1792 : decode cL_law 1792 = .ok (.aload_n 3, 1) := by decide +kernel
theorem dL_law_1793 : decode cL_law 1793 = .ok (.invokestatic 204, 3) := by decide +kernel
theorem dL_law_1796 : decode cL_law 1796 = .ok (.istore 5, 2) := by decide +kernel
theorem dL_law_1798 : decode cL_law 1798 = .ok (.aload_n 2, 1) := by decide +kernel
theorem dL_law_1799 : decode cL_law 1799 = .ok (.invokevirtual 207, 3) := by decide +kernel
theorem dL_law_1802 : decode cL_law 1802 = .ok (.istore 6, 2) := by decide +kernel
theorem dL_law_1804 : decode cL_law 1804 = .ok (.aload_n 2, 1) := by decide +kernel
theorem dL_law_1805 : decode cL_law 1805 = .ok (.invokevirtual 109, 3) := by decide +kernel
theorem dL_law_1808 : decode cL_law 1808 = .ok (.iload 5, 2) := by decide +kernel
theorem dL_law_1810 : decode cL_law 1810 = .ok (.if_icmp .eq 5, 3) := by decide +kernel
theorem dL_law_1813 : decode cL_law 1813 = .ok (.iconst 0, 1) := by decide +kernel
theorem dL_law_1814 : decode cL_law 1814 = .ok (.ireturn, 1) := by decide +kernel
theorem dL_law_1815 : decode cL_law 1815 = .ok (.iload 5, 2) := by decide +kernel
theorem dL_law_1817 : decode cL_law 1817 = .ok (.ifCond .ne 15, 3) := by decide +kernel
theorem dL_law_1820 : decode cL_law 1820 = .ok (.aload_n 3, 1) := by decide +kernel
theorem dL_law_1821 : decode cL_law 1821 = .ok (.iconst 0, 1) := by decide +kernel
theorem dL_law_1822 : decode cL_law 1822 = .ok (.laload, 1) := by decide +kernel
theorem dL_law_1823 : decode cL_law 1823 = .ok (.iload 6, 2) := by decide +kernel
theorem dL_law_1825 : decode cL_law 1825 = .ok (.i2l, 1) := by decide +kernel
theorem dL_law_1826 : decode cL_law 1826 = .ok (.lcmp, 1) := by decide +kernel
theorem dL_law_1827 : decode cL_law 1827 = .ok (.ifCond .eq 5, 3) := by decide +kernel
theorem dL_law_1830 : decode cL_law 1830 = .ok (.iconst 0, 1) := by decide +kernel
theorem dL_law_1831 : decode cL_law 1831 = .ok (.ireturn, 1) := by decide +kernel
theorem dL_law_1832 : decode cL_law 1832 = .ok (.goto 17, 3) := by decide +kernel
theorem dL_law_1835 : decode cL_law 1835 = .ok (.aload_n 1, 1) := by decide +kernel
theorem dL_law_1836 : decode cL_law 1836 = .ok (.invokevirtual 208, 3) := by decide +kernel
theorem dL_law_1839 : decode cL_law 1839 = .ok (.aload_n 2, 1) := by decide +kernel
theorem dL_law_1840 : decode cL_law 1840 = .ok (.invokevirtual 212, 3) := by decide +kernel
theorem dL_law_1843 : decode cL_law 1843 = .ok (.lcmp, 1) := by decide +kernel
theorem dL_law_1844 : decode cL_law 1844 = .ok (.ifCond .eq 5, 3) := by decide +kernel
theorem dL_law_1847 : decode cL_law 1847 = .ok (.iconst 0, 1) := by decide +kernel
theorem dL_law_1848 : decode cL_law 1848 = .ok (.ireturn, 1) := by decide +kernel
theorem dL_law_1849 : decode cL_law 1849 = .ok (.iinc 4 6, 3) := by decide +kernel
theorem dL_law_1852 : decode cL_law 1852 = .ok (.goto (-1829), 3) := by decide +kernel
theorem dL_law_1855 : decode cL_law 1855 = .ok (.iconst 1, 1) := by decide +kernel
theorem dL_law_1856 : decode cL_law 1856 = .ok (.ireturn, 1) := by decide +kernel
