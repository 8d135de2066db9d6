theorem dX10_addThing_53 : decode cX10_addThing 53 = .ok (.iload_n 2, 1) := by decide +kernel
theorem dX10_addThing_54 : decode cX10_addThing 54 = .ok (.invokevirtual 109, 3) := by decide +kernel
theorem dX10_addThing_57 : decode cX10_addThing 57 = .ok (.aload_n 0, 1) := by decide +kernel
theorem dX10_addThing_58 : decode cX10_addThing 58 = .ok (.getfield 12, 3) := by decide +kernel
theorem dX10_addThing_61 : decode cX10_addThing 61 = .ok (.getfield 66, 3) := by decide +kernel
theorem dX10_addThing_64 : decode cX10_addThing 64 = .ok (.getfield 113, 3) := by decide +kernel
theorem dX10_addThing_67 : decode cX10_addThing 67 = .ok (.iconst 1, 1) := by decide +kernel
theorem dX10_addThing_68 : decode cX10_addThing 68 = .ok (.isub, 1) := by decide +kernel
theorem dX10_addThing_69 : decode cX10_addThing 69 = .ok (.ireturn, 1) := by decide +kernel
theorem dX10_removeThing_0 : decode cX10_removeThing 0 = .ok (.aload_n 0, 1) := by decide +kernel
theorem dX10_removeThing_1 : decode cX10_removeThing 1 = .ok (.getfield 12, 3) := by decide +kernel
theorem dX10_removeThing_4 : decode cX10_removeThing 4 = .ok (.getfield 66, 3) := by decide +kernel
theorem dX10_removeThing_7 : decode cX10_removeThing 7 = .ok (.iload_n 1, 1) := by decide +kernel
theorem dX10_removeThing_8 : decode cX10_removeThing 8 = .ok (.invokevirtual 116, 3) := by decide +kernel
theorem dX10_removeThing_11 : decode cX10_removeThing 11 = .ok (.ifCond .ne 13, 3) := by decide +kernel
theorem dX10_removeThing_14 : decode cX10_removeThing 14 = .ok (.new 119, 3) := by decide +kernel
theorem dX10_removeThing_17 : decode cX10_removeThing 17 = .ok (.dup, 1) := by decide +kernel
theorem dX10_removeThing_18 : decode cX10_removeThing 18 = .ok (.ldc 121, 2) := by decide +kernel
theorem dX10_removeThing_20 : decode cX10_removeThing 20 = .ok (.invokespecial 123, 3) := by decide +kernel
theorem dX10_removeThing_23 : decode cX10_removeThing 23 = .ok (.athrow, 1) := by decide +kernel
theorem dX10_removeThing_24 : decode cX10_removeThing 24 = .ok (.aload_n 0, 1) := by decide +kernel
theorem dX10_removeThing_25 : decode cX10_removeThing 25 = .ok (.invokevirtual 50, 3) := by decide +kernel
theorem dX10_removeThing_28 : decode cX10_removeThing 28 = .ok (.aload_n 0, 1) := by decide +kernel
theorem dX10_removeThing_29 : decode cX10_removeThing 29 = .ok (.getfield 12, 3) := by decide +kernel
theorem dX10_removeThing_32 : decode cX10_removeThing 32 = .ok (.getfield 66, 3) := by decide +kernel
theorem dX10_removeThing_35 : decode cX10_removeThing 35 = .ok (.iload_n 1, 1) := by decide +kernel
theorem dX10_removeThing_36 : decode cX10_removeThing 36 = .ok (.invokevirtual 124, 3) := by decide +kernel
theorem dX10_removeThing_39 : decode cX10_removeThing 39 = .ok (.aload_n 0, 1) := by decide +kernel
theorem dX10_removeThing_40 : decode cX10_removeThing 40 = .ok (.getfield 12, 3) := by decide +kernel
theorem dX10_removeThing_43 : decode cX10_removeThing 43 = .ok (.getfield 66, 3) := by decide +kernel
theorem dX10_removeThing_46 : decode cX10_removeThing 46 = .ok (.getfield 113, 3) := by decide +kernel
theorem dX10_removeThing_49 : decode cX10_removeThing 49 = .ok (.ireturn, 1) := by decide +kernel
theorem dX10_setStirrer_0 : decode cX10_setStirrer 0 = .ok (.iload_n 1, 1) := by decide +kernel
theorem dX10_setStirrer_1 : decode cX10_setStirrer 1 = .ok (.iload_n 2, 1) := by decide +kernel
theorem dX10_setStirrer_2 : decode cX10_setStirrer 2 = .ok (.iload_n 3, 1) := by decide +kernel
theorem dX10_setStirrer_3 : decode cX10_setStirrer 3 = .ok (.iload 4, 2) := by decide +kernel
theorem dX10_setStirrer_5 : decode cX10_setStirrer 5 = .ok (.iload 5, 2) := by decide +kernel
theorem dX10_setStirrer_7 : decode cX10_setStirrer 7 = .ok (.invokestatic 127, 3) := by decide +kernel
theorem dX10_setStirrer_10 : decode cX10_setStirrer 10 = .ok (.ifCond .ne 13, 3) := by decide +kernel
theorem dX10_setStirrer_13 : decode cX10_setStirrer 13 = .ok (.new 43, 3) := by decide +kernel
theorem dX10_setStirrer_16 : decode cX10_setStirrer 16 = .ok (.dup, 1) := by decide +kernel
theorem dX10_setStirrer_17 : decode cX10_setStirrer 17 = .ok (.ldc 131, 2) := by decide +kernel
theorem dX10_setStirrer_19 : decode cX10_setStirrer 19 = .ok (.invokespecial 47, 3) := by decide +kernel
theorem dX10_setStirrer_22 : decode cX10_setStirrer 22 = .ok (.athrow, 1) := by decide +kernel
theorem dX10_setStirrer_23 : decode cX10_setStirrer 23 = .ok (.aload_n 0, 1) := by decide +kernel
theorem dX10_setStirrer_24 : decode cX10_setStirrer 24 = .ok (.invokevirtual 50, 3) := by decide +kernel
theorem dX10_setStirrer_27 : decode cX10_setStirrer 27 = .ok (.aload_n 0, 1) := by decide +kernel
theorem dX10_setStirrer_28 : decode cX10_setStirrer 28 = .ok (.getfield 12, 3) := by decide +kernel
theorem dX10_setStirrer_31 : decode cX10_setStirrer 31 = .ok (.getfield 66, 3) := by decide +kernel
theorem dX10_setStirrer_34 : decode cX10_setStirrer 34 = .ok (.getfield 133, 3) := by decide +kernel
theorem dX10_setStirrer_37 : decode cX10_setStirrer 37 = .ok (.istore 6, 2) := by decide +kernel
theorem dX10_setStirrer_39 : decode cX10_setStirrer 39 = .ok (.aload_n 0, 1) := by decide +kernel
theorem dX10_setStirrer_40 : decode cX10_setStirrer 40 = .ok (.getfield 12, 3) := by decide +kernel
theorem dX10_setStirrer_43 : decode cX10_setStirrer 43 = .ok (.getfield 66, 3) := by decide +kernel
theorem dX10_setStirrer_46 : decode cX10_setStirrer 46 = .ok (.iload_n 1, 1) := by decide +kernel
theorem dX10_setStirrer_47 : decode cX10_setStirrer 47 = .ok (.iload_n 2, 1) := by decide +kernel
theorem dX10_setStirrer_48 : decode cX10_setStirrer 48 = .ok (.iload_n 3, 1) := by decide +kernel
theorem dX10_setStirrer_49 : decode cX10_setStirrer 49 = .ok (.iload 4, 2) := by decide +kernel
theorem dX10_setStirrer_51 : decode cX10_setStirrer 51 = .ok (.iload 5, 2) := by decide +kernel
theorem dX10_setStirrer_53 : decode cX10_setStirrer 53 = .ok (.invokevirtual 136, 3) := by decide +kernel
theorem dX10_setStirrer_56 : decode cX10_setStirrer 56 = .ok (.iload 6, 2) := by decide +kernel
theorem dX10_setStirrer_58 : decode cX10_setStirrer 58 = .ok (.ireturn, 1) := by decide +kernel
theorem dX10_set_0 : decode cX10_set 0 = .ok (.aload_n 0, 1) := by decide +kernel
theorem dX10_set_1 : decode cX10_set 1 = .ok (.getfield 12, 3) := by decide +kernel
theorem dX10_set_4 : decode cX10_set 4 = .ok (.getfield 140, 3) := by decide +kernel
theorem dX10_set_7 : decode cX10_set 7 = .ok (.iload_n 1, 1) := by decide +kernel
theorem dX10_set_8 : decode cX10_set 8 = .ok (.iload_n 2, 1) := by decide +kernel
theorem dX10_set_9 : decode cX10_set 9 = .ok (.invokevirtual 144, 3) := by decide +kernel
theorem dX10_set_12 : decode cX10_set 12 = .ok (.ifCond .ne 13, 3) := by decide +kernel
theorem dX10_set_15 : decode cX10_set 15 = .ok (.new 43, 3) := by decide +kernel
theorem dX10_set_18 : decode cX10_set 18 = .ok (.dup, 1) := by decide +kernel
theorem dX10_set_19 : decode cX10_set 19 = .ok (.ldc 149, 2) := by decide +kernel
theorem dX10_set_21 : decode cX10_set 21 = .ok (.invokespecial 47, 3) := by decide +kernel
theorem dX10_set_24 : decode cX10_set 24 = .ok (.athrow, 1) := by decide +kernel
theorem dX10_set_25 : decode cX10_set 25 = .ok (.aload_n 0, 1) := by decide +kernel
theorem dX10_set_26 : decode cX10_set 26 = .ok (.invokevirtual 50, 3) := by decide +kernel
theorem dX10_set_29 : decode cX10_set 29 = .ok (.aload_n 0, 1) := by decide +kernel
theorem dX10_set_30 : decode cX10_set 30 = .ok (.getfield 12, 3) := by decide +kernel
theorem dX10_set_33 : decode cX10_set 33 = .ok (.getfield 140, 3) := by decide +kernel
theorem dX10_set_36 : decode cX10_set 36 = .ok (.iload_n 1, 1) := by decide +kernel
theorem dX10_set_37 : decode cX10_set 37 = .ok (.invokevirtual 151, 3) := by decide +kernel
theorem dX10_set_40 : decode cX10_set 40 = .ok (.istore_n 3, 1) := by decide +kernel
theorem dX10_set_41 : decode cX10_set 41 = .ok (.aload_n 0, 1) := by decide +kernel
theorem dX10_set_42 : decode cX10_set 42 = .ok (.getfield 12, 3) := by decide +kernel
theorem dX10_set_45 : decode cX10_set 45 = .ok (.iload_n 1, 1) := by decide +kernel
theorem dX10_set_46 : decode cX10_set 46 = .ok (.iload_n 2, 1) := by decide +kernel
theorem dX10_set_47 : decode cX10_set 47 = .ok (.invokevirtual 155, 3) := by decide +kernel
theorem dX10_set_50 : decode cX10_set 50 = .ok (.iload_n 3, 1) := by decide +kernel
theorem dX10_set_51 : decode cX10_set 51 = .ok (.ireturn, 1) := by decide +kernel
theorem dX10_setS_0 : decode cX10_setS 0 = .ok (.iload_n 1, 1) := by decide +kernel
theorem dX10_setS_1 : decode cX10_setS 1 = .ok (.ifCond .ge 13, 3) := by decide +kernel
theorem dX10_setS_4 : decode cX10_setS 4 = .ok (.new 43, 3) := by decide +kernel
theorem dX10_setS_7 : decode cX10_setS 7 = .ok (.dup, 1) := by decide +kernel
theorem dX10_setS_8 : decode cX10_setS 8 = .ok (.ldc 158, 2) := by decide +kernel
theorem dX10_setS_10 : decode cX10_setS 10 = .ok (.invokespecial 47, 3) := by decide +kernel
theorem dX10_setS_13 : decode cX10_setS 13 = .ok (.athrow, 1) := by decide +kernel
theorem dX10_setS_14 : decode cX10_setS 14 = .ok (.aload_n 0, 1) := by decide +kernel
theorem dX10_setS_15 : decode cX10_setS 15 = .ok (.invokevirtual 50, 3) := by decide +kernel
theorem dX10_setS_18 : decode cX10_setS 18 = .ok (.aload_n 0, 1) := by decide +kernel
theorem dX10_setS_19 : decode cX10_setS 19 = .ok (.getfield 12, 3) := by decide +kernel
theorem dX10_setS_22 : decode cX10_setS 22 = .ok (.getfield 66, 3) := by decide +kernel
theorem dX10_setS_25 : decode cX10_setS 25 = .ok (.getfield 160, 3) := by decide +kernel
theorem dX10_setS_28 : decode cX10_setS 28 = .ok (.istore_n 2, 1) := by decide +kernel
theorem dX10_setS_29 : decode cX10_setS 29 = .ok (.aload_n 0, 1) := by decide +kernel
theorem dX10_setS_30 : decode cX10_setS 30 = .ok (.getfield 12, 3) := by decide +kernel
theorem dX10_setS_33 : decode cX10_setS 33 = .ok (.getfield 66, 3) := by decide +kernel
theorem dX10_setS_36 : decode cX10_setS 36 = .ok (.iload_n 1, 1) := by decide +kernel
theorem dX10_setS_37 : decode cX10_setS 37 = .ok (.putfield 160, 3) := by decide +kernel
theorem dX10_setS_40 : decode cX10_setS 40 = .ok (.iload_n 2, 1) := by decide +kernel
theorem dX10_setS_41 : decode cX10_setS 41 = .ok (.ireturn, 1) := by decide +kernel
theorem dX10_mask_0 : decode cX10_mask 0 = .ok (.iload_n 1, 1) := by decide +kernel
theorem dX10_mask_1 : decode cX10_mask 1 = .ok (.invokestatic 163, 3) := by decide +kernel
theorem dX10_mask_4 : decode cX10_mask 4 = .ok (.ifCond .ne 13, 3) := by decide +kernel
theorem dX10_mask_7 : decode cX10_mask 7 = .ok (.new 43, 3) := by decide +kernel
theorem dX10_mask_10 : decode cX10_mask 10 = .ok (.dup, 1) := by decide +kernel
theorem dX10_mask_11 : decode cX10_mask 11 = .ok (.ldc 166, 2) := by decide +kernel
theorem dX10_mask_13 : decode cX10_mask 13 = .ok (.invokespecial 47, 3) := by decide +kernel
theorem dX10_mask_16 : decode cX10_mask 16 = .ok (.athrow, 1) := by decide +kernel
theorem dX10_mask_17 : decode cX10_mask 17 = .ok (.aload_n 0, 1) := by decide +kernel
theorem dX10_mask_18 : decode cX10_mask 18 = .ok (.invokevirtual 50, 3) := by decide +kernel
theorem dX10_mask_21 : decode cX10_mask 21 = .ok (.aload_n 0, 1) := by decide +kernel
theorem dX10_mask_22 : decode cX10_mask 22 = .ok (.getfield 12, 3) := by decide +kernel
theorem dX10_mask_25 : decode cX10_mask 25 = .ok (.getfield 168, 3) := by decide +kernel
theorem dX10_mask_28 : decode cX10_mask 28 = .ok (.iload_n 1, 1) := by decide +kernel
theorem dX10_mask_29 : decode cX10_mask 29 = .ok (.invokevirtual 172, 3) := by decide +kernel
theorem dX10_mask_32 : decode cX10_mask 32 = .ok (.istore_n 3, 1) := by decide +kernel
theorem dX10_mask_33 : decode cX10_mask 33 = .ok (.aload_n 0, 1) := by decide +kernel
theorem dX10_mask_34 : decode cX10_mask 34 = .ok (.getfield 12, 3) := by decide +kernel
theorem dX10_mask_37 : decode cX10_mask 37 = .ok (.getfield 168, 3) := by decide +kernel
theorem dX10_mask_40 : decode cX10_mask 40 = .ok (.iload_n 1, 1) := by decide +kernel
theorem dX10_mask_41 : decode cX10_mask 41 = .ok (.iload_n 2, 1) := by decide +kernel
theorem dX10_mask_42 : decode cX10_mask 42 = .ok (.invokevirtual 177, 3) := by decide +kernel
theorem dX10_mask_45 : decode cX10_mask 45 = .ok (.iload_n 3, 1) := by decide +kernel
theorem dX10_mask_46 : decode cX10_mask 46 = .ok (.ifCond .eq 7, 3) := by decide +kernel
theorem dX10_mask_49 : decode cX10_mask 49 = .ok (.iconst 1, 1) := by decide +kernel
theorem dX10_mask_50 : decode cX10_mask 50 = .ok (.goto 4, 3) := by decide +kernel
theorem dX10_mask_53 : decode cX10_mask 53 = .ok (.iconst 0, 1) := by decide +kernel
theorem dX10_mask_54 : decode cX10_mask 54 = .ok (.ireturn, 1) := by decide +kernel
theorem dX10_learn_0 : decode cX10_learn 0 = .ok (.iload_n 1, 1) := by decide +kernel
theorem dX10_learn_1 : decode cX10_learn 1 = .ok (.invokestatic 181, 3) := by decide +kernel
theorem dX10_learn_4 : decode cX10_learn 4 = .ok (.ifCond .ne 13, 3) := by decide +kernel
theorem dX10_learn_7 : decode cX10_learn 7 = .ok (.new 43, 3) := by decide +kernel
theorem dX10_learn_10 : decode cX10_learn 10 = .ok (.dup, 1) := by decide +kernel
theorem dX10_learn_11 : decode cX10_learn 11 = .ok (.ldc 184, 2) := by decide +kernel
theorem dX10_learn_13 : decode cX10_learn 13 = .ok (.invokespecial 47, 3) := by decide +kernel
theorem dX10_learn_16 : decode cX10_learn 16 = .ok (.athrow, 1) := by decide +kernel
theorem dX10_learn_17 : decode cX10_learn 17 = .ok (.aload_n 0, 1) := by decide +kernel
theorem dX10_learn_18 : decode cX10_learn 18 = .ok (.invokevirtual 50, 3) := by decide +kernel
theorem dX10_learn_21 : decode cX10_learn 21 = .ok (.aload_n 0, 1) := by decide +kernel
theorem dX10_learn_22 : decode cX10_learn 22 = .ok (.getfield 12, 3) := by decide +kernel
theorem dX10_learn_25 : decode cX10_learn 25 = .ok (.iload_n 1, 1) := by decide +kernel
theorem dX10_learn_26 : decode cX10_learn 26 = .ok (.invokevirtual 186, 3) := by decide +kernel
theorem dX10_learn_29 : decode cX10_learn 29 = .ok (.aload_n 0, 1) := by decide +kernel
theorem dX10_learn_30 : decode cX10_learn 30 = .ok (.getfield 12, 3) := by decide +kernel
theorem dX10_learn_33 : decode cX10_learn 33 = .ok (.getfield 168, 3) := by decide +kernel
theorem dX10_learn_36 : decode cX10_learn 36 = .ok (.getfield 189, 3) := by decide +kernel
theorem dX10_learn_39 : decode cX10_learn 39 = .ok (.ireturn, 1) := by decide +kernel
theorem dX10_forget_0 : decode cX10_forget 0 = .ok (.aload_n 0, 1) := by decide +kernel
theorem dX10_forget_1 : decode cX10_forget 1 = .ok (.invokevirtual 50, 3) := by decide +kernel
theorem dX10_forget_4 : decode cX10_forget 4 = .ok (.aload_n 0, 1) := by decide +kernel
theorem dX10_forget_5 : decode cX10_forget 5 = .ok (.getfield 12, 3) := by decide +kernel
theorem dX10_forget_8 : decode cX10_forget 8 = .ok (.getfield 168, 3) := by decide +kernel
theorem dX10_forget_11 : decode cX10_forget 11 = .ok (.getfield 189, 3) := by decide +kernel
theorem dX10_forget_14 : decode cX10_forget 14 = .ok (.istore_n 1, 1) := by decide +kernel
theorem dX10_forget_15 : decode cX10_forget 15 = .ok (.aload_n 0, 1) := by decide +kernel
theorem dX10_forget_16 : decode cX10_forget 16 = .ok (.getfield 12, 3) := by decide +kernel
theorem dX10_forget_19 : decode cX10_forget 19 = .ok (.getfield 168, 3) := by decide +kernel
theorem dX10_forget_22 : decode cX10_forget 22 = .ok (.invokevirtual 192, 3) := by decide +kernel
theorem dX10_forget_25 : decode cX10_forget 25 = .ok (.iload_n 1, 1) := by decide +kernel
theorem dX10_forget_26 : decode cX10_forget 26 = .ok (.ireturn, 1) := by decide +kernel
theorem dX10_shoot_0 : decode cX10_shoot 0 = .ok (.iload_n 1, 1) := by decide +kernel
theorem dX10_shoot_1 : decode cX10_shoot 1 = .ok (.invokestatic 195, 3) := by decide +kernel
theorem dX10_shoot_4 : decode cX10_shoot 4 = .ok (.ifCond .ne 13, 3) := by decide +kernel
theorem dX10_shoot_7 : decode cX10_shoot 7 = .ok (.new 43, 3) := by decide +kernel
theorem dX10_shoot_10 : decode cX10_shoot 10 = .ok (.dup, 1) := by decide +kernel
theorem dX10_shoot_11 : decode cX10_shoot 11 = .ok (.ldc 184, 2) := by decide +kernel
theorem dX10_shoot_13 : decode cX10_shoot 13 = .ok (.invokespecial 47, 3) := by decide +kernel
theorem dX10_shoot_16 : decode cX10_shoot 16 = .ok (.athrow, 1) := by decide +kernel
theorem dX10_shoot_17 : decode cX10_shoot 17 = .ok (.aload_n 0, 1) := by decide +kernel
theorem dX10_shoot_18 : decode cX10_shoot 18 = .ok (.invokevirtual 50, 3) := by decide +kernel
theorem dX10_shoot_21 : decode cX10_shoot 21 = .ok (.aload_n 0, 1) := by decide +kernel
theorem dX10_shoot_22 : decode cX10_shoot 22 = .ok (.getfield 12, 3) := by decide +kernel
theorem dX10_shoot_25 : decode cX10_shoot 25 = .ok (.getfield 53, 3) := by decide +kernel
theorem dX10_shoot_28 : decode cX10_shoot 28 = .ok (.getfield 198, 3) := by decide +kernel
theorem dX10_shoot_31 : decode cX10_shoot 31 = .ok (.istore_n 2, 1) := by decide +kernel
theorem dX10_shoot_32 : decode cX10_shoot 32 = .ok (.aload_n 0, 1) := by decide +kernel
theorem dX10_shoot_33 : decode cX10_shoot 33 = .ok (.getfield 12, 3) := by decide +kernel
theorem dX10_shoot_36 : decode cX10_shoot 36 = .ok (.iload_n 1, 1) := by decide +kernel
theorem dX10_shoot_37 : decode cX10_shoot 37 = .ok (.invokevirtual 201, 3) := by decide +kernel
theorem dX10_shoot_40 : decode cX10_shoot 40 = .ok (.aload_n 0, 1) := by decide +kernel
theorem dX10_shoot_41 : decode cX10_shoot 41 = .ok (.getfield 12, 3) := by decide +kernel
theorem dX10_shoot_44 : decode cX10_shoot 44 = .ok (.getfield 53, 3) := by decide +kernel
theorem dX10_shoot_47 : decode cX10_shoot 47 = .ok (.getfield 198, 3) := by decide +kernel
theorem dX10_shoot_50 : decode cX10_shoot 50 = .ok (.iload_n 2, 1) := by decide +kernel
theorem dX10_shoot_51 : decode cX10_shoot 51 = .ok (.isub, 1) := by decide +kernel
theorem dX10_shoot_52 : decode cX10_shoot 52 = .ok (.ireturn, 1) := by decide +kernel
theorem dX10_echo_0 : decode cX10_echo 0 = .ok (.iload_n 1, 1) := by decide +kernel
theorem dX10_echo_1 : decode cX10_echo 1 = .ok (.ifCond .lt 13, 3) := by decide +kernel
theorem dX10_echo_4 : decode cX10_echo 4 = .ok (.iload_n 2, 1) := by decide +kernel
theorem dX10_echo_5 : decode cX10_echo 5 = .ok (.ifCond .lt 9, 3) := by decide +kernel
theorem dX10_echo_8 : decode cX10_echo 8 = .ok (.iload_n 2, 1) := by decide +kernel
theorem dX10_echo_9 : decode cX10_echo 9 = .ok (.bipush 6, 2) := by decide +kernel
theorem dX10_echo_11 : decode cX10_echo 11 = .ok (.if_icmp .lt 13, 3) := by decide +kernel
theorem dX10_echo_14 : decode cX10_echo 14 = .ok (.new 43, 3) := by decide +kernel
theorem dX10_echo_17 : decode cX10_echo 17 = .ok (.dup, 1) := by decide +kernel
theorem dX10_echo_18 : decode cX10_echo 18 = .ok (.ldc 204, 2) := by decide +kernel
theorem dX10_echo_20 : decode cX10_echo 20 = .ok (.invokespecial 47, 3) := by decide +kernel
theorem dX10_echo_23 : decode cX10_echo 23 = .ok (.athrow, 1) := by decide +kernel
theorem dX10_echo_24 : decode cX10_echo 24 = .ok (.aload_n 0, 1) := by decide +kernel
theorem dX10_echo_25 : decode cX10_echo 25 = .ok (.getfield 12, 3) := by decide +kernel
theorem dX10_echo_28 : decode cX10_echo 28 = .ok (.getfield 206, 3) := by decide +kernel
theorem dX10_echo_31 : decode cX10_echo 31 = .ok (.iload_n 1, 1) := by decide +kernel
theorem dX10_echo_32 : decode cX10_echo 32 = .ok (.iload_n 2, 1) := by decide +kernel
theorem dX10_echo_33 : decode cX10_echo 33 = .ok (.invokevirtual 210, 3) := by decide +kernel
theorem dX10_echo_36 : decode cX10_echo 36 = .ok (.ireturn, 1) := by decide +kernel
theorem dX10_pick_0 : decode cX10_pick 0 = .ok (.iload_n 1, 1) := by decide +kernel
theorem dX10_pick_1 : decode cX10_pick 1 = .ok (.ifCond .ge 13, 3) := by decide +kernel
theorem dX10_pick_4 : decode cX10_pick 4 = .ok (.new 43, 3) := by decide +kernel
theorem dX10_pick_7 : decode cX10_pick 7 = .ok (.dup, 1) := by decide +kernel
theorem dX10_pick_8 : decode cX10_pick 8 = .ok (.ldc 215, 2) := by decide +kernel
theorem dX10_pick_10 : decode cX10_pick 10 = .ok (.invokespecial 47, 3) := by decide +kernel
theorem dX10_pick_13 : decode cX10_pick 13 = .ok (.athrow, 1) := by decide +kernel
theorem dX10_pick_14 : decode cX10_pick 14 = .ok (.aload_n 0, 1) := by decide +kernel
theorem dX10_pick_15 : decode cX10_pick 15 = .ok (.getfield 12, 3) := by decide +kernel
theorem dX10_pick_18 : decode cX10_pick 18 = .ok (.getfield 53, 3) := by decide +kernel
theorem dX10_pick_21 : decode cX10_pick 21 = .ok (.iload_n 1, 1) := by decide +kernel
theorem dX10_pick_22 : decode cX10_pick 22 = .ok (.invokevirtual 217, 3) := by decide +kernel
theorem dX10_pick_25 : decode cX10_pick 25 = .ok (.ireturn, 1) := by decide +kernel
theorem dX10_isMasked_0 : decode cX10_isMasked 0 = .ok (.iload_n 1, 1) := by decide +kernel
theorem dX10_isMasked_1 : decode cX10_isMasked 1 = .ok (.invokestatic 163, 3) := by decide +kernel
theorem dX10_isMasked_4 : decode cX10_isMasked 4 = .ok (.ifCond .ne 13, 3) := by decide +kernel
theorem dX10_isMasked_7 : decode cX10_isMasked 7 = .ok (.new 43, 3) := by decide +kernel
theorem dX10_isMasked_10 : decode cX10_isMasked 10 = .ok (.dup, 1) := by decide +kernel
theorem dX10_isMasked_11 : decode cX10_isMasked 11 = .ok (.ldc 166, 2) := by decide +kernel
theorem dX10_isMasked_13 : decode cX10_isMasked 13 = .ok (.invokespecial 47, 3) := by decide +kernel
theorem dX10_isMasked_16 : decode cX10_isMasked 16 = .ok (.athrow, 1) := by decide +kernel
theorem dX10_isMasked_17 : decode cX10_isMasked 17 = .ok (.aload_n 0, 1) := by decide +kernel
theorem dX10_isMasked_18 : decode cX10_isMasked 18 = .ok (.getfield 12, 3) := by decide +kernel
theorem dX10_isMasked_21 : decode cX10_isMasked 21 = .ok (.getfield 168, 3) := by decide +kernel
theorem dX10_isMasked_24 : decode cX10_isMasked 24 = .ok (.iload_n 1, 1) := by decide +kernel
theorem dX10_isMasked_25 : decode cX10_isMasked 25 = .ok (.invokevirtual 172, 3) := by decide +kernel
theorem dX10_isMasked_28 : decode cX10_isMasked 28 = .ok (.ireturn, 1) := by decide +kernel
theorem dX10_need_0 : decode cX10_need 0 = .ok (.iload_n 1, 1) := by decide +kernel
theorem dX10_need_1 : decode cX10_need 1 = .ok (.invokestatic 163, 3) := by decide +kernel
theorem dX10_need_4 : decode cX10_need 4 = .ok (.ifCond .ne 13, 3) := by decide +kernel
theorem dX10_need_7 : decode cX10_need 7 = .ok (.new 43, 3) := by decide +kernel
theorem dX10_need_10 : decode cX10_need 10 = .ok (.dup, 1) := by decide +kernel
theorem dX10_need_11 : decode cX10_need 11 = .ok (.ldc 166, 2) := by decide +kernel
theorem dX10_need_13 : decode cX10_need 13 = .ok (.invokespecial 47, 3) := by decide +kernel
theorem dX10_need_16 : decode cX10_need 16 = .ok (.athrow, 1) := by decide +kernel
theorem dX10_need_17 : decode cX10_need 17 = .ok (.aload_n 0, 1) := by decide +kernel
theorem dX10_need_18 : decode cX10_need 18 = .ok (.getfield 12, 3) := by decide +kernel
theorem dX10_need_21 : decode cX10_need 21 = .ok (.getfield 140, 3) := by decide +kernel
theorem dX10_need_24 : decode cX10_need 24 = .ok (.iload_n 1, 1) := by decide +kernel
theorem dX10_need_25 : decode cX10_need 25 = .ok (.invokevirtual 220, 3) := by decide +kernel
theorem dX10_need_28 : decode cX10_need 28 = .ok (.ireturn, 1) := by decide +kernel
theorem dX10_tank_0 : decode cX10_tank 0 = .ok (.aload_n 0, 1) := by decide +kernel
theorem dX10_tank_1 : decode cX10_tank 1 = .ok (.getfield 12, 3) := by decide +kernel
theorem dX10_tank_4 : decode cX10_tank 4 = .ok (.getfield 66, 3) := by decide +kernel
theorem dX10_tank_7 : decode cX10_tank 7 = .ok (.astore_n 2, 1) := by decide +kernel
theorem dX10_tank_8 : decode cX10_tank 8 = .ok (.iload_n 1, 1) := by decide +kernel
theorem dX10_tank_9 : decode cX10_tank 9 = .ok (.tableswitch 123 0 11 #[63, 68, 73, 78, 83, 88, 93, 98, 103, 108, 113, 118], 63) := by decide +kernel
theorem dX10_tank_72 : decode cX10_tank 72 = .ok (.aload_n 2, 1) := by decide +kernel
theorem dX10_tank_73 : decode cX10_tank 73 = .ok (.getfield 236, 3) := by decide +kernel
theorem dX10_tank_76 : decode cX10_tank 76 = .ok (.ireturn, 1) := by decide +kernel
theorem dX10_tank_77 : decode cX10_tank 77 = .ok (.aload_n 2, 1) := by decide +kernel
theorem dX10_tank_78 : decode cX10_tank 78 = .ok (.getfield 75, 3) := by decide +kernel
theorem dX10_tank_81 : decode cX10_tank 81 = .ok (.ireturn, 1) := by decide +kernel
theorem dX10_tank_82 : decode cX10_tank 82 = .ok (.aload_n 2, 1) := by decide +kernel
theorem dX10_tank_83 : decode cX10_tank 83 = .ok (.getfield 83, 3) := by decide +kernel
theorem dX10_tank_86 : decode cX10_tank 86 = .ok (.ireturn, 1) := by decide +kernel
theorem dX10_tank_87 : decode cX10_tank 87 = .ok (.aload_n 2, 1) := by decide +kernel
theorem dX10_tank_88 : decode cX10_tank 88 = .ok (.getfield 91, 3) := by decide +kernel
theorem dX10_tank_91 : decode cX10_tank 91 = .ok (.ireturn, 1) := by decide +kernel
theorem dX10_tank_92 : decode cX10_tank 92 = .ok (.aload_n 2, 1) := by decide +kernel
theorem dX10_tank_93 : decode cX10_tank 93 = .ok (.getfield 113, 3) := by decide +kernel
theorem dX10_tank_96 : decode cX10_tank 96 = .ok (.ireturn, 1) := by decide +kernel
theorem dX10_tank_97 : decode cX10_tank 97 = .ok (.aload_n 2, 1) := by decide +kernel
theorem dX10_tank_98 : decode cX10_tank 98 = .ok (.getfield 133, 3) := by decide +kernel
theorem dX10_tank_101 : decode cX10_tank 101 = .ok (.ireturn, 1) := by decide +kernel
theorem dX10_tank_102 : decode cX10_tank 102 = .ok (.aload_n 2, 1) := by decide +kernel
theorem dX10_tank_103 : decode cX10_tank 103 = .ok (.getfield 239, 3) := by decide +kernel
theorem dX10_tank_106 : decode cX10_tank 106 = .ok (.ireturn, 1) := by decide +kernel
theorem dX10_tank_107 : decode cX10_tank 107 = .ok (.aload_n 2, 1) := by decide +kernel
theorem dX10_tank_108 : decode cX10_tank 108 = .ok (.getfield 242, 3) := by decide +kernel
theorem dX10_tank_111 : decode cX10_tank 111 = .ok (.ireturn, 1) := by decide +kernel
theorem dX10_tank_112 : decode cX10_tank 112 = .ok (.aload_n 2, 1) := by decide +kernel
theorem dX10_tank_113 : decode cX10_tank 113 = .ok (.getfield 245, 3) := by decide +kernel
theorem dX10_tank_116 : decode cX10_tank 116 = .ok (.ireturn, 1) := by decide +kernel
theorem dX10_tank_117 : decode cX10_tank 117 = .ok (.aload_n 2, 1) := by decide +kernel
theorem dX10_tank_118 : decode cX10_tank 118 = .ok (.getfield 248, 3) := by decide +kernel
theorem dX10_tank_121 : decode cX10_tank 121 = .ok (.ireturn, 1) := by decide +kernel
theorem dX10_tank_122 : decode cX10_tank 122 = .ok (.aload_n 2, 1) := by decide +kernel
theorem dX10_tank_123 : decode cX10_tank 123 = .ok (.getfield 251, 3) := by decide +kernel
theorem dX10_tank_126 : decode cX10_tank 126 = .ok (.ireturn, 1) := by decide +kernel
theorem dX10_tank_127 : decode cX10_tank 127 = .ok (.aload_n 2, 1) := by decide +kernel
theorem dX10_tank_128 : decode cX10_tank 128 = .ok (.getfield 160, 3) := by decide +kernel
theorem dX10_tank_131 : decode cX10_tank 131 = .ok (.ireturn, 1) := by decide +kernel
theorem dX10_tank_132 : decode cX10_tank 132 = .ok (.new 43, 3) := by decide +kernel
theorem dX10_tank_135 : decode cX10_tank 135 = .ok (.dup, 1) := by decide +kernel
theorem dX10_tank_136 : decode cX10_tank 136 = .ok (.ldc 223, 2) := by decide +kernel
theorem dX10_tank_138 : decode cX10_tank 138 = .ok (.invokespecial 47, 3) := by decide +kernel
theorem dX10_tank_141 : decode cX10_tank 141 = .ok (.athrow, 1) := by decide +kernel
theorem dX10_setting_0 : decode cX10_setting 0 = .ok (.iload_n 1, 1) := by decide +kernel
theorem dX10_setting_1 : decode cX10_setting 1 = .ok (.invokestatic 254, 3) := by decide +kernel
theorem dX10_setting_4 : decode cX10_setting 4 = .ok (.ifCond .ne 13, 3) := by decide +kernel
theorem dX10_setting_7 : decode cX10_setting 7 = .ok (.new 43, 3) := by decide +kernel
theorem dX10_setting_10 : decode cX10_setting 10 = .ok (.dup, 1) := by decide +kernel
theorem dX10_setting_11 : decode cX10_setting 11 = .ok (.ldc 223, 2) := by decide +kernel
theorem dX10_setting_13 : decode cX10_setting 13 = .ok (.invokespecial 47, 3) := by decide +kernel
theorem dX10_setting_16 : decode cX10_setting 16 = .ok (.athrow, 1) := by decide +kernel
theorem dX10_setting_17 : decode cX10_setting 17 = .ok (.aload_n 0, 1) := by decide +kernel
theorem dX10_setting_18 : decode cX10_setting 18 = .ok (.getfield 12, 3) := by decide +kernel
theorem dX10_setting_21 : decode cX10_setting 21 = .ok (.getfield 140, 3) := by decide +kernel
theorem dX10_setting_24 : decode cX10_setting 24 = .ok (.iload_n 1, 1) := by decide +kernel
theorem dX10_setting_25 : decode cX10_setting 25 = .ok (.invokevirtual 151, 3) := by decide +kernel
theorem dX10_setting_28 : decode cX10_setting 28 = .ok (.ireturn, 1) := by decide +kernel
theorem dX10_gauge_0 : decode cX10_gauge 0 = .ok (.aload_n 0, 1) := by decide +kernel
theorem dX10_gauge_1 : decode cX10_gauge 1 = .ok (.getfield 12, 3) := by decide +kernel
theorem dX10_gauge_4 : decode cX10_gauge 4 = .ok (.getfield 53, 3) := by decide +kernel
theorem dX10_gauge_7 : decode cX10_gauge 7 = .ok (.astore_n 2, 1) := by decide +kernel
theorem dX10_gauge_8 : decode cX10_gauge 8 = .ok (.iload_n 1, 1) := by decide +kernel
theorem dX10_gauge_9 : decode cX10_gauge 9 = .ok (.tableswitch 166 0 12 #[67, 72, 77, 82, 97, 102, 107, 118, 129, 134, 139, 156, 161], 67) := by decide +kernel
theorem dX10_gauge_76 : decode cX10_gauge 76 = .ok (.aload_n 2, 1) := by decide +kernel
theorem dX10_gauge_77 : decode cX10_gauge 77 = .ok (.getfield 57, 3) := by decide +kernel
theorem dX10_gauge_80 : decode cX10_gauge 80 = .ok (.ireturn, 1) := by decide +kernel
theorem dX10_gauge_81 : decode cX10_gauge 81 = .ok (.aload_n 2, 1) := by decide +kernel
theorem dX10_gauge_82 : decode cX10_gauge 82 = .ok (.getfield 198, 3) := by decide +kernel
theorem dX10_gauge_85 : decode cX10_gauge 85 = .ok (.ireturn, 1) := by decide +kernel
theorem dX10_gauge_86 : decode cX10_gauge 86 = .ok (.aload_n 2, 1) := by decide +kernel
theorem dX10_gauge_87 : decode cX10_gauge 87 = .ok (.getfield 257, 3) := by decide +kernel
theorem dX10_gauge_90 : decode cX10_gauge 90 = .ok (.ireturn, 1) := by decide +kernel
theorem dX10_gauge_91 : decode cX10_gauge 91 = .ok (.aload_n 2, 1) := by decide +kernel
theorem dX10_gauge_92 : decode cX10_gauge 92 = .ok (.aload_n 0, 1) := by decide +kernel
theorem dX10_gauge_93 : decode cX10_gauge 93 = .ok (.getfield 12, 3) := by decide +kernel
theorem dX10_gauge_96 : decode cX10_gauge 96 = .ok (.getfield 66, 3) := by decide +kernel
theorem dX10_gauge_99 : decode cX10_gauge 99 = .ok (.getfield 236, 3) := by decide +kernel
theorem dX10_gauge_102 : decode cX10_gauge 102 = .ok (.invokevirtual 260, 3) := by decide +kernel
theorem dX10_gauge_105 : decode cX10_gauge 105 = .ok (.ireturn, 1) := by decide +kernel
theorem dX10_gauge_106 : decode cX10_gauge 106 = .ok (.aload_n 2, 1) := by decide +kernel
theorem dX10_gauge_107 : decode cX10_gauge 107 = .ok (.getfield 263, 3) := by decide +kernel
theorem dX10_gauge_110 : decode cX10_gauge 110 = .ok (.ireturn, 1) := by decide +kernel
theorem dX10_gauge_111 : decode cX10_gauge 111 = .ok (.aload_n 2, 1) := by decide +kernel
theorem dX10_gauge_112 : decode cX10_gauge 112 = .ok (.getfield 266, 3) := by decide +kernel
theorem dX10_gauge_115 : decode cX10_gauge 115 = .ok (.ireturn, 1) := by decide +kernel
theorem dX10_gauge_116 : decode cX10_gauge 116 = .ok (.aload_n 0, 1) := by decide +kernel
theorem dX10_gauge_117 : decode cX10_gauge 117 = .ok (.getfield 12, 3) := by decide +kernel
theorem dX10_gauge_120 : decode cX10_gauge 120 = .ok (.getfield 168, 3) := by decide +kernel
theorem dX10_gauge_123 : decode cX10_gauge 123 = .ok (.getfield 189, 3) := by decide +kernel
theorem dX10_gauge_126 : decode cX10_gauge 126 = .ok (.ireturn, 1) := by decide +kernel
theorem dX10_gauge_127 : decode cX10_gauge 127 = .ok (.aload_n 0, 1) := by decide +kernel
theorem dX10_gauge_128 : decode cX10_gauge 128 = .ok (.getfield 12, 3) := by decide +kernel
theorem dX10_gauge_131 : decode cX10_gauge 131 = .ok (.getfield 206, 3) := by decide +kernel
theorem dX10_gauge_134 : decode cX10_gauge 134 = .ok (.getfield 269, 3) := by decide +kernel
theorem dX10_gauge_137 : decode cX10_gauge 137 = .ok (.ireturn, 1) := by decide +kernel
theorem dX10_gauge_138 : decode cX10_gauge 138 = .ok (.aload_n 2, 1) := by decide +kernel
theorem dX10_gauge_139 : decode cX10_gauge 139 = .ok (.getfield 270, 3) := by decide +kernel
theorem dX10_gauge_142 : decode cX10_gauge 142 = .ok (.ireturn, 1) := by decide +kernel
theorem dX10_gauge_143 : decode cX10_gauge 143 = .ok (.aload_n 2, 1) := by decide +kernel
theorem dX10_gauge_144 : decode cX10_gauge 144 = .ok (.invokevirtual 271, 3) := by decide +kernel
theorem dX10_gauge_147 : decode cX10_gauge 147 = .ok (.ireturn, 1) := by decide +kernel
theorem dX10_gauge_148 : decode cX10_gauge 148 = .ok (.aload_n 2, 1) := by decide +kernel
theorem dX10_gauge_149 : decode cX10_gauge 149 = .ok (.aload_n 0, 1) := by decide +kernel
theorem dX10_gauge_150 : decode cX10_gauge 150 = .ok (.getfield 12, 3) := by decide +kernel
theorem dX10_gauge_153 : decode cX10_gauge 153 = .ok (.getfield 140, 3) := by decide +kernel
theorem dX10_gauge_156 : decode cX10_gauge 156 = .ok (.bipush 6, 2) := by decide +kernel
theorem dX10_gauge_158 : decode cX10_gauge 158 = .ok (.invokevirtual 151, 3) := by decide +kernel
theorem dX10_gauge_161 : decode cX10_gauge 161 = .ok (.invokevirtual 275, 3) := by decide +kernel
theorem dX10_gauge_164 : decode cX10_gauge 164 = .ok (.ireturn, 1) := by decide +kernel
theorem dX10_gauge_165 : decode cX10_gauge 165 = .ok (.aload_n 2, 1) := by decide +kernel
theorem dX10_gauge_166 : decode cX10_gauge 166 = .ok (.getfield 278, 3) := by decide +kernel
theorem dX10_gauge_169 : decode cX10_gauge 169 = .ok (.ireturn, 1) := by decide +kernel
theorem dX10_gauge_170 : decode cX10_gauge 170 = .ok (.aload_n 2, 1) := by decide +kernel
theorem dX10_gauge_171 : decode cX10_gauge 171 = .ok (.getfield 281, 3) := by decide +kernel
theorem dX10_gauge_174 : decode cX10_gauge 174 = .ok (.ireturn, 1) := by decide +kernel
theorem dX10_gauge_175 : decode cX10_gauge 175 = .ok (.new 43, 3) := by decide +kernel
theorem dX10_gauge_178 : decode cX10_gauge 178 = .ok (.dup, 1) := by decide +kernel
theorem dX10_gauge_179 : decode cX10_gauge 179 = .ok (.ldc 223, 2) := by decide +kernel
theorem dX10_gauge_181 : decode cX10_gauge 181 = .ok (.invokespecial 47, 3) := by decide +kernel
theorem dX10_gauge_184 : decode cX10_gauge 184 = .ok (.athrow, 1) := by decide +kernel
theorem dX10_undo_0 : decode cX10_undo 0 = .ok (.aload_n 0, 1) := by decide +kernel
theorem dX10_undo_1 : decode cX10_undo 1 = .ok (.getfield 27, 3) := by decide +kernel
theorem dX10_undo_4 : decode cX10_undo 4 = .ok (.iconst 1, 1) := by decide +kernel
theorem dX10_undo_5 : decode cX10_undo 5 = .ok (.if_icmp .ge 14, 3) := by decide +kernel
theorem dX10_undo_8 : decode cX10_undo 8 = .ok (.new 104, 3) := by decide +kernel
theorem dX10_undo_11 : decode cX10_undo 11 = .ok (.dup, 1) := by decide +kernel
theorem dX10_undo_12 : decode cX10_undo 12 = .ok (.ldc_w 329, 3) := by decide +kernel
theorem dX10_undo_15 : decode cX10_undo 15 = .ok (.invokespecial 108, 3) := by decide +kernel
theorem dX10_undo_18 : decode cX10_undo 18 = .ok (.athrow, 1) := by decide +kernel
theorem dX10_undo_19 : decode cX10_undo 19 = .ok (.aload_n 0, 1) := by decide +kernel
theorem dX10_undo_20 : decode cX10_undo 20 = .ok (.aload_n 0, 1) := by decide +kernel
theorem dX10_undo_21 : decode cX10_undo 21 = .ok (.getfield 23, 3) := by decide +kernel
theorem dX10_undo_24 : decode cX10_undo 24 = .ok (.invokevirtual 331, 3) := by decide +kernel
theorem dX10_undo_27 : decode cX10_undo 27 = .ok (.aload_n 0, 1) := by decide +kernel
theorem dX10_undo_28 : decode cX10_undo 28 = .ok (.getfield 12, 3) := by decide +kernel
theorem dX10_undo_31 : decode cX10_undo 31 = .ok (.invokestatic 335, 3) := by decide +kernel
theorem dX10_undo_34 : decode cX10_undo 34 = .ok (.aload_n 0, 1) := by decide +kernel
theorem dX10_undo_35 : decode cX10_undo 35 = .ok (.aload_n 0, 1) := by decide +kernel
theorem dX10_undo_36 : decode cX10_undo 36 = .ok (.getfield 23, 3) := by decide +kernel
theorem dX10_undo_39 : decode cX10_undo 39 = .ok (.ifCond .le 12, 3) := by decide +kernel
theorem dX10_undo_42 : decode cX10_undo 42 = .ok (.aload_n 0, 1) := by decide +kernel
theorem dX10_undo_43 : decode cX10_undo 43 = .ok (.getfield 23, 3) := by decide +kernel
theorem dX10_undo_46 : decode cX10_undo 46 = .ok (.iconst 1, 1) := by decide +kernel
theorem dX10_undo_47 : decode cX10_undo 47 = .ok (.isub, 1) := by decide +kernel
theorem dX10_undo_48 : decode cX10_undo 48 = .ok (.goto 10, 3) := by decide +kernel
theorem dX10_undo_51 : decode cX10_undo 51 = .ok (.aload_n 0, 1) := by decide +kernel
theorem dX10_undo_52 : decode cX10_undo 52 = .ok (.getfield 19, 3) := by decide +kernel
theorem dX10_undo_55 : decode cX10_undo 55 = .ok (.arraylength, 1) := by decide +kernel
theorem dX10_undo_56 : decode cX10_undo 56 = .ok (.iconst 1, 1) := by decide +kernel
theorem dX10_undo_57 : decode cX10_undo 57 = .ok (.isub, 1) := by decide +kernel
theorem dX10_undo_58 : decode cX10_undo 58 = .ok (.putfield 23, 3) := by decide +kernel
theorem dX10_undo_61 : decode cX10_undo 61 = .ok (.aload_n 0, 1) := by decide +kernel
theorem dX10_undo_62 : decode cX10_undo 62 = .ok (.dup, 1) := by decide +kernel
theorem dX10_undo_63 : decode cX10_undo 63 = .ok (.getfield 27, 3) := by decide +kernel
theorem dX10_undo_66 : decode cX10_undo 66 = .ok (.iconst 1, 1) := by decide +kernel
theorem dX10_undo_67 : decode cX10_undo 67 = .ok (.isub, 1) := by decide +kernel
theorem dX10_undo_68 : decode cX10_undo 68 = .ok (.putfield 27, 3) := by decide +kernel
theorem dX10_undo_71 : decode cX10_undo 71 = .ok (.aload_n 0, 1) := by decide +kernel
theorem dX10_undo_72 : decode cX10_undo 72 = .ok (.getfield 27, 3) := by decide +kernel
theorem dX10_undo_75 : decode cX10_undo 75 = .ok (.ireturn, 1) := by decide +kernel
theorem dX10_digest_0 : decode cX10_digest 0 = .ok (.ldc2_w 339, 3) := by decide +kernel
theorem dX10_digest_3 : decode cX10_digest 3 = .ok (.lstore_n 1, 1) := by decide +kernel
theorem dX10_digest_4 : decode cX10_digest 4 = .ok (.ldc2_w 341, 3) := by decide +kernel
theorem dX10_digest_7 : decode cX10_digest 7 = .ok (.lload_n 1, 1) := by decide +kernel
theorem dX10_digest_8 : decode cX10_digest 8 = .ok (.lmul, 1) := by decide +kernel
theorem dX10_digest_9 : decode cX10_digest 9 = .ok (.aload_n 0, 1) := by decide +kernel
theorem dX10_digest_10 : decode cX10_digest 10 = .ok (.getfield 27, 3) := by decide +kernel
theorem dX10_digest_13 : decode cX10_digest 13 = .ok (.i2l, 1) := by decide +kernel
theorem dX10_digest_14 : decode cX10_digest 14 = .ok (.ladd, 1) := by decide +kernel
theorem dX10_digest_15 : decode cX10_digest 15 = .ok (.lstore_n 1, 1) := by decide +kernel
theorem dX10_digest_16 : decode cX10_digest 16 = .ok (.ldc2_w 341, 3) := by decide +kernel
theorem dX10_digest_19 : decode cX10_digest 19 = .ok (.lload_n 1, 1) := by decide +kernel
theorem dX10_digest_20 : decode cX10_digest 20 = .ok (.lmul, 1) := by decide +kernel
theorem dX10_digest_21 : decode cX10_digest 21 = .ok (.aload_n 0, 1) := by decide +kernel
theorem dX10_digest_22 : decode cX10_digest 22 = .ok (.getfield 33, 3) := by decide +kernel
theorem dX10_digest_25 : decode cX10_digest 25 = .ok (.getfield 311, 3) := by decide +kernel
theorem dX10_digest_28 : decode cX10_digest 28 = .ok (.i2l, 1) := by decide +kernel
theorem dX10_digest_29 : decode cX10_digest 29 = .ok (.ladd, 1) := by decide +kernel
theorem dX10_digest_30 : decode cX10_digest 30 = .ok (.lstore_n 1, 1) := by decide +kernel
theorem dX10_digest_31 : decode cX10_digest 31 = .ok (.iconst 0, 1) := by decide +kernel
theorem dX10_digest_32 : decode cX10_digest 32 = .ok (.istore_n 3, 1) := by decide +kernel
theorem dX10_digest_33 : decode cX10_digest 33 = .ok (.iload_n 3, 1) := by decide +kernel
theorem dX10_digest_34 : decode cX10_digest 34 = .ok (.bipush 12, 2) := by decide +kernel
theorem dX10_digest_36 : decode cX10_digest 36 = .ok (.if_icmp .ge 22, 3) := by decide +kernel
theorem dX10_digest_39 : decode cX10_digest 39 = .ok (.ldc2_w 341, 3) := by decide +kernel
theorem dX10_digest_42 : decode cX10_digest 42 = .ok (.lload_n 1, 1) := by decide +kernel
theorem dX10_digest_43 : decode cX10_digest 43 = .ok (.lmul, 1) := by decide +kernel
theorem dX10_digest_44 : decode cX10_digest 44 = .ok (.aload_n 0, 1) := by decide +kernel
theorem dX10_digest_45 : decode cX10_digest 45 = .ok (.iload_n 3, 1) := by decide +kernel
theorem dX10_digest_46 : decode cX10_digest 46 = .ok (.invokevirtual 343, 3) := by decide +kernel
theorem dX10_digest_49 : decode cX10_digest 49 = .ok (.i2l, 1) := by decide +kernel
theorem dX10_digest_50 : decode cX10_digest 50 = .ok (.ladd, 1) := by decide +kernel
theorem dX10_digest_51 : decode cX10_digest 51 = .ok (.lstore_n 1, 1) := by decide +kernel
theorem dX10_digest_52 : decode cX10_digest 52 = .ok (.iinc 3 1, 3) := by decide +kernel
theorem dX10_digest_55 : decode cX10_digest 55 = .ok (.goto (-22), 3) := by decide +kernel
theorem dX10_digest_58 : decode cX10_digest 58 = .ok (.iconst 0, 1) := by decide +kernel
theorem dX10_digest_59 : decode cX10_digest 59 = .ok (.istore_n 3, 1) := by decide +kernel
theorem dX10_digest_60 : decode cX10_digest 60 = .ok (.iload_n 3, 1) := by decide +kernel
theorem dX10_digest_61 : decode cX10_digest 61 = .ok (.bipush 12, 2) := by decide +kernel
theorem dX10_digest_63 : decode cX10_digest 63 = .ok (.if_icmp .ge 22, 3) := by decide +kernel
theorem dX10_digest_66 : decode cX10_digest 66 = .ok (.ldc2_w 341, 3) := by decide +kernel
theorem dX10_digest_69 : decode cX10_digest 69 = .ok (.lload_n 1, 1) := by decide +kernel
theorem dX10_digest_70 : decode cX10_digest 70 = .ok (.lmul, 1) := by decide +kernel
theorem dX10_digest_71 : decode cX10_digest 71 = .ok (.aload_n 0, 1) := by decide +kernel
theorem dX10_digest_72 : decode cX10_digest 72 = .ok (.iload_n 3, 1) := by decide +kernel
theorem dX10_digest_73 : decode cX10_digest 73 = .ok (.invokevirtual 345, 3) := by decide +kernel
theorem dX10_digest_76 : decode cX10_digest 76 = .ok (.i2l, 1) := by decide +kernel
theorem dX10_digest_77 : decode cX10_digest 77 = .ok (.ladd, 1) := by decide +kernel
theorem dX10_digest_78 : decode cX10_digest 78 = .ok (.lstore_n 1, 1) := by decide +kernel
theorem dX10_digest_79 : decode cX10_digest 79 = .ok (.iinc 3 1, 3) := by decide +kernel
theorem dX10_digest_82 : decode cX10_digest 82 = .ok (.goto (-22), 3) := by decide +kernel
theorem dX10_digest_85 : decode cX10_digest 85 = .ok (.iconst 0, 1) := by decide +kernel
theorem dX10_digest_86 : decode cX10_digest 86 = .ok (.istore_n 3, 1) := by decide +kernel
theorem dX10_digest_87 : decode cX10_digest 87 = .ok (.iload_n 3, 1) := by decide +kernel
theorem dX10_digest_88 : decode cX10_digest 88 = .ok (.bipush 13, 2) := by decide +kernel
theorem dX10_digest_90 : decode cX10_digest 90 = .ok (.if_icmp .ge 22, 3) := by decide +kernel
theorem dX10_digest_93 : decode cX10_digest 93 = .ok (.ldc2_w 341, 3) := by decide +kernel
theorem dX10_digest_96 : decode cX10_digest 96 = .ok (.lload_n 1, 1) := by decide +kernel
theorem dX10_digest_97 : decode cX10_digest 97 = .ok (.lmul, 1) := by decide +kernel
theorem dX10_digest_98 : decode cX10_digest 98 = .ok (.aload_n 0, 1) := by decide +kernel
theorem dX10_digest_99 : decode cX10_digest 99 = .ok (.iload_n 3, 1) := by decide +kernel
theorem dX10_digest_100 : decode cX10_digest 100 = .ok (.invokevirtual 348, 3) := by decide +kernel
theorem dX10_digest_103 : decode cX10_digest 103 = .ok (.i2l, 1) := by decide +kernel
theorem dX10_digest_104 : decode cX10_digest 104 = .ok (.ladd, 1) := by decide +kernel
theorem dX10_digest_105 : decode cX10_digest 105 = .ok (.lstore_n 1, 1) := by decide +kernel
theorem dX10_digest_106 : decode cX10_digest 106 = .ok (.iinc 3 1, 3) := by decide +kernel
theorem dX10_digest_109 : decode cX10_digest 109 = .ok (.goto (-22), 3) := by decide +kernel
theorem dX10_digest_112 : decode cX10_digest 112 = .ok (.aload_n 0, 1) := by decide +kernel
theorem dX10_digest_113 : decode cX10_digest 113 = .ok (.getfield 12, 3) := by decide +kernel
theorem dX10_digest_116 : decode cX10_digest 116 = .ok (.getfield 66, 3) := by decide +kernel
theorem dX10_digest_119 : decode cX10_digest 119 = .ok (.lload_n 1, 1) := by decide +kernel
theorem dX10_digest_120 : decode cX10_digest 120 = .ok (.invokevirtual 351, 3) := by decide +kernel
theorem dX10_digest_123 : decode cX10_digest 123 = .ok (.lstore_n 1, 1) := by decide +kernel
theorem dX10_digest_124 : decode cX10_digest 124 = .ok (.aload_n 0, 1) := by decide +kernel
theorem dX10_digest_125 : decode cX10_digest 125 = .ok (.getfield 12, 3) := by decide +kernel
theorem dX10_digest_128 : decode cX10_digest 128 = .ok (.getfield 206, 3) := by decide +kernel
theorem dX10_digest_131 : decode cX10_digest 131 = .ok (.lload_n 1, 1) := by decide +kernel
theorem dX10_digest_132 : decode cX10_digest 132 = .ok (.invokevirtual 355, 3) := by decide +kernel
theorem dX10_digest_135 : decode cX10_digest 135 = .ok (.lstore_n 1, 1) := by decide +kernel
theorem dX10_digest_136 : decode cX10_digest 136 = .ok (.iconst 0, 1) := by decide +kernel
theorem dX10_digest_137 : decode cX10_digest 137 = .ok (.istore_n 3, 1) := by decide +kernel
theorem dX10_digest_138 : decode cX10_digest 138 = .ok (.iload_n 3, 1) := by decide +kernel
theorem dX10_digest_139 : decode cX10_digest 139 = .ok (.aload_n 0, 1) := by decide +kernel
theorem dX10_digest_140 : decode cX10_digest 140 = .ok (.getfield 12, 3) := by decide +kernel
theorem dX10_digest_143 : decode cX10_digest 143 = .ok (.getfield 140, 3) := by decide +kernel
theorem dX10_digest_146 : decode cX10_digest 146 = .ok (.bipush 6, 2) := by decide +kernel
theorem dX10_digest_148 : decode cX10_digest 148 = .ok (.invokevirtual 151, 3) := by decide +kernel
theorem dX10_digest_151 : decode cX10_digest 151 = .ok (.if_icmp .ge 22, 3) := by decide +kernel
theorem dX10_digest_154 : decode cX10_digest 154 = .ok (.ldc2_w 341, 3) := by decide +kernel
theorem dX10_digest_157 : decode cX10_digest 157 = .ok (.lload_n 1, 1) := by decide +kernel
theorem dX10_digest_158 : decode cX10_digest 158 = .ok (.lmul, 1) := by decide +kernel
theorem dX10_digest_159 : decode cX10_digest 159 = .ok (.aload_n 0, 1) := by decide +kernel
theorem dX10_digest_160 : decode cX10_digest 160 = .ok (.iload_n 3, 1) := by decide +kernel
theorem dX10_digest_161 : decode cX10_digest 161 = .ok (.invokevirtual 356, 3) := by decide +kernel
theorem dX10_digest_164 : decode cX10_digest 164 = .ok (.i2l, 1) := by decide +kernel
theorem dX10_digest_165 : decode cX10_digest 165 = .ok (.ladd, 1) := by decide +kernel
theorem dX10_digest_166 : decode cX10_digest 166 = .ok (.lstore_n 1, 1) := by decide +kernel
theorem dX10_digest_167 : decode cX10_digest 167 = .ok (.iinc 3 1, 3) := by decide +kernel
theorem dX10_digest_170 : decode cX10_digest 170 = .ok (.goto (-32), 3) := by decide +kernel
theorem dX10_digest_173 : decode cX10_digest 173 = .ok (.aload_n 0, 1) := by decide +kernel
theorem dX10_digest_174 : decode cX10_digest 174 = .ok (.getfield 12, 3) := by decide +kernel
theorem dX10_digest_177 : decode cX10_digest 177 = .ok (.getfield 168, 3) := by decide +kernel
theorem dX10_digest_180 : decode cX10_digest 180 = .ok (.lload_n 1, 1) := by decide +kernel
theorem dX10_digest_181 : decode cX10_digest 181 = .ok (.invokevirtual 359, 3) := by decide +kernel
theorem dX10_digest_184 : decode cX10_digest 184 = .ok (.lreturn, 1) := by decide +kernel
theorem dX10_allowsDistance_0 : decode cX10_allowsDistance 0 = .ok (.iload_n 0, 1) := by decide +kernel
theorem dX10_allowsDistance_1 : decode cX10_allowsDistance 1 = .ok (.ifCond .lt 14, 3) := by decide +kernel
theorem dX10_allowsDistance_4 : decode cX10_allowsDistance 4 = .ok (.iload_n 0, 1) := by decide +kernel
theorem dX10_allowsDistance_5 : decode cX10_allowsDistance 5 = .ok (.sipush 10000, 3) := by decide +kernel
theorem dX10_allowsDistance_8 : decode cX10_allowsDistance 8 = .ok (.if_icmp .gt 7, 3) := by decide +kernel
theorem dX10_allowsDistance_11 : decode cX10_allowsDistance 11 = .ok (.iconst 1, 1) := by decide +kernel
theorem dX10_allowsDistance_12 : decode cX10_allowsDistance 12 = .ok (.goto 4, 3) := by decide +kernel
theorem dX10_allowsDistance_15 : decode cX10_allowsDistance 15 = .ok (.iconst 0, 1) := by decide +kernel
theorem dX10_allowsDistance_16 : decode cX10_allowsDistance 16 = .ok (.ireturn, 1) := by decide +kernel
theorem dX10_allowsShooting_0 : decode cX10_allowsShooting 0 = .ok (.iload_n 0, 1) := by decide +kernel
theorem dX10_allowsShooting_1 : decode cX10_allowsShooting 1 = .ok (.iconst 1, 1) := by decide +kernel
theorem dX10_allowsShooting_2 : decode cX10_allowsShooting 2 = .ok (.if_icmp .lt 14, 3) := by decide +kernel
theorem dX10_allowsShooting_5 : decode cX10_allowsShooting 5 = .ok (.iload_n 0, 1) := by decide +kernel
theorem dX10_allowsShooting_6 : decode cX10_allowsShooting 6 = .ok (.sipush 500, 3) := by decide +kernel
theorem dX10_allowsShooting_9 : decode cX10_allowsShooting 9 = .ok (.if_icmp .gt 7, 3) := by decide +kernel
theorem dX10_allowsShooting_12 : decode cX10_allowsShooting 12 = .ok (.iconst 1, 1) := by decide +kernel
theorem dX10_allowsShooting_13 : decode cX10_allowsShooting 13 = .ok (.goto 4, 3) := by decide +kernel
theorem dX10_allowsShooting_16 : decode cX10_allowsShooting 16 = .ok (.iconst 0, 1) := by decide +kernel
theorem dX10_allowsShooting_17 : decode cX10_allowsShooting 17 = .ok (.ireturn, 1) := by decide +kernel
theorem dX10_allowsLearning_0 : decode cX10_allowsLearning 0 = .ok (.iload_n 0, 1) := by decide +kernel
theorem dX10_allowsLearning_1 : decode cX10_allowsLearning 1 = .ok (.iconst 1, 1) := by decide +kernel
theorem dX10_allowsLearning_2 : decode cX10_allowsLearning 2 = .ok (.if_icmp .lt 13, 3) := by decide +kernel
theorem dX10_allowsLearning_5 : decode cX10_allowsLearning 5 = .ok (.iload_n 0, 1) := by decide +kernel
theorem dX10_allowsLearning_6 : decode cX10_allowsLearning 6 = .ok (.bipush 50, 2) := by decide +kernel
theorem dX10_allowsLearning_8 : decode cX10_allowsLearning 8 = .ok (.if_icmp .gt 7, 3) := by decide +kernel
theorem dX10_allowsLearning_11 : decode cX10_allowsLearning 11 = .ok (.iconst 1, 1) := by decide +kernel
theorem dX10_allowsLearning_12 : decode cX10_allowsLearning 12 = .ok (.goto 4, 3) := by decide +kernel
theorem dX10_allowsLearning_15 : decode cX10_allowsLearning 15 = .ok (.iconst 0, 1) := by decide +kernel
theorem dX10_allowsLearning_16 : decode cX10_allowsLearning 16 = .ok (.ireturn, 1) := by decide +kernel
theorem dX10_copyRow_0 : decode cX10_copyRow 0 = .ok (.aload_n 0, 1) := by decide +kernel
theorem dX10_copyRow_1 : decode cX10_copyRow 1 = .ok (.iconst 0, 1) := by decide +kernel
theorem dX10_copyRow_2 : decode cX10_copyRow 2 = .ok (.aload_n 1, 1) := by decide +kernel
theorem dX10_copyRow_3 : decode cX10_copyRow 3 = .ok (.iconst 0, 1) := by decide +kernel
theorem dX10_copyRow_4 : decode cX10_copyRow 4 = .ok (.aload_n 0, 1) := by decide +kernel
theorem dX10_copyRow_5 : decode cX10_copyRow 5 = .ok (.arraylength, 1) := by decide +kernel
theorem dX10_copyRow_6 : decode cX10_copyRow 6 = .ok (.aload_n 1, 1) := by decide +kernel
theorem dX10_copyRow_7 : decode cX10_copyRow 7 = .ok (.arraylength, 1) := by decide +kernel
theorem dX10_copyRow_8 : decode cX10_copyRow 8 = .ok (.invokestatic 360, 3) := by decide +kernel
theorem dX10_copyRow_11 : decode cX10_copyRow 11 = .ok (.invokestatic 365, 3) := by decide +kernel
theorem dX10_copyRow_14 : decode cX10_copyRow 14 = .ok (.return_, 1) := by decide +kernel
theorem dX10_copyIfThere_0 : decode cX10_copyIfThere 0 = .ok (.aload_n 0, 1) := by decide +kernel
theorem dX10_copyIfThere_1 : decode cX10_copyIfThere 1 = .ok (.ifnull 12, 3) := by decide +kernel
theorem dX10_copyIfThere_4 : decode cX10_copyIfThere 4 = .ok (.aload_n 1, 1) := by decide +kernel
theorem dX10_copyIfThere_5 : decode cX10_copyIfThere 5 = .ok (.ifnull 8, 3) := by decide +kernel
theorem dX10_copyIfThere_8 : decode cX10_copyIfThere 8 = .ok (.aload_n 1, 1) := by decide +kernel
theorem dX10_copyIfThere_9 : decode cX10_copyIfThere 9 = .ok (.aload_n 0, 1) := by decide +kernel
theorem dX10_copyIfThere_10 : decode cX10_copyIfThere 10 = .ok (.invokevirtual 291, 3) := by decide +kernel
theorem dX10_copyIfThere_13 : decode cX10_copyIfThere 13 = .ok (.return_, 1) := by decide +kernel
theorem dX10_savedAt_0 : decode cX10_savedAt 0 = .ok (.iload_n 1, 1) := by decide +kernel
theorem dX10_savedAt_1 : decode cX10_savedAt 1 = .ok (.ifCond .lt 21, 3) := by decide +kernel
theorem dX10_savedAt_4 : decode cX10_savedAt 4 = .ok (.iload_n 1, 1) := by decide +kernel
theorem dX10_savedAt_5 : decode cX10_savedAt 5 = .ok (.aload_n 0, 1) := by decide +kernel
theorem dX10_savedAt_6 : decode cX10_savedAt 6 = .ok (.getfield 19, 3) := by decide +kernel
theorem dX10_savedAt_9 : decode cX10_savedAt 9 = .ok (.arraylength, 1) := by decide +kernel
theorem dX10_savedAt_10 : decode cX10_savedAt 10 = .ok (.if_icmp .ge 12, 3) := by decide +kernel
theorem dX10_savedAt_13 : decode cX10_savedAt 13 = .ok (.aload_n 0, 1) := by decide +kernel
theorem dX10_savedAt_14 : decode cX10_savedAt 14 = .ok (.getfield 19, 3) := by decide +kernel
theorem dX10_savedAt_17 : decode cX10_savedAt 17 = .ok (.iload_n 1, 1) := by decide +kernel
theorem dX10_savedAt_18 : decode cX10_savedAt 18 = .ok (.aaload, 1) := by decide +kernel
theorem dX10_savedAt_19 : decode cX10_savedAt 19 = .ok (.goto 4, 3) := by decide +kernel
theorem dX10_savedAt_22 : decode cX10_savedAt 22 = .ok (.aconst_null, 1) := by decide +kernel
theorem dX10_savedAt_23 : decode cX10_savedAt 23 = .ok (.areturn, 1) := by decide +kernel
theorem dX10_save_0 : decode cX10_save 0 = .ok (.aload_n 0, 1) := by decide +kernel
theorem dX10_save_1 : decode cX10_save 1 = .ok (.aload_n 0, 1) := by decide +kernel
theorem dX10_save_2 : decode cX10_save 2 = .ok (.getfield 23, 3) := by decide +kernel
theorem dX10_save_5 : decode cX10_save 5 = .ok (.iconst 1, 1) := by decide +kernel
theorem dX10_save_6 : decode cX10_save 6 = .ok (.iadd, 1) := by decide +kernel
theorem dX10_save_7 : decode cX10_save 7 = .ok (.aload_n 0, 1) := by decide +kernel
theorem dX10_save_8 : decode cX10_save 8 = .ok (.getfield 19, 3) := by decide +kernel
theorem dX10_save_11 : decode cX10_save 11 = .ok (.arraylength, 1) := by decide +kernel
theorem dX10_save_12 : decode cX10_save 12 = .ok (.if_icmp .ge 12, 3) := by decide +kernel
theorem dX10_save_15 : decode cX10_save 15 = .ok (.aload_n 0, 1) := by decide +kernel
theorem dX10_save_16 : decode cX10_save 16 = .ok (.getfield 23, 3) := by decide +kernel
theorem dX10_save_19 : decode cX10_save 19 = .ok (.iconst 1, 1) := by decide +kernel
theorem dX10_save_20 : decode cX10_save 20 = .ok (.iadd, 1) := by decide +kernel
theorem dX10_save_21 : decode cX10_save 21 = .ok (.goto 4, 3) := by decide +kernel
theorem dX10_save_24 : decode cX10_save 24 = .ok (.iconst 0, 1) := by decide +kernel
theorem dX10_save_25 : decode cX10_save 25 = .ok (.putfield 23, 3) := by decide +kernel
theorem dX10_save_28 : decode cX10_save 28 = .ok (.aload_n 0, 1) := by decide +kernel
theorem dX10_save_29 : decode cX10_save 29 = .ok (.getfield 12, 3) := by decide +kernel
theorem dX10_save_32 : decode cX10_save 32 = .ok (.aload_n 0, 1) := by decide +kernel
theorem dX10_save_33 : decode cX10_save 33 = .ok (.aload_n 0, 1) := by decide +kernel
theorem dX10_save_34 : decode cX10_save 34 = .ok (.getfield 23, 3) := by decide +kernel
theorem dX10_save_37 : decode cX10_save 37 = .ok (.invokevirtual 331, 3) := by decide +kernel
theorem dX10_save_40 : decode cX10_save 40 = .ok (.invokestatic 335, 3) := by decide +kernel
theorem dX10_save_43 : decode cX10_save 43 = .ok (.aload_n 0, 1) := by decide +kernel
theorem dX10_save_44 : decode cX10_save 44 = .ok (.getfield 27, 3) := by decide +kernel
theorem dX10_save_47 : decode cX10_save 47 = .ok (.aload_n 0, 1) := by decide +kernel
theorem dX10_save_48 : decode cX10_save 48 = .ok (.getfield 19, 3) := by decide +kernel
theorem dX10_save_51 : decode cX10_save 51 = .ok (.arraylength, 1) := by decide +kernel
theorem dX10_save_52 : decode cX10_save 52 = .ok (.if_icmp .ge 13, 3) := by decide +kernel
theorem dX10_save_55 : decode cX10_save 55 = .ok (.aload_n 0, 1) := by decide +kernel
theorem dX10_save_56 : decode cX10_save 56 = .ok (.dup, 1) := by decide +kernel
theorem dX10_save_57 : decode cX10_save 57 = .ok (.getfield 27, 3) := by decide +kernel
theorem dX10_save_60 : decode cX10_save 60 = .ok (.iconst 1, 1) := by decide +kernel
theorem dX10_save_61 : decode cX10_save 61 = .ok (.iadd, 1) := by decide +kernel
theorem dX10_save_62 : decode cX10_save 62 = .ok (.putfield 27, 3) := by decide +kernel
theorem dX10_save_65 : decode cX10_save 65 = .ok (.return_, 1) := by decide +kernel
theorem dJ9_abs_0f7a4_0 : decode cJ9_abs_0f7a4 0 = .ok (.iload_n 0, 1) := by decide +kernel
theorem dJ9_abs_0f7a4_1 : decode cJ9_abs_0f7a4 1 = .ok (.ifCond .ge 8, 3) := by decide +kernel
theorem dJ9_abs_0f7a4_4 : decode cJ9_abs_0f7a4 4 = .ok (.iload_n 0, 1) := by decide +kernel
theorem dJ9_abs_0f7a4_5 : decode cJ9_abs_0f7a4 5 = .ok (.ineg, 1) := by decide +kernel
theorem dJ9_abs_0f7a4_6 : decode cJ9_abs_0f7a4 6 = .ok (.goto 4, 3) := by decide +kernel
theorem dJ9_abs_0f7a4_9 : decode cJ9_abs_0f7a4 9 = .ok (.iload_n 0, 1) := by decide +kernel
theorem dJ9_abs_0f7a4_10 : decode cJ9_abs_0f7a4 10 = .ok (.ireturn, 1) := by decide +kernel
theorem dJ9_max_7cf53_0 : decode cJ9_max_7cf53 0 = .ok (.iload_n 0, 1) := by decide +kernel
theorem dJ9_max_7cf53_1 : decode cJ9_max_7cf53 1 = .ok (.iload_n 1, 1) := by decide +kernel
theorem dJ9_max_7cf53_2 : decode cJ9_max_7cf53 2 = .ok (.if_icmp .lt 7, 3) := by decide +kernel
theorem dJ9_max_7cf53_5 : decode cJ9_max_7cf53 5 = .ok (.iload_n 0, 1) := by decide +kernel
theorem dJ9_max_7cf53_6 : decode cJ9_max_7cf53 6 = .ok (.goto 4, 3) := by decide +kernel
theorem dJ9_max_7cf53_9 : decode cJ9_max_7cf53 9 = .ok (.iload_n 1, 1) := by decide +kernel
theorem dJ9_max_7cf53_10 : decode cJ9_max_7cf53 10 = .ok (.ireturn, 1) := by decide +kernel
theorem dJ9_min_7cf53_0 : decode cJ9_min_7cf53 0 = .ok (.iload_n 0, 1) := by decide +kernel
theorem dJ9_min_7cf53_1 : decode cJ9_min_7cf53 1 = .ok (.iload_n 1, 1) := by decide +kernel
theorem dJ9_min_7cf53_2 : decode cJ9_min_7cf53 2 = .ok (.if_icmp .gt 7, 3) := by decide +kernel
theorem dJ9_min_7cf53_5 : decode cJ9_min_7cf53 5 = .ok (.iload_n 0, 1) := by decide +kernel
theorem dJ9_min_7cf53_6 : decode cJ9_min_7cf53 6 = .ok (.goto 4, 3) := by decide +kernel
theorem dJ9_min_7cf53_9 : decode cJ9_min_7cf53 9 = .ok (.iload_n 1, 1) := by decide +kernel
theorem dJ9_min_7cf53_10 : decode cJ9_min_7cf53 10 = .ok (.ireturn, 1) := by decide +kernel
theorem dL_cell_0 : decode cL_cell 0 = .ok (.iload_n 1, 1) := by decide +kernel
theorem dL_cell_1 : decode cL_cell 1 = .ok (.aload_n 0, 1) := by decide +kernel
theorem dL_cell_2 : decode cL_cell 2 = .ok (.arraylength, 1) := by decide +kernel
theorem dL_cell_3 : decode cL_cell 3 = .ok (.if_icmp .ge 9, 3) := by decide +kernel
theorem dL_cell_6 : decode cL_cell 6 = .ok (.aload_n 0, 1) := by decide +kernel
theorem dL_cell_7 : decode cL_cell 7 = .ok (.iload_n 1, 1) := by decide +kernel
theorem dL_cell_8 : decode cL_cell 8 = .ok (.iaload, 1) := by decide +kernel
theorem dL_cell_9 : decode cL_cell 9 = .ok (.goto 15, 3) := by decide +kernel
theorem dL_cell_12 : decode cL_cell 12 = .ok (.sipush 7919, 3) := by decide +kernel
theorem dL_cell_15 : decode cL_cell 15 = .ok (.iload_n 1, 1) := by decide +kernel
theorem dL_cell_16 : decode cL_cell 16 = .ok (.iconst 3, 1) := by decide +kernel
theorem dL_cell_17 : decode cL_cell 17 = .ok (.iadd, 1) := by decide +kernel
theorem dL_cell_18 : decode cL_cell 18 = .ok (.imul, 1) := by decide +kernel
theorem dL_cell_19 : decode cL_cell 19 = .ok (.iload_n 1, 1) := by decide +kernel
theorem dL_cell_20 : decode cL_cell 20 = .ok (.bipush 11, 2) := by decide +kernel
theorem dL_cell_22 : decode cL_cell 22 = .ok (.iadd, 1) := by decide +kernel
theorem dL_cell_23 : decode cL_cell 23 = .ok (.imul, 1) := by decide +kernel
theorem dL_cell_24 : decode cL_cell 24 = .ok (.ireturn, 1) := by decide +kernel
theorem dL_low_0 : decode cL_low 0 = .ok (.iload_n 0, 1) := by decide +kernel
theorem dL_low_1 : decode cL_low 1 = .ok (.ldc 7, 2) := by decide +kernel
theorem dL_low_3 : decode cL_low 3 = .ok (.iand, 1) := by decide +kernel
theorem dL_low_4 : decode cL_low 4 = .ok (.iload_n 1, 1) := by decide +kernel
theorem dL_low_5 : decode cL_low 5 = .ok (.irem, 1) := by decide +kernel
theorem dL_low_6 : decode cL_low 6 = .ok (.ireturn, 1) := by decide +kernel
theorem dL_does_0 : decode cL_does 0 = .ok (.iload_n 1, 1) := by decide +kernel
theorem dL_does_1 : decode cL_does 1 = .ok (.bipush 15, 2) := by decide +kernel
theorem dL_does_3 : decode cL_does 3 = .ok (.iand, 1) := by decide +kernel
theorem dL_does_4 : decode cL_does 4 = .ok (.tableswitch 370 0 11 #[64, 82, 98, 112, 155, 211, 231, 252, 278, 307, 321, 326], 64) := by decide +kernel
theorem dL_does_68 : decode cL_does 68 = .ok (.aload_n 0, 1) := by decide +kernel
theorem dL_does_69 : decode cL_does 69 = .ok (.iload_n 1, 1) := by decide +kernel
theorem dL_does_70 : decode cL_does 70 = .ok (.iconst 4, 1) := by decide +kernel
theorem dL_does_71 : decode cL_does 71 = .ok (.ishr, 1) := by decide +kernel
theorem dL_does_72 : decode cL_does 72 = .ok (.aload_n 0, 1) := by decide +kernel
theorem dL_does_73 : decode cL_does 73 = .ok (.iconst 0, 1) := by decide +kernel
theorem dL_does_74 : decode cL_does 74 = .ok (.invokevirtual 8, 3) := by decide +kernel
theorem dL_does_77 : decode cL_does 77 = .ok (.iconst 1, 1) := by decide +kernel
theorem dL_does_78 : decode cL_does 78 = .ok (.iadd, 1) := by decide +kernel
theorem dL_does_79 : decode cL_does 79 = .ok (.invokestatic 14, 3) := by decide +kernel
theorem dL_does_82 : decode cL_does 82 = .ok (.invokevirtual 20, 3) := by decide +kernel
theorem dL_does_85 : decode cL_does 85 = .ok (.ireturn, 1) := by decide +kernel
theorem dL_does_86 : decode cL_does 86 = .ok (.aload_n 0, 1) := by decide +kernel
theorem dL_does_87 : decode cL_does 87 = .ok (.iload_n 1, 1) := by decide +kernel
theorem dL_does_88 : decode cL_does 88 = .ok (.iconst 4, 1) := by decide +kernel
theorem dL_does_89 : decode cL_does 89 = .ok (.ishr, 1) := by decide +kernel
theorem dL_does_90 : decode cL_does 90 = .ok (.bipush 101, 2) := by decide +kernel
theorem dL_does_92 : decode cL_does 92 = .ok (.invokestatic 14, 3) := by decide +kernel
theorem dL_does_95 : decode cL_does 95 = .ok (.bipush 50, 2) := by decide +kernel
theorem dL_does_97 : decode cL_does 97 = .ok (.isub, 1) := by decide +kernel
theorem dL_does_98 : decode cL_does 98 = .ok (.invokevirtual 23, 3) := by decide +kernel
theorem dL_does_101 : decode cL_does 101 = .ok (.ireturn, 1) := by decide +kernel
theorem dL_does_102 : decode cL_does 102 = .ok (.aload_n 0, 1) := by decide +kernel
theorem dL_does_103 : decode cL_does 103 = .ok (.iload_n 1, 1) := by decide +kernel
theorem dL_does_104 : decode cL_does 104 = .ok (.iconst 4, 1) := by decide +kernel
theorem dL_does_105 : decode cL_does 105 = .ok (.ishr, 1) := by decide +kernel
theorem dL_does_106 : decode cL_does 106 = .ok (.sipush 501, 3) := by decide +kernel
theorem dL_does_109 : decode cL_does 109 = .ok (.invokestatic 14, 3) := by decide +kernel
theorem dL_does_112 : decode cL_does 112 = .ok (.invokevirtual 26, 3) := by decide +kernel
theorem dL_does_115 : decode cL_does 115 = .ok (.ireturn, 1) := by decide +kernel
theorem dL_does_116 : decode cL_does 116 = .ok (.aload_n 0, 1) := by decide +kernel
theorem dL_does_117 : decode cL_does 117 = .ok (.iconst 4, 1) := by decide +kernel
theorem dL_does_118 : decode cL_does 118 = .ok (.invokevirtual 8, 3) := by decide +kernel
theorem dL_does_121 : decode cL_does 121 = .ok (.bipush 6, 2) := by decide +kernel
theorem dL_does_123 : decode cL_does 123 = .ok (.if_icmp .ge 30, 3) := by decide +kernel
theorem dL_does_126 : decode cL_does 126 = .ok (.aload_n 0, 1) := by decide +kernel
theorem dL_does_127 : decode cL_does 127 = .ok (.iload_n 1, 1) := by decide +kernel
theorem dL_does_128 : decode cL_does 128 = .ok (.iconst 4, 1) := by decide +kernel
theorem dL_does_129 : decode cL_does 129 = .ok (.ishr, 1) := by decide +kernel
theorem dL_does_130 : decode cL_does 130 = .ok (.sipush 2500, 3) := by decide +kernel
theorem dL_does_133 : decode cL_does 133 = .ok (.invokestatic 14, 3) := by decide +kernel
theorem dL_does_136 : decode cL_does 136 = .ok (.iconst 1, 1) := by decide +kernel
theorem dL_does_137 : decode cL_does 137 = .ok (.iload_n 1, 1) := by decide +kernel
theorem dL_does_138 : decode cL_does 138 = .ok (.bipush 16, 2) := by decide +kernel
theorem dL_does_140 : decode cL_does 140 = .ok (.ishr, 1) := by decide +kernel
theorem dL_does_141 : decode cL_does 141 = .ok (.bipush 100, 2) := by decide +kernel
theorem dL_does_143 : decode cL_does 143 = .ok (.invokestatic 14, 3) := by decide +kernel
theorem dL_does_146 : decode cL_does 146 = .ok (.iadd, 1) := by decide +kernel
theorem dL_does_147 : decode cL_does 147 = .ok (.invokevirtual 29, 3) := by decide +kernel
theorem dL_does_150 : decode cL_does 150 = .ok (.goto 8, 3) := by decide +kernel
theorem dL_does_153 : decode cL_does 153 = .ok (.aload_n 0, 1) := by decide +kernel
theorem dL_does_154 : decode cL_does 154 = .ok (.iconst 0, 1) := by decide +kernel
theorem dL_does_155 : decode cL_does 155 = .ok (.invokevirtual 32, 3) := by decide +kernel
theorem dL_does_158 : decode cL_does 158 = .ok (.ireturn, 1) := by decide +kernel
theorem dL_does_159 : decode cL_does 159 = .ok (.aload_n 0, 1) := by decide +kernel
theorem dL_does_160 : decode cL_does 160 = .ok (.iload_n 1, 1) := by decide +kernel
theorem dL_does_161 : decode cL_does 161 = .ok (.iconst 4, 1) := by decide +kernel
theorem dL_does_162 : decode cL_does 162 = .ok (.ishr, 1) := by decide +kernel
theorem dL_does_163 : decode cL_does 163 = .ok (.bipush 7, 2) := by decide +kernel
theorem dL_does_165 : decode cL_does 165 = .ok (.invokestatic 14, 3) := by decide +kernel
theorem dL_does_168 : decode cL_does 168 = .ok (.iload_n 1, 1) := by decide +kernel
theorem dL_does_169 : decode cL_does 169 = .ok (.bipush 7, 2) := by decide +kernel
theorem dL_does_171 : decode cL_does 171 = .ok (.ishr, 1) := by decide +kernel
theorem dL_does_172 : decode cL_does 172 = .ok (.sipush 800, 3) := by decide +kernel
theorem dL_does_175 : decode cL_does 175 = .ok (.invokestatic 14, 3) := by decide +kernel
theorem dL_does_178 : decode cL_does 178 = .ok (.sipush 800, 3) := by decide +kernel
theorem dL_does_181 : decode cL_does 181 = .ok (.iload_n 1, 1) := by decide +kernel
theorem dL_does_182 : decode cL_does 182 = .ok (.bipush 17, 2) := by decide +kernel
theorem dL_does_184 : decode cL_does 184 = .ok (.ishr, 1) := by decide +kernel
theorem dL_does_185 : decode cL_does 185 = .ok (.sipush 500, 3) := by decide +kernel
theorem dL_does_188 : decode cL_does 188 = .ok (.invokestatic 14, 3) := by decide +kernel
theorem dL_does_191 : decode cL_does 191 = .ok (.iadd, 1) := by decide +kernel
theorem dL_does_192 : decode cL_does 192 = .ok (.iload_n 1, 1) := by decide +kernel
theorem dL_does_193 : decode cL_does 193 = .ok (.bipush 9, 2) := by decide +kernel
theorem dL_does_195 : decode cL_does 195 = .ok (.ishr, 1) := by decide +kernel
theorem dL_does_196 : decode cL_does 196 = .ok (.sipush 360, 3) := by decide +kernel
theorem dL_does_199 : decode cL_does 199 = .ok (.invokestatic 14, 3) := by decide +kernel
theorem dL_does_202 : decode cL_does 202 = .ok (.iload_n 1, 1) := by decide +kernel
theorem dL_does_203 : decode cL_does 203 = .ok (.bipush 18, 2) := by decide +kernel
theorem dL_does_205 : decode cL_does 205 = .ok (.ishr, 1) := by decide +kernel
theorem dL_does_206 : decode cL_does 206 = .ok (.bipush 91, 2) := by decide +kernel
theorem dL_does_208 : decode cL_does 208 = .ok (.invokestatic 14, 3) := by decide +kernel
theorem dL_does_211 : decode cL_does 211 = .ok (.invokevirtual 35, 3) := by decide +kernel
theorem dL_does_214 : decode cL_does 214 = .ok (.ireturn, 1) := by decide +kernel
theorem dL_does_215 : decode cL_does 215 = .ok (.aload_n 0, 1) := by decide +kernel
theorem dL_does_216 : decode cL_does 216 = .ok (.iload_n 1, 1) := by decide +kernel
theorem dL_does_217 : decode cL_does 217 = .ok (.iconst 4, 1) := by decide +kernel
theorem dL_does_218 : decode cL_does 218 = .ok (.ishr, 1) := by decide +kernel
theorem dL_does_219 : decode cL_does 219 = .ok (.iconst 2, 1) := by decide +kernel
theorem dL_does_220 : decode cL_does 220 = .ok (.invokestatic 14, 3) := by decide +kernel
theorem dL_does_223 : decode cL_does 223 = .ok (.iload_n 1, 1) := by decide +kernel
theorem dL_does_224 : decode cL_does 224 = .ok (.iconst 5, 1) := by decide +kernel
theorem dL_does_225 : decode cL_does 225 = .ok (.ishr, 1) := by decide +kernel
theorem dL_does_226 : decode cL_does 226 = .ok (.bipush 21, 2) := by decide +kernel
theorem dL_does_228 : decode cL_does 228 = .ok (.invokestatic 14, 3) := by decide +kernel
theorem dL_does_231 : decode cL_does 231 = .ok (.invokevirtual 39, 3) := by decide +kernel
theorem dL_does_234 : decode cL_does 234 = .ok (.ireturn, 1) := by decide +kernel
theorem dL_does_235 : decode cL_does 235 = .ok (.aload_n 0, 1) := by decide +kernel
theorem dL_does_236 : decode cL_does 236 = .ok (.iconst 4, 1) := by decide +kernel
theorem dL_does_237 : decode cL_does 237 = .ok (.iload_n 1, 1) := by decide +kernel
theorem dL_does_238 : decode cL_does 238 = .ok (.iconst 4, 1) := by decide +kernel
theorem dL_does_239 : decode cL_does 239 = .ok (.ishr, 1) := by decide +kernel
theorem dL_does_240 : decode cL_does 240 = .ok (.iconst 2, 1) := by decide +kernel
theorem dL_does_241 : decode cL_does 241 = .ok (.invokestatic 14, 3) := by decide +kernel
theorem dL_does_244 : decode cL_does 244 = .ok (.iadd, 1) := by decide +kernel
theorem dL_does_245 : decode cL_does 245 = .ok (.iload_n 1, 1) := by decide +kernel
theorem dL_does_246 : decode cL_does 246 = .ok (.iconst 5, 1) := by decide +kernel
theorem dL_does_247 : decode cL_does 247 = .ok (.ishr, 1) := by decide +kernel
theorem dL_does_248 : decode cL_does 248 = .ok (.iconst 2, 1) := by decide +kernel
theorem dL_does_249 : decode cL_does 249 = .ok (.invokestatic 14, 3) := by decide +kernel
theorem dL_does_252 : decode cL_does 252 = .ok (.invokevirtual 39, 3) := by decide +kernel
theorem dL_does_255 : decode cL_does 255 = .ok (.ireturn, 1) := by decide +kernel
theorem dL_does_256 : decode cL_does 256 = .ok (.aload_n 0, 1) := by decide +kernel
theorem dL_does_257 : decode cL_does 257 = .ok (.bipush 6, 2) := by decide +kernel
theorem dL_does_259 : decode cL_does 259 = .ok (.iload_n 1, 1) := by decide +kernel
theorem dL_does_260 : decode cL_does 260 = .ok (.iconst 4, 1) := by decide +kernel
theorem dL_does_261 : decode cL_does 261 = .ok (.ishr, 1) := by decide +kernel
theorem dL_does_262 : decode cL_does 262 = .ok (.iconst 3, 1) := by decide +kernel
theorem dL_does_263 : decode cL_does 263 = .ok (.invokestatic 14, 3) := by decide +kernel
theorem dL_does_266 : decode cL_does 266 = .ok (.iadd, 1) := by decide +kernel
theorem dL_does_267 : decode cL_does 267 = .ok (.iconst 1, 1) := by decide +kernel
theorem dL_does_268 : decode cL_does 268 = .ok (.iload_n 1, 1) := by decide +kernel
theorem dL_does_269 : decode cL_does 269 = .ok (.bipush 6, 2) := by decide +kernel
theorem dL_does_271 : decode cL_does 271 = .ok (.ishr, 1) := by decide +kernel
theorem dL_does_272 : decode cL_does 272 = .ok (.bipush 9, 2) := by decide +kernel
theorem dL_does_274 : decode cL_does 274 = .ok (.invokestatic 14, 3) := by decide +kernel
theorem dL_does_277 : decode cL_does 277 = .ok (.iadd, 1) := by decide +kernel
theorem dL_does_278 : decode cL_does 278 = .ok (.invokevirtual 39, 3) := by decide +kernel
theorem dL_does_281 : decode cL_does 281 = .ok (.ireturn, 1) := by decide +kernel
theorem dL_does_282 : decode cL_does 282 = .ok (.aload_n 0, 1) := by decide +kernel
theorem dL_does_283 : decode cL_does 283 = .ok (.iload_n 1, 1) := by decide +kernel
theorem dL_does_284 : decode cL_does 284 = .ok (.iconst 4, 1) := by decide +kernel
theorem dL_does_285 : decode cL_does 285 = .ok (.ishr, 1) := by decide +kernel
theorem dL_does_286 : decode cL_does 286 = .ok (.sipush 3000, 3) := by decide +kernel
theorem dL_does_289 : decode cL_does 289 = .ok (.invokestatic 14, 3) := by decide +kernel
theorem dL_does_292 : decode cL_does 292 = .ok (.iload_n 1, 1) := by decide +kernel
theorem dL_does_293 : decode cL_does 293 = .ok (.bipush 20, 2) := by decide +kernel
theorem dL_does_295 : decode cL_does 295 = .ok (.ishr, 1) := by decide +kernel
theorem dL_does_296 : decode cL_does 296 = .ok (.iconst 1, 1) := by decide +kernel
theorem dL_does_297 : decode cL_does 297 = .ok (.iand, 1) := by decide +kernel
theorem dL_does_298 : decode cL_does 298 = .ok (.iconst 1, 1) := by decide +kernel
theorem dL_does_299 : decode cL_does 299 = .ok (.if_icmp .ne 7, 3) := by decide +kernel
theorem dL_does_302 : decode cL_does 302 = .ok (.iconst 1, 1) := by decide +kernel
theorem dL_does_303 : decode cL_does 303 = .ok (.goto 4, 3) := by decide +kernel
theorem dL_does_306 : decode cL_does 306 = .ok (.iconst 0, 1) := by decide +kernel
theorem dL_does_307 : decode cL_does 307 = .ok (.invokevirtual 42, 3) := by decide +kernel
theorem dL_does_310 : decode cL_does 310 = .ok (.ireturn, 1) := by decide +kernel
theorem dL_does_311 : decode cL_does 311 = .ok (.aload_n 0, 1) := by decide +kernel
theorem dL_does_312 : decode cL_does 312 = .ok (.iconst 1, 1) := by decide +kernel
theorem dL_does_313 : decode cL_does 313 = .ok (.iload_n 1, 1) := by decide +kernel
theorem dL_does_314 : decode cL_does 314 = .ok (.iconst 4, 1) := by decide +kernel
theorem dL_does_315 : decode cL_does 315 = .ok (.ishr, 1) := by decide +kernel
theorem dL_does_316 : decode cL_does 316 = .ok (.iconst 5, 1) := by decide +kernel
theorem dL_does_317 : decode cL_does 317 = .ok (.invokestatic 14, 3) := by decide +kernel
theorem dL_does_320 : decode cL_does 320 = .ok (.iadd, 1) := by decide +kernel
theorem dL_does_321 : decode cL_does 321 = .ok (.invokevirtual 46, 3) := by decide +kernel
theorem dL_does_324 : decode cL_does 324 = .ok (.ireturn, 1) := by decide +kernel
theorem dL_does_325 : decode cL_does 325 = .ok (.aload_n 0, 1) := by decide +kernel
theorem dL_does_326 : decode cL_does 326 = .ok (.invokevirtual 49, 3) := by decide +kernel
theorem dL_does_329 : decode cL_does 329 = .ok (.ireturn, 1) := by decide +kernel
theorem dL_does_330 : decode cL_does 330 = .ok (.iload_n 1, 1) := by decide +kernel
theorem dL_does_331 : decode cL_does 331 = .ok (.iconst 4, 1) := by decide +kernel
theorem dL_does_332 : decode cL_does 332 = .ok (.ishr, 1) := by decide +kernel
theorem dL_does_333 : decode cL_does 333 = .ok (.bipush 7, 2) := by decide +kernel
theorem dL_does_335 : decode cL_does 335 = .ok (.iand, 1) := by decide +kernel
theorem dL_does_336 : decode cL_does 336 = .ok (.ifCond .ne 24, 3) := by decide +kernel
theorem dL_does_339 : decode cL_does 339 = .ok (.aload_n 0, 1) := by decide +kernel
theorem dL_does_340 : decode cL_does 340 = .ok (.sipush 500, 3) := by decide +kernel
theorem dL_does_343 : decode cL_does 343 = .ok (.iload_n 1, 1) := by decide +kernel
theorem dL_does_344 : decode cL_does 344 = .ok (.bipush 7, 2) := by decide +kernel
theorem dL_does_346 : decode cL_does 346 = .ok (.ishr, 1) := by decide +kernel
theorem dL_does_347 : decode cL_does 347 = .ok (.sipush 5000, 3) := by decide +kernel
theorem dL_does_350 : decode cL_does 350 = .ok (.invokestatic 14, 3) := by decide +kernel
theorem dL_does_353 : decode cL_does 353 = .ok (.iadd, 1) := by decide +kernel
theorem dL_does_354 : decode cL_does 354 = .ok (.invokevirtual 53, 3) := by decide +kernel
theorem dL_does_357 : decode cL_does 357 = .ok (.goto 16, 3) := by decide +kernel
theorem dL_does_360 : decode cL_does 360 = .ok (.aload_n 0, 1) := by decide +kernel
theorem dL_does_361 : decode cL_does 361 = .ok (.iload_n 1, 1) := by decide +kernel
theorem dL_does_362 : decode cL_does 362 = .ok (.bipush 7, 2) := by decide +kernel
theorem dL_does_364 : decode cL_does 364 = .ok (.ishr, 1) := by decide +kernel
theorem dL_does_365 : decode cL_does 365 = .ok (.ldc 56, 2) := by decide +kernel
theorem dL_does_367 : decode cL_does 367 = .ok (.invokestatic 14, 3) := by decide +kernel
theorem dL_does_370 : decode cL_does 370 = .ok (.invokevirtual 57, 3) := by decide +kernel
theorem dL_does_373 : decode cL_does 373 = .ok (.ireturn, 1) := by decide +kernel
theorem dL_does_374 : decode cL_does 374 = .ok (.aload_n 0, 1) := by decide +kernel
theorem dL_does_375 : decode cL_does 375 = .ok (.iconst 1, 1) := by decide +kernel
theorem dL_does_376 : decode cL_does 376 = .ok (.iload_n 1, 1) := by decide +kernel
theorem dL_does_377 : decode cL_does 377 = .ok (.iconst 4, 1) := by decide +kernel
theorem dL_does_378 : decode cL_does 378 = .ok (.ishr, 1) := by decide +kernel
theorem dL_does_379 : decode cL_does 379 = .ok (.iconst 4, 1) := by decide +kernel
theorem dL_does_380 : decode cL_does 380 = .ok (.invokestatic 14, 3) := by decide +kernel
theorem dL_does_383 : decode cL_does 383 = .ok (.iadd, 1) := by decide +kernel
theorem dL_does_384 : decode cL_does 384 = .ok (.invokevirtual 60, 3) := by decide +kernel
theorem dL_does_387 : decode cL_does 387 = .ok (.ireturn, 1) := by decide +kernel
theorem dL_law_0 : decode cL_law 0 = .ok (.new 9, 3) := by decide +kernel
theorem dL_law_3 : decode cL_law 3 = .ok (.dup, 1) := by decide +kernel
theorem dL_law_4 : decode cL_law 4 = .ok (.invokespecial 63, 3) := by decide +kernel
theorem dL_law_7 : decode cL_law 7 = .ok (.astore_n 1, 1) := by decide +kernel
theorem dL_law_8 : decode cL_law 8 = .ok (.iconst 0, 1) := by decide +kernel
theorem dL_law_9 : decode cL_law 9 = .ok (.istore_n 2, 1) := by decide +kernel
theorem dL_law_10 : decode cL_law 10 = .ok (.iconst 0, 1) := by decide +kernel
theorem dL_law_11 : decode cL_law 11 = .ok (.istore_n 3, 1) := by decide +kernel
theorem dL_law_12 : decode cL_law 12 = .ok (.iload_n 3, 1) := by decide +kernel
theorem dL_law_13 : decode cL_law 13 = .ok (.bipush 40, 2) := by decide +kernel
theorem dL_law_15 : decode cL_law 15 = .ok (.if_icmp .ge 550, 3) := by decide +kernel
theorem dL_law_18 : decode cL_law 18 = .ok (.aload_n 0, 1) := by decide +kernel
theorem dL_law_19 : decode cL_law 19 = .ok (.iload_n 3, 1) := by decide +kernel
theorem dL_law_20 : decode cL_law 20 = .ok (.invokestatic 64, 3) := by decide +kernel
theorem dL_law_23 : decode cL_law 23 = .ok (.istore 4, 2) := by decide +kernel
theorem dL_law_25 : decode cL_law 25 = .ok (.iload 4, 2) := by decide +kernel
theorem dL_law_27 : decode cL_law 27 = .ok (.bipush 15, 2) := by decide +kernel
theorem dL_law_29 : decode cL_law 29 = .ok (.iand, 1) := by decide +kernel
theorem dL_law_30 : decode cL_law 30 = .ok (.bipush 11, 2) := by decide +kernel
theorem dL_law_32 : decode cL_law 32 = .ok (.if_icmp .le 7, 3) := by decide +kernel
theorem dL_law_35 : decode cL_law 35 = .ok (.iconst 1, 1) := by decide +kernel
theorem dL_law_36 : decode cL_law 36 = .ok (.goto 4, 3) := by decide +kernel
theorem dL_law_39 : decode cL_law 39 = .ok (.iconst 0, 1) := by decide +kernel
theorem dL_law_40 : decode cL_law 40 = .ok (.istore 5, 2) := by decide +kernel
theorem dL_law_42 : decode cL_law 42 = .ok (.aload_n 1, 1) := by decide +kernel
theorem dL_law_43 : decode cL_law 43 = .ok (.iconst 0, 1) := by decide +kernel
theorem dL_law_44 : decode cL_law 44 = .ok (.invokevirtual 68, 3) := by decide +kernel
theorem dL_law_47 : decode cL_law 47 = .ok (.istore 6, 2) := by decide +kernel
theorem dL_law_49 : decode cL_law 49 = .ok (.aload_n 1, 1) := by decide +kernel
theorem dL_law_50 : decode cL_law 50 = .ok (.invokevirtual 71, 3) := by decide +kernel
theorem dL_law_53 : decode cL_law 53 = .ok (.lstore 7, 2) := by decide +kernel
theorem dL_law_55 : decode cL_law 55 = .ok (.aload_n 1, 1) := by decide +kernel
theorem dL_law_56 : decode cL_law 56 = .ok (.iload 4, 2) := by decide +kernel
theorem dL_law_58 : decode cL_law 58 = .ok (.invokestatic 75, 3) := by decide +kernel
theorem dL_law_61 : decode cL_law 61 = .ok (.istore 9, 2) := by decide +kernel
theorem dL_law_63 : decode cL_law 63 = .ok (.iload_n 2, 1) := by decide +kernel
theorem dL_law_64 : decode cL_law 64 = .ok (.iconst 4, 1) := by decide +kernel
theorem dL_law_65 : decode cL_law 65 = .ok (.if_icmp .ge 9, 3) := by decide +kernel
theorem dL_law_68 : decode cL_law 68 = .ok (.iload_n 2, 1) := by decide +kernel
theorem dL_law_69 : decode cL_law 69 = .ok (.iconst 1, 1) := by decide +kernel
theorem dL_law_70 : decode cL_law 70 = .ok (.iadd, 1) := by decide +kernel
theorem dL_law_71 : decode cL_law 71 = .ok (.goto 4, 3) := by decide +kernel
theorem dL_law_74 : decode cL_law 74 = .ok (.iconst 4, 1) := by decide +kernel
theorem dL_law_75 : decode cL_law 75 = .ok (.istore_n 2, 1) := by decide +kernel
theorem dL_law_76 : decode cL_law 76 = .ok (.iload 9, 2) := by decide +kernel
theorem dL_law_78 : decode cL_law 78 = .ok (.ifCond .ge 14, 3) := by decide +kernel
theorem dL_law_81 : decode cL_law 81 = .ok (.iload 4, 2) := by decide +kernel
theorem dL_law_83 : decode cL_law 83 = .ok (.bipush 15, 2) := by decide +kernel
theorem dL_law_85 : decode cL_law 85 = .ok (.iand, 1) := by decide +kernel
theorem dL_law_86 : decode cL_law 86 = .ok (.iconst 1, 1) := by decide +kernel
theorem dL_law_87 : decode cL_law 87 = .ok (.if_icmp .eq 5, 3) := by decide +kernel
theorem dL_law_90 : decode cL_law 90 = .ok (.iconst 0, 1) := by decide +kernel
theorem dL_law_91 : decode cL_law 91 = .ok (.ireturn, 1) := by decide +kernel
theorem dL_law_92 : decode cL_law 92 = .ok (.iload 5, 2) := by decide +kernel
theorem dL_law_94 : decode cL_law 94 = .ok (.ifCond .eq 26, 3) := by decide +kernel
theorem dL_law_97 : decode cL_law 97 = .ok (.aload_n 1, 1) := by decide +kernel
theorem dL_law_98 : decode cL_law 98 = .ok (.iconst 0, 1) := by decide +kernel
theorem dL_law_99 : decode cL_law 99 = .ok (.invokevirtual 68, 3) := by decide +kernel
theorem dL_law_102 : decode cL_law 102 = .ok (.iload 6, 2) := by decide +kernel
theorem dL_law_104 : decode cL_law 104 = .ok (.iconst 1, 1) := by decide +kernel
theorem dL_law_105 : decode cL_law 105 = .ok (.iadd, 1) := by decide +kernel
theorem dL_law_106 : decode cL_law 106 = .ok (.iload 4, 2) := by decide +kernel
theorem dL_law_108 : decode cL_law 108 = .ok (.iconst 4, 1) := by decide +kernel
theorem dL_law_109 : decode cL_law 109 = .ok (.ishr, 1) := by decide +kernel
theorem dL_law_110 : decode cL_law 110 = .ok (.iconst 4, 1) := by decide +kernel
theorem dL_law_111 : decode cL_law 111 = .ok (.invokestatic 14, 3) := by decide +kernel
theorem dL_law_114 : decode cL_law 114 = .ok (.iadd, 1) := by decide +kernel
theorem dL_law_115 : decode cL_law 115 = .ok (.if_icmp .eq 5, 3) := by decide +kernel
theorem dL_law_118 : decode cL_law 118 = .ok (.iconst 0, 1) := by decide +kernel
theorem dL_law_119 : decode cL_law 119 = .ok (.ireturn, 1) := by decide +kernel
theorem dL_law_120 : decode cL_law 120 = .ok (.iconst 0, 1) := by decide +kernel
theorem dL_law_121 : decode cL_law 121 = .ok (.istore 10, 2) := by decide +kernel
theorem dL_law_123 : decode cL_law 123 = .ok (.iconst 0, 1) := by decide +kernel
theorem dL_law_124 : decode cL_law 124 = .ok (.istore 11, 2) := by decide +kernel
theorem dL_law_126 : decode cL_law 126 = .ok (.iload 11, 2) := by decide +kernel
theorem dL_law_128 : decode cL_law 128 = .ok (.aload_n 1, 1) := by decide +kernel
theorem dL_law_129 : decode cL_law 129 = .ok (.bipush 7, 2) := by decide +kernel
theorem dL_law_131 : decode cL_law 131 = .ok (.invokevirtual 68, 3) := by decide +kernel
theorem dL_law_134 : decode cL_law 134 = .ok (.if_icmp .ge 232, 3) := by decide +kernel
theorem dL_law_137 : decode cL_law 137 = .ok (.aload_n 1, 1) := by decide +kernel
theorem dL_law_138 : decode cL_law 138 = .ok (.iload 11, 2) := by decide +kernel
theorem dL_law_140 : decode cL_law 140 = .ok (.iconst 1, 1) := by decide +kernel
theorem dL_law_141 : decode cL_law 141 = .ok (.invokevirtual 79, 3) := by decide +kernel
theorem dL_law_144 : decode cL_law 144 = .ok (.istore 12, 2) := by decide +kernel
theorem dL_law_146 : decode cL_law 146 = .ok (.iload 11, 2) := by decide +kernel
theorem dL_law_148 : decode cL_law 148 = .ok (.ifCond .le 52, 3) := by decide +kernel
theorem dL_law_151 : decode cL_law 151 = .ok (.iload 12, 2) := by decide +kernel
theorem dL_law_153 : decode cL_law 153 = .ok (.aload_n 1, 1) := by decide +kernel
theorem dL_law_154 : decode cL_law 154 = .ok (.iload 11, 2) := by decide +kernel
theorem dL_law_156 : decode cL_law 156 = .ok (.iconst 1, 1) := by decide +kernel
theorem dL_law_157 : decode cL_law 157 = .ok (.isub, 1) := by decide +kernel
theorem dL_law_158 : decode cL_law 158 = .ok (.iconst 1, 1) := by decide +kernel
theorem dL_law_159 : decode cL_law 159 = .ok (.invokevirtual 79, 3) := by decide +kernel
theorem dL_law_162 : decode cL_law 162 = .ok (.if_icmp .lt 36, 3) := by decide +kernel
theorem dL_law_165 : decode cL_law 165 = .ok (.iload 12, 2) := by decide +kernel
theorem dL_law_167 : decode cL_law 167 = .ok (.aload_n 1, 1) := by decide +kernel
theorem dL_law_168 : decode cL_law 168 = .ok (.iload 11, 2) := by decide +kernel
theorem dL_law_170 : decode cL_law 170 = .ok (.iconst 1, 1) := by decide +kernel
theorem dL_law_171 : decode cL_law 171 = .ok (.isub, 1) := by decide +kernel
theorem dL_law_172 : decode cL_law 172 = .ok (.iconst 1, 1) := by decide +kernel
theorem dL_law_173 : decode cL_law 173 = .ok (.invokevirtual 79, 3) := by decide +kernel
theorem dL_law_176 : decode cL_law 176 = .ok (.if_icmp .ne 24, 3) := by decide +kernel
theorem dL_law_179 : decode cL_law 179 = .ok (.aload_n 1, 1) := by decide +kernel
theorem dL_law_180 : decode cL_law 180 = .ok (.iload 11, 2) := by decide +kernel
theorem dL_law_182 : decode cL_law 182 = .ok (.iconst 2, 1) := by decide +kernel
theorem dL_law_183 : decode cL_law 183 = .ok (.invokevirtual 79, 3) := by decide +kernel
theorem dL_law_186 : decode cL_law 186 = .ok (.aload_n 1, 1) := by decide +kernel
theorem dL_law_187 : decode cL_law 187 = .ok (.iload 11, 2) := by decide +kernel
theorem dL_law_189 : decode cL_law 189 = .ok (.iconst 1, 1) := by decide +kernel
theorem dL_law_190 : decode cL_law 190 = .ok (.isub, 1) := by decide +kernel
theorem dL_law_191 : decode cL_law 191 = .ok (.iconst 2, 1) := by decide +kernel
theorem dL_law_192 : decode cL_law 192 = .ok (.invokevirtual 79, 3) := by decide +kernel
theorem dL_law_195 : decode cL_law 195 = .ok (.if_icmp .le 5, 3) := by decide +kernel
theorem dL_law_198 : decode cL_law 198 = .ok (.iconst 0, 1) := by decide +kernel
theorem dL_law_199 : decode cL_law 199 = .ok (.ireturn, 1) := by decide +kernel
theorem dL_law_200 : decode cL_law 200 = .ok (.iload 10, 2) := by decide +kernel
theorem dL_law_202 : decode cL_law 202 = .ok (.aload_n 1, 1) := by decide +kernel
theorem dL_law_203 : decode cL_law 203 = .ok (.iload 11, 2) := by decide +kernel
theorem dL_law_205 : decode cL_law 205 = .ok (.iconst 5, 1) := by decide +kernel
theorem dL_law_206 : decode cL_law 206 = .ok (.invokevirtual 79, 3) := by decide +kernel
theorem dL_law_209 : decode cL_law 209 = .ok (.iadd, 1) := by decide +kernel
theorem dL_law_210 : decode cL_law 210 = .ok (.istore 10, 2) := by decide +kernel
theorem dL_law_212 : decode cL_law 212 = .ok (.aload_n 1, 1) := by decide +kernel
theorem dL_law_213 : decode cL_law 213 = .ok (.iload 11, 2) := by decide +kernel
theorem dL_law_215 : decode cL_law 215 = .ok (.iconst 5, 1) := by decide +kernel
theorem dL_law_216 : decode cL_law 216 = .ok (.invokevirtual 79, 3) := by decide +kernel
theorem dL_law_219 : decode cL_law 219 = .ok (.aload_n 1, 1) := by decide +kernel
theorem dL_law_220 : decode cL_law 220 = .ok (.iload 11, 2) := by decide +kernel
theorem dL_law_222 : decode cL_law 222 = .ok (.iconst 4, 1) := by decide +kernel
theorem dL_law_223 : decode cL_law 223 = .ok (.invokevirtual 79, 3) := by decide +kernel
theorem dL_law_226 : decode cL_law 226 = .ok (.iadd, 1) := by decide +kernel
theorem dL_law_227 : decode cL_law 227 = .ok (.aload_n 1, 1) := by decide +kernel
theorem dL_law_228 : decode cL_law 228 = .ok (.iload 11, 2) := by decide +kernel
theorem dL_law_230 : decode cL_law 230 = .ok (.iconst 3, 1) := by decide +kernel
theorem dL_law_231 : decode cL_law 231 = .ok (.invokevirtual 79, 3) := by decide +kernel
theorem dL_law_234 : decode cL_law 234 = .ok (.if_icmp .le 5, 3) := by decide +kernel
theorem dL_law_237 : decode cL_law 237 = .ok (.iconst 0, 1) := by decide +kernel
theorem dL_law_238 : decode cL_law 238 = .ok (.ireturn, 1) := by decide +kernel
theorem dL_law_239 : decode cL_law 239 = .ok (.iload 5, 2) := by decide +kernel
theorem dL_law_241 : decode cL_law 241 = .ok (.ifCond .eq 83, 3) := by decide +kernel
theorem dL_law_244 : decode cL_law 244 = .ok (.aload_n 1, 1) := by decide +kernel
theorem dL_law_245 : decode cL_law 245 = .ok (.iload 11, 2) := by decide +kernel
theorem dL_law_247 : decode cL_law 247 = .ok (.iconst 3, 1) := by decide +kernel
theorem dL_law_248 : decode cL_law 248 = .ok (.invokevirtual 79, 3) := by decide +kernel
theorem dL_law_251 : decode cL_law 251 = .ok (.iload 12, 2) := by decide +kernel
theorem dL_law_253 : decode cL_law 253 = .ok (.aload_n 1, 1) := by decide +kernel
theorem dL_law_254 : decode cL_law 254 = .ok (.iconst 0, 1) := by decide +kernel
theorem dL_law_255 : decode cL_law 255 = .ok (.invokevirtual 8, 3) := by decide +kernel
theorem dL_law_258 : decode cL_law 258 = .ok (.if_icmp .gt 60, 3) := by decide +kernel
theorem dL_law_261 : decode cL_law 261 = .ok (.aload_n 1, 1) := by decide +kernel
theorem dL_law_262 : decode cL_law 262 = .ok (.iload 12, 2) := by decide +kernel
theorem dL_law_264 : decode cL_law 264 = .ok (.sipush 10000, 3) := by decide +kernel
theorem dL_law_267 : decode cL_law 267 = .ok (.if_icmp .ge 8, 3) := by decide +kernel
theorem dL_law_270 : decode cL_law 270 = .ok (.iload 12, 2) := by decide +kernel
theorem dL_law_272 : decode cL_law 272 = .ok (.goto 6, 3) := by decide +kernel
theorem dL_law_275 : decode cL_law 275 = .ok (.sipush 10000, 3) := by decide +kernel
theorem dL_law_278 : decode cL_law 278 = .ok (.invokevirtual 82, 3) := by decide +kernel
theorem dL_law_281 : decode cL_law 281 = .ok (.ifCond .ne 37, 3) := by decide +kernel
theorem dL_law_284 : decode cL_law 284 = .ok (.aload_n 1, 1) := by decide +kernel
theorem dL_law_285 : decode cL_law 285 = .ok (.iload 11, 2) := by decide +kernel
theorem dL_law_287 : decode cL_law 287 = .ok (.iconst 2, 1) := by decide +kernel
theorem dL_law_288 : decode cL_law 288 = .ok (.invokevirtual 79, 3) := by decide +kernel
theorem dL_law_291 : decode cL_law 291 = .ok (.aload_n 1, 1) := by decide +kernel
theorem dL_law_292 : decode cL_law 292 = .ok (.iload 12, 2) := by decide +kernel
theorem dL_law_294 : decode cL_law 294 = .ok (.sipush 10000, 3) := by decide +kernel
theorem dL_law_297 : decode cL_law 297 = .ok (.if_icmp .ge 8, 3) := by decide +kernel
theorem dL_law_300 : decode cL_law 300 = .ok (.iload 12, 2) := by decide +kernel
theorem dL_law_302 : decode cL_law 302 = .ok (.goto 6, 3) := by decide +kernel
theorem dL_law_305 : decode cL_law 305 = .ok (.sipush 10000, 3) := by decide +kernel
theorem dL_law_308 : decode cL_law 308 = .ok (.invokevirtual 86, 3) := by decide +kernel
theorem dL_law_311 : decode cL_law 311 = .ok (.if_icmp .lt 7, 3) := by decide +kernel
theorem dL_law_314 : decode cL_law 314 = .ok (.iconst 1, 1) := by decide +kernel
theorem dL_law_315 : decode cL_law 315 = .ok (.goto 4, 3) := by decide +kernel
theorem dL_law_318 : decode cL_law 318 = .ok (.iconst 0, 1) := by decide +kernel
theorem dL_law_319 : decode cL_law 319 = .ok (.if_icmp .eq 5, 3) := by decide +kernel
theorem dL_law_322 : decode cL_law 322 = .ok (.iconst 0, 1) := by decide +kernel
theorem dL_law_323 : decode cL_law 323 = .ok (.ireturn, 1) := by decide +kernel
theorem dL_law_324 : decode cL_law 324 = .ok (.aload_n 1, 1) := by decide +kernel
theorem dL_law_325 : decode cL_law 325 = .ok (.iload 11, 2) := by decide +kernel
theorem dL_law_327 : decode cL_law 327 = .ok (.iconst 5, 1) := by decide +kernel
theorem dL_law_328 : decode cL_law 328 = .ok (.invokevirtual 79, 3) := by decide +kernel
theorem dL_law_331 : decode cL_law 331 = .ok (.iconst 1, 1) := by decide +kernel
theorem dL_law_332 : decode cL_law 332 = .ok (.if_icmp .ne 28, 3) := by decide +kernel
theorem dL_law_335 : decode cL_law 335 = .ok (.iload 5, 2) := by decide +kernel
theorem dL_law_337 : decode cL_law 337 = .ok (.ifCond .eq 23, 3) := by decide +kernel
theorem dL_law_340 : decode cL_law 340 = .ok (.aload_n 1, 1) := by decide +kernel
theorem dL_law_341 : decode cL_law 341 = .ok (.iconst 0, 1) := by decide +kernel
theorem dL_law_342 : decode cL_law 342 = .ok (.invokevirtual 89, 3) := by decide +kernel
theorem dL_law_345 : decode cL_law 345 = .ok (.ifCond .lt 15, 3) := by decide +kernel
theorem dL_law_348 : decode cL_law 348 = .ok (.aload_n 1, 1) := by decide +kernel
theorem dL_law_349 : decode cL_law 349 = .ok (.iconst 0, 1) := by decide +kernel
theorem dL_law_350 : decode cL_law 350 = .ok (.invokevirtual 89, 3) := by decide +kernel
theorem dL_law_353 : decode cL_law 353 = .ok (.iload 12, 2) := by decide +kernel
theorem dL_law_355 : decode cL_law 355 = .ok (.if_icmp .eq 5, 3) := by decide +kernel
theorem dL_law_358 : decode cL_law 358 = .ok (.iconst 0, 1) := by decide +kernel
theorem dL_law_359 : decode cL_law 359 = .ok (.ireturn, 1) := by decide +kernel
theorem dL_law_360 : decode cL_law 360 = .ok (.iinc 11 1, 3) := by decide +kernel
theorem dL_law_363 : decode cL_law 363 = .ok (.goto (-237), 3) := by decide +kernel
theorem dL_law_366 : decode cL_law 366 = .ok (.iload 10, 2) := by decide +kernel
theorem dL_law_368 : decode cL_law 368 = .ok (.iconst 1, 1) := by decide +kernel
theorem dL_law_369 : decode cL_law 369 = .ok (.if_icmp .gt 46, 3) := by decide +kernel
theorem dL_law_372 : decode cL_law 372 = .ok (.aload_n 1, 1) := by decide +kernel
theorem dL_law_373 : decode cL_law 373 = .ok (.iconst 1, 1) := by decide +kernel
theorem dL_law_374 : decode cL_law 374 = .ok (.invokevirtual 68, 3) := by decide +kernel
theorem dL_law_377 : decode cL_law 377 = .ok (.aload_n 1, 1) := by decide +kernel
theorem dL_law_378 : decode cL_law 378 = .ok (.iconst 0, 1) := by decide +kernel
theorem dL_law_379 : decode cL_law 379 = .ok (.invokevirtual 68, 3) := by decide +kernel
theorem dL_law_382 : decode cL_law 382 = .ok (.if_icmp .gt 33, 3) := by decide +kernel
theorem dL_law_385 : decode cL_law 385 = .ok (.aload_n 1, 1) := by decide +kernel
theorem dL_law_386 : decode cL_law 386 = .ok (.bipush 9, 2) := by decide +kernel
theorem dL_law_388 : decode cL_law 388 = .ok (.invokevirtual 68, 3) := by decide +kernel
theorem dL_law_391 : decode cL_law 391 = .ok (.aload_n 1, 1) := by decide +kernel
theorem dL_law_392 : decode cL_law 392 = .ok (.bipush 8, 2) := by decide +kernel
theorem dL_law_394 : decode cL_law 394 = .ok (.invokevirtual 68, 3) := by decide +kernel
theorem dL_law_397 : decode cL_law 397 = .ok (.if_icmp .gt 18, 3) := by decide +kernel
theorem dL_law_400 : decode cL_law 400 = .ok (.aload_n 1, 1) := by decide +kernel
theorem dL_law_401 : decode cL_law 401 = .ok (.bipush 8, 2) := by decide +kernel
theorem dL_law_403 : decode cL_law 403 = .ok (.invokevirtual 68, 3) := by decide +kernel
theorem dL_law_406 : decode cL_law 406 = .ok (.aload_n 1, 1) := by decide +kernel
theorem dL_law_407 : decode cL_law 407 = .ok (.bipush 6, 2) := by decide +kernel
theorem dL_law_409 : decode cL_law 409 = .ok (.invokevirtual 92, 3) := by decide +kernel
theorem dL_law_412 : decode cL_law 412 = .ok (.if_icmp .le 5, 3) := by decide +kernel
theorem dL_law_415 : decode cL_law 415 = .ok (.iconst 0, 1) := by decide +kernel
theorem dL_law_416 : decode cL_law 416 = .ok (.ireturn, 1) := by decide +kernel
theorem dL_law_417 : decode cL_law 417 = .ok (.iload 5, 2) := by decide +kernel
theorem dL_law_419 : decode cL_law 419 = .ok (.ifCond .eq 43, 3) := by decide +kernel
theorem dL_law_422 : decode cL_law 422 = .ok (.aload_n 1, 1) := by decide +kernel
theorem dL_law_423 : decode cL_law 423 = .ok (.iconst 5, 1) := by decide +kernel
theorem dL_law_424 : decode cL_law 424 = .ok (.invokevirtual 68, 3) := by decide +kernel
theorem dL_law_427 : decode cL_law 427 = .ok (.ifCond .eq 11, 3) := by decide +kernel
theorem dL_law_430 : decode cL_law 430 = .ok (.aload_n 1, 1) := by decide +kernel
theorem dL_law_431 : decode cL_law 431 = .ok (.iconst 2, 1) := by decide +kernel
theorem dL_law_432 : decode cL_law 432 = .ok (.invokevirtual 68, 3) := by decide +kernel
theorem dL_law_435 : decode cL_law 435 = .ok (.ifCond .lt 25, 3) := by decide +kernel
theorem dL_law_438 : decode cL_law 438 = .ok (.aload_n 1, 1) := by decide +kernel
theorem dL_law_439 : decode cL_law 439 = .ok (.iconst 3, 1) := by decide +kernel
theorem dL_law_440 : decode cL_law 440 = .ok (.invokevirtual 68, 3) := by decide +kernel
theorem dL_law_443 : decode cL_law 443 = .ok (.aload_n 1, 1) := by decide +kernel
theorem dL_law_444 : decode cL_law 444 = .ok (.iconst 0, 1) := by decide +kernel
theorem dL_law_445 : decode cL_law 445 = .ok (.invokevirtual 8, 3) := by decide +kernel
theorem dL_law_448 : decode cL_law 448 = .ok (.if_icmp .gt 12, 3) := by decide +kernel
theorem dL_law_451 : decode cL_law 451 = .ok (.aload_n 1, 1) := by decide +kernel
theorem dL_law_452 : decode cL_law 452 = .ok (.iconst 3, 1) := by decide +kernel
theorem dL_law_453 : decode cL_law 453 = .ok (.invokevirtual 68, 3) := by decide +kernel
theorem dL_law_456 : decode cL_law 456 = .ok (.iconst (-1), 1) := by decide +kernel
theorem dL_law_457 : decode cL_law 457 = .ok (.if_icmp .ge 5, 3) := by decide +kernel
theorem dL_law_460 : decode cL_law 460 = .ok (.iconst 0, 1) := by decide +kernel
theorem dL_law_461 : decode cL_law 461 = .ok (.ireturn, 1) := by decide +kernel
theorem dL_law_462 : decode cL_law 462 = .ok (.iconst 0, 1) := by decide +kernel
theorem dL_law_463 : decode cL_law 463 = .ok (.istore 11, 2) := by decide +kernel
theorem dL_law_465 : decode cL_law 465 = .ok (.iconst 0, 1) := by decide +kernel
theorem dL_law_466 : decode cL_law 466 = .ok (.istore 12, 2) := by decide +kernel
theorem dL_law_468 : decode cL_law 468 = .ok (.iload 12, 2) := by decide +kernel
theorem dL_law_470 : decode cL_law 470 = .ok (.sipush 501, 3) := by decide +kernel
theorem dL_law_473 : decode cL_law 473 = .ok (.if_icmp .ge 31, 3) := by decide +kernel
theorem dL_law_476 : decode cL_law 476 = .ok (.iload 11, 2) := by decide +kernel
theorem dL_law_478 : decode cL_law 478 = .ok (.aload_n 1, 1) := by decide +kernel
theorem dL_law_479 : decode cL_law 479 = .ok (.bipush 20, 2) := by decide +kernel
theorem dL_law_481 : decode cL_law 481 = .ok (.iload 12, 2) := by decide +kernel
theorem dL_law_483 : decode cL_law 483 = .ok (.imul, 1) := by decide +kernel
theorem dL_law_484 : decode cL_law 484 = .ok (.invokevirtual 82, 3) := by decide +kernel
theorem dL_law_487 : decode cL_law 487 = .ok (.ifCond .eq 7, 3) := by decide +kernel
theorem dL_law_490 : decode cL_law 490 = .ok (.iconst 1, 1) := by decide +kernel
theorem dL_law_491 : decode cL_law 491 = .ok (.goto 4, 3) := by decide +kernel
theorem dL_law_494 : decode cL_law 494 = .ok (.iconst 0, 1) := by decide +kernel
theorem dL_law_495 : decode cL_law 495 = .ok (.iadd, 1) := by decide +kernel
theorem dL_law_496 : decode cL_law 496 = .ok (.istore 11, 2) := by decide +kernel
theorem dL_law_498 : decode cL_law 498 = .ok (.iinc 12 1, 3) := by decide +kernel
theorem dL_law_501 : decode cL_law 501 = .ok (.goto (-33), 3) := by decide +kernel
theorem dL_law_504 : decode cL_law 504 = .ok (.iload 11, 2) := by decide +kernel
theorem dL_law_506 : decode cL_law 506 = .ok (.aload_n 1, 1) := by decide +kernel
theorem dL_law_507 : decode cL_law 507 = .ok (.bipush 6, 2) := by decide +kernel
theorem dL_law_509 : decode cL_law 509 = .ok (.invokevirtual 68, 3) := by decide +kernel
theorem dL_law_512 : decode cL_law 512 = .ok (.if_icmp .eq 5, 3) := by decide +kernel
theorem dL_law_515 : decode cL_law 515 = .ok (.iconst 0, 1) := by decide +kernel
theorem dL_law_516 : decode cL_law 516 = .ok (.ireturn, 1) := by decide +kernel
theorem dL_law_517 : decode cL_law 517 = .ok (.iload 4, 2) := by decide +kernel
theorem dL_law_519 : decode cL_law 519 = .ok (.bipush 27, 2) := by decide +kernel
theorem dL_law_521 : decode cL_law 521 = .ok (.ishr, 1) := by decide +kernel
theorem dL_law_522 : decode cL_law 522 = .ok (.iconst 3, 1) := by decide +kernel
theorem dL_law_523 : decode cL_law 523 = .ok (.iand, 1) := by decide +kernel
theorem dL_law_524 : decode cL_law 524 = .ok (.ifCond .ne 35, 3) := by decide +kernel
theorem dL_law_527 : decode cL_law 527 = .ok (.aload_n 1, 1) := by decide +kernel
theorem dL_law_528 : decode cL_law 528 = .ok (.invokevirtual 95, 3) := by decide +kernel
theorem dL_law_531 : decode cL_law 531 = .ok (.iload_n 2, 1) := by decide +kernel
theorem dL_law_532 : decode cL_law 532 = .ok (.iconst 1, 1) := by decide +kernel
theorem dL_law_533 : decode cL_law 533 = .ok (.isub, 1) := by decide +kernel
theorem dL_law_534 : decode cL_law 534 = .ok (.if_icmp .eq 5, 3) := by decide +kernel
theorem dL_law_537 : decode cL_law 537 = .ok (.iconst 0, 1) := by decide +kernel
theorem dL_law_538 : decode cL_law 538 = .ok (.ireturn, 1) := by decide +kernel
theorem dL_law_539 : decode cL_law 539 = .ok (.iinc 2 (-1), 3) := by decide +kernel
theorem dL_law_542 : decode cL_law 542 = .ok (.iload_n 2, 1) := by decide +kernel
theorem dL_law_543 : decode cL_law 543 = .ok (.iconst 3, 1) := by decide +kernel
theorem dL_law_544 : decode cL_law 544 = .ok (.if_icmp .ge 15, 3) := by decide +kernel
theorem dL_law_547 : decode cL_law 547 = .ok (.aload_n 1, 1) := by decide +kernel
theorem dL_law_548 : decode cL_law 548 = .ok (.invokevirtual 71, 3) := by decide +kernel
theorem dL_law_551 : decode cL_law 551 = .ok (.lload 7, 2) := by decide +kernel
theorem dL_law_553 : decode cL_law 553 = .ok (.lcmp, 1) := by decide +kernel
theorem dL_law_554 : decode cL_law 554 = .ok (.ifCond .eq 5, 3) := by decide +kernel
theorem dL_law_557 : decode cL_law 557 = .ok (.iconst 0, 1) := by decide +kernel
theorem dL_law_558 : decode cL_law 558 = .ok (.ireturn, 1) := by decide +kernel
theorem dL_law_559 : decode cL_law 559 = .ok (.iinc 3 1, 3) := by decide +kernel
theorem dL_law_562 : decode cL_law 562 = .ok (.goto (-550), 3) := by decide +kernel
theorem dL_law_565 : decode cL_law 565 = .ok (.iconst 1, 1) := by decide +kernel
theorem dL_law_566 : decode cL_law 566 = .ok (.ireturn, 1) := by decide +kernel
