theorem dX1_init_0 : decode cX1_init 0 = .ok (.aload_n 0, 1) := by decide +kernel
theorem dX1_init_1 : decode cX1_init 1 = .ok (.invokespecial 3, 3) := by decide +kernel
theorem dX1_init_4 : decode cX1_init 4 = .ok (.aload_n 0, 1) := by decide +kernel
theorem dX1_init_5 : decode cX1_init 5 = .ok (.iconst 0, 1) := by decide +kernel
theorem dX1_init_6 : decode cX1_init 6 = .ok (.putfield 9, 3) := by decide +kernel
theorem dX1_init_9 : decode cX1_init 9 = .ok (.aload_n 0, 1) := by decide +kernel
theorem dX1_init_10 : decode cX1_init 10 = .ok (.sipush 150, 3) := by decide +kernel
theorem dX1_init_13 : decode cX1_init 13 = .ok (.newarray .byte, 2) := by decide +kernel
theorem dX1_init_15 : decode cX1_init 15 = .ok (.putfield 15, 3) := by decide +kernel
theorem dX1_init_18 : decode cX1_init 18 = .ok (.aload_n 0, 1) := by decide +kernel
theorem dX1_init_19 : decode cX1_init 19 = .ok (.iconst 0, 1) := by decide +kernel
theorem dX1_init_20 : decode cX1_init 20 = .ok (.putfield 19, 3) := by decide +kernel
theorem dX1_init_23 : decode cX1_init 23 = .ok (.aload_n 0, 1) := by decide +kernel
theorem dX1_init_24 : decode cX1_init 24 = .ok (.aconst_null, 1) := by decide +kernel
theorem dX1_init_25 : decode cX1_init 25 = .ok (.putfield 22, 3) := by decide +kernel
theorem dX1_init_28 : decode cX1_init 28 = .ok (.aload_n 0, 1) := by decide +kernel
theorem dX1_init_29 : decode cX1_init 29 = .ok (.iconst 5, 1) := by decide +kernel
theorem dX1_init_30 : decode cX1_init 30 = .ok (.newarray .int, 2) := by decide +kernel
theorem dX1_init_32 : decode cX1_init 32 = .ok (.putfield 26, 3) := by decide +kernel
theorem dX1_init_35 : decode cX1_init 35 = .ok (.return_, 1) := by decide +kernel
theorem dX2_init_0 : decode cX2_init 0 = .ok (.aload_n 0, 1) := by decide +kernel
theorem dX2_init_1 : decode cX2_init 1 = .ok (.invokespecial 3, 3) := by decide +kernel
theorem dX2_init_4 : decode cX2_init 4 = .ok (.aload_n 0, 1) := by decide +kernel
theorem dX2_init_5 : decode cX2_init 5 = .ok (.iconst 0, 1) := by decide +kernel
theorem dX2_init_6 : decode cX2_init 6 = .ok (.putfield 9, 3) := by decide +kernel
theorem dX2_init_9 : decode cX2_init 9 = .ok (.aload_n 0, 1) := by decide +kernel
theorem dX2_init_10 : decode cX2_init 10 = .ok (.bipush 15, 2) := by decide +kernel
theorem dX2_init_12 : decode cX2_init 12 = .ok (.newarray .int, 2) := by decide +kernel
theorem dX2_init_14 : decode cX2_init 14 = .ok (.putfield 15, 3) := by decide +kernel
theorem dX2_init_17 : decode cX2_init 17 = .ok (.return_, 1) := by decide +kernel
theorem dX2_reset_0 : decode cX2_reset 0 = .ok (.aload_n 0, 1) := by decide +kernel
theorem dX2_reset_1 : decode cX2_reset 1 = .ok (.iconst 0, 1) := by decide +kernel
theorem dX2_reset_2 : decode cX2_reset 2 = .ok (.putfield 9, 3) := by decide +kernel
theorem dX2_reset_5 : decode cX2_reset 5 = .ok (.return_, 1) := by decide +kernel
theorem dX2_copyFrom_0 : decode cX2_copyFrom 0 = .ok (.aload_n 0, 1) := by decide +kernel
theorem dX2_copyFrom_1 : decode cX2_copyFrom 1 = .ok (.aload_n 1, 1) := by decide +kernel
theorem dX2_copyFrom_2 : decode cX2_copyFrom 2 = .ok (.getfield 9, 3) := by decide +kernel
theorem dX2_copyFrom_5 : decode cX2_copyFrom 5 = .ok (.putfield 9, 3) := by decide +kernel
theorem dX2_copyFrom_8 : decode cX2_copyFrom 8 = .ok (.aload_n 1, 1) := by decide +kernel
theorem dX2_copyFrom_9 : decode cX2_copyFrom 9 = .ok (.getfield 15, 3) := by decide +kernel
theorem dX2_copyFrom_12 : decode cX2_copyFrom 12 = .ok (.aload_n 0, 1) := by decide +kernel
theorem dX2_copyFrom_13 : decode cX2_copyFrom 13 = .ok (.getfield 15, 3) := by decide +kernel
theorem dX2_copyFrom_16 : decode cX2_copyFrom 16 = .ok (.invokestatic 19, 3) := by decide +kernel
theorem dX2_copyFrom_19 : decode cX2_copyFrom 19 = .ok (.return_, 1) := by decide +kernel
theorem dX2_takeCandidates_0 : decode cX2_takeCandidates 0 = .ok (.aload_n 0, 1) := by decide +kernel
theorem dX2_takeCandidates_1 : decode cX2_takeCandidates 1 = .ok (.iconst 0, 1) := by decide +kernel
theorem dX2_takeCandidates_2 : decode cX2_takeCandidates 2 = .ok (.putfield 9, 3) := by decide +kernel
theorem dX2_takeCandidates_5 : decode cX2_takeCandidates 5 = .ok (.iconst 0, 1) := by decide +kernel
theorem dX2_takeCandidates_6 : decode cX2_takeCandidates 6 = .ok (.istore_n 2, 1) := by decide +kernel
theorem dX2_takeCandidates_7 : decode cX2_takeCandidates 7 = .ok (.iload_n 2, 1) := by decide +kernel
theorem dX2_takeCandidates_8 : decode cX2_takeCandidates 8 = .ok (.aload_n 1, 1) := by decide +kernel
theorem dX2_takeCandidates_9 : decode cX2_takeCandidates 9 = .ok (.getfield 23, 3) := by decide +kernel
theorem dX2_takeCandidates_12 : decode cX2_takeCandidates 12 = .ok (.if_icmp .ge 54, 3) := by decide +kernel
theorem dX2_takeCandidates_15 : decode cX2_takeCandidates 15 = .ok (.aload_n 1, 1) := by decide +kernel
theorem dX2_takeCandidates_16 : decode cX2_takeCandidates 16 = .ok (.iload_n 2, 1) := by decide +kernel
theorem dX2_takeCandidates_17 : decode cX2_takeCandidates 17 = .ok (.iconst 1, 1) := by decide +kernel
theorem dX2_takeCandidates_18 : decode cX2_takeCandidates 18 = .ok (.invokevirtual 26, 3) := by decide +kernel
theorem dX2_takeCandidates_21 : decode cX2_takeCandidates 21 = .ok (.ifCond .eq 39, 3) := by decide +kernel
theorem dX2_takeCandidates_24 : decode cX2_takeCandidates 24 = .ok (.aload_n 0, 1) := by decide +kernel
theorem dX2_takeCandidates_25 : decode cX2_takeCandidates 25 = .ok (.getfield 9, 3) := by decide +kernel
theorem dX2_takeCandidates_28 : decode cX2_takeCandidates 28 = .ok (.aload_n 0, 1) := by decide +kernel
theorem dX2_takeCandidates_29 : decode cX2_takeCandidates 29 = .ok (.getfield 15, 3) := by decide +kernel
theorem dX2_takeCandidates_32 : decode cX2_takeCandidates 32 = .ok (.arraylength, 1) := by decide +kernel
theorem dX2_takeCandidates_33 : decode cX2_takeCandidates 33 = .ok (.if_icmp .ge 27, 3) := by decide +kernel
theorem dX2_takeCandidates_36 : decode cX2_takeCandidates 36 = .ok (.aload_n 0, 1) := by decide +kernel
theorem dX2_takeCandidates_37 : decode cX2_takeCandidates 37 = .ok (.getfield 15, 3) := by decide +kernel
theorem dX2_takeCandidates_40 : decode cX2_takeCandidates 40 = .ok (.aload_n 0, 1) := by decide +kernel
theorem dX2_takeCandidates_41 : decode cX2_takeCandidates 41 = .ok (.getfield 9, 3) := by decide +kernel
theorem dX2_takeCandidates_44 : decode cX2_takeCandidates 44 = .ok (.aload_n 1, 1) := by decide +kernel
theorem dX2_takeCandidates_45 : decode cX2_takeCandidates 45 = .ok (.iload_n 2, 1) := by decide +kernel
theorem dX2_takeCandidates_46 : decode cX2_takeCandidates 46 = .ok (.invokevirtual 30, 3) := by decide +kernel
theorem dX2_takeCandidates_49 : decode cX2_takeCandidates 49 = .ok (.iastore, 1) := by decide +kernel
theorem dX2_takeCandidates_50 : decode cX2_takeCandidates 50 = .ok (.aload_n 0, 1) := by decide +kernel
theorem dX2_takeCandidates_51 : decode cX2_takeCandidates 51 = .ok (.dup, 1) := by decide +kernel
theorem dX2_takeCandidates_52 : decode cX2_takeCandidates 52 = .ok (.getfield 9, 3) := by decide +kernel
theorem dX2_takeCandidates_55 : decode cX2_takeCandidates 55 = .ok (.iconst 1, 1) := by decide +kernel
theorem dX2_takeCandidates_56 : decode cX2_takeCandidates 56 = .ok (.iadd, 1) := by decide +kernel
theorem dX2_takeCandidates_57 : decode cX2_takeCandidates 57 = .ok (.putfield 9, 3) := by decide +kernel
theorem dX2_takeCandidates_60 : decode cX2_takeCandidates 60 = .ok (.iinc 2 1, 3) := by decide +kernel
theorem dX2_takeCandidates_63 : decode cX2_takeCandidates 63 = .ok (.goto (-56), 3) := by decide +kernel
theorem dX2_takeCandidates_66 : decode cX2_takeCandidates 66 = .ok (.return_, 1) := by decide +kernel
theorem dX2_hasNear_0 : decode cX2_hasNear 0 = .ok (.iconst 0, 1) := by decide +kernel
theorem dX2_hasNear_1 : decode cX2_hasNear 1 = .ok (.istore_n 2, 1) := by decide +kernel
theorem dX2_hasNear_2 : decode cX2_hasNear 2 = .ok (.iload_n 2, 1) := by decide +kernel
theorem dX2_hasNear_3 : decode cX2_hasNear 3 = .ok (.aload_n 0, 1) := by decide +kernel
theorem dX2_hasNear_4 : decode cX2_hasNear 4 = .ok (.getfield 9, 3) := by decide +kernel
theorem dX2_hasNear_7 : decode cX2_hasNear 7 = .ok (.if_icmp .ge 36, 3) := by decide +kernel
theorem dX2_hasNear_10 : decode cX2_hasNear 10 = .ok (.iload_n 2, 1) := by decide +kernel
theorem dX2_hasNear_11 : decode cX2_hasNear 11 = .ok (.aload_n 0, 1) := by decide +kernel
theorem dX2_hasNear_12 : decode cX2_hasNear 12 = .ok (.getfield 15, 3) := by decide +kernel
theorem dX2_hasNear_15 : decode cX2_hasNear 15 = .ok (.arraylength, 1) := by decide +kernel
theorem dX2_hasNear_16 : decode cX2_hasNear 16 = .ok (.if_icmp .ge 27, 3) := by decide +kernel
theorem dX2_hasNear_19 : decode cX2_hasNear 19 = .ok (.aload_n 0, 1) := by decide +kernel
theorem dX2_hasNear_20 : decode cX2_hasNear 20 = .ok (.getfield 15, 3) := by decide +kernel
theorem dX2_hasNear_23 : decode cX2_hasNear 23 = .ok (.iload_n 2, 1) := by decide +kernel
theorem dX2_hasNear_24 : decode cX2_hasNear 24 = .ok (.iaload, 1) := by decide +kernel
theorem dX2_hasNear_25 : decode cX2_hasNear 25 = .ok (.iload_n 1, 1) := by decide +kernel
theorem dX2_hasNear_26 : decode cX2_hasNear 26 = .ok (.isub, 1) := by decide +kernel
theorem dX2_hasNear_27 : decode cX2_hasNear 27 = .ok (.invokestatic 34, 3) := by decide +kernel
theorem dX2_hasNear_30 : decode cX2_hasNear 30 = .ok (.bipush 15, 2) := by decide +kernel
theorem dX2_hasNear_32 : decode cX2_hasNear 32 = .ok (.if_icmp .gt 5, 3) := by decide +kernel
theorem dX2_hasNear_35 : decode cX2_hasNear 35 = .ok (.iconst 1, 1) := by decide +kernel
theorem dX2_hasNear_36 : decode cX2_hasNear 36 = .ok (.ireturn, 1) := by decide +kernel
theorem dX2_hasNear_37 : decode cX2_hasNear 37 = .ok (.iinc 2 1, 3) := by decide +kernel
theorem dX2_hasNear_40 : decode cX2_hasNear 40 = .ok (.goto (-38), 3) := by decide +kernel
theorem dX2_hasNear_43 : decode cX2_hasNear 43 = .ok (.iconst 0, 1) := by decide +kernel
theorem dX2_hasNear_44 : decode cX2_hasNear 44 = .ok (.ireturn, 1) := by decide +kernel
theorem dX3_init_0 : decode cX3_init 0 = .ok (.aload_n 0, 1) := by decide +kernel
theorem dX3_init_1 : decode cX3_init 1 = .ok (.invokespecial 3, 3) := by decide +kernel
theorem dX3_init_4 : decode cX3_init 4 = .ok (.aload_n 0, 1) := by decide +kernel
theorem dX3_init_5 : decode cX3_init 5 = .ok (.iconst 0, 1) := by decide +kernel
theorem dX3_init_6 : decode cX3_init 6 = .ok (.putfield 9, 3) := by decide +kernel
theorem dX3_init_9 : decode cX3_init 9 = .ok (.aload_n 0, 1) := by decide +kernel
theorem dX3_init_10 : decode cX3_init 10 = .ok (.bipush 15, 2) := by decide +kernel
theorem dX3_init_12 : decode cX3_init 12 = .ok (.newarray .int, 2) := by decide +kernel
theorem dX3_init_14 : decode cX3_init 14 = .ok (.putfield 15, 3) := by decide +kernel
theorem dX3_init_17 : decode cX3_init 17 = .ok (.aload_n 0, 1) := by decide +kernel
theorem dX3_init_18 : decode cX3_init 18 = .ok (.bipush 15, 2) := by decide +kernel
theorem dX3_init_20 : decode cX3_init 20 = .ok (.newarray .int, 2) := by decide +kernel
theorem dX3_init_22 : decode cX3_init 22 = .ok (.putfield 19, 3) := by decide +kernel
theorem dX3_init_25 : decode cX3_init 25 = .ok (.aload_n 0, 1) := by decide +kernel
theorem dX3_init_26 : decode cX3_init 26 = .ok (.bipush 15, 2) := by decide +kernel
theorem dX3_init_28 : decode cX3_init 28 = .ok (.newarray .int, 2) := by decide +kernel
theorem dX3_init_30 : decode cX3_init 30 = .ok (.putfield 22, 3) := by decide +kernel
theorem dX3_init_33 : decode cX3_init 33 = .ok (.aload_n 0, 1) := by decide +kernel
theorem dX3_init_34 : decode cX3_init 34 = .ok (.bipush 15, 2) := by decide +kernel
theorem dX3_init_36 : decode cX3_init 36 = .ok (.newarray .int, 2) := by decide +kernel
theorem dX3_init_38 : decode cX3_init 38 = .ok (.putfield 25, 3) := by decide +kernel
theorem dX3_init_41 : decode cX3_init 41 = .ok (.return_, 1) := by decide +kernel
theorem dX3_reset_0 : decode cX3_reset 0 = .ok (.aload_n 0, 1) := by decide +kernel
theorem dX3_reset_1 : decode cX3_reset 1 = .ok (.iconst 0, 1) := by decide +kernel
theorem dX3_reset_2 : decode cX3_reset 2 = .ok (.putfield 9, 3) := by decide +kernel
theorem dX3_reset_5 : decode cX3_reset 5 = .ok (.return_, 1) := by decide +kernel
theorem dX3_copyFrom_0 : decode cX3_copyFrom 0 = .ok (.aload_n 0, 1) := by decide +kernel
theorem dX3_copyFrom_1 : decode cX3_copyFrom 1 = .ok (.aload_n 1, 1) := by decide +kernel
theorem dX3_copyFrom_2 : decode cX3_copyFrom 2 = .ok (.getfield 9, 3) := by decide +kernel
theorem dX3_copyFrom_5 : decode cX3_copyFrom 5 = .ok (.putfield 9, 3) := by decide +kernel
theorem dX3_copyFrom_8 : decode cX3_copyFrom 8 = .ok (.aload_n 1, 1) := by decide +kernel
theorem dX3_copyFrom_9 : decode cX3_copyFrom 9 = .ok (.getfield 15, 3) := by decide +kernel
theorem dX3_copyFrom_12 : decode cX3_copyFrom 12 = .ok (.aload_n 0, 1) := by decide +kernel
theorem dX3_copyFrom_13 : decode cX3_copyFrom 13 = .ok (.getfield 15, 3) := by decide +kernel
theorem dX3_copyFrom_16 : decode cX3_copyFrom 16 = .ok (.invokestatic 28, 3) := by decide +kernel
theorem dX3_copyFrom_19 : decode cX3_copyFrom 19 = .ok (.aload_n 1, 1) := by decide +kernel
theorem dX3_copyFrom_20 : decode cX3_copyFrom 20 = .ok (.getfield 19, 3) := by decide +kernel
theorem dX3_copyFrom_23 : decode cX3_copyFrom 23 = .ok (.aload_n 0, 1) := by decide +kernel
theorem dX3_copyFrom_24 : decode cX3_copyFrom 24 = .ok (.getfield 19, 3) := by decide +kernel
theorem dX3_copyFrom_27 : decode cX3_copyFrom 27 = .ok (.invokestatic 28, 3) := by decide +kernel
theorem dX3_copyFrom_30 : decode cX3_copyFrom 30 = .ok (.aload_n 1, 1) := by decide +kernel
theorem dX3_copyFrom_31 : decode cX3_copyFrom 31 = .ok (.getfield 22, 3) := by decide +kernel
theorem dX3_copyFrom_34 : decode cX3_copyFrom 34 = .ok (.aload_n 0, 1) := by decide +kernel
theorem dX3_copyFrom_35 : decode cX3_copyFrom 35 = .ok (.getfield 22, 3) := by decide +kernel
theorem dX3_copyFrom_38 : decode cX3_copyFrom 38 = .ok (.invokestatic 28, 3) := by decide +kernel
theorem dX3_copyFrom_41 : decode cX3_copyFrom 41 = .ok (.aload_n 1, 1) := by decide +kernel
theorem dX3_copyFrom_42 : decode cX3_copyFrom 42 = .ok (.getfield 25, 3) := by decide +kernel
theorem dX3_copyFrom_45 : decode cX3_copyFrom 45 = .ok (.aload_n 0, 1) := by decide +kernel
theorem dX3_copyFrom_46 : decode cX3_copyFrom 46 = .ok (.getfield 25, 3) := by decide +kernel
theorem dX3_copyFrom_49 : decode cX3_copyFrom 49 = .ok (.invokestatic 28, 3) := by decide +kernel
theorem dX3_copyFrom_52 : decode cX3_copyFrom 52 = .ok (.return_, 1) := by decide +kernel
theorem dX3_has_0 : decode cX3_has 0 = .ok (.iload_n 1, 1) := by decide +kernel
theorem dX3_has_1 : decode cX3_has 1 = .ok (.ifCond .lt 21, 3) := by decide +kernel
theorem dX3_has_4 : decode cX3_has 4 = .ok (.iload_n 1, 1) := by decide +kernel
theorem dX3_has_5 : decode cX3_has 5 = .ok (.aload_n 0, 1) := by decide +kernel
theorem dX3_has_6 : decode cX3_has 6 = .ok (.getfield 9, 3) := by decide +kernel
theorem dX3_has_9 : decode cX3_has 9 = .ok (.if_icmp .ge 13, 3) := by decide +kernel
theorem dX3_has_12 : decode cX3_has 12 = .ok (.iload_n 1, 1) := by decide +kernel
theorem dX3_has_13 : decode cX3_has 13 = .ok (.bipush 15, 2) := by decide +kernel
theorem dX3_has_15 : decode cX3_has 15 = .ok (.if_icmp .ge 7, 3) := by decide +kernel
theorem dX3_has_18 : decode cX3_has 18 = .ok (.iconst 1, 1) := by decide +kernel
theorem dX3_has_19 : decode cX3_has 19 = .ok (.goto 4, 3) := by decide +kernel
theorem dX3_has_22 : decode cX3_has 22 = .ok (.iconst 0, 1) := by decide +kernel
theorem dX3_has_23 : decode cX3_has 23 = .ok (.ireturn, 1) := by decide +kernel
theorem dX3_kind_0 : decode cX3_kind 0 = .ok (.aload_n 0, 1) := by decide +kernel
theorem dX3_kind_1 : decode cX3_kind 1 = .ok (.iload_n 1, 1) := by decide +kernel
theorem dX3_kind_2 : decode cX3_kind 2 = .ok (.invokevirtual 32, 3) := by decide +kernel
theorem dX3_kind_5 : decode cX3_kind 5 = .ok (.ifCond .eq 12, 3) := by decide +kernel
theorem dX3_kind_8 : decode cX3_kind 8 = .ok (.aload_n 0, 1) := by decide +kernel
theorem dX3_kind_9 : decode cX3_kind 9 = .ok (.getfield 15, 3) := by decide +kernel
theorem dX3_kind_12 : decode cX3_kind 12 = .ok (.iload_n 1, 1) := by decide +kernel
theorem dX3_kind_13 : decode cX3_kind 13 = .ok (.iaload, 1) := by decide +kernel
theorem dX3_kind_14 : decode cX3_kind 14 = .ok (.goto 4, 3) := by decide +kernel
theorem dX3_kind_17 : decode cX3_kind 17 = .ok (.iconst (-1), 1) := by decide +kernel
theorem dX3_kind_18 : decode cX3_kind 18 = .ok (.ireturn, 1) := by decide +kernel
theorem dX3_distance_0 : decode cX3_distance 0 = .ok (.aload_n 0, 1) := by decide +kernel
theorem dX3_distance_1 : decode cX3_distance 1 = .ok (.iload_n 1, 1) := by decide +kernel
theorem dX3_distance_2 : decode cX3_distance 2 = .ok (.invokevirtual 32, 3) := by decide +kernel
theorem dX3_distance_5 : decode cX3_distance 5 = .ok (.ifCond .eq 12, 3) := by decide +kernel
theorem dX3_distance_8 : decode cX3_distance 8 = .ok (.aload_n 0, 1) := by decide +kernel
theorem dX3_distance_9 : decode cX3_distance 9 = .ok (.getfield 19, 3) := by decide +kernel
theorem dX3_distance_12 : decode cX3_distance 12 = .ok (.iload_n 1, 1) := by decide +kernel
theorem dX3_distance_13 : decode cX3_distance 13 = .ok (.iaload, 1) := by decide +kernel
theorem dX3_distance_14 : decode cX3_distance 14 = .ok (.goto 4, 3) := by decide +kernel
theorem dX3_distance_17 : decode cX3_distance 17 = .ok (.iconst (-1), 1) := by decide +kernel
theorem dX3_distance_18 : decode cX3_distance 18 = .ok (.ireturn, 1) := by decide +kernel
theorem dX3_strength_0 : decode cX3_strength 0 = .ok (.aload_n 0, 1) := by decide +kernel
theorem dX3_strength_1 : decode cX3_strength 1 = .ok (.iload_n 1, 1) := by decide +kernel
theorem dX3_strength_2 : decode cX3_strength 2 = .ok (.invokevirtual 32, 3) := by decide +kernel
theorem dX3_strength_5 : decode cX3_strength 5 = .ok (.ifCond .eq 12, 3) := by decide +kernel
theorem dX3_strength_8 : decode cX3_strength 8 = .ok (.aload_n 0, 1) := by decide +kernel
theorem dX3_strength_9 : decode cX3_strength 9 = .ok (.getfield 22, 3) := by decide +kernel
theorem dX3_strength_12 : decode cX3_strength 12 = .ok (.iload_n 1, 1) := by decide +kernel
theorem dX3_strength_13 : decode cX3_strength 13 = .ok (.iaload, 1) := by decide +kernel
theorem dX3_strength_14 : decode cX3_strength 14 = .ok (.goto 4, 3) := by decide +kernel
theorem dX3_strength_17 : decode cX3_strength 17 = .ok (.iconst (-1), 1) := by decide +kernel
theorem dX3_strength_18 : decode cX3_strength 18 = .ok (.ireturn, 1) := by decide +kernel
theorem dX3_isMarked_0 : decode cX3_isMarked 0 = .ok (.aload_n 0, 1) := by decide +kernel
theorem dX3_isMarked_1 : decode cX3_isMarked 1 = .ok (.iload_n 1, 1) := by decide +kernel
theorem dX3_isMarked_2 : decode cX3_isMarked 2 = .ok (.invokevirtual 32, 3) := by decide +kernel
theorem dX3_isMarked_5 : decode cX3_isMarked 5 = .ok (.ifCond .eq 18, 3) := by decide +kernel
theorem dX3_isMarked_8 : decode cX3_isMarked 8 = .ok (.aload_n 0, 1) := by decide +kernel
theorem dX3_isMarked_9 : decode cX3_isMarked 9 = .ok (.getfield 25, 3) := by decide +kernel
theorem dX3_isMarked_12 : decode cX3_isMarked 12 = .ok (.iload_n 1, 1) := by decide +kernel
theorem dX3_isMarked_13 : decode cX3_isMarked 13 = .ok (.iaload, 1) := by decide +kernel
theorem dX3_isMarked_14 : decode cX3_isMarked 14 = .ok (.iload_n 2, 1) := by decide +kernel
theorem dX3_isMarked_15 : decode cX3_isMarked 15 = .ok (.iand, 1) := by decide +kernel
theorem dX3_isMarked_16 : decode cX3_isMarked 16 = .ok (.ifCond .eq 7, 3) := by decide +kernel
theorem dX3_isMarked_19 : decode cX3_isMarked 19 = .ok (.iconst 1, 1) := by decide +kernel
theorem dX3_isMarked_20 : decode cX3_isMarked 20 = .ok (.goto 4, 3) := by decide +kernel
theorem dX3_isMarked_23 : decode cX3_isMarked 23 = .ok (.iconst 0, 1) := by decide +kernel
theorem dX3_isMarked_24 : decode cX3_isMarked 24 = .ok (.ireturn, 1) := by decide +kernel
theorem dX3_mark_0 : decode cX3_mark 0 = .ok (.aload_n 0, 1) := by decide +kernel
theorem dX3_mark_1 : decode cX3_mark 1 = .ok (.iload_n 1, 1) := by decide +kernel
theorem dX3_mark_2 : decode cX3_mark 2 = .ok (.invokevirtual 32, 3) := by decide +kernel
theorem dX3_mark_5 : decode cX3_mark 5 = .ok (.ifCond .eq 13, 3) := by decide +kernel
theorem dX3_mark_8 : decode cX3_mark 8 = .ok (.aload_n 0, 1) := by decide +kernel
theorem dX3_mark_9 : decode cX3_mark 9 = .ok (.getfield 25, 3) := by decide +kernel
theorem dX3_mark_12 : decode cX3_mark 12 = .ok (.iload_n 1, 1) := by decide +kernel
theorem dX3_mark_13 : decode cX3_mark 13 = .ok (.dup2, 1) := by decide +kernel
theorem dX3_mark_14 : decode cX3_mark 14 = .ok (.iaload, 1) := by decide +kernel
theorem dX3_mark_15 : decode cX3_mark 15 = .ok (.iload_n 2, 1) := by decide +kernel
theorem dX3_mark_16 : decode cX3_mark 16 = .ok (.ior, 1) := by decide +kernel
theorem dX3_mark_17 : decode cX3_mark 17 = .ok (.iastore, 1) := by decide +kernel
theorem dX3_mark_18 : decode cX3_mark 18 = .ok (.return_, 1) := by decide +kernel
theorem dX3_append_0 : decode cX3_append 0 = .ok (.aload_n 0, 1) := by decide +kernel
theorem dX3_append_1 : decode cX3_append 1 = .ok (.getfield 9, 3) := by decide +kernel
theorem dX3_append_4 : decode cX3_append 4 = .ok (.ifCond .lt 43, 3) := by decide +kernel
theorem dX3_append_7 : decode cX3_append 7 = .ok (.aload_n 0, 1) := by decide +kernel
theorem dX3_append_8 : decode cX3_append 8 = .ok (.getfield 9, 3) := by decide +kernel
theorem dX3_append_11 : decode cX3_append 11 = .ok (.bipush 15, 2) := by decide +kernel
theorem dX3_append_13 : decode cX3_append 13 = .ok (.if_icmp .ge 34, 3) := by decide +kernel
theorem dX3_append_16 : decode cX3_append 16 = .ok (.aload_n 0, 1) := by decide +kernel
theorem dX3_append_17 : decode cX3_append 17 = .ok (.aload_n 0, 1) := by decide +kernel
theorem dX3_append_18 : decode cX3_append 18 = .ok (.getfield 9, 3) := by decide +kernel
theorem dX3_append_21 : decode cX3_append 21 = .ok (.iload_n 1, 1) := by decide +kernel
theorem dX3_append_22 : decode cX3_append 22 = .ok (.iload_n 2, 1) := by decide +kernel
theorem dX3_append_23 : decode cX3_append 23 = .ok (.iload_n 3, 1) := by decide +kernel
theorem dX3_append_24 : decode cX3_append 24 = .ok (.invokevirtual 36, 3) := by decide +kernel
theorem dX3_append_27 : decode cX3_append 27 = .ok (.aload_n 0, 1) := by decide +kernel
theorem dX3_append_28 : decode cX3_append 28 = .ok (.getfield 25, 3) := by decide +kernel
theorem dX3_append_31 : decode cX3_append 31 = .ok (.aload_n 0, 1) := by decide +kernel
theorem dX3_append_32 : decode cX3_append 32 = .ok (.getfield 9, 3) := by decide +kernel
theorem dX3_append_35 : decode cX3_append 35 = .ok (.iconst 0, 1) := by decide +kernel
theorem dX3_append_36 : decode cX3_append 36 = .ok (.iastore, 1) := by decide +kernel
theorem dX3_append_37 : decode cX3_append 37 = .ok (.aload_n 0, 1) := by decide +kernel
theorem dX3_append_38 : decode cX3_append 38 = .ok (.dup, 1) := by decide +kernel
theorem dX3_append_39 : decode cX3_append 39 = .ok (.getfield 9, 3) := by decide +kernel
theorem dX3_append_42 : decode cX3_append 42 = .ok (.iconst 1, 1) := by decide +kernel
theorem dX3_append_43 : decode cX3_append 43 = .ok (.iadd, 1) := by decide +kernel
theorem dX3_append_44 : decode cX3_append 44 = .ok (.putfield 9, 3) := by decide +kernel
theorem dX3_append_47 : decode cX3_append 47 = .ok (.return_, 1) := by decide +kernel
theorem dX3_put_0 : decode cX3_put 0 = .ok (.iload_n 1, 1) := by decide +kernel
theorem dX3_put_1 : decode cX3_put 1 = .ok (.ifCond .lt 31, 3) := by decide +kernel
theorem dX3_put_4 : decode cX3_put 4 = .ok (.iload_n 1, 1) := by decide +kernel
theorem dX3_put_5 : decode cX3_put 5 = .ok (.bipush 15, 2) := by decide +kernel
theorem dX3_put_7 : decode cX3_put 7 = .ok (.if_icmp .ge 25, 3) := by decide +kernel
theorem dX3_put_10 : decode cX3_put 10 = .ok (.aload_n 0, 1) := by decide +kernel
theorem dX3_put_11 : decode cX3_put 11 = .ok (.getfield 15, 3) := by decide +kernel
theorem dX3_put_14 : decode cX3_put 14 = .ok (.iload_n 1, 1) := by decide +kernel
theorem dX3_put_15 : decode cX3_put 15 = .ok (.iload_n 2, 1) := by decide +kernel
theorem dX3_put_16 : decode cX3_put 16 = .ok (.iastore, 1) := by decide +kernel
theorem dX3_put_17 : decode cX3_put 17 = .ok (.aload_n 0, 1) := by decide +kernel
theorem dX3_put_18 : decode cX3_put 18 = .ok (.getfield 19, 3) := by decide +kernel
theorem dX3_put_21 : decode cX3_put 21 = .ok (.iload_n 1, 1) := by decide +kernel
theorem dX3_put_22 : decode cX3_put 22 = .ok (.iload_n 3, 1) := by decide +kernel
theorem dX3_put_23 : decode cX3_put 23 = .ok (.iastore, 1) := by decide +kernel
theorem dX3_put_24 : decode cX3_put 24 = .ok (.aload_n 0, 1) := by decide +kernel
theorem dX3_put_25 : decode cX3_put 25 = .ok (.getfield 22, 3) := by decide +kernel
theorem dX3_put_28 : decode cX3_put 28 = .ok (.iload_n 1, 1) := by decide +kernel
theorem dX3_put_29 : decode cX3_put 29 = .ok (.iload 4, 2) := by decide +kernel
theorem dX3_put_31 : decode cX3_put 31 = .ok (.iastore, 1) := by decide +kernel
theorem dX3_put_32 : decode cX3_put 32 = .ok (.return_, 1) := by decide +kernel
theorem dX3_meetChance_0 : decode cX3_meetChance 0 = .ok (.aload_n 0, 1) := by decide +kernel
theorem dX3_meetChance_1 : decode cX3_meetChance 1 = .ok (.getfield 9, 3) := by decide +kernel
theorem dX3_meetChance_4 : decode cX3_meetChance 4 = .ok (.bipush 15, 2) := by decide +kernel
theorem dX3_meetChance_6 : decode cX3_meetChance 6 = .ok (.invokestatic 40, 3) := by decide +kernel
theorem dX3_meetChance_9 : decode cX3_meetChance 9 = .ok (.istore 4, 2) := by decide +kernel
theorem dX3_meetChance_11 : decode cX3_meetChance 11 = .ok (.aload_n 0, 1) := by decide +kernel
theorem dX3_meetChance_12 : decode cX3_meetChance 12 = .ok (.iconst 0, 1) := by decide +kernel
theorem dX3_meetChance_13 : decode cX3_meetChance 13 = .ok (.putfield 9, 3) := by decide +kernel
theorem dX3_meetChance_16 : decode cX3_meetChance 16 = .ok (.iconst 0, 1) := by decide +kernel
theorem dX3_meetChance_17 : decode cX3_meetChance 17 = .ok (.istore 5, 2) := by decide +kernel
theorem dX3_meetChance_19 : decode cX3_meetChance 19 = .ok (.iload 5, 2) := by decide +kernel
theorem dX3_meetChance_21 : decode cX3_meetChance 21 = .ok (.iload 4, 2) := by decide +kernel
theorem dX3_meetChance_23 : decode cX3_meetChance 23 = .ok (.if_icmp .ge 90, 3) := by decide +kernel
theorem dX3_meetChance_26 : decode cX3_meetChance 26 = .ok (.aload_n 1, 1) := by decide +kernel
theorem dX3_meetChance_27 : decode cX3_meetChance 27 = .ok (.bipush 100, 2) := by decide +kernel
theorem dX3_meetChance_29 : decode cX3_meetChance 29 = .ok (.invokevirtual 46, 3) := by decide +kernel
theorem dX3_meetChance_32 : decode cX3_meetChance 32 = .ok (.iload_n 2, 1) := by decide +kernel
theorem dX3_meetChance_33 : decode cX3_meetChance 33 = .ok (.if_icmp .ge 7, 3) := by decide +kernel
theorem dX3_meetChance_36 : decode cX3_meetChance 36 = .ok (.iconst 1, 1) := by decide +kernel
theorem dX3_meetChance_37 : decode cX3_meetChance 37 = .ok (.goto 4, 3) := by decide +kernel
theorem dX3_meetChance_40 : decode cX3_meetChance 40 = .ok (.iconst 0, 1) := by decide +kernel
theorem dX3_meetChance_41 : decode cX3_meetChance 41 = .ok (.istore 6, 2) := by decide +kernel
theorem dX3_meetChance_43 : decode cX3_meetChance 43 = .ok (.iload 6, 2) := by decide +kernel
theorem dX3_meetChance_45 : decode cX3_meetChance 45 = .ok (.ifCond .ne 62, 3) := by decide +kernel
theorem dX3_meetChance_48 : decode cX3_meetChance 48 = .ok (.iload_n 3, 1) := by decide +kernel
theorem dX3_meetChance_49 : decode cX3_meetChance 49 = .ok (.ifCond .le 25, 3) := by decide +kernel
theorem dX3_meetChance_52 : decode cX3_meetChance 52 = .ok (.aload_n 0, 1) := by decide +kernel
theorem dX3_meetChance_53 : decode cX3_meetChance 53 = .ok (.getfield 19, 3) := by decide +kernel
theorem dX3_meetChance_56 : decode cX3_meetChance 56 = .ok (.iload 5, 2) := by decide +kernel
theorem dX3_meetChance_58 : decode cX3_meetChance 58 = .ok (.iaload, 1) := by decide +kernel
theorem dX3_meetChance_59 : decode cX3_meetChance 59 = .ok (.aload_n 1, 1) := by decide +kernel
theorem dX3_meetChance_60 : decode cX3_meetChance 60 = .ok (.iconst 2, 1) := by decide +kernel
theorem dX3_meetChance_61 : decode cX3_meetChance 61 = .ok (.iload_n 3, 1) := by decide +kernel
theorem dX3_meetChance_62 : decode cX3_meetChance 62 = .ok (.imul, 1) := by decide +kernel
theorem dX3_meetChance_63 : decode cX3_meetChance 63 = .ok (.iconst 1, 1) := by decide +kernel
theorem dX3_meetChance_64 : decode cX3_meetChance 64 = .ok (.iadd, 1) := by decide +kernel
theorem dX3_meetChance_65 : decode cX3_meetChance 65 = .ok (.invokevirtual 46, 3) := by decide +kernel
theorem dX3_meetChance_68 : decode cX3_meetChance 68 = .ok (.iadd, 1) := by decide +kernel
theorem dX3_meetChance_69 : decode cX3_meetChance 69 = .ok (.iload_n 3, 1) := by decide +kernel
theorem dX3_meetChance_70 : decode cX3_meetChance 70 = .ok (.isub, 1) := by decide +kernel
theorem dX3_meetChance_71 : decode cX3_meetChance 71 = .ok (.goto 10, 3) := by decide +kernel
theorem dX3_meetChance_74 : decode cX3_meetChance 74 = .ok (.aload_n 0, 1) := by decide +kernel
theorem dX3_meetChance_75 : decode cX3_meetChance 75 = .ok (.getfield 19, 3) := by decide +kernel
theorem dX3_meetChance_78 : decode cX3_meetChance 78 = .ok (.iload 5, 2) := by decide +kernel
theorem dX3_meetChance_80 : decode cX3_meetChance 80 = .ok (.iaload, 1) := by decide +kernel
theorem dX3_meetChance_81 : decode cX3_meetChance 81 = .ok (.istore 7, 2) := by decide +kernel
theorem dX3_meetChance_83 : decode cX3_meetChance 83 = .ok (.aload_n 0, 1) := by decide +kernel
theorem dX3_meetChance_84 : decode cX3_meetChance 84 = .ok (.aload_n 0, 1) := by decide +kernel
theorem dX3_meetChance_85 : decode cX3_meetChance 85 = .ok (.getfield 15, 3) := by decide +kernel
theorem dX3_meetChance_88 : decode cX3_meetChance 88 = .ok (.iload 5, 2) := by decide +kernel
theorem dX3_meetChance_90 : decode cX3_meetChance 90 = .ok (.iaload, 1) := by decide +kernel
theorem dX3_meetChance_91 : decode cX3_meetChance 91 = .ok (.iconst 0, 1) := by decide +kernel
theorem dX3_meetChance_92 : decode cX3_meetChance 92 = .ok (.iload 7, 2) := by decide +kernel
theorem dX3_meetChance_94 : decode cX3_meetChance 94 = .ok (.invokestatic 52, 3) := by decide +kernel
theorem dX3_meetChance_97 : decode cX3_meetChance 97 = .ok (.aload_n 0, 1) := by decide +kernel
theorem dX3_meetChance_98 : decode cX3_meetChance 98 = .ok (.getfield 22, 3) := by decide +kernel
theorem dX3_meetChance_101 : decode cX3_meetChance 101 = .ok (.iload 5, 2) := by decide +kernel
theorem dX3_meetChance_103 : decode cX3_meetChance 103 = .ok (.iaload, 1) := by decide +kernel
theorem dX3_meetChance_104 : decode cX3_meetChance 104 = .ok (.invokevirtual 55, 3) := by decide +kernel
theorem dX3_meetChance_107 : decode cX3_meetChance 107 = .ok (.iinc 5 1, 3) := by decide +kernel
theorem dX3_meetChance_110 : decode cX3_meetChance 110 = .ok (.goto (-91), 3) := by decide +kernel
theorem dX3_meetChance_113 : decode cX3_meetChance 113 = .ok (.return_, 1) := by decide +kernel
theorem dX3_insert_0 : decode cX3_insert 0 = .ok (.aload_n 0, 1) := by decide +kernel
theorem dX3_insert_1 : decode cX3_insert 1 = .ok (.getfield 9, 3) := by decide +kernel
theorem dX3_insert_4 : decode cX3_insert 4 = .ok (.ifCond .lt 12, 3) := by decide +kernel
theorem dX3_insert_7 : decode cX3_insert 7 = .ok (.aload_n 0, 1) := by decide +kernel
theorem dX3_insert_8 : decode cX3_insert 8 = .ok (.getfield 9, 3) := by decide +kernel
theorem dX3_insert_11 : decode cX3_insert 11 = .ok (.bipush 15, 2) := by decide +kernel
theorem dX3_insert_13 : decode cX3_insert 13 = .ok (.if_icmp .lt 4, 3) := by decide +kernel
theorem dX3_insert_16 : decode cX3_insert 16 = .ok (.return_, 1) := by decide +kernel
theorem dX3_insert_17 : decode cX3_insert 17 = .ok (.aload_n 0, 1) := by decide +kernel
theorem dX3_insert_18 : decode cX3_insert 18 = .ok (.getfield 9, 3) := by decide +kernel
theorem dX3_insert_21 : decode cX3_insert 21 = .ok (.istore 4, 2) := by decide +kernel
theorem dX3_insert_23 : decode cX3_insert 23 = .ok (.iload 4, 2) := by decide +kernel
theorem dX3_insert_25 : decode cX3_insert 25 = .ok (.ifCond .le 56, 3) := by decide +kernel
theorem dX3_insert_28 : decode cX3_insert 28 = .ok (.aload_n 0, 1) := by decide +kernel
theorem dX3_insert_29 : decode cX3_insert 29 = .ok (.iload_n 1, 1) := by decide +kernel
theorem dX3_insert_30 : decode cX3_insert 30 = .ok (.iload_n 2, 1) := by decide +kernel
theorem dX3_insert_31 : decode cX3_insert 31 = .ok (.iload_n 3, 1) := by decide +kernel
theorem dX3_insert_32 : decode cX3_insert 32 = .ok (.iload 4, 2) := by decide +kernel
theorem dX3_insert_34 : decode cX3_insert 34 = .ok (.iconst 1, 1) := by decide +kernel
theorem dX3_insert_35 : decode cX3_insert 35 = .ok (.isub, 1) := by decide +kernel
theorem dX3_insert_36 : decode cX3_insert 36 = .ok (.invokevirtual 59, 3) := by decide +kernel
theorem dX3_insert_39 : decode cX3_insert 39 = .ok (.ifCond .eq 42, 3) := by decide +kernel
theorem dX3_insert_42 : decode cX3_insert 42 = .ok (.aload_n 0, 1) := by decide +kernel
theorem dX3_insert_43 : decode cX3_insert 43 = .ok (.iload 4, 2) := by decide +kernel
theorem dX3_insert_45 : decode cX3_insert 45 = .ok (.aload_n 0, 1) := by decide +kernel
theorem dX3_insert_46 : decode cX3_insert 46 = .ok (.getfield 15, 3) := by decide +kernel
theorem dX3_insert_49 : decode cX3_insert 49 = .ok (.iload 4, 2) := by decide +kernel
theorem dX3_insert_51 : decode cX3_insert 51 = .ok (.iconst 1, 1) := by decide +kernel
theorem dX3_insert_52 : decode cX3_insert 52 = .ok (.isub, 1) := by decide +kernel
theorem dX3_insert_53 : decode cX3_insert 53 = .ok (.iaload, 1) := by decide +kernel
theorem dX3_insert_54 : decode cX3_insert 54 = .ok (.aload_n 0, 1) := by decide +kernel
theorem dX3_insert_55 : decode cX3_insert 55 = .ok (.getfield 19, 3) := by decide +kernel
theorem dX3_insert_58 : decode cX3_insert 58 = .ok (.iload 4, 2) := by decide +kernel
theorem dX3_insert_60 : decode cX3_insert 60 = .ok (.iconst 1, 1) := by decide +kernel
theorem dX3_insert_61 : decode cX3_insert 61 = .ok (.isub, 1) := by decide +kernel
theorem dX3_insert_62 : decode cX3_insert 62 = .ok (.iaload, 1) := by decide +kernel
theorem dX3_insert_63 : decode cX3_insert 63 = .ok (.aload_n 0, 1) := by decide +kernel
theorem dX3_insert_64 : decode cX3_insert 64 = .ok (.getfield 22, 3) := by decide +kernel
theorem dX3_insert_67 : decode cX3_insert 67 = .ok (.iload 4, 2) := by decide +kernel
theorem dX3_insert_69 : decode cX3_insert 69 = .ok (.iconst 1, 1) := by decide +kernel
theorem dX3_insert_70 : decode cX3_insert 70 = .ok (.isub, 1) := by decide +kernel
theorem dX3_insert_71 : decode cX3_insert 71 = .ok (.iaload, 1) := by decide +kernel
theorem dX3_insert_72 : decode cX3_insert 72 = .ok (.invokevirtual 36, 3) := by decide +kernel
theorem dX3_insert_75 : decode cX3_insert 75 = .ok (.iinc 4 (-1), 3) := by decide +kernel
theorem dX3_insert_78 : decode cX3_insert 78 = .ok (.goto (-55), 3) := by decide +kernel
theorem dX3_insert_81 : decode cX3_insert 81 = .ok (.aload_n 0, 1) := by decide +kernel
theorem dX3_insert_82 : decode cX3_insert 82 = .ok (.iload 4, 2) := by decide +kernel
theorem dX3_insert_84 : decode cX3_insert 84 = .ok (.iload_n 1, 1) := by decide +kernel
theorem dX3_insert_85 : decode cX3_insert 85 = .ok (.iload_n 2, 1) := by decide +kernel
theorem dX3_insert_86 : decode cX3_insert 86 = .ok (.iload_n 3, 1) := by decide +kernel
theorem dX3_insert_87 : decode cX3_insert 87 = .ok (.invokevirtual 36, 3) := by decide +kernel
theorem dX3_insert_90 : decode cX3_insert 90 = .ok (.aload_n 0, 1) := by decide +kernel
theorem dX3_insert_91 : decode cX3_insert 91 = .ok (.dup, 1) := by decide +kernel
theorem dX3_insert_92 : decode cX3_insert 92 = .ok (.getfield 9, 3) := by decide +kernel
theorem dX3_insert_95 : decode cX3_insert 95 = .ok (.iconst 1, 1) := by decide +kernel
theorem dX3_insert_96 : decode cX3_insert 96 = .ok (.iadd, 1) := by decide +kernel
theorem dX3_insert_97 : decode cX3_insert 97 = .ok (.putfield 9, 3) := by decide +kernel
theorem dX3_insert_100 : decode cX3_insert 100 = .ok (.return_, 1) := by decide +kernel
theorem dX3_comesBefore_0 : decode cX3_comesBefore 0 = .ok (.iload 4, 2) := by decide +kernel
theorem dX3_comesBefore_2 : decode cX3_comesBefore 2 = .ok (.ifCond .lt 10, 3) := by decide +kernel
theorem dX3_comesBefore_5 : decode cX3_comesBefore 5 = .ok (.iload 4, 2) := by decide +kernel
theorem dX3_comesBefore_7 : decode cX3_comesBefore 7 = .ok (.bipush 15, 2) := by decide +kernel
theorem dX3_comesBefore_9 : decode cX3_comesBefore 9 = .ok (.if_icmp .lt 5, 3) := by decide +kernel
theorem dX3_comesBefore_12 : decode cX3_comesBefore 12 = .ok (.iconst 0, 1) := by decide +kernel
theorem dX3_comesBefore_13 : decode cX3_comesBefore 13 = .ok (.ireturn, 1) := by decide +kernel
theorem dX3_comesBefore_14 : decode cX3_comesBefore 14 = .ok (.iload_n 2, 1) := by decide +kernel
theorem dX3_comesBefore_15 : decode cX3_comesBefore 15 = .ok (.aload_n 0, 1) := by decide +kernel
theorem dX3_comesBefore_16 : decode cX3_comesBefore 16 = .ok (.getfield 19, 3) := by decide +kernel
theorem dX3_comesBefore_19 : decode cX3_comesBefore 19 = .ok (.iload 4, 2) := by decide +kernel
theorem dX3_comesBefore_21 : decode cX3_comesBefore 21 = .ok (.iaload, 1) := by decide +kernel
theorem dX3_comesBefore_22 : decode cX3_comesBefore 22 = .ok (.if_icmp .eq 20, 3) := by decide +kernel
theorem dX3_comesBefore_25 : decode cX3_comesBefore 25 = .ok (.iload_n 2, 1) := by decide +kernel
theorem dX3_comesBefore_26 : decode cX3_comesBefore 26 = .ok (.aload_n 0, 1) := by decide +kernel
theorem dX3_comesBefore_27 : decode cX3_comesBefore 27 = .ok (.getfield 19, 3) := by decide +kernel
theorem dX3_comesBefore_30 : decode cX3_comesBefore 30 = .ok (.iload 4, 2) := by decide +kernel
theorem dX3_comesBefore_32 : decode cX3_comesBefore 32 = .ok (.iaload, 1) := by decide +kernel
theorem dX3_comesBefore_33 : decode cX3_comesBefore 33 = .ok (.if_icmp .ge 7, 3) := by decide +kernel
theorem dX3_comesBefore_36 : decode cX3_comesBefore 36 = .ok (.iconst 1, 1) := by decide +kernel
theorem dX3_comesBefore_37 : decode cX3_comesBefore 37 = .ok (.goto 4, 3) := by decide +kernel
theorem dX3_comesBefore_40 : decode cX3_comesBefore 40 = .ok (.iconst 0, 1) := by decide +kernel
theorem dX3_comesBefore_41 : decode cX3_comesBefore 41 = .ok (.ireturn, 1) := by decide +kernel
theorem dX3_comesBefore_42 : decode cX3_comesBefore 42 = .ok (.iload_n 3, 1) := by decide +kernel
theorem dX3_comesBefore_43 : decode cX3_comesBefore 43 = .ok (.aload_n 0, 1) := by decide +kernel
theorem dX3_comesBefore_44 : decode cX3_comesBefore 44 = .ok (.getfield 22, 3) := by decide +kernel
theorem dX3_comesBefore_47 : decode cX3_comesBefore 47 = .ok (.iload 4, 2) := by decide +kernel
theorem dX3_comesBefore_49 : decode cX3_comesBefore 49 = .ok (.iaload, 1) := by decide +kernel
theorem dX3_comesBefore_50 : decode cX3_comesBefore 50 = .ok (.if_icmp .eq 20, 3) := by decide +kernel
theorem dX3_comesBefore_53 : decode cX3_comesBefore 53 = .ok (.iload_n 3, 1) := by decide +kernel
theorem dX3_comesBefore_54 : decode cX3_comesBefore 54 = .ok (.aload_n 0, 1) := by decide +kernel
theorem dX3_comesBefore_55 : decode cX3_comesBefore 55 = .ok (.getfield 22, 3) := by decide +kernel
theorem dX3_comesBefore_58 : decode cX3_comesBefore 58 = .ok (.iload 4, 2) := by decide +kernel
theorem dX3_comesBefore_60 : decode cX3_comesBefore 60 = .ok (.iaload, 1) := by decide +kernel
theorem dX3_comesBefore_61 : decode cX3_comesBefore 61 = .ok (.if_icmp .le 7, 3) := by decide +kernel
theorem dX3_comesBefore_64 : decode cX3_comesBefore 64 = .ok (.iconst 1, 1) := by decide +kernel
theorem dX3_comesBefore_65 : decode cX3_comesBefore 65 = .ok (.goto 4, 3) := by decide +kernel
theorem dX3_comesBefore_68 : decode cX3_comesBefore 68 = .ok (.iconst 0, 1) := by decide +kernel
theorem dX3_comesBefore_69 : decode cX3_comesBefore 69 = .ok (.ireturn, 1) := by decide +kernel
theorem dX3_comesBefore_70 : decode cX3_comesBefore 70 = .ok (.iload_n 1, 1) := by decide +kernel
theorem dX3_comesBefore_71 : decode cX3_comesBefore 71 = .ok (.aload_n 0, 1) := by decide +kernel
theorem dX3_comesBefore_72 : decode cX3_comesBefore 72 = .ok (.getfield 15, 3) := by decide +kernel
theorem dX3_comesBefore_75 : decode cX3_comesBefore 75 = .ok (.iload 4, 2) := by decide +kernel
theorem dX3_comesBefore_77 : decode cX3_comesBefore 77 = .ok (.iaload, 1) := by decide +kernel
theorem dX3_comesBefore_78 : decode cX3_comesBefore 78 = .ok (.if_icmp .ge 7, 3) := by decide +kernel
theorem dX3_comesBefore_81 : decode cX3_comesBefore 81 = .ok (.iconst 1, 1) := by decide +kernel
theorem dX3_comesBefore_82 : decode cX3_comesBefore 82 = .ok (.goto 4, 3) := by decide +kernel
theorem dX3_comesBefore_85 : decode cX3_comesBefore 85 = .ok (.iconst 0, 1) := by decide +kernel
theorem dX3_comesBefore_86 : decode cX3_comesBefore 86 = .ok (.ireturn, 1) := by decide +kernel
theorem dX3_bestOf_0 : decode cX3_bestOf 0 = .ok (.iconst (-1), 1) := by decide +kernel
theorem dX3_bestOf_1 : decode cX3_bestOf 1 = .ok (.istore_n 3, 1) := by decide +kernel
theorem dX3_bestOf_2 : decode cX3_bestOf 2 = .ok (.iconst 0, 1) := by decide +kernel
theorem dX3_bestOf_3 : decode cX3_bestOf 3 = .ok (.istore 4, 2) := by decide +kernel
theorem dX3_bestOf_5 : decode cX3_bestOf 5 = .ok (.iload 4, 2) := by decide +kernel
theorem dX3_bestOf_7 : decode cX3_bestOf 7 = .ok (.aload_n 0, 1) := by decide +kernel
theorem dX3_bestOf_8 : decode cX3_bestOf 8 = .ok (.getfield 9, 3) := by decide +kernel
theorem dX3_bestOf_11 : decode cX3_bestOf 11 = .ok (.if_icmp .ge 49, 3) := by decide +kernel
theorem dX3_bestOf_14 : decode cX3_bestOf 14 = .ok (.aload_n 0, 1) := by decide +kernel
theorem dX3_bestOf_15 : decode cX3_bestOf 15 = .ok (.iload 4, 2) := by decide +kernel
theorem dX3_bestOf_17 : decode cX3_bestOf 17 = .ok (.iconst 1, 1) := by decide +kernel
theorem dX3_bestOf_18 : decode cX3_bestOf 18 = .ok (.invokevirtual 63, 3) := by decide +kernel
theorem dX3_bestOf_21 : decode cX3_bestOf 21 = .ok (.ifCond .eq 33, 3) := by decide +kernel
theorem dX3_bestOf_24 : decode cX3_bestOf 24 = .ok (.aload_n 0, 1) := by decide +kernel
theorem dX3_bestOf_25 : decode cX3_bestOf 25 = .ok (.iload 4, 2) := by decide +kernel
theorem dX3_bestOf_27 : decode cX3_bestOf 27 = .ok (.iconst 2, 1) := by decide +kernel
theorem dX3_bestOf_28 : decode cX3_bestOf 28 = .ok (.invokevirtual 63, 3) := by decide +kernel
theorem dX3_bestOf_31 : decode cX3_bestOf 31 = .ok (.ifCond .ne 23, 3) := by decide +kernel
theorem dX3_bestOf_34 : decode cX3_bestOf 34 = .ok (.iload_n 3, 1) := by decide +kernel
theorem dX3_bestOf_35 : decode cX3_bestOf 35 = .ok (.iconst (-1), 1) := by decide +kernel
theorem dX3_bestOf_36 : decode cX3_bestOf 36 = .ok (.if_icmp .eq 15, 3) := by decide +kernel
theorem dX3_bestOf_39 : decode cX3_bestOf 39 = .ok (.aload_n 0, 1) := by decide +kernel
theorem dX3_bestOf_40 : decode cX3_bestOf 40 = .ok (.iload 4, 2) := by decide +kernel
theorem dX3_bestOf_42 : decode cX3_bestOf 42 = .ok (.iload_n 3, 1) := by decide +kernel
theorem dX3_bestOf_43 : decode cX3_bestOf 43 = .ok (.iload_n 1, 1) := by decide +kernel
theorem dX3_bestOf_44 : decode cX3_bestOf 44 = .ok (.iload_n 2, 1) := by decide +kernel
theorem dX3_bestOf_45 : decode cX3_bestOf 45 = .ok (.invokevirtual 67, 3) := by decide +kernel
theorem dX3_bestOf_48 : decode cX3_bestOf 48 = .ok (.ifCond .eq 6, 3) := by decide +kernel
theorem dX3_bestOf_51 : decode cX3_bestOf 51 = .ok (.iload 4, 2) := by decide +kernel
theorem dX3_bestOf_53 : decode cX3_bestOf 53 = .ok (.istore_n 3, 1) := by decide +kernel
theorem dX3_bestOf_54 : decode cX3_bestOf 54 = .ok (.iinc 4 1, 3) := by decide +kernel
theorem dX3_bestOf_57 : decode cX3_bestOf 57 = .ok (.goto (-52), 3) := by decide +kernel
theorem dX3_bestOf_60 : decode cX3_bestOf 60 = .ok (.iload_n 3, 1) := by decide +kernel
theorem dX3_bestOf_61 : decode cX3_bestOf 61 = .ok (.ireturn, 1) := by decide +kernel
theorem dX3_isBetter_0 : decode cX3_isBetter 0 = .ok (.iload_n 3, 1) := by decide +kernel
theorem dX3_isBetter_1 : decode cX3_isBetter 1 = .ok (.iconst 1, 1) := by decide +kernel
theorem dX3_isBetter_2 : decode cX3_isBetter 2 = .ok (.if_icmp .ne 22, 3) := by decide +kernel
theorem dX3_isBetter_5 : decode cX3_isBetter 5 = .ok (.aload_n 0, 1) := by decide +kernel
theorem dX3_isBetter_6 : decode cX3_isBetter 6 = .ok (.iload_n 1, 1) := by decide +kernel
theorem dX3_isBetter_7 : decode cX3_isBetter 7 = .ok (.invokevirtual 70, 3) := by decide +kernel
theorem dX3_isBetter_10 : decode cX3_isBetter 10 = .ok (.aload_n 0, 1) := by decide +kernel
theorem dX3_isBetter_11 : decode cX3_isBetter 11 = .ok (.iload_n 2, 1) := by decide +kernel
theorem dX3_isBetter_12 : decode cX3_isBetter 12 = .ok (.invokevirtual 70, 3) := by decide +kernel
theorem dX3_isBetter_15 : decode cX3_isBetter 15 = .ok (.if_icmp .le 7, 3) := by decide +kernel
theorem dX3_isBetter_18 : decode cX3_isBetter 18 = .ok (.iconst 1, 1) := by decide +kernel
theorem dX3_isBetter_19 : decode cX3_isBetter 19 = .ok (.goto 4, 3) := by decide +kernel
theorem dX3_isBetter_22 : decode cX3_isBetter 22 = .ok (.iconst 0, 1) := by decide +kernel
theorem dX3_isBetter_23 : decode cX3_isBetter 23 = .ok (.ireturn, 1) := by decide +kernel
theorem dX3_isBetter_24 : decode cX3_isBetter 24 = .ok (.iload_n 3, 1) := by decide +kernel
theorem dX3_isBetter_25 : decode cX3_isBetter 25 = .ok (.iconst 2, 1) := by decide +kernel
theorem dX3_isBetter_26 : decode cX3_isBetter 26 = .ok (.if_icmp .ne 40, 3) := by decide +kernel
theorem dX3_isBetter_29 : decode cX3_isBetter 29 = .ok (.iload 4, 2) := by decide +kernel
theorem dX3_isBetter_31 : decode cX3_isBetter 31 = .ok (.iconst (-1), 1) := by decide +kernel
theorem dX3_isBetter_32 : decode cX3_isBetter 32 = .ok (.if_icmp .eq 34, 3) := by decide +kernel
theorem dX3_isBetter_35 : decode cX3_isBetter 35 = .ok (.aload_n 0, 1) := by decide +kernel
theorem dX3_isBetter_36 : decode cX3_isBetter 36 = .ok (.iload_n 1, 1) := by decide +kernel
theorem dX3_isBetter_37 : decode cX3_isBetter 37 = .ok (.invokevirtual 73, 3) := by decide +kernel
theorem dX3_isBetter_40 : decode cX3_isBetter 40 = .ok (.iload 4, 2) := by decide +kernel
theorem dX3_isBetter_42 : decode cX3_isBetter 42 = .ok (.isub, 1) := by decide +kernel
theorem dX3_isBetter_43 : decode cX3_isBetter 43 = .ok (.invokestatic 76, 3) := by decide +kernel
theorem dX3_isBetter_46 : decode cX3_isBetter 46 = .ok (.aload_n 0, 1) := by decide +kernel
theorem dX3_isBetter_47 : decode cX3_isBetter 47 = .ok (.iload_n 2, 1) := by decide +kernel
theorem dX3_isBetter_48 : decode cX3_isBetter 48 = .ok (.invokevirtual 73, 3) := by decide +kernel
theorem dX3_isBetter_51 : decode cX3_isBetter 51 = .ok (.iload 4, 2) := by decide +kernel
theorem dX3_isBetter_53 : decode cX3_isBetter 53 = .ok (.isub, 1) := by decide +kernel
theorem dX3_isBetter_54 : decode cX3_isBetter 54 = .ok (.invokestatic 76, 3) := by decide +kernel
theorem dX3_isBetter_57 : decode cX3_isBetter 57 = .ok (.if_icmp .ge 7, 3) := by decide +kernel
theorem dX3_isBetter_60 : decode cX3_isBetter 60 = .ok (.iconst 1, 1) := by decide +kernel
theorem dX3_isBetter_61 : decode cX3_isBetter 61 = .ok (.goto 4, 3) := by decide +kernel
theorem dX3_isBetter_64 : decode cX3_isBetter 64 = .ok (.iconst 0, 1) := by decide +kernel
theorem dX3_isBetter_65 : decode cX3_isBetter 65 = .ok (.ireturn, 1) := by decide +kernel
theorem dX3_isBetter_66 : decode cX3_isBetter 66 = .ok (.iconst 0, 1) := by decide +kernel
theorem dX3_isBetter_67 : decode cX3_isBetter 67 = .ok (.ireturn, 1) := by decide +kernel
theorem dX3_value_0 : decode cX3_value 0 = .ok (.aload_n 0, 1) := by decide +kernel
theorem dX3_value_1 : decode cX3_value 1 = .ok (.iload_n 1, 1) := by decide +kernel
theorem dX3_value_2 : decode cX3_value 2 = .ok (.invokevirtual 32, 3) := by decide +kernel
theorem dX3_value_5 : decode cX3_value 5 = .ok (.ifCond .ne 5, 3) := by decide +kernel
theorem dX3_value_8 : decode cX3_value 8 = .ok (.iconst (-1), 1) := by decide +kernel
theorem dX3_value_9 : decode cX3_value 9 = .ok (.ireturn, 1) := by decide +kernel
theorem dX3_value_10 : decode cX3_value 10 = .ok (.iload_n 2, 1) := by decide +kernel
theorem dX3_value_11 : decode cX3_value 11 = .ok (.tableswitch 100 0 5 #[37, 43, 49, 55, 70, 85], 37) := by decide +kernel
theorem dX3_value_48 : decode cX3_value 48 = .ok (.aload_n 0, 1) := by decide +kernel
theorem dX3_value_49 : decode cX3_value 49 = .ok (.iload_n 1, 1) := by decide +kernel
theorem dX3_value_50 : decode cX3_value 50 = .ok (.invokevirtual 79, 3) := by decide +kernel
theorem dX3_value_53 : decode cX3_value 53 = .ok (.ireturn, 1) := by decide +kernel
theorem dX3_value_54 : decode cX3_value 54 = .ok (.aload_n 0, 1) := by decide +kernel
theorem dX3_value_55 : decode cX3_value 55 = .ok (.iload_n 1, 1) := by decide +kernel
theorem dX3_value_56 : decode cX3_value 56 = .ok (.invokevirtual 73, 3) := by decide +kernel
theorem dX3_value_59 : decode cX3_value 59 = .ok (.ireturn, 1) := by decide +kernel
theorem dX3_value_60 : decode cX3_value 60 = .ok (.aload_n 0, 1) := by decide +kernel
theorem dX3_value_61 : decode cX3_value 61 = .ok (.iload_n 1, 1) := by decide +kernel
theorem dX3_value_62 : decode cX3_value 62 = .ok (.invokevirtual 70, 3) := by decide +kernel
theorem dX3_value_65 : decode cX3_value 65 = .ok (.ireturn, 1) := by decide +kernel
theorem dX3_value_66 : decode cX3_value 66 = .ok (.aload_n 0, 1) := by decide +kernel
theorem dX3_value_67 : decode cX3_value 67 = .ok (.iload_n 1, 1) := by decide +kernel
theorem dX3_value_68 : decode cX3_value 68 = .ok (.iconst 1, 1) := by decide +kernel
theorem dX3_value_69 : decode cX3_value 69 = .ok (.invokevirtual 63, 3) := by decide +kernel
theorem dX3_value_72 : decode cX3_value 72 = .ok (.ifCond .eq 7, 3) := by decide +kernel
theorem dX3_value_75 : decode cX3_value 75 = .ok (.iconst 1, 1) := by decide +kernel
theorem dX3_value_76 : decode cX3_value 76 = .ok (.goto 4, 3) := by decide +kernel
theorem dX3_value_79 : decode cX3_value 79 = .ok (.iconst 0, 1) := by decide +kernel
theorem dX3_value_80 : decode cX3_value 80 = .ok (.ireturn, 1) := by decide +kernel
theorem dX3_value_81 : decode cX3_value 81 = .ok (.aload_n 0, 1) := by decide +kernel
theorem dX3_value_82 : decode cX3_value 82 = .ok (.iload_n 1, 1) := by decide +kernel
theorem dX3_value_83 : decode cX3_value 83 = .ok (.iconst 2, 1) := by decide +kernel
theorem dX3_value_84 : decode cX3_value 84 = .ok (.invokevirtual 63, 3) := by decide +kernel
theorem dX3_value_87 : decode cX3_value 87 = .ok (.ifCond .eq 7, 3) := by decide +kernel
theorem dX3_value_90 : decode cX3_value 90 = .ok (.iconst 1, 1) := by decide +kernel
theorem dX3_value_91 : decode cX3_value 91 = .ok (.goto 4, 3) := by decide +kernel
theorem dX3_value_94 : decode cX3_value 94 = .ok (.iconst 0, 1) := by decide +kernel
theorem dX3_value_95 : decode cX3_value 95 = .ok (.ireturn, 1) := by decide +kernel
theorem dX3_value_96 : decode cX3_value 96 = .ok (.aload_n 0, 1) := by decide +kernel
theorem dX3_value_97 : decode cX3_value 97 = .ok (.iload_n 1, 1) := by decide +kernel
theorem dX3_value_98 : decode cX3_value 98 = .ok (.iconst 4, 1) := by decide +kernel
theorem dX3_value_99 : decode cX3_value 99 = .ok (.invokevirtual 63, 3) := by decide +kernel
theorem dX3_value_102 : decode cX3_value 102 = .ok (.ifCond .eq 7, 3) := by decide +kernel
theorem dX3_value_105 : decode cX3_value 105 = .ok (.iconst 1, 1) := by decide +kernel
theorem dX3_value_106 : decode cX3_value 106 = .ok (.goto 4, 3) := by decide +kernel
theorem dX3_value_109 : decode cX3_value 109 = .ok (.iconst 0, 1) := by decide +kernel
theorem dX3_value_110 : decode cX3_value 110 = .ok (.ireturn, 1) := by decide +kernel
theorem dX3_value_111 : decode cX3_value 111 = .ok (.iconst (-1), 1) := by decide +kernel
theorem dX3_value_112 : decode cX3_value 112 = .ok (.ireturn, 1) := by decide +kernel
theorem dX3_addToDigest_0 : decode cX3_addToDigest 0 = .ok (.lload_n 1, 1) := by decide +kernel
theorem dX3_addToDigest_1 : decode cX3_addToDigest 1 = .ok (.lstore_n 3, 1) := by decide +kernel
theorem dX3_addToDigest_2 : decode cX3_addToDigest 2 = .ok (.iconst 0, 1) := by decide +kernel
theorem dX3_addToDigest_3 : decode cX3_addToDigest 3 = .ok (.istore 5, 2) := by decide +kernel
theorem dX3_addToDigest_5 : decode cX3_addToDigest 5 = .ok (.iload 5, 2) := by decide +kernel
theorem dX3_addToDigest_7 : decode cX3_addToDigest 7 = .ok (.aload_n 0, 1) := by decide +kernel
theorem dX3_addToDigest_8 : decode cX3_addToDigest 8 = .ok (.getfield 9, 3) := by decide +kernel
theorem dX3_addToDigest_11 : decode cX3_addToDigest 11 = .ok (.if_icmp .ge 41, 3) := by decide +kernel
theorem dX3_addToDigest_14 : decode cX3_addToDigest 14 = .ok (.iconst 0, 1) := by decide +kernel
theorem dX3_addToDigest_15 : decode cX3_addToDigest 15 = .ok (.istore 6, 2) := by decide +kernel
theorem dX3_addToDigest_17 : decode cX3_addToDigest 17 = .ok (.iload 6, 2) := by decide +kernel
theorem dX3_addToDigest_19 : decode cX3_addToDigest 19 = .ok (.bipush 6, 2) := by decide +kernel
theorem dX3_addToDigest_21 : decode cX3_addToDigest 21 = .ok (.if_icmp .ge 25, 3) := by decide +kernel
theorem dX3_addToDigest_24 : decode cX3_addToDigest 24 = .ok (.ldc2_w 82, 3) := by decide +kernel
theorem dX3_addToDigest_27 : decode cX3_addToDigest 27 = .ok (.lload_n 3, 1) := by decide +kernel
theorem dX3_addToDigest_28 : decode cX3_addToDigest 28 = .ok (.lmul, 1) := by decide +kernel
theorem dX3_addToDigest_29 : decode cX3_addToDigest 29 = .ok (.aload_n 0, 1) := by decide +kernel
theorem dX3_addToDigest_30 : decode cX3_addToDigest 30 = .ok (.iload 5, 2) := by decide +kernel
theorem dX3_addToDigest_32 : decode cX3_addToDigest 32 = .ok (.iload 6, 2) := by decide +kernel
theorem dX3_addToDigest_34 : decode cX3_addToDigest 34 = .ok (.invokevirtual 84, 3) := by decide +kernel
theorem dX3_addToDigest_37 : decode cX3_addToDigest 37 = .ok (.i2l, 1) := by decide +kernel
theorem dX3_addToDigest_38 : decode cX3_addToDigest 38 = .ok (.ladd, 1) := by decide +kernel
theorem dX3_addToDigest_39 : decode cX3_addToDigest 39 = .ok (.lstore_n 3, 1) := by decide +kernel
theorem dX3_addToDigest_40 : decode cX3_addToDigest 40 = .ok (.iinc 6 1, 3) := by decide +kernel
theorem dX3_addToDigest_43 : decode cX3_addToDigest 43 = .ok (.goto (-26), 3) := by decide +kernel
theorem dX3_addToDigest_46 : decode cX3_addToDigest 46 = .ok (.iinc 5 1, 3) := by decide +kernel
theorem dX3_addToDigest_49 : decode cX3_addToDigest 49 = .ok (.goto (-44), 3) := by decide +kernel
theorem dX3_addToDigest_52 : decode cX3_addToDigest 52 = .ok (.lload_n 3, 1) := by decide +kernel
theorem dX3_addToDigest_53 : decode cX3_addToDigest 53 = .ok (.lreturn, 1) := by decide +kernel
theorem dX4_init_0 : decode cX4_init 0 = .ok (.aload_n 0, 1) := by decide +kernel
theorem dX4_init_1 : decode cX4_init 1 = .ok (.invokespecial 3, 3) := by decide +kernel
theorem dX4_init_4 : decode cX4_init 4 = .ok (.aload_n 0, 1) := by decide +kernel
theorem dX4_init_5 : decode cX4_init 5 = .ok (.bipush 9, 2) := by decide +kernel
theorem dX4_init_7 : decode cX4_init 7 = .ok (.newarray .int, 2) := by decide +kernel
theorem dX4_init_9 : decode cX4_init 9 = .ok (.putfield 9, 3) := by decide +kernel
theorem dX4_init_12 : decode cX4_init 12 = .ok (.aload_n 0, 1) := by decide +kernel
theorem dX4_init_13 : decode cX4_init 13 = .ok (.invokevirtual 15, 3) := by decide +kernel
theorem dX4_init_16 : decode cX4_init 16 = .ok (.return_, 1) := by decide +kernel
theorem dX4_reset_0 : decode cX4_reset 0 = .ok (.aload_n 0, 1) := by decide +kernel
theorem dX4_reset_1 : decode cX4_reset 1 = .ok (.iconst 0, 1) := by decide +kernel
theorem dX4_reset_2 : decode cX4_reset 2 = .ok (.putfield 18, 3) := by decide +kernel
theorem dX4_reset_5 : decode cX4_reset 5 = .ok (.aload_n 0, 1) := by decide +kernel
theorem dX4_reset_6 : decode cX4_reset 6 = .ok (.iconst (-1), 1) := by decide +kernel
theorem dX4_reset_7 : decode cX4_reset 7 = .ok (.putfield 22, 3) := by decide +kernel
theorem dX4_reset_10 : decode cX4_reset 10 = .ok (.aload_n 0, 1) := by decide +kernel
theorem dX4_reset_11 : decode cX4_reset 11 = .ok (.iconst 0, 1) := by decide +kernel
theorem dX4_reset_12 : decode cX4_reset 12 = .ok (.putfield 25, 3) := by decide +kernel
theorem dX4_reset_15 : decode cX4_reset 15 = .ok (.aload_n 0, 1) := by decide +kernel
theorem dX4_reset_16 : decode cX4_reset 16 = .ok (.iconst 0, 1) := by decide +kernel
theorem dX4_reset_17 : decode cX4_reset 17 = .ok (.putfield 28, 3) := by decide +kernel
theorem dX4_reset_20 : decode cX4_reset 20 = .ok (.aload_n 0, 1) := by decide +kernel
theorem dX4_reset_21 : decode cX4_reset 21 = .ok (.iconst 0, 1) := by decide +kernel
theorem dX4_reset_22 : decode cX4_reset 22 = .ok (.putfield 31, 3) := by decide +kernel
theorem dX4_reset_25 : decode cX4_reset 25 = .ok (.aload_n 0, 1) := by decide +kernel
theorem dX4_reset_26 : decode cX4_reset 26 = .ok (.iconst 0, 1) := by decide +kernel
theorem dX4_reset_27 : decode cX4_reset 27 = .ok (.putfield 34, 3) := by decide +kernel
theorem dX4_reset_30 : decode cX4_reset 30 = .ok (.aload_n 0, 1) := by decide +kernel
theorem dX4_reset_31 : decode cX4_reset 31 = .ok (.iconst 0, 1) := by decide +kernel
theorem dX4_reset_32 : decode cX4_reset 32 = .ok (.putfield 37, 3) := by decide +kernel
theorem dX4_reset_35 : decode cX4_reset 35 = .ok (.aload_n 0, 1) := by decide +kernel
theorem dX4_reset_36 : decode cX4_reset 36 = .ok (.iconst 0, 1) := by decide +kernel
theorem dX4_reset_37 : decode cX4_reset 37 = .ok (.putfield 40, 3) := by decide +kernel
theorem dX4_reset_40 : decode cX4_reset 40 = .ok (.return_, 1) := by decide +kernel
theorem dX4_copyFrom_0 : decode cX4_copyFrom 0 = .ok (.aload_n 1, 1) := by decide +kernel
theorem dX4_copyFrom_1 : decode cX4_copyFrom 1 = .ok (.getfield 9, 3) := by decide +kernel
theorem dX4_copyFrom_4 : decode cX4_copyFrom 4 = .ok (.aload_n 0, 1) := by decide +kernel
theorem dX4_copyFrom_5 : decode cX4_copyFrom 5 = .ok (.getfield 9, 3) := by decide +kernel
theorem dX4_copyFrom_8 : decode cX4_copyFrom 8 = .ok (.invokestatic 43, 3) := by decide +kernel
theorem dX4_copyFrom_11 : decode cX4_copyFrom 11 = .ok (.aload_n 0, 1) := by decide +kernel
theorem dX4_copyFrom_12 : decode cX4_copyFrom 12 = .ok (.aload_n 1, 1) := by decide +kernel
theorem dX4_copyFrom_13 : decode cX4_copyFrom 13 = .ok (.getfield 18, 3) := by decide +kernel
theorem dX4_copyFrom_16 : decode cX4_copyFrom 16 = .ok (.putfield 18, 3) := by decide +kernel
theorem dX4_copyFrom_19 : decode cX4_copyFrom 19 = .ok (.aload_n 0, 1) := by decide +kernel
theorem dX4_copyFrom_20 : decode cX4_copyFrom 20 = .ok (.aload_n 1, 1) := by decide +kernel
theorem dX4_copyFrom_21 : decode cX4_copyFrom 21 = .ok (.getfield 22, 3) := by decide +kernel
theorem dX4_copyFrom_24 : decode cX4_copyFrom 24 = .ok (.putfield 22, 3) := by decide +kernel
theorem dX4_copyFrom_27 : decode cX4_copyFrom 27 = .ok (.aload_n 0, 1) := by decide +kernel
theorem dX4_copyFrom_28 : decode cX4_copyFrom 28 = .ok (.aload_n 1, 1) := by decide +kernel
theorem dX4_copyFrom_29 : decode cX4_copyFrom 29 = .ok (.getfield 25, 3) := by decide +kernel
theorem dX4_copyFrom_32 : decode cX4_copyFrom 32 = .ok (.putfield 25, 3) := by decide +kernel
theorem dX4_copyFrom_35 : decode cX4_copyFrom 35 = .ok (.aload_n 0, 1) := by decide +kernel
theorem dX4_copyFrom_36 : decode cX4_copyFrom 36 = .ok (.aload_n 1, 1) := by decide +kernel
theorem dX4_copyFrom_37 : decode cX4_copyFrom 37 = .ok (.getfield 28, 3) := by decide +kernel
theorem dX4_copyFrom_40 : decode cX4_copyFrom 40 = .ok (.putfield 28, 3) := by decide +kernel
theorem dX4_copyFrom_43 : decode cX4_copyFrom 43 = .ok (.aload_n 0, 1) := by decide +kernel
theorem dX4_copyFrom_44 : decode cX4_copyFrom 44 = .ok (.aload_n 1, 1) := by decide +kernel
theorem dX4_copyFrom_45 : decode cX4_copyFrom 45 = .ok (.getfield 31, 3) := by decide +kernel
theorem dX4_copyFrom_48 : decode cX4_copyFrom 48 = .ok (.putfield 31, 3) := by decide +kernel
theorem dX4_copyFrom_51 : decode cX4_copyFrom 51 = .ok (.aload_n 0, 1) := by decide +kernel
theorem dX4_copyFrom_52 : decode cX4_copyFrom 52 = .ok (.aload_n 1, 1) := by decide +kernel
theorem dX4_copyFrom_53 : decode cX4_copyFrom 53 = .ok (.getfield 34, 3) := by decide +kernel
theorem dX4_copyFrom_56 : decode cX4_copyFrom 56 = .ok (.putfield 34, 3) := by decide +kernel
theorem dX4_copyFrom_59 : decode cX4_copyFrom 59 = .ok (.aload_n 0, 1) := by decide +kernel
theorem dX4_copyFrom_60 : decode cX4_copyFrom 60 = .ok (.aload_n 1, 1) := by decide +kernel
theorem dX4_copyFrom_61 : decode cX4_copyFrom 61 = .ok (.getfield 37, 3) := by decide +kernel
theorem dX4_copyFrom_64 : decode cX4_copyFrom 64 = .ok (.putfield 37, 3) := by decide +kernel
theorem dX4_copyFrom_67 : decode cX4_copyFrom 67 = .ok (.aload_n 0, 1) := by decide +kernel
theorem dX4_copyFrom_68 : decode cX4_copyFrom 68 = .ok (.aload_n 1, 1) := by decide +kernel
theorem dX4_copyFrom_69 : decode cX4_copyFrom 69 = .ok (.getfield 40, 3) := by decide +kernel
theorem dX4_copyFrom_72 : decode cX4_copyFrom 72 = .ok (.putfield 40, 3) := by decide +kernel
theorem dX4_copyFrom_75 : decode cX4_copyFrom 75 = .ok (.return_, 1) := by decide +kernel
theorem dX4_shorten_0 : decode cX4_shorten 0 = .ok (.aload_n 0, 1) := by decide +kernel
theorem dX4_shorten_1 : decode cX4_shorten 1 = .ok (.aload_n 0, 1) := by decide +kernel
theorem dX4_shorten_2 : decode cX4_shorten 2 = .ok (.getfield 18, 3) := by decide +kernel
theorem dX4_shorten_5 : decode cX4_shorten 5 = .ok (.iload_n 1, 1) := by decide +kernel
theorem dX4_shorten_6 : decode cX4_shorten 6 = .ok (.invokestatic 47, 3) := by decide +kernel
theorem dX4_shorten_9 : decode cX4_shorten 9 = .ok (.putfield 18, 3) := by decide +kernel
theorem dX4_shorten_12 : decode cX4_shorten 12 = .ok (.return_, 1) := by decide +kernel
theorem dX4_pickAt_0 : decode cX4_pickAt 0 = .ok (.iload_n 1, 1) := by decide +kernel
theorem dX4_pickAt_1 : decode cX4_pickAt 1 = .ok (.ifCond .lt 29, 3) := by decide +kernel
theorem dX4_pickAt_4 : decode cX4_pickAt 4 = .ok (.iload_n 1, 1) := by decide +kernel
theorem dX4_pickAt_5 : decode cX4_pickAt 5 = .ok (.aload_n 0, 1) := by decide +kernel
theorem dX4_pickAt_6 : decode cX4_pickAt 6 = .ok (.getfield 18, 3) := by decide +kernel
theorem dX4_pickAt_9 : decode cX4_pickAt 9 = .ok (.if_icmp .ge 21, 3) := by decide +kernel
theorem dX4_pickAt_12 : decode cX4_pickAt 12 = .ok (.iload_n 1, 1) := by decide +kernel
theorem dX4_pickAt_13 : decode cX4_pickAt 13 = .ok (.aload_n 0, 1) := by decide +kernel
theorem dX4_pickAt_14 : decode cX4_pickAt 14 = .ok (.getfield 9, 3) := by decide +kernel
theorem dX4_pickAt_17 : decode cX4_pickAt 17 = .ok (.arraylength, 1) := by decide +kernel
theorem dX4_pickAt_18 : decode cX4_pickAt 18 = .ok (.if_icmp .ge 12, 3) := by decide +kernel
theorem dX4_pickAt_21 : decode cX4_pickAt 21 = .ok (.aload_n 0, 1) := by decide +kernel
theorem dX4_pickAt_22 : decode cX4_pickAt 22 = .ok (.getfield 9, 3) := by decide +kernel
theorem dX4_pickAt_25 : decode cX4_pickAt 25 = .ok (.iload_n 1, 1) := by decide +kernel
theorem dX4_pickAt_26 : decode cX4_pickAt 26 = .ok (.iaload, 1) := by decide +kernel
theorem dX4_pickAt_27 : decode cX4_pickAt 27 = .ok (.goto 4, 3) := by decide +kernel
theorem dX4_pickAt_30 : decode cX4_pickAt 30 = .ok (.iconst (-1), 1) := by decide +kernel
theorem dX4_pickAt_31 : decode cX4_pickAt 31 = .ok (.ireturn, 1) := by decide +kernel
theorem dX4_pickCount_0 : decode cX4_pickCount 0 = .ok (.iconst 0, 1) := by decide +kernel
theorem dX4_pickCount_1 : decode cX4_pickCount 1 = .ok (.istore_n 1, 1) := by decide +kernel
theorem dX4_pickCount_2 : decode cX4_pickCount 2 = .ok (.iconst 0, 1) := by decide +kernel
theorem dX4_pickCount_3 : decode cX4_pickCount 3 = .ok (.istore_n 2, 1) := by decide +kernel
theorem dX4_pickCount_4 : decode cX4_pickCount 4 = .ok (.iload_n 2, 1) := by decide +kernel
theorem dX4_pickCount_5 : decode cX4_pickCount 5 = .ok (.aload_n 0, 1) := by decide +kernel
theorem dX4_pickCount_6 : decode cX4_pickCount 6 = .ok (.getfield 18, 3) := by decide +kernel
theorem dX4_pickCount_9 : decode cX4_pickCount 9 = .ok (.if_icmp .ge 21, 3) := by decide +kernel
theorem dX4_pickCount_12 : decode cX4_pickCount 12 = .ok (.aload_n 0, 1) := by decide +kernel
theorem dX4_pickCount_13 : decode cX4_pickCount 13 = .ok (.iload_n 2, 1) := by decide +kernel
theorem dX4_pickCount_14 : decode cX4_pickCount 14 = .ok (.invokevirtual 53, 3) := by decide +kernel
theorem dX4_pickCount_17 : decode cX4_pickCount 17 = .ok (.iconst (-1), 1) := by decide +kernel
theorem dX4_pickCount_18 : decode cX4_pickCount 18 = .ok (.if_icmp .eq 6, 3) := by decide +kernel
theorem dX4_pickCount_21 : decode cX4_pickCount 21 = .ok (.iinc 1 1, 3) := by decide +kernel
theorem dX4_pickCount_24 : decode cX4_pickCount 24 = .ok (.iinc 2 1, 3) := by decide +kernel
theorem dX4_pickCount_27 : decode cX4_pickCount 27 = .ok (.goto (-23), 3) := by decide +kernel
theorem dX4_pickCount_30 : decode cX4_pickCount 30 = .ok (.iload_n 1, 1) := by decide +kernel
theorem dX4_pickCount_31 : decode cX4_pickCount 31 = .ok (.ireturn, 1) := by decide +kernel
theorem dX4_median_0 : decode cX4_median 0 = .ok (.aload_n 0, 1) := by decide +kernel
theorem dX4_median_1 : decode cX4_median 1 = .ok (.invokevirtual 57, 3) := by decide +kernel
theorem dX4_median_4 : decode cX4_median 4 = .ok (.istore_n 2, 1) := by decide +kernel
theorem dX4_median_5 : decode cX4_median 5 = .ok (.iconst 2, 1) := by decide +kernel
theorem dX4_median_6 : decode cX4_median 6 = .ok (.iload_n 2, 1) := by decide +kernel
theorem dX4_median_7 : decode cX4_median 7 = .ok (.imul, 1) := by decide +kernel
theorem dX4_median_8 : decode cX4_median 8 = .ok (.iload_n 1, 1) := by decide +kernel
theorem dX4_median_9 : decode cX4_median 9 = .ok (.if_icmp .lt 15, 3) := by decide +kernel
theorem dX4_median_12 : decode cX4_median 12 = .ok (.aload_n 0, 1) := by decide +kernel
theorem dX4_median_13 : decode cX4_median 13 = .ok (.iload_n 2, 1) := by decide +kernel
theorem dX4_median_14 : decode cX4_median 14 = .ok (.iconst 1, 1) := by decide +kernel
theorem dX4_median_15 : decode cX4_median 15 = .ok (.isub, 1) := by decide +kernel
theorem dX4_median_16 : decode cX4_median 16 = .ok (.iconst 2, 1) := by decide +kernel
theorem dX4_median_17 : decode cX4_median 17 = .ok (.idiv, 1) := by decide +kernel
theorem dX4_median_18 : decode cX4_median 18 = .ok (.invokevirtual 61, 3) := by decide +kernel
theorem dX4_median_21 : decode cX4_median 21 = .ok (.goto 4, 3) := by decide +kernel
theorem dX4_median_24 : decode cX4_median 24 = .ok (.iconst (-1), 1) := by decide +kernel
theorem dX4_median_25 : decode cX4_median 25 = .ok (.ireturn, 1) := by decide +kernel
theorem dX4_pickOfRank_0 : decode cX4_pickOfRank 0 = .ok (.iconst 0, 1) := by decide +kernel
theorem dX4_pickOfRank_1 : decode cX4_pickOfRank 1 = .ok (.istore_n 2, 1) := by decide +kernel
theorem dX4_pickOfRank_2 : decode cX4_pickOfRank 2 = .ok (.iload_n 2, 1) := by decide +kernel
theorem dX4_pickOfRank_3 : decode cX4_pickOfRank 3 = .ok (.aload_n 0, 1) := by decide +kernel
theorem dX4_pickOfRank_4 : decode cX4_pickOfRank 4 = .ok (.getfield 18, 3) := by decide +kernel
theorem dX4_pickOfRank_7 : decode cX4_pickOfRank 7 = .ok (.if_icmp .ge 42, 3) := by decide +kernel
theorem dX4_pickOfRank_10 : decode cX4_pickOfRank 10 = .ok (.aload_n 0, 1) := by decide +kernel
theorem dX4_pickOfRank_11 : decode cX4_pickOfRank 11 = .ok (.iload_n 2, 1) := by decide +kernel
theorem dX4_pickOfRank_12 : decode cX4_pickOfRank 12 = .ok (.invokevirtual 53, 3) := by decide +kernel
theorem dX4_pickOfRank_15 : decode cX4_pickOfRank 15 = .ok (.istore_n 3, 1) := by decide +kernel
theorem dX4_pickOfRank_16 : decode cX4_pickOfRank 16 = .ok (.iload_n 3, 1) := by decide +kernel
theorem dX4_pickOfRank_17 : decode cX4_pickOfRank 17 = .ok (.iconst (-1), 1) := by decide +kernel
theorem dX4_pickOfRank_18 : decode cX4_pickOfRank 18 = .ok (.if_icmp .eq 25, 3) := by decide +kernel
theorem dX4_pickOfRank_21 : decode cX4_pickOfRank 21 = .ok (.aload_n 0, 1) := by decide +kernel
theorem dX4_pickOfRank_22 : decode cX4_pickOfRank 22 = .ok (.iload_n 3, 1) := by decide +kernel
theorem dX4_pickOfRank_23 : decode cX4_pickOfRank 23 = .ok (.invokevirtual 64, 3) := by decide +kernel
theorem dX4_pickOfRank_26 : decode cX4_pickOfRank 26 = .ok (.iload_n 1, 1) := by decide +kernel
theorem dX4_pickOfRank_27 : decode cX4_pickOfRank 27 = .ok (.if_icmp .gt 16, 3) := by decide +kernel
theorem dX4_pickOfRank_30 : decode cX4_pickOfRank 30 = .ok (.iload_n 1, 1) := by decide +kernel
theorem dX4_pickOfRank_31 : decode cX4_pickOfRank 31 = .ok (.aload_n 0, 1) := by decide +kernel
theorem dX4_pickOfRank_32 : decode cX4_pickOfRank 32 = .ok (.iload_n 3, 1) := by decide +kernel
theorem dX4_pickOfRank_33 : decode cX4_pickOfRank 33 = .ok (.iconst 1, 1) := by decide +kernel
theorem dX4_pickOfRank_34 : decode cX4_pickOfRank 34 = .ok (.iadd, 1) := by decide +kernel
theorem dX4_pickOfRank_35 : decode cX4_pickOfRank 35 = .ok (.invokevirtual 64, 3) := by decide +kernel
theorem dX4_pickOfRank_38 : decode cX4_pickOfRank 38 = .ok (.if_icmp .ge 5, 3) := by decide +kernel
theorem dX4_pickOfRank_41 : decode cX4_pickOfRank 41 = .ok (.iload_n 3, 1) := by decide +kernel
theorem dX4_pickOfRank_42 : decode cX4_pickOfRank 42 = .ok (.ireturn, 1) := by decide +kernel
theorem dX4_pickOfRank_43 : decode cX4_pickOfRank 43 = .ok (.iinc 2 1, 3) := by decide +kernel
theorem dX4_pickOfRank_46 : decode cX4_pickOfRank 46 = .ok (.goto (-44), 3) := by decide +kernel
theorem dX4_pickOfRank_49 : decode cX4_pickOfRank 49 = .ok (.iconst (-1), 1) := by decide +kernel
theorem dX4_pickOfRank_50 : decode cX4_pickOfRank 50 = .ok (.ireturn, 1) := by decide +kernel
theorem dX4_picksBelow_0 : decode cX4_picksBelow 0 = .ok (.iconst 0, 1) := by decide +kernel
theorem dX4_picksBelow_1 : decode cX4_picksBelow 1 = .ok (.istore_n 2, 1) := by decide +kernel
theorem dX4_picksBelow_2 : decode cX4_picksBelow 2 = .ok (.iconst 0, 1) := by decide +kernel
theorem dX4_picksBelow_3 : decode cX4_picksBelow 3 = .ok (.istore_n 3, 1) := by decide +kernel
theorem dX4_picksBelow_4 : decode cX4_picksBelow 4 = .ok (.iload_n 3, 1) := by decide +kernel
theorem dX4_picksBelow_5 : decode cX4_picksBelow 5 = .ok (.aload_n 0, 1) := by decide +kernel
theorem dX4_picksBelow_6 : decode cX4_picksBelow 6 = .ok (.getfield 18, 3) := by decide +kernel
theorem dX4_picksBelow_9 : decode cX4_picksBelow 9 = .ok (.if_icmp .ge 41, 3) := by decide +kernel
theorem dX4_picksBelow_12 : decode cX4_picksBelow 12 = .ok (.iload_n 3, 1) := by decide +kernel
theorem dX4_picksBelow_13 : decode cX4_picksBelow 13 = .ok (.aload_n 0, 1) := by decide +kernel
theorem dX4_picksBelow_14 : decode cX4_picksBelow 14 = .ok (.getfield 9, 3) := by decide +kernel
theorem dX4_picksBelow_17 : decode cX4_picksBelow 17 = .ok (.arraylength, 1) := by decide +kernel
theorem dX4_picksBelow_18 : decode cX4_picksBelow 18 = .ok (.if_icmp .ge 32, 3) := by decide +kernel
theorem dX4_picksBelow_21 : decode cX4_picksBelow 21 = .ok (.aload_n 0, 1) := by decide +kernel
theorem dX4_picksBelow_22 : decode cX4_picksBelow 22 = .ok (.getfield 9, 3) := by decide +kernel
theorem dX4_picksBelow_25 : decode cX4_picksBelow 25 = .ok (.iload_n 3, 1) := by decide +kernel
theorem dX4_picksBelow_26 : decode cX4_picksBelow 26 = .ok (.iaload, 1) := by decide +kernel
theorem dX4_picksBelow_27 : decode cX4_picksBelow 27 = .ok (.iconst (-1), 1) := by decide +kernel
theorem dX4_picksBelow_28 : decode cX4_picksBelow 28 = .ok (.if_icmp .eq 16, 3) := by decide +kernel
theorem dX4_picksBelow_31 : decode cX4_picksBelow 31 = .ok (.aload_n 0, 1) := by decide +kernel
theorem dX4_picksBelow_32 : decode cX4_picksBelow 32 = .ok (.getfield 9, 3) := by decide +kernel
theorem dX4_picksBelow_35 : decode cX4_picksBelow 35 = .ok (.iload_n 3, 1) := by decide +kernel
theorem dX4_picksBelow_36 : decode cX4_picksBelow 36 = .ok (.iaload, 1) := by decide +kernel
theorem dX4_picksBelow_37 : decode cX4_picksBelow 37 = .ok (.iload_n 1, 1) := by decide +kernel
theorem dX4_picksBelow_38 : decode cX4_picksBelow 38 = .ok (.if_icmp .ge 6, 3) := by decide +kernel
theorem dX4_picksBelow_41 : decode cX4_picksBelow 41 = .ok (.iinc 2 1, 3) := by decide +kernel
theorem dX4_picksBelow_44 : decode cX4_picksBelow 44 = .ok (.iinc 3 1, 3) := by decide +kernel
theorem dX4_picksBelow_47 : decode cX4_picksBelow 47 = .ok (.goto (-43), 3) := by decide +kernel
theorem dX4_picksBelow_50 : decode cX4_picksBelow 50 = .ok (.iload_n 2, 1) := by decide +kernel
theorem dX4_picksBelow_51 : decode cX4_picksBelow 51 = .ok (.ireturn, 1) := by decide +kernel
theorem dX4_toldLevel_0 : decode cX4_toldLevel 0 = .ok (.aload_n 0, 1) := by decide +kernel
theorem dX4_toldLevel_1 : decode cX4_toldLevel 1 = .ok (.getfield 22, 3) := by decide +kernel
theorem dX4_toldLevel_4 : decode cX4_toldLevel 4 = .ok (.iconst (-1), 1) := by decide +kernel
theorem dX4_toldLevel_5 : decode cX4_toldLevel 5 = .ok (.if_icmp .eq 12, 3) := by decide +kernel
theorem dX4_toldLevel_8 : decode cX4_toldLevel 8 = .ok (.iload_n 1, 1) := by decide +kernel
theorem dX4_toldLevel_9 : decode cX4_toldLevel 9 = .ok (.aload_n 0, 1) := by decide +kernel
theorem dX4_toldLevel_10 : decode cX4_toldLevel 10 = .ok (.getfield 22, 3) := by decide +kernel
theorem dX4_toldLevel_13 : decode cX4_toldLevel 13 = .ok (.isub, 1) := by decide +kernel
theorem dX4_toldLevel_14 : decode cX4_toldLevel 14 = .ok (.goto 4, 3) := by decide +kernel
theorem dX4_toldLevel_17 : decode cX4_toldLevel 17 = .ok (.iconst (-1), 1) := by decide +kernel
theorem dX4_toldLevel_18 : decode cX4_toldLevel 18 = .ok (.ireturn, 1) := by decide +kernel
theorem dX4_enter_0 : decode cX4_enter 0 = .ok (.aload_n 0, 1) := by decide +kernel
theorem dX4_enter_1 : decode cX4_enter 1 = .ok (.dup, 1) := by decide +kernel
theorem dX4_enter_2 : decode cX4_enter 2 = .ok (.getfield 31, 3) := by decide +kernel
theorem dX4_enter_5 : decode cX4_enter 5 = .ok (.iconst 1, 1) := by decide +kernel
theorem dX4_enter_6 : decode cX4_enter 6 = .ok (.iadd, 1) := by decide +kernel
theorem dX4_enter_7 : decode cX4_enter 7 = .ok (.putfield 31, 3) := by decide +kernel
theorem dX4_enter_10 : decode cX4_enter 10 = .ok (.iload_n 1, 1) := by decide +kernel
theorem dX4_enter_11 : decode cX4_enter 11 = .ok (.iconst (-1), 1) := by decide +kernel
theorem dX4_enter_12 : decode cX4_enter 12 = .ok (.if_icmp .eq 13, 3) := by decide +kernel
theorem dX4_enter_15 : decode cX4_enter 15 = .ok (.aload_n 0, 1) := by decide +kernel
theorem dX4_enter_16 : decode cX4_enter 16 = .ok (.dup, 1) := by decide +kernel
theorem dX4_enter_17 : decode cX4_enter 17 = .ok (.getfield 34, 3) := by decide +kernel
theorem dX4_enter_20 : decode cX4_enter 20 = .ok (.iconst 1, 1) := by decide +kernel
theorem dX4_enter_21 : decode cX4_enter 21 = .ok (.iadd, 1) := by decide +kernel
theorem dX4_enter_22 : decode cX4_enter 22 = .ok (.putfield 34, 3) := by decide +kernel
theorem dX4_enter_25 : decode cX4_enter 25 = .ok (.aload_n 0, 1) := by decide +kernel
theorem dX4_enter_26 : decode cX4_enter 26 = .ok (.iload_n 1, 1) := by decide +kernel
theorem dX4_enter_27 : decode cX4_enter 27 = .ok (.aload_n 2, 1) := by decide +kernel
theorem dX4_enter_28 : decode cX4_enter 28 = .ok (.bipush 6, 2) := by decide +kernel
theorem dX4_enter_30 : decode cX4_enter 30 = .ok (.invokevirtual 67, 3) := by decide +kernel
theorem dX4_enter_33 : decode cX4_enter 33 = .ok (.invokevirtual 72, 3) := by decide +kernel
theorem dX4_enter_36 : decode cX4_enter 36 = .ok (.aload_n 0, 1) := by decide +kernel
theorem dX4_enter_37 : decode cX4_enter 37 = .ok (.aload_n 2, 1) := by decide +kernel
theorem dX4_enter_38 : decode cX4_enter 38 = .ok (.bipush 6, 2) := by decide +kernel
theorem dX4_enter_40 : decode cX4_enter 40 = .ok (.invokevirtual 67, 3) := by decide +kernel
theorem dX4_enter_43 : decode cX4_enter 43 = .ok (.invokevirtual 76, 3) := by decide +kernel
theorem dX4_enter_46 : decode cX4_enter 46 = .ok (.istore 4, 2) := by decide +kernel
theorem dX4_enter_48 : decode cX4_enter 48 = .ok (.iload 4, 2) := by decide +kernel
theorem dX4_enter_50 : decode cX4_enter 50 = .ok (.iconst (-1), 1) := by decide +kernel
theorem dX4_enter_51 : decode cX4_enter 51 = .ok (.if_icmp .eq 23, 3) := by decide +kernel
theorem dX4_enter_54 : decode cX4_enter 54 = .ok (.aload_n 0, 1) := by decide +kernel
theorem dX4_enter_55 : decode cX4_enter 55 = .ok (.iload 4, 2) := by decide +kernel
theorem dX4_enter_57 : decode cX4_enter 57 = .ok (.aload_n 2, 1) := by decide +kernel
theorem dX4_enter_58 : decode cX4_enter 58 = .ok (.bipush 7, 2) := by decide +kernel
theorem dX4_enter_60 : decode cX4_enter 60 = .ok (.invokevirtual 67, 3) := by decide +kernel
theorem dX4_enter_63 : decode cX4_enter 63 = .ok (.invokevirtual 79, 3) := by decide +kernel
theorem dX4_enter_66 : decode cX4_enter 66 = .ok (.aload_n 0, 1) := by decide +kernel
theorem dX4_enter_67 : decode cX4_enter 67 = .ok (.iconst 0, 1) := by decide +kernel
theorem dX4_enter_68 : decode cX4_enter 68 = .ok (.putfield 25, 3) := by decide +kernel
theorem dX4_enter_71 : decode cX4_enter 71 = .ok (.goto 13, 3) := by decide +kernel
theorem dX4_enter_74 : decode cX4_enter 74 = .ok (.aload_n 0, 1) := by decide +kernel
theorem dX4_enter_75 : decode cX4_enter 75 = .ok (.aload_n 2, 1) := by decide +kernel
theorem dX4_enter_76 : decode cX4_enter 76 = .ok (.bipush 8, 2) := by decide +kernel
theorem dX4_enter_78 : decode cX4_enter 78 = .ok (.invokevirtual 67, 3) := by decide +kernel
theorem dX4_enter_81 : decode cX4_enter 81 = .ok (.invokevirtual 82, 3) := by decide +kernel
theorem dX4_enter_84 : decode cX4_enter 84 = .ok (.aload_n 0, 1) := by decide +kernel
theorem dX4_enter_85 : decode cX4_enter 85 = .ok (.aload_n 0, 1) := by decide +kernel
theorem dX4_enter_86 : decode cX4_enter 86 = .ok (.iload_n 3, 1) := by decide +kernel
theorem dX4_enter_87 : decode cX4_enter 87 = .ok (.invokevirtual 86, 3) := by decide +kernel
theorem dX4_enter_90 : decode cX4_enter 90 = .ok (.aload_n 2, 1) := by decide +kernel
theorem dX4_enter_91 : decode cX4_enter 91 = .ok (.invokevirtual 89, 3) := by decide +kernel
theorem dX4_enter_94 : decode cX4_enter 94 = .ok (.return_, 1) := by decide +kernel
theorem dX4_push_0 : decode cX4_push 0 = .ok (.aload_n 0, 1) := by decide +kernel
theorem dX4_push_1 : decode cX4_push 1 = .ok (.aload_n 0, 1) := by decide +kernel
theorem dX4_push_2 : decode cX4_push 2 = .ok (.getfield 18, 3) := by decide +kernel
theorem dX4_push_5 : decode cX4_push 5 = .ok (.iconst 1, 1) := by decide +kernel
theorem dX4_push_6 : decode cX4_push 6 = .ok (.iadd, 1) := by decide +kernel
theorem dX4_push_7 : decode cX4_push 7 = .ok (.iload_n 2, 1) := by decide +kernel
theorem dX4_push_8 : decode cX4_push 8 = .ok (.aload_n 0, 1) := by decide +kernel
theorem dX4_push_9 : decode cX4_push 9 = .ok (.getfield 9, 3) := by decide +kernel
theorem dX4_push_12 : decode cX4_push 12 = .ok (.arraylength, 1) := by decide +kernel
theorem dX4_push_13 : decode cX4_push 13 = .ok (.invokestatic 47, 3) := by decide +kernel
theorem dX4_push_16 : decode cX4_push 16 = .ok (.invokestatic 47, 3) := by decide +kernel
theorem dX4_push_19 : decode cX4_push 19 = .ok (.putfield 18, 3) := by decide +kernel
theorem dX4_push_22 : decode cX4_push 22 = .ok (.aload_n 0, 1) := by decide +kernel
theorem dX4_push_23 : decode cX4_push 23 = .ok (.getfield 18, 3) := by decide +kernel
theorem dX4_push_26 : decode cX4_push 26 = .ok (.iconst 1, 1) := by decide +kernel
theorem dX4_push_27 : decode cX4_push 27 = .ok (.isub, 1) := by decide +kernel
theorem dX4_push_28 : decode cX4_push 28 = .ok (.istore_n 3, 1) := by decide +kernel
theorem dX4_push_29 : decode cX4_push 29 = .ok (.iload_n 3, 1) := by decide +kernel
theorem dX4_push_30 : decode cX4_push 30 = .ok (.ifCond .le 23, 3) := by decide +kernel
theorem dX4_push_33 : decode cX4_push 33 = .ok (.aload_n 0, 1) := by decide +kernel
theorem dX4_push_34 : decode cX4_push 34 = .ok (.getfield 9, 3) := by decide +kernel
theorem dX4_push_37 : decode cX4_push 37 = .ok (.iload_n 3, 1) := by decide +kernel
theorem dX4_push_38 : decode cX4_push 38 = .ok (.aload_n 0, 1) := by decide +kernel
theorem dX4_push_39 : decode cX4_push 39 = .ok (.getfield 9, 3) := by decide +kernel
theorem dX4_push_42 : decode cX4_push 42 = .ok (.iload_n 3, 1) := by decide +kernel
theorem dX4_push_43 : decode cX4_push 43 = .ok (.iconst 1, 1) := by decide +kernel
theorem dX4_push_44 : decode cX4_push 44 = .ok (.isub, 1) := by decide +kernel
theorem dX4_push_45 : decode cX4_push 45 = .ok (.iaload, 1) := by decide +kernel
theorem dX4_push_46 : decode cX4_push 46 = .ok (.iastore, 1) := by decide +kernel
theorem dX4_push_47 : decode cX4_push 47 = .ok (.iinc 3 (-1), 3) := by decide +kernel
theorem dX4_push_50 : decode cX4_push 50 = .ok (.goto (-21), 3) := by decide +kernel
theorem dX4_push_53 : decode cX4_push 53 = .ok (.aload_n 0, 1) := by decide +kernel
theorem dX4_push_54 : decode cX4_push 54 = .ok (.getfield 9, 3) := by decide +kernel
theorem dX4_push_57 : decode cX4_push 57 = .ok (.iconst 0, 1) := by decide +kernel
theorem dX4_push_58 : decode cX4_push 58 = .ok (.iload_n 1, 1) := by decide +kernel
theorem dX4_push_59 : decode cX4_push 59 = .ok (.iastore, 1) := by decide +kernel
theorem dX4_push_60 : decode cX4_push 60 = .ok (.return_, 1) := by decide +kernel
theorem dX4_follow_0 : decode cX4_follow 0 = .ok (.iload_n 2, 1) := by decide +kernel
theorem dX4_follow_1 : decode cX4_follow 1 = .ok (.ifCond .le 14, 3) := by decide +kernel
theorem dX4_follow_4 : decode cX4_follow 4 = .ok (.iload_n 1, 1) := by decide +kernel
theorem dX4_follow_5 : decode cX4_follow 5 = .ok (.aload_n 0, 1) := by decide +kernel
theorem dX4_follow_6 : decode cX4_follow 6 = .ok (.getfield 22, 3) := by decide +kernel
theorem dX4_follow_9 : decode cX4_follow 9 = .ok (.isub, 1) := by decide +kernel
theorem dX4_follow_10 : decode cX4_follow 10 = .ok (.iload_n 2, 1) := by decide +kernel
theorem dX4_follow_11 : decode cX4_follow 11 = .ok (.idiv, 1) := by decide +kernel
theorem dX4_follow_12 : decode cX4_follow 12 = .ok (.goto 4, 3) := by decide +kernel
theorem dX4_follow_15 : decode cX4_follow 15 = .ok (.iconst 0, 1) := by decide +kernel
theorem dX4_follow_16 : decode cX4_follow 16 = .ok (.istore_n 3, 1) := by decide +kernel
theorem dX4_follow_17 : decode cX4_follow 17 = .ok (.aload_n 0, 1) := by decide +kernel
theorem dX4_follow_18 : decode cX4_follow 18 = .ok (.aload_n 0, 1) := by decide +kernel
theorem dX4_follow_19 : decode cX4_follow 19 = .ok (.getfield 22, 3) := by decide +kernel
theorem dX4_follow_22 : decode cX4_follow 22 = .ok (.iconst (-1), 1) := by decide +kernel
theorem dX4_follow_23 : decode cX4_follow 23 = .ok (.if_icmp .eq 7, 3) := by decide +kernel
theorem dX4_follow_26 : decode cX4_follow 26 = .ok (.iload_n 3, 1) := by decide +kernel
theorem dX4_follow_27 : decode cX4_follow 27 = .ok (.ifCond .ne 7, 3) := by decide +kernel
theorem dX4_follow_30 : decode cX4_follow 30 = .ok (.iload_n 1, 1) := by decide +kernel
theorem dX4_follow_31 : decode cX4_follow 31 = .ok (.goto 9, 3) := by decide +kernel
theorem dX4_follow_34 : decode cX4_follow 34 = .ok (.aload_n 0, 1) := by decide +kernel
theorem dX4_follow_35 : decode cX4_follow 35 = .ok (.getfield 22, 3) := by decide +kernel
theorem dX4_follow_38 : decode cX4_follow 38 = .ok (.iload_n 3, 1) := by decide +kernel
theorem dX4_follow_39 : decode cX4_follow 39 = .ok (.iadd, 1) := by decide +kernel
theorem dX4_follow_40 : decode cX4_follow 40 = .ok (.putfield 22, 3) := by decide +kernel
theorem dX4_follow_43 : decode cX4_follow 43 = .ok (.return_, 1) := by decide +kernel
theorem dX4_miss_0 : decode cX4_miss 0 = .ok (.aload_n 0, 1) := by decide +kernel
theorem dX4_miss_1 : decode cX4_miss 1 = .ok (.dup, 1) := by decide +kernel
theorem dX4_miss_2 : decode cX4_miss 2 = .ok (.getfield 25, 3) := by decide +kernel
theorem dX4_miss_5 : decode cX4_miss 5 = .ok (.iconst 1, 1) := by decide +kernel
theorem dX4_miss_6 : decode cX4_miss 6 = .ok (.iadd, 1) := by decide +kernel
theorem dX4_miss_7 : decode cX4_miss 7 = .ok (.putfield 25, 3) := by decide +kernel
theorem dX4_miss_10 : decode cX4_miss 10 = .ok (.aload_n 0, 1) := by decide +kernel
theorem dX4_miss_11 : decode cX4_miss 11 = .ok (.getfield 25, 3) := by decide +kernel
theorem dX4_miss_14 : decode cX4_miss 14 = .ok (.iload_n 1, 1) := by decide +kernel
theorem dX4_miss_15 : decode cX4_miss 15 = .ok (.if_icmp .ne 32, 3) := by decide +kernel
theorem dX4_miss_18 : decode cX4_miss 18 = .ok (.aload_n 0, 1) := by decide +kernel
theorem dX4_miss_19 : decode cX4_miss 19 = .ok (.iconst (-1), 1) := by decide +kernel
theorem dX4_miss_20 : decode cX4_miss 20 = .ok (.putfield 22, 3) := by decide +kernel
theorem dX4_miss_23 : decode cX4_miss 23 = .ok (.iconst 0, 1) := by decide +kernel
theorem dX4_miss_24 : decode cX4_miss 24 = .ok (.istore_n 2, 1) := by decide +kernel
theorem dX4_miss_25 : decode cX4_miss 25 = .ok (.iload_n 2, 1) := by decide +kernel
theorem dX4_miss_26 : decode cX4_miss 26 = .ok (.aload_n 0, 1) := by decide +kernel
theorem dX4_miss_27 : decode cX4_miss 27 = .ok (.getfield 9, 3) := by decide +kernel
theorem dX4_miss_30 : decode cX4_miss 30 = .ok (.arraylength, 1) := by decide +kernel
theorem dX4_miss_31 : decode cX4_miss 31 = .ok (.if_icmp .ge 16, 3) := by decide +kernel
theorem dX4_miss_34 : decode cX4_miss 34 = .ok (.aload_n 0, 1) := by decide +kernel
theorem dX4_miss_35 : decode cX4_miss 35 = .ok (.getfield 9, 3) := by decide +kernel
theorem dX4_miss_38 : decode cX4_miss 38 = .ok (.iload_n 2, 1) := by decide +kernel
theorem dX4_miss_39 : decode cX4_miss 39 = .ok (.iconst (-1), 1) := by decide +kernel
theorem dX4_miss_40 : decode cX4_miss 40 = .ok (.iastore, 1) := by decide +kernel
theorem dX4_miss_41 : decode cX4_miss 41 = .ok (.iinc 2 1, 3) := by decide +kernel
theorem dX4_miss_44 : decode cX4_miss 44 = .ok (.goto (-19), 3) := by decide +kernel
theorem dX4_miss_47 : decode cX4_miss 47 = .ok (.return_, 1) := by decide +kernel
theorem dX4_judgeAlarm_0 : decode cX4_judgeAlarm 0 = .ok (.aload_n 0, 1) := by decide +kernel
theorem dX4_judgeAlarm_1 : decode cX4_judgeAlarm 1 = .ok (.getfield 28, 3) := by decide +kernel
theorem dX4_judgeAlarm_4 : decode cX4_judgeAlarm 4 = .ok (.istore_n 3, 1) := by decide +kernel
theorem dX4_judgeAlarm_5 : decode cX4_judgeAlarm 5 = .ok (.iload_n 1, 1) := by decide +kernel
theorem dX4_judgeAlarm_6 : decode cX4_judgeAlarm 6 = .ok (.iconst (-1), 1) := by decide +kernel
theorem dX4_judgeAlarm_7 : decode cX4_judgeAlarm 7 = .ok (.if_icmp .ne 11, 3) := by decide +kernel
theorem dX4_judgeAlarm_10 : decode cX4_judgeAlarm 10 = .ok (.aload_n 0, 1) := by decide +kernel
theorem dX4_judgeAlarm_11 : decode cX4_judgeAlarm 11 = .ok (.iconst 0, 1) := by decide +kernel
theorem dX4_judgeAlarm_12 : decode cX4_judgeAlarm 12 = .ok (.putfield 28, 3) := by decide +kernel
theorem dX4_judgeAlarm_15 : decode cX4_judgeAlarm 15 = .ok (.goto 88, 3) := by decide +kernel
theorem dX4_judgeAlarm_18 : decode cX4_judgeAlarm 18 = .ok (.iload_n 1, 1) := by decide +kernel
theorem dX4_judgeAlarm_19 : decode cX4_judgeAlarm 19 = .ok (.aload_n 2, 1) := by decide +kernel
theorem dX4_judgeAlarm_20 : decode cX4_judgeAlarm 20 = .ok (.bipush 9, 2) := by decide +kernel
theorem dX4_judgeAlarm_22 : decode cX4_judgeAlarm 22 = .ok (.invokevirtual 67, 3) := by decide +kernel
theorem dX4_judgeAlarm_25 : decode cX4_judgeAlarm 25 = .ok (.if_icmp .gt 11, 3) := by decide +kernel
theorem dX4_judgeAlarm_28 : decode cX4_judgeAlarm 28 = .ok (.aload_n 0, 1) := by decide +kernel
theorem dX4_judgeAlarm_29 : decode cX4_judgeAlarm 29 = .ok (.iconst 1, 1) := by decide +kernel
theorem dX4_judgeAlarm_30 : decode cX4_judgeAlarm 30 = .ok (.putfield 28, 3) := by decide +kernel
theorem dX4_judgeAlarm_33 : decode cX4_judgeAlarm 33 = .ok (.goto 70, 3) := by decide +kernel
theorem dX4_judgeAlarm_36 : decode cX4_judgeAlarm 36 = .ok (.iload_n 1, 1) := by decide +kernel
theorem dX4_judgeAlarm_37 : decode cX4_judgeAlarm 37 = .ok (.aload_n 2, 1) := by decide +kernel
theorem dX4_judgeAlarm_38 : decode cX4_judgeAlarm 38 = .ok (.bipush 10, 2) := by decide +kernel
theorem dX4_judgeAlarm_40 : decode cX4_judgeAlarm 40 = .ok (.invokevirtual 67, 3) := by decide +kernel
theorem dX4_judgeAlarm_43 : decode cX4_judgeAlarm 43 = .ok (.if_icmp .lt 11, 3) := by decide +kernel
theorem dX4_judgeAlarm_46 : decode cX4_judgeAlarm 46 = .ok (.aload_n 0, 1) := by decide +kernel
theorem dX4_judgeAlarm_47 : decode cX4_judgeAlarm 47 = .ok (.iconst 2, 1) := by decide +kernel
theorem dX4_judgeAlarm_48 : decode cX4_judgeAlarm 48 = .ok (.putfield 28, 3) := by decide +kernel
theorem dX4_judgeAlarm_51 : decode cX4_judgeAlarm 51 = .ok (.goto 52, 3) := by decide +kernel
theorem dX4_judgeAlarm_54 : decode cX4_judgeAlarm 54 = .ok (.iload_n 3, 1) := by decide +kernel
theorem dX4_judgeAlarm_55 : decode cX4_judgeAlarm 55 = .ok (.iconst 1, 1) := by decide +kernel
theorem dX4_judgeAlarm_56 : decode cX4_judgeAlarm 56 = .ok (.if_icmp .ne 20, 3) := by decide +kernel
theorem dX4_judgeAlarm_59 : decode cX4_judgeAlarm 59 = .ok (.iload_n 1, 1) := by decide +kernel
theorem dX4_judgeAlarm_60 : decode cX4_judgeAlarm 60 = .ok (.aload_n 2, 1) := by decide +kernel
theorem dX4_judgeAlarm_61 : decode cX4_judgeAlarm 61 = .ok (.bipush 9, 2) := by decide +kernel
theorem dX4_judgeAlarm_63 : decode cX4_judgeAlarm 63 = .ok (.invokevirtual 67, 3) := by decide +kernel
theorem dX4_judgeAlarm_66 : decode cX4_judgeAlarm 66 = .ok (.aload_n 2, 1) := by decide +kernel
theorem dX4_judgeAlarm_67 : decode cX4_judgeAlarm 67 = .ok (.bipush 11, 2) := by decide +kernel
theorem dX4_judgeAlarm_69 : decode cX4_judgeAlarm 69 = .ok (.invokevirtual 67, 3) := by decide +kernel
theorem dX4_judgeAlarm_72 : decode cX4_judgeAlarm 72 = .ok (.iadd, 1) := by decide +kernel
theorem dX4_judgeAlarm_73 : decode cX4_judgeAlarm 73 = .ok (.if_icmp .gt 25, 3) := by decide +kernel
theorem dX4_judgeAlarm_76 : decode cX4_judgeAlarm 76 = .ok (.iload_n 3, 1) := by decide +kernel
theorem dX4_judgeAlarm_77 : decode cX4_judgeAlarm 77 = .ok (.iconst 2, 1) := by decide +kernel
theorem dX4_judgeAlarm_78 : decode cX4_judgeAlarm 78 = .ok (.if_icmp .ne 25, 3) := by decide +kernel
theorem dX4_judgeAlarm_81 : decode cX4_judgeAlarm 81 = .ok (.iload_n 1, 1) := by decide +kernel
theorem dX4_judgeAlarm_82 : decode cX4_judgeAlarm 82 = .ok (.aload_n 2, 1) := by decide +kernel
theorem dX4_judgeAlarm_83 : decode cX4_judgeAlarm 83 = .ok (.bipush 10, 2) := by decide +kernel
theorem dX4_judgeAlarm_85 : decode cX4_judgeAlarm 85 = .ok (.invokevirtual 67, 3) := by decide +kernel
theorem dX4_judgeAlarm_88 : decode cX4_judgeAlarm 88 = .ok (.aload_n 2, 1) := by decide +kernel
theorem dX4_judgeAlarm_89 : decode cX4_judgeAlarm 89 = .ok (.bipush 11, 2) := by decide +kernel
theorem dX4_judgeAlarm_91 : decode cX4_judgeAlarm 91 = .ok (.invokevirtual 67, 3) := by decide +kernel
theorem dX4_judgeAlarm_94 : decode cX4_judgeAlarm 94 = .ok (.isub, 1) := by decide +kernel
theorem dX4_judgeAlarm_95 : decode cX4_judgeAlarm 95 = .ok (.if_icmp .ge 8, 3) := by decide +kernel
theorem dX4_judgeAlarm_98 : decode cX4_judgeAlarm 98 = .ok (.aload_n 0, 1) := by decide +kernel
theorem dX4_judgeAlarm_99 : decode cX4_judgeAlarm 99 = .ok (.iconst 0, 1) := by decide +kernel
theorem dX4_judgeAlarm_100 : decode cX4_judgeAlarm 100 = .ok (.putfield 28, 3) := by decide +kernel
theorem dX4_judgeAlarm_103 : decode cX4_judgeAlarm 103 = .ok (.aload_n 0, 1) := by decide +kernel
theorem dX4_judgeAlarm_104 : decode cX4_judgeAlarm 104 = .ok (.getfield 28, 3) := by decide +kernel
theorem dX4_judgeAlarm_107 : decode cX4_judgeAlarm 107 = .ok (.ifCond .eq 21, 3) := by decide +kernel
theorem dX4_judgeAlarm_110 : decode cX4_judgeAlarm 110 = .ok (.aload_n 0, 1) := by decide +kernel
theorem dX4_judgeAlarm_111 : decode cX4_judgeAlarm 111 = .ok (.getfield 28, 3) := by decide +kernel
theorem dX4_judgeAlarm_114 : decode cX4_judgeAlarm 114 = .ok (.iload_n 3, 1) := by decide +kernel
theorem dX4_judgeAlarm_115 : decode cX4_judgeAlarm 115 = .ok (.if_icmp .eq 13, 3) := by decide +kernel
theorem dX4_judgeAlarm_118 : decode cX4_judgeAlarm 118 = .ok (.aload_n 0, 1) := by decide +kernel
theorem dX4_judgeAlarm_119 : decode cX4_judgeAlarm 119 = .ok (.dup, 1) := by decide +kernel
theorem dX4_judgeAlarm_120 : decode cX4_judgeAlarm 120 = .ok (.getfield 40, 3) := by decide +kernel
theorem dX4_judgeAlarm_123 : decode cX4_judgeAlarm 123 = .ok (.iconst 1, 1) := by decide +kernel
theorem dX4_judgeAlarm_124 : decode cX4_judgeAlarm 124 = .ok (.iadd, 1) := by decide +kernel
theorem dX4_judgeAlarm_125 : decode cX4_judgeAlarm 125 = .ok (.putfield 40, 3) := by decide +kernel
theorem dX4_judgeAlarm_128 : decode cX4_judgeAlarm 128 = .ok (.return_, 1) := by decide +kernel
theorem dX5_init_0 : decode cX5_init 0 = .ok (.aload_n 0, 1) := by decide +kernel
theorem dX5_init_1 : decode cX5_init 1 = .ok (.invokespecial 3, 3) := by decide +kernel
theorem dX5_init_4 : decode cX5_init 4 = .ok (.aload_n 0, 1) := by decide +kernel
theorem dX5_init_5 : decode cX5_init 5 = .ok (.bipush 8, 2) := by decide +kernel
theorem dX5_init_7 : decode cX5_init 7 = .ok (.newarray .long, 2) := by decide +kernel
theorem dX5_init_9 : decode cX5_init 9 = .ok (.putfield 11, 3) := by decide +kernel
theorem dX5_init_12 : decode cX5_init 12 = .ok (.aload_n 0, 1) := by decide +kernel
theorem dX5_init_13 : decode cX5_init 13 = .ok (.iconst 0, 1) := by decide +kernel
theorem dX5_init_14 : decode cX5_init 14 = .ok (.putfield 15, 3) := by decide +kernel
theorem dX5_init_17 : decode cX5_init 17 = .ok (.return_, 1) := by decide +kernel
theorem dX5_reset_0 : decode cX5_reset 0 = .ok (.iconst 0, 1) := by decide +kernel
theorem dX5_reset_1 : decode cX5_reset 1 = .ok (.istore_n 1, 1) := by decide +kernel
theorem dX5_reset_2 : decode cX5_reset 2 = .ok (.iload_n 1, 1) := by decide +kernel
theorem dX5_reset_3 : decode cX5_reset 3 = .ok (.aload_n 0, 1) := by decide +kernel
theorem dX5_reset_4 : decode cX5_reset 4 = .ok (.getfield 11, 3) := by decide +kernel
theorem dX5_reset_7 : decode cX5_reset 7 = .ok (.arraylength, 1) := by decide +kernel
theorem dX5_reset_8 : decode cX5_reset 8 = .ok (.if_icmp .ge 16, 3) := by decide +kernel
theorem dX5_reset_11 : decode cX5_reset 11 = .ok (.aload_n 0, 1) := by decide +kernel
theorem dX5_reset_12 : decode cX5_reset 12 = .ok (.getfield 11, 3) := by decide +kernel
theorem dX5_reset_15 : decode cX5_reset 15 = .ok (.iload_n 1, 1) := by decide +kernel
theorem dX5_reset_16 : decode cX5_reset 16 = .ok (.lconst 0, 1) := by decide +kernel
theorem dX5_reset_17 : decode cX5_reset 17 = .ok (.lastore, 1) := by decide +kernel
theorem dX5_reset_18 : decode cX5_reset 18 = .ok (.iinc 1 1, 3) := by decide +kernel
theorem dX5_reset_21 : decode cX5_reset 21 = .ok (.goto (-19), 3) := by decide +kernel
theorem dX5_reset_24 : decode cX5_reset 24 = .ok (.aload_n 0, 1) := by decide +kernel
theorem dX5_reset_25 : decode cX5_reset 25 = .ok (.iconst 0, 1) := by decide +kernel
theorem dX5_reset_26 : decode cX5_reset 26 = .ok (.putfield 15, 3) := by decide +kernel
theorem dX5_reset_29 : decode cX5_reset 29 = .ok (.return_, 1) := by decide +kernel
theorem dX5_copyFrom_0 : decode cX5_copyFrom 0 = .ok (.aload_n 1, 1) := by decide +kernel
theorem dX5_copyFrom_1 : decode cX5_copyFrom 1 = .ok (.getfield 11, 3) := by decide +kernel
theorem dX5_copyFrom_4 : decode cX5_copyFrom 4 = .ok (.iconst 0, 1) := by decide +kernel
theorem dX5_copyFrom_5 : decode cX5_copyFrom 5 = .ok (.aload_n 0, 1) := by decide +kernel
theorem dX5_copyFrom_6 : decode cX5_copyFrom 6 = .ok (.getfield 11, 3) := by decide +kernel
theorem dX5_copyFrom_9 : decode cX5_copyFrom 9 = .ok (.iconst 0, 1) := by decide +kernel
theorem dX5_copyFrom_10 : decode cX5_copyFrom 10 = .ok (.aload_n 1, 1) := by decide +kernel
theorem dX5_copyFrom_11 : decode cX5_copyFrom 11 = .ok (.getfield 11, 3) := by decide +kernel
theorem dX5_copyFrom_14 : decode cX5_copyFrom 14 = .ok (.arraylength, 1) := by decide +kernel
theorem dX5_copyFrom_15 : decode cX5_copyFrom 15 = .ok (.aload_n 0, 1) := by decide +kernel
theorem dX5_copyFrom_16 : decode cX5_copyFrom 16 = .ok (.getfield 11, 3) := by decide +kernel
theorem dX5_copyFrom_19 : decode cX5_copyFrom 19 = .ok (.arraylength, 1) := by decide +kernel
theorem dX5_copyFrom_20 : decode cX5_copyFrom 20 = .ok (.invokestatic 19, 3) := by decide +kernel
theorem dX5_copyFrom_23 : decode cX5_copyFrom 23 = .ok (.invokestatic 25, 3) := by decide +kernel
theorem dX5_copyFrom_26 : decode cX5_copyFrom 26 = .ok (.aload_n 0, 1) := by decide +kernel
theorem dX5_copyFrom_27 : decode cX5_copyFrom 27 = .ok (.aload_n 1, 1) := by decide +kernel
theorem dX5_copyFrom_28 : decode cX5_copyFrom 28 = .ok (.getfield 15, 3) := by decide +kernel
theorem dX5_copyFrom_31 : decode cX5_copyFrom 31 = .ok (.putfield 15, 3) := by decide +kernel
theorem dX5_copyFrom_34 : decode cX5_copyFrom 34 = .ok (.return_, 1) := by decide +kernel
theorem dX5_covers_0 : decode cX5_covers 0 = .ok (.aload_n 0, 1) := by decide +kernel
theorem dX5_covers_1 : decode cX5_covers 1 = .ok (.iload_n 1, 1) := by decide +kernel
theorem dX5_covers_2 : decode cX5_covers 2 = .ok (.bipush 20, 2) := by decide +kernel
theorem dX5_covers_4 : decode cX5_covers 4 = .ok (.idiv, 1) := by decide +kernel
theorem dX5_covers_5 : decode cX5_covers 5 = .ok (.invokevirtual 31, 3) := by decide +kernel
theorem dX5_covers_8 : decode cX5_covers 8 = .ok (.ireturn, 1) := by decide +kernel
theorem dX5_hasBin_0 : decode cX5_hasBin 0 = .ok (.iload_n 1, 1) := by decide +kernel
theorem dX5_hasBin_1 : decode cX5_hasBin 1 = .ok (.bipush 64, 2) := by decide +kernel
theorem dX5_hasBin_3 : decode cX5_hasBin 3 = .ok (.idiv, 1) := by decide +kernel
theorem dX5_hasBin_4 : decode cX5_hasBin 4 = .ok (.istore_n 2, 1) := by decide +kernel
theorem dX5_hasBin_5 : decode cX5_hasBin 5 = .ok (.iload_n 1, 1) := by decide +kernel
theorem dX5_hasBin_6 : decode cX5_hasBin 6 = .ok (.ifCond .lt 32, 3) := by decide +kernel
theorem dX5_hasBin_9 : decode cX5_hasBin 9 = .ok (.iload_n 2, 1) := by decide +kernel
theorem dX5_hasBin_10 : decode cX5_hasBin 10 = .ok (.aload_n 0, 1) := by decide +kernel
theorem dX5_hasBin_11 : decode cX5_hasBin 11 = .ok (.getfield 11, 3) := by decide +kernel
theorem dX5_hasBin_14 : decode cX5_hasBin 14 = .ok (.arraylength, 1) := by decide +kernel
theorem dX5_hasBin_15 : decode cX5_hasBin 15 = .ok (.if_icmp .ge 23, 3) := by decide +kernel
theorem dX5_hasBin_18 : decode cX5_hasBin 18 = .ok (.aload_n 0, 1) := by decide +kernel
theorem dX5_hasBin_19 : decode cX5_hasBin 19 = .ok (.getfield 11, 3) := by decide +kernel
theorem dX5_hasBin_22 : decode cX5_hasBin 22 = .ok (.iload_n 2, 1) := by decide +kernel
theorem dX5_hasBin_23 : decode cX5_hasBin 23 = .ok (.laload, 1) := by decide +kernel
theorem dX5_hasBin_24 : decode cX5_hasBin 24 = .ok (.iload_n 1, 1) := by decide +kernel
theorem dX5_hasBin_25 : decode cX5_hasBin 25 = .ok (.invokestatic 35, 3) := by decide +kernel
theorem dX5_hasBin_28 : decode cX5_hasBin 28 = .ok (.land, 1) := by decide +kernel
theorem dX5_hasBin_29 : decode cX5_hasBin 29 = .ok (.lconst 0, 1) := by decide +kernel
theorem dX5_hasBin_30 : decode cX5_hasBin 30 = .ok (.lcmp, 1) := by decide +kernel
theorem dX5_hasBin_31 : decode cX5_hasBin 31 = .ok (.ifCond .eq 7, 3) := by decide +kernel
theorem dX5_hasBin_34 : decode cX5_hasBin 34 = .ok (.iconst 1, 1) := by decide +kernel
theorem dX5_hasBin_35 : decode cX5_hasBin 35 = .ok (.goto 4, 3) := by decide +kernel
theorem dX5_hasBin_38 : decode cX5_hasBin 38 = .ok (.iconst 0, 1) := by decide +kernel
theorem dX5_hasBin_39 : decode cX5_hasBin 39 = .ok (.ireturn, 1) := by decide +kernel
theorem dX5_put_0 : decode cX5_put 0 = .ok (.iload_n 1, 1) := by decide +kernel
theorem dX5_put_1 : decode cX5_put 1 = .ok (.bipush 20, 2) := by decide +kernel
theorem dX5_put_3 : decode cX5_put 3 = .ok (.idiv, 1) := by decide +kernel
theorem dX5_put_4 : decode cX5_put 4 = .ok (.istore_n 3, 1) := by decide +kernel
theorem dX5_put_5 : decode cX5_put 5 = .ok (.iload_n 3, 1) := by decide +kernel
theorem dX5_put_6 : decode cX5_put 6 = .ok (.bipush 64, 2) := by decide +kernel
theorem dX5_put_8 : decode cX5_put 8 = .ok (.idiv, 1) := by decide +kernel
theorem dX5_put_9 : decode cX5_put 9 = .ok (.istore 4, 2) := by decide +kernel
theorem dX5_put_11 : decode cX5_put 11 = .ok (.iload_n 3, 1) := by decide +kernel
theorem dX5_put_12 : decode cX5_put 12 = .ok (.ifCond .lt 22, 3) := by decide +kernel
theorem dX5_put_15 : decode cX5_put 15 = .ok (.iload 4, 2) := by decide +kernel
theorem dX5_put_17 : decode cX5_put 17 = .ok (.aload_n 0, 1) := by decide +kernel
theorem dX5_put_18 : decode cX5_put 18 = .ok (.getfield 11, 3) := by decide +kernel
theorem dX5_put_21 : decode cX5_put 21 = .ok (.arraylength, 1) := by decide +kernel
theorem dX5_put_22 : decode cX5_put 22 = .ok (.if_icmp .ge 12, 3) := by decide +kernel
theorem dX5_put_25 : decode cX5_put 25 = .ok (.aload_n 0, 1) := by decide +kernel
theorem dX5_put_26 : decode cX5_put 26 = .ok (.iload_n 3, 1) := by decide +kernel
theorem dX5_put_27 : decode cX5_put 27 = .ok (.invokevirtual 31, 3) := by decide +kernel
theorem dX5_put_30 : decode cX5_put 30 = .ok (.iload_n 2, 1) := by decide +kernel
theorem dX5_put_31 : decode cX5_put 31 = .ok (.if_icmp .ne 4, 3) := by decide +kernel
theorem dX5_put_34 : decode cX5_put 34 = .ok (.return_, 1) := by decide +kernel
theorem dX5_put_35 : decode cX5_put 35 = .ok (.aload_n 0, 1) := by decide +kernel
theorem dX5_put_36 : decode cX5_put 36 = .ok (.getfield 11, 3) := by decide +kernel
theorem dX5_put_39 : decode cX5_put 39 = .ok (.iload 4, 2) := by decide +kernel
theorem dX5_put_41 : decode cX5_put 41 = .ok (.dup2, 1) := by decide +kernel
theorem dX5_put_42 : decode cX5_put 42 = .ok (.laload, 1) := by decide +kernel
theorem dX5_put_43 : decode cX5_put 43 = .ok (.iload_n 3, 1) := by decide +kernel
theorem dX5_put_44 : decode cX5_put 44 = .ok (.invokestatic 35, 3) := by decide +kernel
theorem dX5_put_47 : decode cX5_put 47 = .ok (.lxor, 1) := by decide +kernel
theorem dX5_put_48 : decode cX5_put 48 = .ok (.lastore, 1) := by decide +kernel
theorem dX5_put_49 : decode cX5_put 49 = .ok (.aload_n 0, 1) := by decide +kernel
theorem dX5_put_50 : decode cX5_put 50 = .ok (.dup, 1) := by decide +kernel
theorem dX5_put_51 : decode cX5_put 51 = .ok (.getfield 15, 3) := by decide +kernel
theorem dX5_put_54 : decode cX5_put 54 = .ok (.iload_n 2, 1) := by decide +kernel
theorem dX5_put_55 : decode cX5_put 55 = .ok (.ifCond .eq 7, 3) := by decide +kernel
theorem dX5_put_58 : decode cX5_put 58 = .ok (.iconst 1, 1) := by decide +kernel
theorem dX5_put_59 : decode cX5_put 59 = .ok (.goto 4, 3) := by decide +kernel
theorem dX5_put_62 : decode cX5_put 62 = .ok (.iconst (-1), 1) := by decide +kernel
theorem dX5_put_63 : decode cX5_put 63 = .ok (.iadd, 1) := by decide +kernel
theorem dX5_put_64 : decode cX5_put 64 = .ok (.putfield 15, 3) := by decide +kernel
theorem dX5_put_67 : decode cX5_put 67 = .ok (.return_, 1) := by decide +kernel
theorem dX5_bit_0 : decode cX5_bit 0 = .ok (.lconst 1, 1) := by decide +kernel
theorem dX5_bit_1 : decode cX5_bit 1 = .ok (.iload_n 0, 1) := by decide +kernel
theorem dX5_bit_2 : decode cX5_bit 2 = .ok (.bipush 64, 2) := by decide +kernel
theorem dX5_bit_4 : decode cX5_bit 4 = .ok (.irem, 1) := by decide +kernel
theorem dX5_bit_5 : decode cX5_bit 5 = .ok (.lshl, 1) := by decide +kernel
theorem dX5_bit_6 : decode cX5_bit 6 = .ok (.lreturn, 1) := by decide +kernel
theorem dX5_addToDigest_0 : decode cX5_addToDigest 0 = .ok (.lload_n 1, 1) := by decide +kernel
theorem dX5_addToDigest_1 : decode cX5_addToDigest 1 = .ok (.lstore_n 3, 1) := by decide +kernel
theorem dX5_addToDigest_2 : decode cX5_addToDigest 2 = .ok (.iconst 0, 1) := by decide +kernel
theorem dX5_addToDigest_3 : decode cX5_addToDigest 3 = .ok (.istore 5, 2) := by decide +kernel
theorem dX5_addToDigest_5 : decode cX5_addToDigest 5 = .ok (.iload 5, 2) := by decide +kernel
theorem dX5_addToDigest_7 : decode cX5_addToDigest 7 = .ok (.sipush 501, 3) := by decide +kernel
theorem dX5_addToDigest_10 : decode cX5_addToDigest 10 = .ok (.if_icmp .ge 30, 3) := by decide +kernel
theorem dX5_addToDigest_13 : decode cX5_addToDigest 13 = .ok (.ldc2_w 39, 3) := by decide +kernel
theorem dX5_addToDigest_16 : decode cX5_addToDigest 16 = .ok (.lload_n 3, 1) := by decide +kernel
theorem dX5_addToDigest_17 : decode cX5_addToDigest 17 = .ok (.lmul, 1) := by decide +kernel
theorem dX5_addToDigest_18 : decode cX5_addToDigest 18 = .ok (.aload_n 0, 1) := by decide +kernel
theorem dX5_addToDigest_19 : decode cX5_addToDigest 19 = .ok (.iload 5, 2) := by decide +kernel
theorem dX5_addToDigest_21 : decode cX5_addToDigest 21 = .ok (.invokevirtual 31, 3) := by decide +kernel
theorem dX5_addToDigest_24 : decode cX5_addToDigest 24 = .ok (.ifCond .eq 7, 3) := by decide +kernel
theorem dX5_addToDigest_27 : decode cX5_addToDigest 27 = .ok (.lconst 1, 1) := by decide +kernel
theorem dX5_addToDigest_28 : decode cX5_addToDigest 28 = .ok (.goto 4, 3) := by decide +kernel
theorem dX5_addToDigest_31 : decode cX5_addToDigest 31 = .ok (.lconst 0, 1) := by decide +kernel
theorem dX5_addToDigest_32 : decode cX5_addToDigest 32 = .ok (.ladd, 1) := by decide +kernel
theorem dX5_addToDigest_33 : decode cX5_addToDigest 33 = .ok (.lstore_n 3, 1) := by decide +kernel
theorem dX5_addToDigest_34 : decode cX5_addToDigest 34 = .ok (.iinc 5 1, 3) := by decide +kernel
theorem dX5_addToDigest_37 : decode cX5_addToDigest 37 = .ok (.goto (-32), 3) := by decide +kernel
theorem dX5_addToDigest_40 : decode cX5_addToDigest 40 = .ok (.lload_n 3, 1) := by decide +kernel
theorem dX5_addToDigest_41 : decode cX5_addToDigest 41 = .ok (.lreturn, 1) := by decide +kernel
theorem dX6_init_0 : decode cX6_init 0 = .ok (.aload_n 0, 1) := by decide +kernel
theorem dX6_init_1 : decode cX6_init 1 = .ok (.invokespecial 3, 3) := by decide +kernel
theorem dX6_init_4 : decode cX6_init 4 = .ok (.aload_n 0, 1) := by decide +kernel
theorem dX6_init_5 : decode cX6_init 5 = .ok (.bipush 12, 2) := by decide +kernel
theorem dX6_init_7 : decode cX6_init 7 = .ok (.newarray .int, 2) := by decide +kernel
theorem dX6_init_9 : decode cX6_init 9 = .ok (.putfield 9, 3) := by decide +kernel
theorem dX6_init_12 : decode cX6_init 12 = .ok (.aload_n 0, 1) := by decide +kernel
