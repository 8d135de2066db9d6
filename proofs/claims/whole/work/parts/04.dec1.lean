theorem dX1_init_0 : decode cX1_init 0 = .ok (.aload_n 0, 1) := by decide +kernel
theorem dX1_init_1 : decode cX1_init 1 = .ok (.invokespecial 3, 3) := by decide +kernel
theorem dX1_init_4 : decode cX1_init 4 = .ok (.aload_n 0, 1) := by decide +kernel
theorem dX1_init_5 : decode cX1_init 5 = .ok (.iconst 0, 1) := by decide +kernel
theorem dX1_init_6 : decode cX1_init 6 = .ok (.putfield 9, 3) := by decide +kernel
theorem dX1_init_9 : decode cX1_init 9 = .ok (.aload_n 0, 1) := by decide +kernel
theorem dX1_init_10 : decode cX1_init 10 = .ok (.sipush 150, 3) := by decide +kernel
theorem dX1_init_13 : decode cX1_init 13 = .ok (.newarray .byte, 2) := by decide +kernel
theorem dX1_init_15 : decode cX1_init 15 = .ok (.putfield 15, 3) := by decide +kernel
theorem dX1_init_18 : decode cX1_init 18 = .ok (.aload_n 0, 1) := by decide +kernel
theorem dX1_init_19 : decode cX1_init 19 = .ok (.iconst 0, 1) := by decide +kernel
theorem dX1_init_20 : decode cX1_init 20 = .ok (.putfield 19, 3) := by decide +kernel
theorem dX1_init_23 : decode cX1_init 23 = .ok (.aload_n 0, 1) := by decide +kernel
theorem dX1_init_24 : decode cX1_init 24 = .ok (.aconst_null, 1) := by decide +kernel
theorem dX1_init_25 : decode cX1_init 25 = .ok (.putfield 22, 3) := by decide +kernel
theorem dX1_init_28 : decode cX1_init 28 = .ok (.aload_n 0, 1) := by decide +kernel
theorem dX1_init_29 : decode cX1_init 29 = .ok (.iconst 5, 1) := by decide +kernel
theorem dX1_init_30 : decode cX1_init 30 = .ok (.newarray .int, 2) := by decide +kernel
theorem dX1_init_32 : decode cX1_init 32 = .ok (.putfield 26, 3) := by decide +kernel
theorem dX1_init_35 : decode cX1_init 35 = .ok (.return_, 1) := by decide +kernel
theorem dX1_isFull_0 : decode cX1_isFull 0 = .ok (.aload_n 0, 1) := by decide +kernel
theorem dX1_isFull_1 : decode cX1_isFull 1 = .ok (.getfield 9, 3) := by decide +kernel
theorem dX1_isFull_4 : decode cX1_isFull 4 = .ok (.sipush 150, 3) := by decide +kernel
theorem dX1_isFull_7 : decode cX1_isFull 7 = .ok (.if_icmp .lt 7, 3) := by decide +kernel
theorem dX1_isFull_10 : decode cX1_isFull 10 = .ok (.iconst 1, 1) := by decide +kernel
theorem dX1_isFull_11 : decode cX1_isFull 11 = .ok (.goto 4, 3) := by decide +kernel
theorem dX1_isFull_14 : decode cX1_isFull 14 = .ok (.iconst 0, 1) := by decide +kernel
theorem dX1_isFull_15 : decode cX1_isFull 15 = .ok (.ireturn, 1) := by decide +kernel
theorem dX1_append_0 : decode cX1_append 0 = .ok (.aload_n 0, 1) := by decide +kernel
theorem dX1_append_1 : decode cX1_append 1 = .ok (.getfield 9, 3) := by decide +kernel
theorem dX1_append_4 : decode cX1_append 4 = .ok (.ifCond .lt 36, 3) := by decide +kernel
theorem dX1_append_7 : decode cX1_append 7 = .ok (.aload_n 0, 1) := by decide +kernel
theorem dX1_append_8 : decode cX1_append 8 = .ok (.getfield 9, 3) := by decide +kernel
theorem dX1_append_11 : decode cX1_append 11 = .ok (.aload_n 0, 1) := by decide +kernel
theorem dX1_append_12 : decode cX1_append 12 = .ok (.getfield 15, 3) := by decide +kernel
theorem dX1_append_15 : decode cX1_append 15 = .ok (.arraylength, 1) := by decide +kernel
theorem dX1_append_16 : decode cX1_append 16 = .ok (.if_icmp .ge 24, 3) := by decide +kernel
theorem dX1_append_19 : decode cX1_append 19 = .ok (.aload_n 0, 1) := by decide +kernel
theorem dX1_append_20 : decode cX1_append 20 = .ok (.getfield 15, 3) := by decide +kernel
theorem dX1_append_23 : decode cX1_append 23 = .ok (.aload_n 0, 1) := by decide +kernel
theorem dX1_append_24 : decode cX1_append 24 = .ok (.getfield 9, 3) := by decide +kernel
theorem dX1_append_27 : decode cX1_append 27 = .ok (.iload_n 1, 1) := by decide +kernel
theorem dX1_append_28 : decode cX1_append 28 = .ok (.i2b, 1) := by decide +kernel
theorem dX1_append_29 : decode cX1_append 29 = .ok (.bastore, 1) := by decide +kernel
theorem dX1_append_30 : decode cX1_append 30 = .ok (.aload_n 0, 1) := by decide +kernel
theorem dX1_append_31 : decode cX1_append 31 = .ok (.dup, 1) := by decide +kernel
theorem dX1_append_32 : decode cX1_append 32 = .ok (.getfield 9, 3) := by decide +kernel
theorem dX1_append_35 : decode cX1_append 35 = .ok (.iconst 1, 1) := by decide +kernel
theorem dX1_append_36 : decode cX1_append 36 = .ok (.iadd, 1) := by decide +kernel
theorem dX1_append_37 : decode cX1_append 37 = .ok (.putfield 9, 3) := by decide +kernel
theorem dX1_append_40 : decode cX1_append 40 = .ok (.return_, 1) := by decide +kernel
theorem dX1_number_0 : decode cX1_number 0 = .ok (.iload_n 1, 1) := by decide +kernel
theorem dX1_number_1 : decode cX1_number 1 = .ok (.ifCond .lt 21, 3) := by decide +kernel
theorem dX1_number_4 : decode cX1_number 4 = .ok (.iload_n 1, 1) := by decide +kernel
theorem dX1_number_5 : decode cX1_number 5 = .ok (.aload_n 0, 1) := by decide +kernel
theorem dX1_number_6 : decode cX1_number 6 = .ok (.getfield 26, 3) := by decide +kernel
theorem dX1_number_9 : decode cX1_number 9 = .ok (.arraylength, 1) := by decide +kernel
theorem dX1_number_10 : decode cX1_number 10 = .ok (.if_icmp .ge 12, 3) := by decide +kernel
theorem dX1_number_13 : decode cX1_number 13 = .ok (.aload_n 0, 1) := by decide +kernel
theorem dX1_number_14 : decode cX1_number 14 = .ok (.getfield 26, 3) := by decide +kernel
theorem dX1_number_17 : decode cX1_number 17 = .ok (.iload_n 1, 1) := by decide +kernel
theorem dX1_number_18 : decode cX1_number 18 = .ok (.iaload, 1) := by decide +kernel
theorem dX1_number_19 : decode cX1_number 19 = .ok (.goto 4, 3) := by decide +kernel
theorem dX1_number_22 : decode cX1_number 22 = .ok (.iconst 0, 1) := by decide +kernel
theorem dX1_number_23 : decode cX1_number 23 = .ok (.ireturn, 1) := by decide +kernel
theorem dX1_fault_0 : decode cX1_fault 0 = .ok (.aload_n 0, 1) := by decide +kernel
theorem dX1_fault_1 : decode cX1_fault 1 = .ok (.invokevirtual 30, 3) := by decide +kernel
theorem dX1_fault_4 : decode cX1_fault 4 = .ok (.iconst 0, 1) := by decide +kernel
theorem dX1_fault_5 : decode cX1_fault 5 = .ok (.istore_n 1, 1) := by decide +kernel
theorem dX1_fault_6 : decode cX1_fault 6 = .ok (.iload_n 1, 1) := by decide +kernel
theorem dX1_fault_7 : decode cX1_fault 7 = .ok (.sipush 150, 3) := by decide +kernel
theorem dX1_fault_10 : decode cX1_fault 10 = .ok (.if_icmp .ge 28, 3) := by decide +kernel
theorem dX1_fault_13 : decode cX1_fault 13 = .ok (.aload_n 0, 1) := by decide +kernel
theorem dX1_fault_14 : decode cX1_fault 14 = .ok (.invokevirtual 33, 3) := by decide +kernel
theorem dX1_fault_17 : decode cX1_fault 17 = .ok (.ifCond .eq 21, 3) := by decide +kernel
theorem dX1_fault_20 : decode cX1_fault 20 = .ok (.aload_n 0, 1) := by decide +kernel
theorem dX1_fault_21 : decode cX1_fault 21 = .ok (.invokevirtual 37, 3) := by decide +kernel
theorem dX1_fault_24 : decode cX1_fault 24 = .ok (.ifCond .ne 8, 3) := by decide +kernel
theorem dX1_fault_27 : decode cX1_fault 27 = .ok (.aload_n 0, 1) := by decide +kernel
theorem dX1_fault_28 : decode cX1_fault 28 = .ok (.getfield 19, 3) := by decide +kernel
theorem dX1_fault_31 : decode cX1_fault 31 = .ok (.ireturn, 1) := by decide +kernel
theorem dX1_fault_32 : decode cX1_fault 32 = .ok (.iinc 1 1, 3) := by decide +kernel
theorem dX1_fault_35 : decode cX1_fault 35 = .ok (.goto (-29), 3) := by decide +kernel
theorem dX1_fault_38 : decode cX1_fault 38 = .ok (.iconst (-1), 1) := by decide +kernel
theorem dX1_fault_39 : decode cX1_fault 39 = .ok (.ireturn, 1) := by decide +kernel
theorem dX1_rewind_0 : decode cX1_rewind 0 = .ok (.aload_n 0, 1) := by decide +kernel
theorem dX1_rewind_1 : decode cX1_rewind 1 = .ok (.iconst 0, 1) := by decide +kernel
theorem dX1_rewind_2 : decode cX1_rewind 2 = .ok (.putfield 19, 3) := by decide +kernel
theorem dX1_rewind_5 : decode cX1_rewind 5 = .ok (.return_, 1) := by decide +kernel
theorem dX1_hasMore_0 : decode cX1_hasMore 0 = .ok (.aload_n 0, 1) := by decide +kernel
theorem dX1_hasMore_1 : decode cX1_hasMore 1 = .ok (.invokevirtual 40, 3) := by decide +kernel
theorem dX1_hasMore_4 : decode cX1_hasMore 4 = .ok (.aload_n 0, 1) := by decide +kernel
theorem dX1_hasMore_5 : decode cX1_hasMore 5 = .ok (.getfield 19, 3) := by decide +kernel
theorem dX1_hasMore_8 : decode cX1_hasMore 8 = .ok (.aload_n 0, 1) := by decide +kernel
theorem dX1_hasMore_9 : decode cX1_hasMore 9 = .ok (.getfield 9, 3) := by decide +kernel
theorem dX1_hasMore_12 : decode cX1_hasMore 12 = .ok (.if_icmp .ge 7, 3) := by decide +kernel
theorem dX1_hasMore_15 : decode cX1_hasMore 15 = .ok (.iconst 1, 1) := by decide +kernel
theorem dX1_hasMore_16 : decode cX1_hasMore 16 = .ok (.goto 4, 3) := by decide +kernel
theorem dX1_hasMore_19 : decode cX1_hasMore 19 = .ok (.iconst 0, 1) := by decide +kernel
theorem dX1_hasMore_20 : decode cX1_hasMore 20 = .ok (.ireturn, 1) := by decide +kernel
theorem dX1_readCommand_0 : decode cX1_readCommand 0 = .ok (.aload_n 0, 1) := by decide +kernel
theorem dX1_readCommand_1 : decode cX1_readCommand 1 = .ok (.invokevirtual 43, 3) := by decide +kernel
theorem dX1_readCommand_4 : decode cX1_readCommand 4 = .ok (.ifCond .eq 10, 3) := by decide +kernel
theorem dX1_readCommand_7 : decode cX1_readCommand 7 = .ok (.aload_n 0, 1) := by decide +kernel
theorem dX1_readCommand_8 : decode cX1_readCommand 8 = .ok (.getfield 22, 3) := by decide +kernel
theorem dX1_readCommand_11 : decode cX1_readCommand 11 = .ok (.ifnonnull 5, 3) := by decide +kernel
theorem dX1_readCommand_14 : decode cX1_readCommand 14 = .ok (.iconst 0, 1) := by decide +kernel
theorem dX1_readCommand_15 : decode cX1_readCommand 15 = .ok (.ireturn, 1) := by decide +kernel
theorem dX1_readCommand_16 : decode cX1_readCommand 16 = .ok (.iconst 0, 1) := by decide +kernel
theorem dX1_readCommand_17 : decode cX1_readCommand 17 = .ok (.istore_n 1, 1) := by decide +kernel
theorem dX1_readCommand_18 : decode cX1_readCommand 18 = .ok (.iload_n 1, 1) := by decide +kernel
theorem dX1_readCommand_19 : decode cX1_readCommand 19 = .ok (.aload_n 0, 1) := by decide +kernel
theorem dX1_readCommand_20 : decode cX1_readCommand 20 = .ok (.getfield 22, 3) := by decide +kernel
theorem dX1_readCommand_23 : decode cX1_readCommand 23 = .ok (.getfield 46, 3) := by decide +kernel
theorem dX1_readCommand_26 : decode cX1_readCommand 26 = .ok (.if_icmp .ge 19, 3) := by decide +kernel
theorem dX1_readCommand_29 : decode cX1_readCommand 29 = .ok (.aload_n 0, 1) := by decide +kernel
theorem dX1_readCommand_30 : decode cX1_readCommand 30 = .ok (.iload_n 1, 1) := by decide +kernel
theorem dX1_readCommand_31 : decode cX1_readCommand 31 = .ok (.invokevirtual 50, 3) := by decide +kernel
theorem dX1_readCommand_34 : decode cX1_readCommand 34 = .ok (.ifCond .ne 5, 3) := by decide +kernel
theorem dX1_readCommand_37 : decode cX1_readCommand 37 = .ok (.iconst 0, 1) := by decide +kernel
theorem dX1_readCommand_38 : decode cX1_readCommand 38 = .ok (.ireturn, 1) := by decide +kernel
theorem dX1_readCommand_39 : decode cX1_readCommand 39 = .ok (.iinc 1 1, 3) := by decide +kernel
theorem dX1_readCommand_42 : decode cX1_readCommand 42 = .ok (.goto (-24), 3) := by decide +kernel
theorem dX1_readCommand_45 : decode cX1_readCommand 45 = .ok (.aload_n 0, 1) := by decide +kernel
theorem dX1_readCommand_46 : decode cX1_readCommand 46 = .ok (.invokevirtual 40, 3) := by decide +kernel
theorem dX1_readCommand_49 : decode cX1_readCommand 49 = .ok (.aload_n 0, 1) := by decide +kernel
theorem dX1_readCommand_50 : decode cX1_readCommand 50 = .ok (.aload_n 0, 1) := by decide +kernel
theorem dX1_readCommand_51 : decode cX1_readCommand 51 = .ok (.getfield 19, 3) := by decide +kernel
theorem dX1_readCommand_54 : decode cX1_readCommand 54 = .ok (.invokevirtual 54, 3) := by decide +kernel
theorem dX1_readCommand_57 : decode cX1_readCommand 57 = .ok (.bipush 59, 2) := by decide +kernel
theorem dX1_readCommand_59 : decode cX1_readCommand 59 = .ok (.if_icmp .eq 5, 3) := by decide +kernel
theorem dX1_readCommand_62 : decode cX1_readCommand 62 = .ok (.iconst 0, 1) := by decide +kernel
theorem dX1_readCommand_63 : decode cX1_readCommand 63 = .ok (.ireturn, 1) := by decide +kernel
theorem dX1_readCommand_64 : decode cX1_readCommand 64 = .ok (.aload_n 0, 1) := by decide +kernel
theorem dX1_readCommand_65 : decode cX1_readCommand 65 = .ok (.dup, 1) := by decide +kernel
theorem dX1_readCommand_66 : decode cX1_readCommand 66 = .ok (.getfield 19, 3) := by decide +kernel
theorem dX1_readCommand_69 : decode cX1_readCommand 69 = .ok (.iconst 1, 1) := by decide +kernel
theorem dX1_readCommand_70 : decode cX1_readCommand 70 = .ok (.iadd, 1) := by decide +kernel
theorem dX1_readCommand_71 : decode cX1_readCommand 71 = .ok (.putfield 19, 3) := by decide +kernel
theorem dX1_readCommand_74 : decode cX1_readCommand 74 = .ok (.iconst 1, 1) := by decide +kernel
theorem dX1_readCommand_75 : decode cX1_readCommand 75 = .ok (.ireturn, 1) := by decide +kernel
theorem dX1_readWord_0 : decode cX1_readWord 0 = .ok (.aload_n 0, 1) := by decide +kernel
theorem dX1_readWord_1 : decode cX1_readWord 1 = .ok (.getfield 19, 3) := by decide +kernel
theorem dX1_readWord_4 : decode cX1_readWord 4 = .ok (.istore_n 1, 1) := by decide +kernel
theorem dX1_readWord_5 : decode cX1_readWord 5 = .ok (.aload_n 0, 1) := by decide +kernel
theorem dX1_readWord_6 : decode cX1_readWord 6 = .ok (.getfield 19, 3) := by decide +kernel
theorem dX1_readWord_9 : decode cX1_readWord 9 = .ok (.aload_n 0, 1) := by decide +kernel
theorem dX1_readWord_10 : decode cX1_readWord 10 = .ok (.getfield 9, 3) := by decide +kernel
theorem dX1_readWord_13 : decode cX1_readWord 13 = .ok (.if_icmp .ge 30, 3) := by decide +kernel
theorem dX1_readWord_16 : decode cX1_readWord 16 = .ok (.aload_n 0, 1) := by decide +kernel
theorem dX1_readWord_17 : decode cX1_readWord 17 = .ok (.aload_n 0, 1) := by decide +kernel
theorem dX1_readWord_18 : decode cX1_readWord 18 = .ok (.getfield 19, 3) := by decide +kernel
theorem dX1_readWord_21 : decode cX1_readWord 21 = .ok (.invokevirtual 54, 3) := by decide +kernel
theorem dX1_readWord_24 : decode cX1_readWord 24 = .ok (.invokestatic 58, 3) := by decide +kernel
theorem dX1_readWord_27 : decode cX1_readWord 27 = .ok (.ifCond .eq 16, 3) := by decide +kernel
theorem dX1_readWord_30 : decode cX1_readWord 30 = .ok (.aload_n 0, 1) := by decide +kernel
theorem dX1_readWord_31 : decode cX1_readWord 31 = .ok (.dup, 1) := by decide +kernel
theorem dX1_readWord_32 : decode cX1_readWord 32 = .ok (.getfield 19, 3) := by decide +kernel
theorem dX1_readWord_35 : decode cX1_readWord 35 = .ok (.iconst 1, 1) := by decide +kernel
theorem dX1_readWord_36 : decode cX1_readWord 36 = .ok (.iadd, 1) := by decide +kernel
theorem dX1_readWord_37 : decode cX1_readWord 37 = .ok (.putfield 19, 3) := by decide +kernel
theorem dX1_readWord_40 : decode cX1_readWord 40 = .ok (.goto (-35), 3) := by decide +kernel
theorem dX1_readWord_43 : decode cX1_readWord 43 = .ok (.aload_n 0, 1) := by decide +kernel
theorem dX1_readWord_44 : decode cX1_readWord 44 = .ok (.aload_n 0, 1) := by decide +kernel
theorem dX1_readWord_45 : decode cX1_readWord 45 = .ok (.iload_n 1, 1) := by decide +kernel
theorem dX1_readWord_46 : decode cX1_readWord 46 = .ok (.aload_n 0, 1) := by decide +kernel
theorem dX1_readWord_47 : decode cX1_readWord 47 = .ok (.getfield 19, 3) := by decide +kernel
theorem dX1_readWord_50 : decode cX1_readWord 50 = .ok (.invokevirtual 61, 3) := by decide +kernel
theorem dX1_readWord_53 : decode cX1_readWord 53 = .ok (.putfield 22, 3) := by decide +kernel
theorem dX1_readWord_56 : decode cX1_readWord 56 = .ok (.aload_n 0, 1) := by decide +kernel
theorem dX1_readWord_57 : decode cX1_readWord 57 = .ok (.getfield 22, 3) := by decide +kernel
theorem dX1_readWord_60 : decode cX1_readWord 60 = .ok (.ifnonnull 10, 3) := by decide +kernel
theorem dX1_readWord_63 : decode cX1_readWord 63 = .ok (.aload_n 0, 1) := by decide +kernel
theorem dX1_readWord_64 : decode cX1_readWord 64 = .ok (.iload_n 1, 1) := by decide +kernel
theorem dX1_readWord_65 : decode cX1_readWord 65 = .ok (.putfield 19, 3) := by decide +kernel
theorem dX1_readWord_68 : decode cX1_readWord 68 = .ok (.iconst 0, 1) := by decide +kernel
theorem dX1_readWord_69 : decode cX1_readWord 69 = .ok (.ireturn, 1) := by decide +kernel
theorem dX1_readWord_70 : decode cX1_readWord 70 = .ok (.iconst 1, 1) := by decide +kernel
theorem dX1_readWord_71 : decode cX1_readWord 71 = .ok (.ireturn, 1) := by decide +kernel
theorem dX1_readNumber_0 : decode cX1_readNumber 0 = .ok (.aload_n 0, 1) := by decide +kernel
theorem dX1_readNumber_1 : decode cX1_readNumber 1 = .ok (.getfield 19, 3) := by decide +kernel
theorem dX1_readNumber_4 : decode cX1_readNumber 4 = .ok (.istore_n 2, 1) := by decide +kernel
theorem dX1_readNumber_5 : decode cX1_readNumber 5 = .ok (.aload_n 0, 1) := by decide +kernel
theorem dX1_readNumber_6 : decode cX1_readNumber 6 = .ok (.invokevirtual 40, 3) := by decide +kernel
theorem dX1_readNumber_9 : decode cX1_readNumber 9 = .ok (.aload_n 0, 1) := by decide +kernel
theorem dX1_readNumber_10 : decode cX1_readNumber 10 = .ok (.getfield 19, 3) := by decide +kernel
theorem dX1_readNumber_13 : decode cX1_readNumber 13 = .ok (.iload_n 2, 1) := by decide +kernel
theorem dX1_readNumber_14 : decode cX1_readNumber 14 = .ok (.if_icmp .eq 30, 3) := by decide +kernel
theorem dX1_readNumber_17 : decode cX1_readNumber 17 = .ok (.aload_n 0, 1) := by decide +kernel
theorem dX1_readNumber_18 : decode cX1_readNumber 18 = .ok (.aload_n 0, 1) := by decide +kernel
theorem dX1_readNumber_19 : decode cX1_readNumber 19 = .ok (.getfield 19, 3) := by decide +kernel
theorem dX1_readNumber_22 : decode cX1_readNumber 22 = .ok (.invokevirtual 54, 3) := by decide +kernel
theorem dX1_readNumber_25 : decode cX1_readNumber 25 = .ok (.invokestatic 65, 3) := by decide +kernel
theorem dX1_readNumber_28 : decode cX1_readNumber 28 = .ok (.ifCond .eq 16, 3) := by decide +kernel
theorem dX1_readNumber_31 : decode cX1_readNumber 31 = .ok (.iload_n 1, 1) := by decide +kernel
theorem dX1_readNumber_32 : decode cX1_readNumber 32 = .ok (.ifCond .lt 12, 3) := by decide +kernel
theorem dX1_readNumber_35 : decode cX1_readNumber 35 = .ok (.iload_n 1, 1) := by decide +kernel
theorem dX1_readNumber_36 : decode cX1_readNumber 36 = .ok (.aload_n 0, 1) := by decide +kernel
theorem dX1_readNumber_37 : decode cX1_readNumber 37 = .ok (.getfield 26, 3) := by decide +kernel
theorem dX1_readNumber_40 : decode cX1_readNumber 40 = .ok (.arraylength, 1) := by decide +kernel
theorem dX1_readNumber_41 : decode cX1_readNumber 41 = .ok (.if_icmp .lt 5, 3) := by decide +kernel
theorem dX1_readNumber_44 : decode cX1_readNumber 44 = .ok (.iconst 0, 1) := by decide +kernel
theorem dX1_readNumber_45 : decode cX1_readNumber 45 = .ok (.ireturn, 1) := by decide +kernel
theorem dX1_readNumber_46 : decode cX1_readNumber 46 = .ok (.iconst 0, 1) := by decide +kernel
theorem dX1_readNumber_47 : decode cX1_readNumber 47 = .ok (.istore_n 3, 1) := by decide +kernel
theorem dX1_readNumber_48 : decode cX1_readNumber 48 = .ok (.iconst 0, 1) := by decide +kernel
theorem dX1_readNumber_49 : decode cX1_readNumber 49 = .ok (.istore 4, 2) := by decide +kernel
theorem dX1_readNumber_51 : decode cX1_readNumber 51 = .ok (.iload 4, 2) := by decide +kernel
theorem dX1_readNumber_53 : decode cX1_readNumber 53 = .ok (.iconst 5, 1) := by decide +kernel
theorem dX1_readNumber_54 : decode cX1_readNumber 54 = .ok (.if_icmp .ge 50, 3) := by decide +kernel
theorem dX1_readNumber_57 : decode cX1_readNumber 57 = .ok (.aload_n 0, 1) := by decide +kernel
theorem dX1_readNumber_58 : decode cX1_readNumber 58 = .ok (.aload_n 0, 1) := by decide +kernel
theorem dX1_readNumber_59 : decode cX1_readNumber 59 = .ok (.getfield 19, 3) := by decide +kernel
theorem dX1_readNumber_62 : decode cX1_readNumber 62 = .ok (.invokevirtual 54, 3) := by decide +kernel
theorem dX1_readNumber_65 : decode cX1_readNumber 65 = .ok (.invokestatic 65, 3) := by decide +kernel
theorem dX1_readNumber_68 : decode cX1_readNumber 68 = .ok (.ifCond .eq 36, 3) := by decide +kernel
theorem dX1_readNumber_71 : decode cX1_readNumber 71 = .ok (.bipush 10, 2) := by decide +kernel
theorem dX1_readNumber_73 : decode cX1_readNumber 73 = .ok (.iload_n 3, 1) := by decide +kernel
theorem dX1_readNumber_74 : decode cX1_readNumber 74 = .ok (.imul, 1) := by decide +kernel
theorem dX1_readNumber_75 : decode cX1_readNumber 75 = .ok (.aload_n 0, 1) := by decide +kernel
theorem dX1_readNumber_76 : decode cX1_readNumber 76 = .ok (.aload_n 0, 1) := by decide +kernel
theorem dX1_readNumber_77 : decode cX1_readNumber 77 = .ok (.getfield 19, 3) := by decide +kernel
theorem dX1_readNumber_80 : decode cX1_readNumber 80 = .ok (.invokevirtual 54, 3) := by decide +kernel
theorem dX1_readNumber_83 : decode cX1_readNumber 83 = .ok (.iadd, 1) := by decide +kernel
theorem dX1_readNumber_84 : decode cX1_readNumber 84 = .ok (.bipush 48, 2) := by decide +kernel
theorem dX1_readNumber_86 : decode cX1_readNumber 86 = .ok (.isub, 1) := by decide +kernel
theorem dX1_readNumber_87 : decode cX1_readNumber 87 = .ok (.istore_n 3, 1) := by decide +kernel
theorem dX1_readNumber_88 : decode cX1_readNumber 88 = .ok (.aload_n 0, 1) := by decide +kernel
theorem dX1_readNumber_89 : decode cX1_readNumber 89 = .ok (.dup, 1) := by decide +kernel
theorem dX1_readNumber_90 : decode cX1_readNumber 90 = .ok (.getfield 19, 3) := by decide +kernel
theorem dX1_readNumber_93 : decode cX1_readNumber 93 = .ok (.iconst 1, 1) := by decide +kernel
theorem dX1_readNumber_94 : decode cX1_readNumber 94 = .ok (.iadd, 1) := by decide +kernel
theorem dX1_readNumber_95 : decode cX1_readNumber 95 = .ok (.putfield 19, 3) := by decide +kernel
theorem dX1_readNumber_98 : decode cX1_readNumber 98 = .ok (.iinc 4 1, 3) := by decide +kernel
theorem dX1_readNumber_101 : decode cX1_readNumber 101 = .ok (.goto (-50), 3) := by decide +kernel
theorem dX1_readNumber_104 : decode cX1_readNumber 104 = .ok (.aload_n 0, 1) := by decide +kernel
theorem dX1_readNumber_105 : decode cX1_readNumber 105 = .ok (.getfield 26, 3) := by decide +kernel
theorem dX1_readNumber_108 : decode cX1_readNumber 108 = .ok (.iload_n 1, 1) := by decide +kernel
theorem dX1_readNumber_109 : decode cX1_readNumber 109 = .ok (.iload_n 3, 1) := by decide +kernel
theorem dX1_readNumber_110 : decode cX1_readNumber 110 = .ok (.iastore, 1) := by decide +kernel
theorem dX1_readNumber_111 : decode cX1_readNumber 111 = .ok (.iconst 1, 1) := by decide +kernel
theorem dX1_readNumber_112 : decode cX1_readNumber 112 = .ok (.ireturn, 1) := by decide +kernel
theorem dX1_skipSpaces_0 : decode cX1_skipSpaces 0 = .ok (.aload_n 0, 1) := by decide +kernel
theorem dX1_skipSpaces_1 : decode cX1_skipSpaces 1 = .ok (.getfield 19, 3) := by decide +kernel
theorem dX1_skipSpaces_4 : decode cX1_skipSpaces 4 = .ok (.aload_n 0, 1) := by decide +kernel
theorem dX1_skipSpaces_5 : decode cX1_skipSpaces 5 = .ok (.getfield 9, 3) := by decide +kernel
theorem dX1_skipSpaces_8 : decode cX1_skipSpaces 8 = .ok (.if_icmp .ge 29, 3) := by decide +kernel
theorem dX1_skipSpaces_11 : decode cX1_skipSpaces 11 = .ok (.aload_n 0, 1) := by decide +kernel
theorem dX1_skipSpaces_12 : decode cX1_skipSpaces 12 = .ok (.aload_n 0, 1) := by decide +kernel
theorem dX1_skipSpaces_13 : decode cX1_skipSpaces 13 = .ok (.getfield 19, 3) := by decide +kernel
theorem dX1_skipSpaces_16 : decode cX1_skipSpaces 16 = .ok (.invokevirtual 54, 3) := by decide +kernel
theorem dX1_skipSpaces_19 : decode cX1_skipSpaces 19 = .ok (.bipush 32, 2) := by decide +kernel
theorem dX1_skipSpaces_21 : decode cX1_skipSpaces 21 = .ok (.if_icmp .ne 16, 3) := by decide +kernel
theorem dX1_skipSpaces_24 : decode cX1_skipSpaces 24 = .ok (.aload_n 0, 1) := by decide +kernel
theorem dX1_skipSpaces_25 : decode cX1_skipSpaces 25 = .ok (.dup, 1) := by decide +kernel
theorem dX1_skipSpaces_26 : decode cX1_skipSpaces 26 = .ok (.getfield 19, 3) := by decide +kernel
theorem dX1_skipSpaces_29 : decode cX1_skipSpaces 29 = .ok (.iconst 1, 1) := by decide +kernel
theorem dX1_skipSpaces_30 : decode cX1_skipSpaces 30 = .ok (.iadd, 1) := by decide +kernel
theorem dX1_skipSpaces_31 : decode cX1_skipSpaces 31 = .ok (.putfield 19, 3) := by decide +kernel
theorem dX1_skipSpaces_34 : decode cX1_skipSpaces 34 = .ok (.goto (-34), 3) := by decide +kernel
theorem dX1_skipSpaces_37 : decode cX1_skipSpaces 37 = .ok (.return_, 1) := by decide +kernel
theorem dX1_byteAt_0 : decode cX1_byteAt 0 = .ok (.iload_n 1, 1) := by decide +kernel
theorem dX1_byteAt_1 : decode cX1_byteAt 1 = .ok (.ifCond .lt 29, 3) := by decide +kernel
theorem dX1_byteAt_4 : decode cX1_byteAt 4 = .ok (.iload_n 1, 1) := by decide +kernel
theorem dX1_byteAt_5 : decode cX1_byteAt 5 = .ok (.aload_n 0, 1) := by decide +kernel
theorem dX1_byteAt_6 : decode cX1_byteAt 6 = .ok (.getfield 9, 3) := by decide +kernel
theorem dX1_byteAt_9 : decode cX1_byteAt 9 = .ok (.if_icmp .ge 21, 3) := by decide +kernel
theorem dX1_byteAt_12 : decode cX1_byteAt 12 = .ok (.iload_n 1, 1) := by decide +kernel
theorem dX1_byteAt_13 : decode cX1_byteAt 13 = .ok (.aload_n 0, 1) := by decide +kernel
theorem dX1_byteAt_14 : decode cX1_byteAt 14 = .ok (.getfield 15, 3) := by decide +kernel
theorem dX1_byteAt_17 : decode cX1_byteAt 17 = .ok (.arraylength, 1) := by decide +kernel
theorem dX1_byteAt_18 : decode cX1_byteAt 18 = .ok (.if_icmp .ge 12, 3) := by decide +kernel
theorem dX1_byteAt_21 : decode cX1_byteAt 21 = .ok (.aload_n 0, 1) := by decide +kernel
theorem dX1_byteAt_22 : decode cX1_byteAt 22 = .ok (.getfield 15, 3) := by decide +kernel
theorem dX1_byteAt_25 : decode cX1_byteAt 25 = .ok (.iload_n 1, 1) := by decide +kernel
theorem dX1_byteAt_26 : decode cX1_byteAt 26 = .ok (.baload, 1) := by decide +kernel
theorem dX1_byteAt_27 : decode cX1_byteAt 27 = .ok (.goto 4, 3) := by decide +kernel
theorem dX1_byteAt_30 : decode cX1_byteAt 30 = .ok (.iconst (-1), 1) := by decide +kernel
theorem dX1_byteAt_31 : decode cX1_byteAt 31 = .ok (.ireturn, 1) := by decide +kernel
theorem dX1_wordBetween_0 : decode cX1_wordBetween 0 = .ok (.iconst 0, 1) := by decide +kernel
theorem dX1_wordBetween_1 : decode cX1_wordBetween 1 = .ok (.istore_n 3, 1) := by decide +kernel
theorem dX1_wordBetween_2 : decode cX1_wordBetween 2 = .ok (.iload_n 3, 1) := by decide +kernel
theorem dX1_wordBetween_3 : decode cX1_wordBetween 3 = .ok (.getstatic 68, 3) := by decide +kernel
theorem dX1_wordBetween_6 : decode cX1_wordBetween 6 = .ok (.arraylength, 1) := by decide +kernel
theorem dX1_wordBetween_7 : decode cX1_wordBetween 7 = .ok (.if_icmp .ge 40, 3) := by decide +kernel
theorem dX1_wordBetween_10 : decode cX1_wordBetween 10 = .ok (.getstatic 68, 3) := by decide +kernel
theorem dX1_wordBetween_13 : decode cX1_wordBetween 13 = .ok (.iload_n 3, 1) := by decide +kernel
theorem dX1_wordBetween_14 : decode cX1_wordBetween 14 = .ok (.aaload, 1) := by decide +kernel
theorem dX1_wordBetween_15 : decode cX1_wordBetween 15 = .ok (.ifnull 26, 3) := by decide +kernel
theorem dX1_wordBetween_18 : decode cX1_wordBetween 18 = .ok (.aload_n 0, 1) := by decide +kernel
theorem dX1_wordBetween_19 : decode cX1_wordBetween 19 = .ok (.getstatic 68, 3) := by decide +kernel
theorem dX1_wordBetween_22 : decode cX1_wordBetween 22 = .ok (.iload_n 3, 1) := by decide +kernel
theorem dX1_wordBetween_23 : decode cX1_wordBetween 23 = .ok (.aaload, 1) := by decide +kernel
theorem dX1_wordBetween_24 : decode cX1_wordBetween 24 = .ok (.getfield 72, 3) := by decide +kernel
theorem dX1_wordBetween_27 : decode cX1_wordBetween 27 = .ok (.iload_n 1, 1) := by decide +kernel
theorem dX1_wordBetween_28 : decode cX1_wordBetween 28 = .ok (.iload_n 2, 1) := by decide +kernel
theorem dX1_wordBetween_29 : decode cX1_wordBetween 29 = .ok (.invokevirtual 76, 3) := by decide +kernel
theorem dX1_wordBetween_32 : decode cX1_wordBetween 32 = .ok (.ifCond .eq 9, 3) := by decide +kernel
theorem dX1_wordBetween_35 : decode cX1_wordBetween 35 = .ok (.getstatic 68, 3) := by decide +kernel
theorem dX1_wordBetween_38 : decode cX1_wordBetween 38 = .ok (.iload_n 3, 1) := by decide +kernel
theorem dX1_wordBetween_39 : decode cX1_wordBetween 39 = .ok (.aaload, 1) := by decide +kernel
theorem dX1_wordBetween_40 : decode cX1_wordBetween 40 = .ok (.areturn, 1) := by decide +kernel
theorem dX1_wordBetween_41 : decode cX1_wordBetween 41 = .ok (.iinc 3 1, 3) := by decide +kernel
theorem dX1_wordBetween_44 : decode cX1_wordBetween 44 = .ok (.goto (-42), 3) := by decide +kernel
theorem dX1_wordBetween_47 : decode cX1_wordBetween 47 = .ok (.aconst_null, 1) := by decide +kernel
theorem dX1_wordBetween_48 : decode cX1_wordBetween 48 = .ok (.areturn, 1) := by decide +kernel
theorem dX1_standsAt_0 : decode cX1_standsAt 0 = .ok (.aload_n 1, 1) := by decide +kernel
theorem dX1_standsAt_1 : decode cX1_standsAt 1 = .ok (.invokevirtual 80, 3) := by decide +kernel
theorem dX1_standsAt_4 : decode cX1_standsAt 4 = .ok (.iload_n 3, 1) := by decide +kernel
theorem dX1_standsAt_5 : decode cX1_standsAt 5 = .ok (.iload_n 2, 1) := by decide +kernel
theorem dX1_standsAt_6 : decode cX1_standsAt 6 = .ok (.isub, 1) := by decide +kernel
theorem dX1_standsAt_7 : decode cX1_standsAt 7 = .ok (.if_icmp .eq 5, 3) := by decide +kernel
theorem dX1_standsAt_10 : decode cX1_standsAt 10 = .ok (.iconst 0, 1) := by decide +kernel
theorem dX1_standsAt_11 : decode cX1_standsAt 11 = .ok (.ireturn, 1) := by decide +kernel
theorem dX1_standsAt_12 : decode cX1_standsAt 12 = .ok (.iconst 0, 1) := by decide +kernel
theorem dX1_standsAt_13 : decode cX1_standsAt 13 = .ok (.istore 4, 2) := by decide +kernel
theorem dX1_standsAt_15 : decode cX1_standsAt 15 = .ok (.iload 4, 2) := by decide +kernel
theorem dX1_standsAt_17 : decode cX1_standsAt 17 = .ok (.aload_n 1, 1) := by decide +kernel
theorem dX1_standsAt_18 : decode cX1_standsAt 18 = .ok (.invokevirtual 80, 3) := by decide +kernel
theorem dX1_standsAt_21 : decode cX1_standsAt 21 = .ok (.if_icmp .ge 28, 3) := by decide +kernel
theorem dX1_standsAt_24 : decode cX1_standsAt 24 = .ok (.aload_n 1, 1) := by decide +kernel
theorem dX1_standsAt_25 : decode cX1_standsAt 25 = .ok (.iload 4, 2) := by decide +kernel
theorem dX1_standsAt_27 : decode cX1_standsAt 27 = .ok (.invokevirtual 85, 3) := by decide +kernel
theorem dX1_standsAt_30 : decode cX1_standsAt 30 = .ok (.aload_n 0, 1) := by decide +kernel
theorem dX1_standsAt_31 : decode cX1_standsAt 31 = .ok (.iload_n 2, 1) := by decide +kernel
theorem dX1_standsAt_32 : decode cX1_standsAt 32 = .ok (.iload 4, 2) := by decide +kernel
theorem dX1_standsAt_34 : decode cX1_standsAt 34 = .ok (.iadd, 1) := by decide +kernel
theorem dX1_standsAt_35 : decode cX1_standsAt 35 = .ok (.invokevirtual 54, 3) := by decide +kernel
theorem dX1_standsAt_38 : decode cX1_standsAt 38 = .ok (.if_icmp .eq 5, 3) := by decide +kernel
theorem dX1_standsAt_41 : decode cX1_standsAt 41 = .ok (.iconst 0, 1) := by decide +kernel
theorem dX1_standsAt_42 : decode cX1_standsAt 42 = .ok (.ireturn, 1) := by decide +kernel
theorem dX1_standsAt_43 : decode cX1_standsAt 43 = .ok (.iinc 4 1, 3) := by decide +kernel
theorem dX1_standsAt_46 : decode cX1_standsAt 46 = .ok (.goto (-31), 3) := by decide +kernel
theorem dX1_standsAt_49 : decode cX1_standsAt 49 = .ok (.iconst 1, 1) := by decide +kernel
theorem dX1_standsAt_50 : decode cX1_standsAt 50 = .ok (.ireturn, 1) := by decide +kernel
theorem dX1_isLetter_0 : decode cX1_isLetter 0 = .ok (.iload_n 0, 1) := by decide +kernel
theorem dX1_isLetter_1 : decode cX1_isLetter 1 = .ok (.bipush 97, 2) := by decide +kernel
theorem dX1_isLetter_3 : decode cX1_isLetter 3 = .ok (.if_icmp .lt 13, 3) := by decide +kernel
theorem dX1_isLetter_6 : decode cX1_isLetter 6 = .ok (.iload_n 0, 1) := by decide +kernel
theorem dX1_isLetter_7 : decode cX1_isLetter 7 = .ok (.bipush 122, 2) := by decide +kernel
theorem dX1_isLetter_9 : decode cX1_isLetter 9 = .ok (.if_icmp .gt 7, 3) := by decide +kernel
theorem dX1_isLetter_12 : decode cX1_isLetter 12 = .ok (.iconst 1, 1) := by decide +kernel
theorem dX1_isLetter_13 : decode cX1_isLetter 13 = .ok (.goto 4, 3) := by decide +kernel
theorem dX1_isLetter_16 : decode cX1_isLetter 16 = .ok (.iconst 0, 1) := by decide +kernel
theorem dX1_isLetter_17 : decode cX1_isLetter 17 = .ok (.ireturn, 1) := by decide +kernel
theorem dX1_isDigit_0 : decode cX1_isDigit 0 = .ok (.iload_n 0, 1) := by decide +kernel
theorem dX1_isDigit_1 : decode cX1_isDigit 1 = .ok (.bipush 48, 2) := by decide +kernel
theorem dX1_isDigit_3 : decode cX1_isDigit 3 = .ok (.if_icmp .lt 13, 3) := by decide +kernel
theorem dX1_isDigit_6 : decode cX1_isDigit 6 = .ok (.iload_n 0, 1) := by decide +kernel
theorem dX1_isDigit_7 : decode cX1_isDigit 7 = .ok (.bipush 57, 2) := by decide +kernel
theorem dX1_isDigit_9 : decode cX1_isDigit 9 = .ok (.if_icmp .gt 7, 3) := by decide +kernel
theorem dX1_isDigit_12 : decode cX1_isDigit 12 = .ok (.iconst 1, 1) := by decide +kernel
theorem dX1_isDigit_13 : decode cX1_isDigit 13 = .ok (.goto 4, 3) := by decide +kernel
theorem dX1_isDigit_16 : decode cX1_isDigit 16 = .ok (.iconst 0, 1) := by decide +kernel
theorem dX1_isDigit_17 : decode cX1_isDigit 17 = .ok (.ireturn, 1) := by decide +kernel
theorem dX2_init_0 : decode cX2_init 0 = .ok (.aload_n 0, 1) := by decide +kernel
theorem dX2_init_1 : decode cX2_init 1 = .ok (.invokespecial 3, 3) := by decide +kernel
theorem dX2_init_4 : decode cX2_init 4 = .ok (.aload_n 0, 1) := by decide +kernel
theorem dX2_init_5 : decode cX2_init 5 = .ok (.iconst 0, 1) := by decide +kernel
theorem dX2_init_6 : decode cX2_init 6 = .ok (.putfield 9, 3) := by decide +kernel
theorem dX2_init_9 : decode cX2_init 9 = .ok (.aload_n 0, 1) := by decide +kernel
theorem dX2_init_10 : decode cX2_init 10 = .ok (.bipush 15, 2) := by decide +kernel
theorem dX2_init_12 : decode cX2_init 12 = .ok (.newarray .int, 2) := by decide +kernel
theorem dX2_init_14 : decode cX2_init 14 = .ok (.putfield 15, 3) := by decide +kernel
theorem dX2_init_17 : decode cX2_init 17 = .ok (.return_, 1) := by decide +kernel
theorem dX2_reset_0 : decode cX2_reset 0 = .ok (.aload_n 0, 1) := by decide +kernel
theorem dX2_reset_1 : decode cX2_reset 1 = .ok (.iconst 0, 1) := by decide +kernel
theorem dX2_reset_2 : decode cX2_reset 2 = .ok (.putfield 9, 3) := by decide +kernel
theorem dX2_reset_5 : decode cX2_reset 5 = .ok (.return_, 1) := by decide +kernel
theorem dX2_copyFrom_0 : decode cX2_copyFrom 0 = .ok (.aload_n 0, 1) := by decide +kernel
theorem dX2_copyFrom_1 : decode cX2_copyFrom 1 = .ok (.aload_n 1, 1) := by decide +kernel
theorem dX2_copyFrom_2 : decode cX2_copyFrom 2 = .ok (.getfield 9, 3) := by decide +kernel
theorem dX2_copyFrom_5 : decode cX2_copyFrom 5 = .ok (.putfield 9, 3) := by decide +kernel
theorem dX2_copyFrom_8 : decode cX2_copyFrom 8 = .ok (.aload_n 1, 1) := by decide +kernel
theorem dX2_copyFrom_9 : decode cX2_copyFrom 9 = .ok (.getfield 15, 3) := by decide +kernel
theorem dX2_copyFrom_12 : decode cX2_copyFrom 12 = .ok (.aload_n 0, 1) := by decide +kernel
theorem dX2_copyFrom_13 : decode cX2_copyFrom 13 = .ok (.getfield 15, 3) := by decide +kernel
theorem dX2_copyFrom_16 : decode cX2_copyFrom 16 = .ok (.invokestatic 19, 3) := by decide +kernel
theorem dX2_copyFrom_19 : decode cX2_copyFrom 19 = .ok (.return_, 1) := by decide +kernel
theorem dX2_takeCandidates_0 : decode cX2_takeCandidates 0 = .ok (.aload_n 0, 1) := by decide +kernel
theorem dX2_takeCandidates_1 : decode cX2_takeCandidates 1 = .ok (.iconst 0, 1) := by decide +kernel
theorem dX2_takeCandidates_2 : decode cX2_takeCandidates 2 = .ok (.putfield 9, 3) := by decide +kernel
theorem dX2_takeCandidates_5 : decode cX2_takeCandidates 5 = .ok (.iconst 0, 1) := by decide +kernel
theorem dX2_takeCandidates_6 : decode cX2_takeCandidates 6 = .ok (.istore_n 2, 1) := by decide +kernel
theorem dX2_takeCandidates_7 : decode cX2_takeCandidates 7 = .ok (.iload_n 2, 1) := by decide +kernel
theorem dX2_takeCandidates_8 : decode cX2_takeCandidates 8 = .ok (.aload_n 1, 1) := by decide +kernel
theorem dX2_takeCandidates_9 : decode cX2_takeCandidates 9 = .ok (.getfield 23, 3) := by decide +kernel
theorem dX2_takeCandidates_12 : decode cX2_takeCandidates 12 = .ok (.if_icmp .ge 54, 3) := by decide +kernel
theorem dX2_takeCandidates_15 : decode cX2_takeCandidates 15 = .ok (.aload_n 1, 1) := by decide +kernel
theorem dX2_takeCandidates_16 : decode cX2_takeCandidates 16 = .ok (.iload_n 2, 1) := by decide +kernel
theorem dX2_takeCandidates_17 : decode cX2_takeCandidates 17 = .ok (.iconst 1, 1) := by decide +kernel
theorem dX2_takeCandidates_18 : decode cX2_takeCandidates 18 = .ok (.invokevirtual 26, 3) := by decide +kernel
theorem dX2_takeCandidates_21 : decode cX2_takeCandidates 21 = .ok (.ifCond .eq 39, 3) := by decide +kernel
theorem dX2_takeCandidates_24 : decode cX2_takeCandidates 24 = .ok (.aload_n 0, 1) := by decide +kernel
theorem dX2_takeCandidates_25 : decode cX2_takeCandidates 25 = .ok (.getfield 9, 3) := by decide +kernel
theorem dX2_takeCandidates_28 : decode cX2_takeCandidates 28 = .ok (.aload_n 0, 1) := by decide +kernel
theorem dX2_takeCandidates_29 : decode cX2_takeCandidates 29 = .ok (.getfield 15, 3) := by decide +kernel
theorem dX2_takeCandidates_32 : decode cX2_takeCandidates 32 = .ok (.arraylength, 1) := by decide +kernel
theorem dX2_takeCandidates_33 : decode cX2_takeCandidates 33 = .ok (.if_icmp .ge 27, 3) := by decide +kernel
theorem dX2_takeCandidates_36 : decode cX2_takeCandidates 36 = .ok (.aload_n 0, 1) := by decide +kernel
theorem dX2_takeCandidates_37 : decode cX2_takeCandidates 37 = .ok (.getfield 15, 3) := by decide +kernel
theorem dX2_takeCandidates_40 : decode cX2_takeCandidates 40 = .ok (.aload_n 0, 1) := by decide +kernel
theorem dX2_takeCandidates_41 : decode cX2_takeCandidates 41 = .ok (.getfield 9, 3) := by decide +kernel
theorem dX2_takeCandidates_44 : decode cX2_takeCandidates 44 = .ok (.aload_n 1, 1) := by decide +kernel
theorem dX2_takeCandidates_45 : decode cX2_takeCandidates 45 = .ok (.iload_n 2, 1) := by decide +kernel
theorem dX2_takeCandidates_46 : decode cX2_takeCandidates 46 = .ok (.invokevirtual 30, 3) := by decide +kernel
theorem dX2_takeCandidates_49 : decode cX2_takeCandidates 49 = .ok (.iastore, 1) := by decide +kernel
theorem dX2_takeCandidates_50 : decode cX2_takeCandidates 50 = .ok (.aload_n 0, 1) := by decide +kernel
theorem dX2_takeCandidates_51 : decode cX2_takeCandidates 51 = .ok (.dup, 1) := by decide +kernel
theorem dX2_takeCandidates_52 : decode cX2_takeCandidates 52 = .ok (.getfield 9, 3) := by decide +kernel
theorem dX2_takeCandidates_55 : decode cX2_takeCandidates 55 = .ok (.iconst 1, 1) := by decide +kernel
theorem dX2_takeCandidates_56 : decode cX2_takeCandidates 56 = .ok (.iadd, 1) := by decide +kernel
theorem dX2_takeCandidates_57 : decode cX2_takeCandidates 57 = .ok (.putfield 9, 3) := by decide +kernel
theorem dX2_takeCandidates_60 : decode cX2_takeCandidates 60 = .ok (.iinc 2 1, 3) := by decide +kernel
theorem dX2_takeCandidates_63 : decode cX2_takeCandidates 63 = .ok (.goto (-56), 3) := by decide +kernel
theorem dX2_takeCandidates_66 : decode cX2_takeCandidates 66 = .ok (.return_, 1) := by decide +kernel
theorem dX2_hasNear_0 : decode cX2_hasNear 0 = .ok (.iconst 0, 1) := by decide +kernel
theorem dX2_hasNear_1 : decode cX2_hasNear 1 = .ok (.istore_n 2, 1) := by decide +kernel
theorem dX2_hasNear_2 : decode cX2_hasNear 2 = .ok (.iload_n 2, 1) := by decide +kernel
theorem dX2_hasNear_3 : decode cX2_hasNear 3 = .ok (.aload_n 0, 1) := by decide +kernel
theorem dX2_hasNear_4 : decode cX2_hasNear 4 = .ok (.getfield 9, 3) := by decide +kernel
theorem dX2_hasNear_7 : decode cX2_hasNear 7 = .ok (.if_icmp .ge 36, 3) := by decide +kernel
theorem dX2_hasNear_10 : decode cX2_hasNear 10 = .ok (.iload_n 2, 1) := by decide +kernel
theorem dX2_hasNear_11 : decode cX2_hasNear 11 = .ok (.aload_n 0, 1) := by decide +kernel
theorem dX2_hasNear_12 : decode cX2_hasNear 12 = .ok (.getfield 15, 3) := by decide +kernel
theorem dX2_hasNear_15 : decode cX2_hasNear 15 = .ok (.arraylength, 1) := by decide +kernel
theorem dX2_hasNear_16 : decode cX2_hasNear 16 = .ok (.if_icmp .ge 27, 3) := by decide +kernel
theorem dX2_hasNear_19 : decode cX2_hasNear 19 = .ok (.aload_n 0, 1) := by decide +kernel
theorem dX2_hasNear_20 : decode cX2_hasNear 20 = .ok (.getfield 15, 3) := by decide +kernel
theorem dX2_hasNear_23 : decode cX2_hasNear 23 = .ok (.iload_n 2, 1) := by decide +kernel
theorem dX2_hasNear_24 : decode cX2_hasNear 24 = .ok (.iaload, 1) := by decide +kernel
theorem dX2_hasNear_25 : decode cX2_hasNear 25 = .ok (.iload_n 1, 1) := by decide +kernel
theorem dX2_hasNear_26 : decode cX2_hasNear 26 = .ok (.isub, 1) := by decide +kernel
theorem dX2_hasNear_27 : decode cX2_hasNear 27 = .ok (.invokestatic 34, 3) := by decide +kernel
theorem dX2_hasNear_30 : decode cX2_hasNear 30 = .ok (.bipush 15, 2) := by decide +kernel
theorem dX2_hasNear_32 : decode cX2_hasNear 32 = .ok (.if_icmp .gt 5, 3) := by decide +kernel
theorem dX2_hasNear_35 : decode cX2_hasNear 35 = .ok (.iconst 1, 1) := by decide +kernel
theorem dX2_hasNear_36 : decode cX2_hasNear 36 = .ok (.ireturn, 1) := by decide +kernel
theorem dX2_hasNear_37 : decode cX2_hasNear 37 = .ok (.iinc 2 1, 3) := by decide +kernel
theorem dX2_hasNear_40 : decode cX2_hasNear 40 = .ok (.goto (-38), 3) := by decide +kernel
theorem dX2_hasNear_43 : decode cX2_hasNear 43 = .ok (.iconst 0, 1) := by decide +kernel
theorem dX2_hasNear_44 : decode cX2_hasNear 44 = .ok (.ireturn, 1) := by decide +kernel
theorem dX3_init_0 : decode cX3_init 0 = .ok (.aload_n 0, 1) := by decide +kernel
theorem dX3_init_1 : decode cX3_init 1 = .ok (.invokespecial 3, 3) := by decide +kernel
theorem dX3_init_4 : decode cX3_init 4 = .ok (.aload_n 0, 1) := by decide +kernel
theorem dX3_init_5 : decode cX3_init 5 = .ok (.iconst 0, 1) := by decide +kernel
theorem dX3_init_6 : decode cX3_init 6 = .ok (.putfield 9, 3) := by decide +kernel
theorem dX3_init_9 : decode cX3_init 9 = .ok (.aload_n 0, 1) := by decide +kernel
theorem dX3_init_10 : decode cX3_init 10 = .ok (.bipush 15, 2) := by decide +kernel
theorem dX3_init_12 : decode cX3_init 12 = .ok (.newarray .int, 2) := by decide +kernel
theorem dX3_init_14 : decode cX3_init 14 = .ok (.putfield 15, 3) := by decide +kernel
theorem dX3_init_17 : decode cX3_init 17 = .ok (.aload_n 0, 1) := by decide +kernel
theorem dX3_init_18 : decode cX3_init 18 = .ok (.bipush 15, 2) := by decide +kernel
theorem dX3_init_20 : decode cX3_init 20 = .ok (.newarray .int, 2) := by decide +kernel
theorem dX3_init_22 : decode cX3_init 22 = .ok (.putfield 19, 3) := by decide +kernel
theorem dX3_init_25 : decode cX3_init 25 = .ok (.aload_n 0, 1) := by decide +kernel
theorem dX3_init_26 : decode cX3_init 26 = .ok (.bipush 15, 2) := by decide +kernel
theorem dX3_init_28 : decode cX3_init 28 = .ok (.newarray .int, 2) := by decide +kernel
theorem dX3_init_30 : decode cX3_init 30 = .ok (.putfield 22, 3) := by decide +kernel
theorem dX3_init_33 : decode cX3_init 33 = .ok (.aload_n 0, 1) := by decide +kernel
theorem dX3_init_34 : decode cX3_init 34 = .ok (.bipush 15, 2) := by decide +kernel
theorem dX3_init_36 : decode cX3_init 36 = .ok (.newarray .int, 2) := by decide +kernel
theorem dX3_init_38 : decode cX3_init 38 = .ok (.putfield 25, 3) := by decide +kernel
theorem dX3_init_41 : decode cX3_init 41 = .ok (.return_, 1) := by decide +kernel
theorem dX3_reset_0 : decode cX3_reset 0 = .ok (.aload_n 0, 1) := by decide +kernel
theorem dX3_reset_1 : decode cX3_reset 1 = .ok (.iconst 0, 1) := by decide +kernel
theorem dX3_reset_2 : decode cX3_reset 2 = .ok (.putfield 9, 3) := by decide +kernel
theorem dX3_reset_5 : decode cX3_reset 5 = .ok (.return_, 1) := by decide +kernel
theorem dX3_copyFrom_0 : decode cX3_copyFrom 0 = .ok (.aload_n 0, 1) := by decide +kernel
theorem dX3_copyFrom_1 : decode cX3_copyFrom 1 = .ok (.aload_n 1, 1) := by decide +kernel
theorem dX3_copyFrom_2 : decode cX3_copyFrom 2 = .ok (.getfield 9, 3) := by decide +kernel
theorem dX3_copyFrom_5 : decode cX3_copyFrom 5 = .ok (.putfield 9, 3) := by decide +kernel
theorem dX3_copyFrom_8 : decode cX3_copyFrom 8 = .ok (.aload_n 1, 1) := by decide +kernel
theorem dX3_copyFrom_9 : decode cX3_copyFrom 9 = .ok (.getfield 15, 3) := by decide +kernel
theorem dX3_copyFrom_12 : decode cX3_copyFrom 12 = .ok (.aload_n 0, 1) := by decide +kernel
theorem dX3_copyFrom_13 : decode cX3_copyFrom 13 = .ok (.getfield 15, 3) := by decide +kernel
theorem dX3_copyFrom_16 : decode cX3_copyFrom 16 = .ok (.invokestatic 28, 3) := by decide +kernel
theorem dX3_copyFrom_19 : decode cX3_copyFrom 19 = .ok (.aload_n 1, 1) := by decide +kernel
theorem dX3_copyFrom_20 : decode cX3_copyFrom 20 = .ok (.getfield 19, 3) := by decide +kernel
theorem dX3_copyFrom_23 : decode cX3_copyFrom 23 = .ok (.aload_n 0, 1) := by decide +kernel
theorem dX3_copyFrom_24 : decode cX3_copyFrom 24 = .ok (.getfield 19, 3) := by decide +kernel
theorem dX3_copyFrom_27 : decode cX3_copyFrom 27 = .ok (.invokestatic 28, 3) := by decide +kernel
theorem dX3_copyFrom_30 : decode cX3_copyFrom 30 = .ok (.aload_n 1, 1) := by decide +kernel
theorem dX3_copyFrom_31 : decode cX3_copyFrom 31 = .ok (.getfield 22, 3) := by decide +kernel
theorem dX3_copyFrom_34 : decode cX3_copyFrom 34 = .ok (.aload_n 0, 1) := by decide +kernel
theorem dX3_copyFrom_35 : decode cX3_copyFrom 35 = .ok (.getfield 22, 3) := by decide +kernel
theorem dX3_copyFrom_38 : decode cX3_copyFrom 38 = .ok (.invokestatic 28, 3) := by decide +kernel
theorem dX3_copyFrom_41 : decode cX3_copyFrom 41 = .ok (.aload_n 1, 1) := by decide +kernel
theorem dX3_copyFrom_42 : decode cX3_copyFrom 42 = .ok (.getfield 25, 3) := by decide +kernel
theorem dX3_copyFrom_45 : decode cX3_copyFrom 45 = .ok (.aload_n 0, 1) := by decide +kernel
theorem dX3_copyFrom_46 : decode cX3_copyFrom 46 = .ok (.getfield 25, 3) := by decide +kernel
theorem dX3_copyFrom_49 : decode cX3_copyFrom 49 = .ok (.invokestatic 28, 3) := by decide +kernel
theorem dX3_copyFrom_52 : decode cX3_copyFrom 52 = .ok (.return_, 1) := by decide +kernel
theorem dX3_has_0 : decode cX3_has 0 = .ok (.iload_n 1, 1) := by decide +kernel
theorem dX3_has_1 : decode cX3_has 1 = .ok (.ifCond .lt 21, 3) := by decide +kernel
theorem dX3_has_4 : decode cX3_has 4 = .ok (.iload_n 1, 1) := by decide +kernel
theorem dX3_has_5 : decode cX3_has 5 = .ok (.aload_n 0, 1) := by decide +kernel
theorem dX3_has_6 : decode cX3_has 6 = .ok (.getfield 9, 3) := by decide +kernel
theorem dX3_has_9 : decode cX3_has 9 = .ok (.if_icmp .ge 13, 3) := by decide +kernel
theorem dX3_has_12 : decode cX3_has 12 = .ok (.iload_n 1, 1) := by decide +kernel
theorem dX3_has_13 : decode cX3_has 13 = .ok (.bipush 15, 2) := by decide +kernel
theorem dX3_has_15 : decode cX3_has 15 = .ok (.if_icmp .ge 7, 3) := by decide +kernel
theorem dX3_has_18 : decode cX3_has 18 = .ok (.iconst 1, 1) := by decide +kernel
theorem dX3_has_19 : decode cX3_has 19 = .ok (.goto 4, 3) := by decide +kernel
theorem dX3_has_22 : decode cX3_has 22 = .ok (.iconst 0, 1) := by decide +kernel
theorem dX3_has_23 : decode cX3_has 23 = .ok (.ireturn, 1) := by decide +kernel
theorem dX3_kind_0 : decode cX3_kind 0 = .ok (.aload_n 0, 1) := by decide +kernel
theorem dX3_kind_1 : decode cX3_kind 1 = .ok (.iload_n 1, 1) := by decide +kernel
theorem dX3_kind_2 : decode cX3_kind 2 = .ok (.invokevirtual 32, 3) := by decide +kernel
theorem dX3_kind_5 : decode cX3_kind 5 = .ok (.ifCond .eq 12, 3) := by decide +kernel
theorem dX3_kind_8 : decode cX3_kind 8 = .ok (.aload_n 0, 1) := by decide +kernel
theorem dX3_kind_9 : decode cX3_kind 9 = .ok (.getfield 15, 3) := by decide +kernel
theorem dX3_kind_12 : decode cX3_kind 12 = .ok (.iload_n 1, 1) := by decide +kernel
theorem dX3_kind_13 : decode cX3_kind 13 = .ok (.iaload, 1) := by decide +kernel
theorem dX3_kind_14 : decode cX3_kind 14 = .ok (.goto 4, 3) := by decide +kernel
theorem dX3_kind_17 : decode cX3_kind 17 = .ok (.iconst (-1), 1) := by decide +kernel
theorem dX3_kind_18 : decode cX3_kind 18 = .ok (.ireturn, 1) := by decide +kernel
theorem dX3_distance_0 : decode cX3_distance 0 = .ok (.aload_n 0, 1) := by decide +kernel
theorem dX3_distance_1 : decode cX3_distance 1 = .ok (.iload_n 1, 1) := by decide +kernel
theorem dX3_distance_2 : decode cX3_distance 2 = .ok (.invokevirtual 32, 3) := by decide +kernel
theorem dX3_distance_5 : decode cX3_distance 5 = .ok (.ifCond .eq 12, 3) := by decide +kernel
theorem dX3_distance_8 : decode cX3_distance 8 = .ok (.aload_n 0, 1) := by decide +kernel
theorem dX3_distance_9 : decode cX3_distance 9 = .ok (.getfield 19, 3) := by decide +kernel
theorem dX3_distance_12 : decode cX3_distance 12 = .ok (.iload_n 1, 1) := by decide +kernel
theorem dX3_distance_13 : decode cX3_distance 13 = .ok (.iaload, 1) := by decide +kernel
theorem dX3_distance_14 : decode cX3_distance 14 = .ok (.goto 4, 3) := by decide +kernel
theorem dX3_distance_17 : decode cX3_distance 17 = .ok (.iconst (-1), 1) := by decide +kernel
theorem dX3_distance_18 : decode cX3_distance 18 = .ok (.ireturn, 1) := by decide +kernel
theorem dX3_strength_0 : decode cX3_strength 0 = .ok (.aload_n 0, 1) := by decide +kernel
theorem dX3_strength_1 : decode cX3_strength 1 = .ok (.iload_n 1, 1) := by decide +kernel
theorem dX3_strength_2 : decode cX3_strength 2 = .ok (.invokevirtual 32, 3) := by decide +kernel
theorem dX3_strength_5 : decode cX3_strength 5 = .ok (.ifCond .eq 12, 3) := by decide +kernel
theorem dX3_strength_8 : decode cX3_strength 8 = .ok (.aload_n 0, 1) := by decide +kernel
theorem dX3_strength_9 : decode cX3_strength 9 = .ok (.getfield 22, 3) := by decide +kernel
theorem dX3_strength_12 : decode cX3_strength 12 = .ok (.iload_n 1, 1) := by decide +kernel
theorem dX3_strength_13 : decode cX3_strength 13 = .ok (.iaload, 1) := by decide +kernel
theorem dX3_strength_14 : decode cX3_strength 14 = .ok (.goto 4, 3) := by decide +kernel
theorem dX3_strength_17 : decode cX3_strength 17 = .ok (.iconst (-1), 1) := by decide +kernel
theorem dX3_strength_18 : decode cX3_strength 18 = .ok (.ireturn, 1) := by decide +kernel
theorem dX3_isMarked_0 : decode cX3_isMarked 0 = .ok (.aload_n 0, 1) := by decide +kernel
theorem dX3_isMarked_1 : decode cX3_isMarked 1 = .ok (.iload_n 1, 1) := by decide +kernel
theorem dX3_isMarked_2 : decode cX3_isMarked 2 = .ok (.invokevirtual 32, 3) := by decide +kernel
theorem dX3_isMarked_5 : decode cX3_isMarked 5 = .ok (.ifCond .eq 18, 3) := by decide +kernel
theorem dX3_isMarked_8 : decode cX3_isMarked 8 = .ok (.aload_n 0, 1) := by decide +kernel
theorem dX3_isMarked_9 : decode cX3_isMarked 9 = .ok (.getfield 25, 3) := by decide +kernel
theorem dX3_isMarked_12 : decode cX3_isMarked 12 = .ok (.iload_n 1, 1) := by decide +kernel
theorem dX3_isMarked_13 : decode cX3_isMarked 13 = .ok (.iaload, 1) := by decide +kernel
theorem dX3_isMarked_14 : decode cX3_isMarked 14 = .ok (.iload_n 2, 1) := by decide +kernel
theorem dX3_isMarked_15 : decode cX3_isMarked 15 = .ok (.iand, 1) := by decide +kernel
theorem dX3_isMarked_16 : decode cX3_isMarked 16 = .ok (.ifCond .eq 7, 3) := by decide +kernel
theorem dX3_isMarked_19 : decode cX3_isMarked 19 = .ok (.iconst 1, 1) := by decide +kernel
theorem dX3_isMarked_20 : decode cX3_isMarked 20 = .ok (.goto 4, 3) := by decide +kernel
theorem dX3_isMarked_23 : decode cX3_isMarked 23 = .ok (.iconst 0, 1) := by decide +kernel
theorem dX3_isMarked_24 : decode cX3_isMarked 24 = .ok (.ireturn, 1) := by decide +kernel
theorem dX3_mark_0 : decode cX3_mark 0 = .ok (.aload_n 0, 1) := by decide +kernel
theorem dX3_mark_1 : decode cX3_mark 1 = .ok (.iload_n 1, 1) := by decide +kernel
theorem dX3_mark_2 : decode cX3_mark 2 = .ok (.invokevirtual 32, 3) := by decide +kernel
theorem dX3_mark_5 : decode cX3_mark 5 = .ok (.ifCond .eq 13, 3) := by decide +kernel
theorem dX3_mark_8 : decode cX3_mark 8 = .ok (.aload_n 0, 1) := by decide +kernel
theorem dX3_mark_9 : decode cX3_mark 9 = .ok (.getfield 25, 3) := by decide +kernel
theorem dX3_mark_12 : decode cX3_mark 12 = .ok (.iload_n 1, 1) := by decide +kernel
theorem dX3_mark_13 : decode cX3_mark 13 = .ok (.dup2, 1) := by decide +kernel
theorem dX3_mark_14 : decode cX3_mark 14 = .ok (.iaload, 1) := by decide +kernel
theorem dX3_mark_15 : decode cX3_mark 15 = .ok (.iload_n 2, 1) := by decide +kernel
theorem dX3_mark_16 : decode cX3_mark 16 = .ok (.ior, 1) := by decide +kernel
theorem dX3_mark_17 : decode cX3_mark 17 = .ok (.iastore, 1) := by decide +kernel
theorem dX3_mark_18 : decode cX3_mark 18 = .ok (.return_, 1) := by decide +kernel
theorem dX3_append_0 : decode cX3_append 0 = .ok (.aload_n 0, 1) := by decide +kernel
theorem dX3_append_1 : decode cX3_append 1 = .ok (.getfield 9, 3) := by decide +kernel
theorem dX3_append_4 : decode cX3_append 4 = .ok (.ifCond .lt 43, 3) := by decide +kernel
theorem dX3_append_7 : decode cX3_append 7 = .ok (.aload_n 0, 1) := by decide +kernel
theorem dX3_append_8 : decode cX3_append 8 = .ok (.getfield 9, 3) := by decide +kernel
theorem dX3_append_11 : decode cX3_append 11 = .ok (.bipush 15, 2) := by decide +kernel
theorem dX3_append_13 : decode cX3_append 13 = .ok (.if_icmp .ge 34, 3) := by decide +kernel
theorem dX3_append_16 : decode cX3_append 16 = .ok (.aload_n 0, 1) := by decide +kernel
theorem dX3_append_17 : decode cX3_append 17 = .ok (.aload_n 0, 1) := by decide +kernel
theorem dX3_append_18 : decode cX3_append 18 = .ok (.getfield 9, 3) := by decide +kernel
theorem dX3_append_21 : decode cX3_append 21 = .ok (.iload_n 1, 1) := by decide +kernel
theorem dX3_append_22 : decode cX3_append 22 = .ok (.iload_n 2, 1) := by decide +kernel
theorem dX3_append_23 : decode cX3_append 23 = .ok (.iload_n 3, 1) := by decide +kernel
theorem dX3_append_24 : decode cX3_append 24 = .ok (.invokevirtual 36, 3) := by decide +kernel
theorem dX3_append_27 : decode cX3_append 27 = .ok (.aload_n 0, 1) := by decide +kernel
theorem dX3_append_28 : decode cX3_append 28 = .ok (.getfield 25, 3) := by decide +kernel
theorem dX3_append_31 : decode cX3_append 31 = .ok (.aload_n 0, 1) := by decide +kernel
theorem dX3_append_32 : decode cX3_append 32 = .ok (.getfield 9, 3) := by decide +kernel
theorem dX3_append_35 : decode cX3_append 35 = .ok (.iconst 0, 1) := by decide +kernel
theorem dX3_append_36 : decode cX3_append 36 = .ok (.iastore, 1) := by decide +kernel
theorem dX3_append_37 : decode cX3_append 37 = .ok (.aload_n 0, 1) := by decide +kernel
theorem dX3_append_38 : decode cX3_append 38 = .ok (.dup, 1) := by decide +kernel
theorem dX3_append_39 : decode cX3_append 39 = .ok (.getfield 9, 3) := by decide +kernel
theorem dX3_append_42 : decode cX3_append 42 = .ok (.iconst 1, 1) := by decide +kernel
theorem dX3_append_43 : decode cX3_append 43 = .ok (.iadd, 1) := by decide +kernel
theorem dX3_append_44 : decode cX3_append 44 = .ok (.putfield 9, 3) := by decide +kernel
theorem dX3_append_47 : decode cX3_append 47 = .ok (.return_, 1) := by decide +kernel
theorem dX3_put_0 : decode cX3_put 0 = .ok (.iload_n 1, 1) := by decide +kernel
theorem dX3_put_1 : decode cX3_put 1 = .ok (.ifCond .lt 31, 3) := by decide +kernel
theorem dX3_put_4 : decode cX3_put 4 = .ok (.iload_n 1, 1) := by decide +kernel
theorem dX3_put_5 : decode cX3_put 5 = .ok (.bipush 15, 2) := by decide +kernel
theorem dX3_put_7 : decode cX3_put 7 = .ok (.if_icmp .ge 25, 3) := by decide +kernel
theorem dX3_put_10 : decode cX3_put 10 = .ok (.aload_n 0, 1) := by decide +kernel
theorem dX3_put_11 : decode cX3_put 11 = .ok (.getfield 15, 3) := by decide +kernel
theorem dX3_put_14 : decode cX3_put 14 = .ok (.iload_n 1, 1) := by decide +kernel
theorem dX3_put_15 : decode cX3_put 15 = .ok (.iload_n 2, 1) := by decide +kernel
theorem dX3_put_16 : decode cX3_put 16 = .ok (.iastore, 1) := by decide +kernel
theorem dX3_put_17 : decode cX3_put 17 = .ok (.aload_n 0, 1) := by decide +kernel
theorem dX3_put_18 : decode cX3_put 18 = .ok (.getfield 19, 3) := by decide +kernel
theorem dX3_put_21 : decode cX3_put 21 = .ok (.iload_n 1, 1) := by decide +kernel
theorem dX3_put_22 : decode cX3_put 22 = .ok (.iload_n 3, 1) := by decide +kernel
theorem dX3_put_23 : decode cX3_put 23 = .ok (.iastore, 1) := by decide +kernel
theorem dX3_put_24 : decode cX3_put 24 = .ok (.aload_n 0, 1) := by decide +kernel
theorem dX3_put_25 : decode cX3_put 25 = .ok (.getfield 22, 3) := by decide +kernel
theorem dX3_put_28 : decode cX3_put 28 = .ok (.iload_n 1, 1) := by decide +kernel
theorem dX3_put_29 : decode cX3_put 29 = .ok (.iload 4, 2) := by decide +kernel
theorem dX3_put_31 : decode cX3_put 31 = .ok (.iastore, 1) := by decide +kernel
theorem dX3_put_32 : decode cX3_put 32 = .ok (.return_, 1) := by decide +kernel
theorem dX3_meetChance_0 : decode cX3_meetChance 0 = .ok (.aload_n 0, 1) := by decide +kernel
theorem dX3_meetChance_1 : decode cX3_meetChance 1 = .ok (.getfield 9, 3) := by decide +kernel
theorem dX3_meetChance_4 : decode cX3_meetChance 4 = .ok (.bipush 15, 2) := by decide +kernel
theorem dX3_meetChance_6 : decode cX3_meetChance 6 = .ok (.invokestatic 40, 3) := by decide +kernel
theorem dX3_meetChance_9 : decode cX3_meetChance 9 = .ok (.istore 4, 2) := by decide +kernel
theorem dX3_meetChance_11 : decode cX3_meetChance 11 = .ok (.aload_n 0, 1) := by decide +kernel
theorem dX3_meetChance_12 : decode cX3_meetChance 12 = .ok (.iconst 0, 1) := by decide +kernel
theorem dX3_meetChance_13 : decode cX3_meetChance 13 = .ok (.putfield 9, 3) := by decide +kernel
theorem dX3_meetChance_16 : decode cX3_meetChance 16 = .ok (.iconst 0, 1) := by decide +kernel
theorem dX3_meetChance_17 : decode cX3_meetChance 17 = .ok (.istore 5, 2) := by decide +kernel
theorem dX3_meetChance_19 : decode cX3_meetChance 19 = .ok (.iload 5, 2) := by decide +kernel
theorem dX3_meetChance_21 : decode cX3_meetChance 21 = .ok (.iload 4, 2) := by decide +kernel
theorem dX3_meetChance_23 : decode cX3_meetChance 23 = .ok (.if_icmp .ge 90, 3) := by decide +kernel
theorem dX3_meetChance_26 : decode cX3_meetChance 26 = .ok (.aload_n 1, 1) := by decide +kernel
theorem dX3_meetChance_27 : decode cX3_meetChance 27 = .ok (.bipush 100, 2) := by decide +kernel
theorem dX3_meetChance_29 : decode cX3_meetChance 29 = .ok (.invokevirtual 46, 3) := by decide +kernel
theorem dX3_meetChance_32 : decode cX3_meetChance 32 = .ok (.iload_n 2, 1) := by decide +kernel
theorem dX3_meetChance_33 : decode cX3_meetChance 33 = .ok (.if_icmp .ge 7, 3) := by decide +kernel
theorem dX3_meetChance_36 : decode cX3_meetChance 36 = .ok (.iconst 1, 1) := by decide +kernel
theorem dX3_meetChance_37 : decode cX3_meetChance 37 = .ok (.goto 4, 3) := by decide +kernel
theorem dX3_meetChance_40 : decode cX3_meetChance 40 = .ok (.iconst 0, 1) := by decide +kernel
theorem dX3_meetChance_41 : decode cX3_meetChance 41 = .ok (.istore 6, 2) := by decide +kernel
theorem dX3_meetChance_43 : decode cX3_meetChance 43 = .ok (.iload 6, 2) := by decide +kernel
theorem dX3_meetChance_45 : decode cX3_meetChance 45 = .ok (.ifCond .ne 62, 3) := by decide +kernel
theorem dX3_meetChance_48 : decode cX3_meetChance 48 = .ok (.iload_n 3, 1) := by decide +kernel
theorem dX3_meetChance_49 : decode cX3_meetChance 49 = .ok (.ifCond .le 25, 3) := by decide +kernel
theorem dX3_meetChance_52 : decode cX3_meetChance 52 = .ok (.aload_n 0, 1) := by decide +kernel
theorem dX3_meetChance_53 : decode cX3_meetChance 53 = .ok (.getfield 19, 3) := by decide +kernel
theorem dX3_meetChance_56 : decode cX3_meetChance 56 = .ok (.iload 5, 2) := by decide +kernel
theorem dX3_meetChance_58 : decode cX3_meetChance 58 = .ok (.iaload, 1) := by decide +kernel
theorem dX3_meetChance_59 : decode cX3_meetChance 59 = .ok (.aload_n 1, 1) := by decide +kernel
theorem dX3_meetChance_60 : decode cX3_meetChance 60 = .ok (.iconst 2, 1) := by decide +kernel
theorem dX3_meetChance_61 : decode cX3_meetChance 61 = .ok (.iload_n 3, 1) := by decide +kernel
theorem dX3_meetChance_62 : decode cX3_meetChance 62 = .ok (.imul, 1) := by decide +kernel
theorem dX3_meetChance_63 : decode cX3_meetChance 63 = .ok (.iconst 1, 1) := by decide +kernel
theorem dX3_meetChance_64 : decode cX3_meetChance 64 = .ok (.iadd, 1) := by decide +kernel
theorem dX3_meetChance_65 : decode cX3_meetChance 65 = .ok (.invokevirtual 46, 3) := by decide +kernel
theorem dX3_meetChance_68 : decode cX3_meetChance 68 = .ok (.iadd, 1) := by decide +kernel
theorem dX3_meetChance_69 : decode cX3_meetChance 69 = .ok (.iload_n 3, 1) := by decide +kernel
theorem dX3_meetChance_70 : decode cX3_meetChance 70 = .ok (.isub, 1) := by decide +kernel
theorem dX3_meetChance_71 : decode cX3_meetChance 71 = .ok (.goto 10, 3) := by decide +kernel
theorem dX3_meetChance_74 : decode cX3_meetChance 74 = .ok (.aload_n 0, 1) := by decide +kernel
theorem dX3_meetChance_75 : decode cX3_meetChance 75 = .ok (.getfield 19, 3) := by decide +kernel
theorem dX3_meetChance_78 : decode cX3_meetChance 78 = .ok (.iload 5, 2) := by decide +kernel
theorem dX3_meetChance_80 : decode cX3_meetChance 80 = .ok (.iaload, 1) := by decide +kernel
theorem dX3_meetChance_81 : decode cX3_meetChance 81 = .ok (.istore 7, 2) := by decide +kernel
theorem dX3_meetChance_83 : decode cX3_meetChance 83 = .ok (.aload_n 0, 1) := by decide +kernel
theorem dX3_meetChance_84 : decode cX3_meetChance 84 = .ok (.aload_n 0, 1) := by decide +kernel
theorem dX3_meetChance_85 : decode cX3_meetChance 85 = .ok (.getfield 15, 3) := by decide +kernel
theorem dX3_meetChance_88 : decode cX3_meetChance 88 = .ok (.iload 5, 2) := by decide +kernel
theorem dX3_meetChance_90 : decode cX3_meetChance 90 = .ok (.iaload, 1) := by decide +kernel
theorem dX3_meetChance_91 : decode cX3_meetChance 91 = .ok (.iconst 0, 1) := by decide +kernel
theorem dX3_meetChance_92 : decode cX3_meetChance 92 = .ok (.iload 7, 2) := by decide +kernel
theorem dX3_meetChance_94 : decode cX3_meetChance 94 = .ok (.invokestatic 52, 3) := by decide +kernel
theorem dX3_meetChance_97 : decode cX3_meetChance 97 = .ok (.aload_n 0, 1) := by decide +kernel
theorem dX3_meetChance_98 : decode cX3_meetChance 98 = .ok (.getfield 22, 3) := by decide +kernel
theorem dX3_meetChance_101 : decode cX3_meetChance 101 = .ok (.iload 5, 2) := by decide +kernel
theorem dX3_meetChance_103 : decode cX3_meetChance 103 = .ok (.iaload, 1) := by decide +kernel
theorem dX3_meetChance_104 : decode cX3_meetChance 104 = .ok (.invokevirtual 55, 3) := by decide +kernel
theorem dX3_meetChance_107 : decode cX3_meetChance 107 = .ok (.iinc 5 1, 3) := by decide +kernel
theorem dX3_meetChance_110 : decode cX3_meetChance 110 = .ok (.goto (-91), 3) := by decide +kernel
theorem dX3_meetChance_113 : decode cX3_meetChance 113 = .ok (.return_, 1) := by decide +kernel
theorem dX3_insert_0 : decode cX3_insert 0 = .ok (.aload_n 0, 1) := by decide +kernel
theorem dX3_insert_1 : decode cX3_insert 1 = .ok (.getfield 9, 3) := by decide +kernel
theorem dX3_insert_4 : decode cX3_insert 4 = .ok (.ifCond .lt 12, 3) := by decide +kernel
theorem dX3_insert_7 : decode cX3_insert 7 = .ok (.aload_n 0, 1) := by decide +kernel
theorem dX3_insert_8 : decode cX3_insert 8 = .ok (.getfield 9, 3) := by decide +kernel
theorem dX3_insert_11 : decode cX3_insert 11 = .ok (.bipush 15, 2) := by decide +kernel
theorem dX3_insert_13 : decode cX3_insert 13 = .ok (.if_icmp .lt 4, 3) := by decide +kernel
theorem dX3_insert_16 : decode cX3_insert 16 = .ok (.return_, 1) := by decide +kernel
theorem dX3_insert_17 : decode cX3_insert 17 = .ok (.aload_n 0, 1) := by decide +kernel
theorem dX3_insert_18 : decode cX3_insert 18 = .ok (.getfield 9, 3) := by decide +kernel
theorem dX3_insert_21 : decode cX3_insert 21 = .ok (.istore 4, 2) := by decide +kernel
theorem dX3_insert_23 : decode cX3_insert 23 = .ok (.iload 4, 2) := by decide +kernel
theorem dX3_insert_25 : decode cX3_insert 25 = .ok (.ifCond .le 56, 3) := by decide +kernel
theorem dX3_insert_28 : decode cX3_insert 28 = .ok (.aload_n 0, 1) := by decide +kernel
theorem dX3_insert_29 : decode cX3_insert 29 = .ok (.iload_n 1, 1) := by decide +kernel
theorem dX3_insert_30 : decode cX3_insert 30 = .ok (.iload_n 2, 1) := by decide +kernel
theorem dX3_insert_31 : decode cX3_insert 31 = .ok (.iload_n 3, 1) := by decide +kernel
theorem dX3_insert_32 : decode cX3_insert 32 = .ok (.iload 4, 2) := by decide +kernel
theorem dX3_insert_34 : decode cX3_insert 34 = .ok (.iconst 1, 1) := by decide +kernel
theorem dX3_insert_35 : decode cX3_insert 35 = .ok (.isub, 1) := by decide +kernel
theorem dX3_insert_36 : decode cX3_insert 36 = .ok (.invokevirtual 59, 3) := by decide +kernel
theorem dX3_insert_39 : decode cX3_insert 39 = .ok (.ifCond .eq 42, 3) := by decide +kernel
theorem dX3_insert_42 : decode cX3_insert 42 = .ok (.aload_n 0, 1) := by decide +kernel
theorem dX3_insert_43 : decode cX3_insert 43 = .ok (.iload 4, 2) := by decide +kernel
theorem dX3_insert_45 : decode cX3_insert 45 = .ok (.aload_n 0, 1) := by decide +kernel
theorem dX3_insert_46 : decode cX3_insert 46 = .ok (.getfield 15, 3) := by decide +kernel
theorem dX3_insert_49 : decode cX3_insert 49 = .ok (.iload 4, 2) := by decide +kernel
theorem dX3_insert_51 : decode cX3_insert 51 = .ok (.iconst 1, 1) := by decide +kernel
theorem dX3_insert_52 : decode cX3_insert 52 = .ok (.isub, 1) := by decide +kernel
theorem dX3_insert_53 : decode cX3_insert 53 = .ok (.iaload, 1) := by decide +kernel
theorem dX3_insert_54 : decode cX3_insert 54 = .ok (.aload_n 0, 1) := by decide +kernel
theorem dX3_insert_55 : decode cX3_insert 55 = .ok (.getfield 19, 3) := by decide +kernel
theorem dX3_insert_58 : decode cX3_insert 58 = .ok (.iload 4, 2) := by decide +kernel
theorem dX3_insert_60 : decode cX3_insert 60 = .ok (.iconst 1, 1) := by decide +kernel
theorem dX3_insert_61 : decode cX3_insert 61 = .ok (.isub, 1) := by decide +kernel
theorem dX3_insert_62 : decode cX3_insert 62 = .ok (.iaload, 1) := by decide +kernel
theorem dX3_insert_63 : decode cX3_insert 63 = .ok (.aload_n 0, 1) := by decide +kernel
theorem dX3_insert_64 : decode cX3_insert 64 = .ok (.getfield 22, 3) := by decide +kernel
theorem dX3_insert_67 : decode cX3_insert 67 = .ok (.iload 4, 2) := by decide +kernel
theorem dX3_insert_69 : decode cX3_insert 69 = .ok (.iconst 1, 1) := by decide +kernel
theorem dX3_insert_70 : decode cX3_insert 70 = .ok (.isub, 1) := by decide +kernel
theorem dX3_insert_71 : decode cX3_insert 71 = .ok (.iaload, 1) := by decide +kernel
theorem dX3_insert_72 : decode cX3_insert 72 = .ok (.invokevirtual 36, 3) := by decide +kernel
theorem dX3_insert_75 : decode cX3_insert 75 = .ok (.iinc 4 (-1), 3) := by decide +kernel
theorem dX3_insert_78 : decode cX3_insert 78 = .ok (.goto (-55), 3) := by decide +kernel
theorem dX3_insert_81 : decode cX3_insert 81 = .ok (.aload_n 0, 1) := by decide +kernel
theorem dX3_insert_82 : decode cX3_insert 82 = .ok (.iload 4, 2) := by decide +kernel
theorem dX3_insert_84 : decode cX3_insert 84 = .ok (.iload_n 1, 1) := by decide +kernel
theorem dX3_insert_85 : decode cX3_insert 85 = .ok (.iload_n 2, 1) := by decide +kernel
theorem dX3_insert_86 : decode cX3_insert 86 = .ok (.iload_n 3, 1) := by decide +kernel
theorem dX3_insert_87 : decode cX3_insert 87 = .ok (.invokevirtual 36, 3) := by decide +kernel
theorem dX3_insert_90 : decode cX3_insert 90 = .ok (.aload_n 0, 1) := by decide +kernel
theorem dX3_insert_91 : decode cX3_insert 91 = .ok (.dup, 1) := by decide +kernel
theorem dX3_insert_92 : decode cX3_insert 92 = .ok (.getfield 9, 3) := by decide +kernel
theorem dX3_insert_95 : decode cX3_insert 95 = .ok (.iconst 1, 1) := by decide +kernel
theorem dX3_insert_96 : decode cX3_insert 96 = .ok (.iadd, 1) := by decide +kernel
theorem dX3_insert_97 : decode cX3_insert 97 = .ok (.putfield 9, 3) := by decide +kernel
theorem dX3_insert_100 : decode cX3_insert 100 = .ok (.return_, 1) := by decide +kernel
theorem dX3_comesBefore_0 : decode cX3_comesBefore 0 = .ok (.iload 4, 2) := by decide +kernel
theorem dX3_comesBefore_2 : decode cX3_comesBefore 2 = .ok (.ifCond .lt 10, 3) := by decide +kernel
theorem dX3_comesBefore_5 : decode cX3_comesBefore 5 = .ok (.iload 4, 2) := by decide +kernel
theorem dX3_comesBefore_7 : decode cX3_comesBefore 7 = .ok (.bipush 15, 2) := by decide +kernel
theorem dX3_comesBefore_9 : decode cX3_comesBefore 9 = .ok (.if_icmp .lt 5, 3) := by decide +kernel
theorem dX3_comesBefore_12 : decode cX3_comesBefore 12 = .ok (.iconst 0, 1) := by decide +kernel
theorem dX3_comesBefore_13 : decode cX3_comesBefore 13 = .ok (.ireturn, 1) := by decide +kernel
theorem dX3_comesBefore_14 : decode cX3_comesBefore 14 = .ok (.iload_n 2, 1) := by decide +kernel
theorem dX3_comesBefore_15 : decode cX3_comesBefore 15 = .ok (.aload_n 0, 1) := by decide +kernel
theorem dX3_comesBefore_16 : decode cX3_comesBefore 16 = .ok (.getfield 19, 3) := by decide +kernel
theorem dX3_comesBefore_19 : decode cX3_comesBefore 19 = .ok (.iload 4, 2) := by decide +kernel
theorem dX3_comesBefore_21 : decode cX3_comesBefore 21 = .ok (.iaload, 1) := by decide +kernel
theorem dX3_comesBefore_22 : decode cX3_comesBefore 22 = .ok (.if_icmp .eq 20, 3) := by decide +kernel
theorem dX3_comesBefore_25 : decode cX3_comesBefore 25 = .ok (.iload_n 2, 1) := by decide +kernel
theorem dX3_comesBefore_26 : decode cX3_comesBefore 26 = .ok (.aload_n 0, 1) := by decide +kernel
theorem dX3_comesBefore_27 : decode cX3_comesBefore 27 = .ok (.getfield 19, 3) := by decide +kernel
theorem dX3_comesBefore_30 : decode cX3_comesBefore 30 = .ok (.iload 4, 2) := by decide +kernel
theorem dX3_comesBefore_32 : decode cX3_comesBefore 32 = .ok (.iaload, 1) := by decide +kernel
theorem dX3_comesBefore_33 : decode cX3_comesBefore 33 = .ok (.if_icmp .ge 7, 3) := by decide +kernel
theorem dX3_comesBefore_36 : decode cX3_comesBefore 36 = .ok (.iconst 1, 1) := by decide +kernel
theorem dX3_comesBefore_37 : decode cX3_comesBefore 37 = .ok (.goto 4, 3) := by decide +kernel
theorem dX3_comesBefore_40 : decode cX3_comesBefore 40 = .ok (.iconst 0, 1) := by decide +kernel
theorem dX3_comesBefore_41 : decode cX3_comesBefore 41 = .ok (.ireturn, 1) := by decide +kernel
theorem dX3_comesBefore_42 : decode cX3_comesBefore 42 = .ok (.iload_n 3, 1) := by decide +kernel
theorem dX3_comesBefore_43 : decode cX3_comesBefore 43 = .ok (.aload_n 0, 1) := by decide +kernel
theorem dX3_comesBefore_44 : decode cX3_comesBefore 44 = .ok (.getfield 22, 3) := by decide +kernel
theorem dX3_comesBefore_47 : decode cX3_comesBefore 47 = .ok (.iload 4, 2) := by decide +kernel
theorem dX3_comesBefore_49 : decode cX3_comesBefore 49 = .ok (.iaload, 1) := by decide +kernel
theorem dX3_comesBefore_50 : decode cX3_comesBefore 50 = .ok (.if_icmp .eq 20, 3) := by decide +kernel
theorem dX3_comesBefore_53 : decode cX3_comesBefore 53 = .ok (.iload_n 3, 1) := by decide +kernel
theorem dX3_comesBefore_54 : decode cX3_comesBefore 54 = .ok (.aload_n 0, 1) := by decide +kernel
theorem dX3_comesBefore_55 : decode cX3_comesBefore 55 = .ok (.getfield 22, 3) := by decide +kernel
theorem dX3_comesBefore_58 : decode cX3_comesBefore 58 = .ok (.iload 4, 2) := by decide +kernel
theorem dX3_comesBefore_60 : decode cX3_comesBefore 60 = .ok (.iaload, 1) := by decide +kernel
theorem dX3_comesBefore_61 : decode cX3_comesBefore 61 = .ok (.if_icmp .le 7, 3) := by decide +kernel
theorem dX3_comesBefore_64 : decode cX3_comesBefore 64 = .ok (.iconst 1, 1) := by decide +kernel
theorem dX3_comesBefore_65 : decode cX3_comesBefore 65 = .ok (.goto 4, 3) := by decide +kernel
theorem dX3_comesBefore_68 : decode cX3_comesBefore 68 = .ok (.iconst 0, 1) := by decide +kernel
theorem dX3_comesBefore_69 : decode cX3_comesBefore 69 = .ok (.ireturn, 1) := by decide +kernel
theorem dX3_comesBefore_70 : decode cX3_comesBefore 70 = .ok (.iload_n 1, 1) := by decide +kernel
theorem dX3_comesBefore_71 : decode cX3_comesBefore 71 = .ok (.aload_n 0, 1) := by decide +kernel
theorem dX3_comesBefore_72 : decode cX3_comesBefore 72 = .ok (.getfield 15, 3) := by decide +kernel
theorem dX3_comesBefore_75 : decode cX3_comesBefore 75 = .ok (.iload 4, 2) := by decide +kernel
theorem dX3_comesBefore_77 : decode cX3_comesBefore 77 = .ok (.iaload, 1) := by decide +kernel
theorem dX3_comesBefore_78 : decode cX3_comesBefore 78 = .ok (.if_icmp .ge 7, 3) := by decide +kernel
theorem dX3_comesBefore_81 : decode cX3_comesBefore 81 = .ok (.iconst 1, 1) := by decide +kernel
theorem dX3_comesBefore_82 : decode cX3_comesBefore 82 = .ok (.goto 4, 3) := by decide +kernel
theorem dX3_comesBefore_85 : decode cX3_comesBefore 85 = .ok (.iconst 0, 1) := by decide +kernel
theorem dX3_comesBefore_86 : decode cX3_comesBefore 86 = .ok (.ireturn, 1) := by decide +kernel
theorem dX3_bestOf_0 : decode cX3_bestOf 0 = .ok (.iconst (-1), 1) := by decide +kernel
theorem dX3_bestOf_1 : decode cX3_bestOf 1 = .ok (.istore_n 3, 1) := by decide +kernel
theorem dX3_bestOf_2 : decode cX3_bestOf 2 = .ok (.iconst 0, 1) := by decide +kernel
theorem dX3_bestOf_3 : decode cX3_bestOf 3 = .ok (.istore 4, 2) := by decide +kernel
theorem dX3_bestOf_5 : decode cX3_bestOf 5 = .ok (.iload 4, 2) := by decide +kernel
theorem dX3_bestOf_7 : decode cX3_bestOf 7 = .ok (.aload_n 0, 1) := by decide +kernel
theorem dX3_bestOf_8 : decode cX3_bestOf 8 = .ok (.getfield 9, 3) := by decide +kernel
theorem dX3_bestOf_11 : decode cX3_bestOf 11 = .ok (.if_icmp .ge 49, 3) := by decide +kernel
theorem dX3_bestOf_14 : decode cX3_bestOf 14 = .ok (.aload_n 0, 1) := by decide +kernel
theorem dX3_bestOf_15 : decode cX3_bestOf 15 = .ok (.iload 4, 2) := by decide +kernel
theorem dX3_bestOf_17 : decode cX3_bestOf 17 = .ok (.iconst 1, 1) := by decide +kernel
theorem dX3_bestOf_18 : decode cX3_bestOf 18 = .ok (.invokevirtual 63, 3) := by decide +kernel
theorem dX3_bestOf_21 : decode cX3_bestOf 21 = .ok (.ifCond .eq 33, 3) := by decide +kernel
theorem dX3_bestOf_24 : decode cX3_bestOf 24 = .ok (.aload_n 0, 1) := by decide +kernel
theorem dX3_bestOf_25 : decode cX3_bestOf 25 = .ok (.iload 4, 2) := by decide +kernel
theorem dX3_bestOf_27 : decode cX3_bestOf 27 = .ok (.iconst 2, 1) := by decide +kernel
theorem dX3_bestOf_28 : decode cX3_bestOf 28 = .ok (.invokevirtual 63, 3) := by decide +kernel
theorem dX3_bestOf_31 : decode cX3_bestOf 31 = .ok (.ifCond .ne 23, 3) := by decide +kernel
theorem dX3_bestOf_34 : decode cX3_bestOf 34 = .ok (.iload_n 3, 1) := by decide +kernel
theorem dX3_bestOf_35 : decode cX3_bestOf 35 = .ok (.iconst (-1), 1) := by decide +kernel
theorem dX3_bestOf_36 : decode cX3_bestOf 36 = .ok (.if_icmp .eq 15, 3) := by decide +kernel
theorem dX3_bestOf_39 : decode cX3_bestOf 39 = .ok (.aload_n 0, 1) := by decide +kernel
theorem dX3_bestOf_40 : decode cX3_bestOf 40 = .ok (.iload 4, 2) := by decide +kernel
theorem dX3_bestOf_42 : decode cX3_bestOf 42 = .ok (.iload_n 3, 1) := by decide +kernel
theorem dX3_bestOf_43 : decode cX3_bestOf 43 = .ok (.iload_n 1, 1) := by decide +kernel
theorem dX3_bestOf_44 : decode cX3_bestOf 44 = .ok (.iload_n 2, 1) := by decide +kernel
theorem dX3_bestOf_45 : decode cX3_bestOf 45 = .ok (.invokevirtual 67, 3) := by decide +kernel
theorem dX3_bestOf_48 : decode cX3_bestOf 48 = .ok (.ifCond .eq 6, 3) := by decide +kernel
theorem dX3_bestOf_51 : decode cX3_bestOf 51 = .ok (.iload 4, 2) := by decide +kernel
theorem dX3_bestOf_53 : decode cX3_bestOf 53 = .ok (.istore_n 3, 1) := by decide +kernel
theorem dX3_bestOf_54 : decode cX3_bestOf 54 = .ok (.iinc 4 1, 3) := by decide +kernel
theorem dX3_bestOf_57 : decode cX3_bestOf 57 = .ok (.goto (-52), 3) := by decide +kernel
theorem dX3_bestOf_60 : decode cX3_bestOf 60 = .ok (.iload_n 3, 1) := by decide +kernel
theorem dX3_bestOf_61 : decode cX3_bestOf 61 = .ok (.ireturn, 1) := by decide +kernel
theorem dX3_isBetter_0 : decode cX3_isBetter 0 = .ok (.iload_n 3, 1) := by decide +kernel
theorem dX3_isBetter_1 : decode cX3_isBetter 1 = .ok (.iconst 1, 1) := by decide +kernel
theorem dX3_isBetter_2 : decode cX3_isBetter 2 = .ok (.if_icmp .ne 22, 3) := by decide +kernel
theorem dX3_isBetter_5 : decode cX3_isBetter 5 = .ok (.aload_n 0, 1) := by decide +kernel
theorem dX3_isBetter_6 : decode cX3_isBetter 6 = .ok (.iload_n 1, 1) := by decide +kernel
theorem dX3_isBetter_7 : decode cX3_isBetter 7 = .ok (.invokevirtual 70, 3) := by decide +kernel
theorem dX3_isBetter_10 : decode cX3_isBetter 10 = .ok (.aload_n 0, 1) := by decide +kernel
theorem dX3_isBetter_11 : decode cX3_isBetter 11 = .ok (.iload_n 2, 1) := by decide +kernel
theorem dX3_isBetter_12 : decode cX3_isBetter 12 = .ok (.invokevirtual 70, 3) := by decide +kernel
theorem dX3_isBetter_15 : decode cX3_isBetter 15 = .ok (.if_icmp .le 7, 3) := by decide +kernel
theorem dX3_isBetter_18 : decode cX3_isBetter 18 = .ok (.iconst 1, 1) := by decide +kernel
theorem dX3_isBetter_19 : decode cX3_isBetter 19 = .ok (.goto 4, 3) := by decide +kernel
theorem dX3_isBetter_22 : decode cX3_isBetter 22 = .ok (.iconst 0, 1) := by decide +kernel
theorem dX3_isBetter_23 : decode cX3_isBetter 23 = .ok (.ireturn, 1) := by decide +kernel
theorem dX3_isBetter_24 : decode cX3_isBetter 24 = .ok (.iload_n 3, 1) := by decide +kernel
theorem dX3_isBetter_25 : decode cX3_isBetter 25 = .ok (.iconst 2, 1) := by decide +kernel
theorem dX3_isBetter_26 : decode cX3_isBetter 26 = .ok (.if_icmp .ne 40, 3) := by decide +kernel
theorem dX3_isBetter_29 : decode cX3_isBetter 29 = .ok (.iload 4, 2) := by decide +kernel
theorem dX3_isBetter_31 : decode cX3_isBetter 31 = .ok (.iconst (-1), 1) := by decide +kernel
theorem dX3_isBetter_32 : decode cX3_isBetter 32 = .ok (.if_icmp .eq 34, 3) := by decide +kernel
theorem dX3_isBetter_35 : decode cX3_isBetter 35 = .ok (.aload_n 0, 1) := by decide +kernel
theorem dX3_isBetter_36 : decode cX3_isBetter 36 = .ok (.iload_n 1, 1) := by decide +kernel
theorem dX3_isBetter_37 : decode cX3_isBetter 37 = .ok (.invokevirtual 73, 3) := by decide +kernel
theorem dX3_isBetter_40 : decode cX3_isBetter 40 = .ok (.iload 4, 2) := by decide +kernel
theorem dX3_isBetter_42 : decode cX3_isBetter 42 = .ok (.isub, 1) := by decide +kernel
theorem dX3_isBetter_43 : decode cX3_isBetter 43 = .ok (.invokestatic 76, 3) := by decide +kernel
theorem dX3_isBetter_46 : decode cX3_isBetter 46 = .ok (.aload_n 0, 1) := by decide +kernel
theorem dX3_isBetter_47 : decode cX3_isBetter 47 = .ok (.iload_n 2, 1) := by decide +kernel
theorem dX3_isBetter_48 : decode cX3_isBetter 48 = .ok (.invokevirtual 73, 3) := by decide +kernel
theorem dX3_isBetter_51 : decode cX3_isBetter 51 = .ok (.iload 4, 2) := by decide +kernel
theorem dX3_isBetter_53 : decode cX3_isBetter 53 = .ok (.isub, 1) := by decide +kernel
theorem dX3_isBetter_54 : decode cX3_isBetter 54 = .ok (.invokestatic 76, 3) := by decide +kernel
theorem dX3_isBetter_57 : decode cX3_isBetter 57 = .ok (.if_icmp .ge 7, 3) := by decide +kernel
theorem dX3_isBetter_60 : decode cX3_isBetter 60 = .ok (.iconst 1, 1) := by decide +kernel
theorem dX3_isBetter_61 : decode cX3_isBetter 61 = .ok (.goto 4, 3) := by decide +kernel
theorem dX3_isBetter_64 : decode cX3_isBetter 64 = .ok (.iconst 0, 1) := by decide +kernel
theorem dX3_isBetter_65 : decode cX3_isBetter 65 = .ok (.ireturn, 1) := by decide +kernel
theorem dX3_isBetter_66 : decode cX3_isBetter 66 = .ok (.iconst 0, 1) := by decide +kernel
theorem dX3_isBetter_67 : decode cX3_isBetter 67 = .ok (.ireturn, 1) := by decide +kernel
theorem dX3_value_0 : decode cX3_value 0 = .ok (.aload_n 0, 1) := by decide +kernel
theorem dX3_value_1 : decode cX3_value 1 = .ok (.iload_n 1, 1) := by decide +kernel
theorem dX3_value_2 : decode cX3_value 2 = .ok (.invokevirtual 32, 3) := by decide +kernel
theorem dX3_value_5 : decode cX3_value 5 = .ok (.ifCond .ne 5, 3) := by decide +kernel
theorem dX3_value_8 : decode cX3_value 8 = .ok (.iconst (-1), 1) := by decide +kernel
theorem dX3_value_9 : decode cX3_value 9 = .ok (.ireturn, 1) := by decide +kernel
theorem dX3_value_10 : decode cX3_value 10 = .ok (.iload_n 2, 1) := by decide +kernel
theorem dX3_value_11 : decode cX3_value 11 = .ok (.tableswitch 100 0 5 #[37, 43, 49, 55, 70, 85], 37) := by decide +kernel
theorem dX3_value_48 : decode cX3_value 48 = .ok (.aload_n 0, 1) := by decide +kernel
theorem dX3_value_49 : decode cX3_value 49 = .ok (.iload_n 1, 1) := by decide +kernel
theorem dX3_value_50 : decode cX3_value 50 = .ok (.invokevirtual 79, 3) := by decide +kernel
theorem dX3_value_53 : decode cX3_value 53 = .ok (.ireturn, 1) := by decide +kernel
theorem dX3_value_54 : decode cX3_value 54 = .ok (.aload_n 0, 1) := by decide +kernel
theorem dX3_value_55 : decode cX3_value 55 = .ok (.iload_n 1, 1) := by decide +kernel
theorem dX3_value_56 : decode cX3_value 56 = .ok (.invokevirtual 73, 3) := by decide +kernel
theorem dX3_value_59 : decode cX3_value 59 = .ok (.ireturn, 1) := by decide +kernel
theorem dX3_value_60 : decode cX3_value 60 = .ok (.aload_n 0, 1) := by decide +kernel
theorem dX3_value_61 : decode cX3_value 61 = .ok (.iload_n 1, 1) := by decide +kernel
theorem dX3_value_62 : decode cX3_value 62 = .ok (.invokevirtual 70, 3) := by decide +kernel
theorem dX3_value_65 : decode cX3_value 65 = .ok (.ireturn, 1) := by decide +kernel
theorem dX3_value_66 : decode cX3_value 66 = .ok (.aload_n 0, 1) := by decide +kernel
theorem dX3_value_67 : decode cX3_value 67 = .ok (.iload_n 1, 1) := by decide +kernel
theorem dX3_value_68 : decode cX3_value 68 = .ok (.iconst 1, 1) := by decide +kernel
theorem dX3_value_69 : decode cX3_value 69 = .ok (.invokevirtual 63, 3) := by decide +kernel
theorem dX3_value_72 : decode cX3_value 72 = .ok (.ifCond .eq 7, 3) := by decide +kernel
theorem dX3_value_75 : decode cX3_value 75 = .ok (.iconst 1, 1) := by decide +kernel
theorem dX3_value_76 : decode cX3_value 76 = .ok (.goto 4, 3) := by decide +kernel
theorem dX3_value_79 : decode cX3_value 79 = .ok (.iconst 0, 1) := by decide +kernel
theorem dX3_value_80 : decode cX3_value 80 = .ok (.ireturn, 1) := by decide +kernel
theorem dX3_value_81 : decode cX3_value 81 = .ok (.aload_n 0, 1) := by decide +kernel
theorem dX3_value_82 : decode cX3_value 82 = .ok (.iload_n 1, 1) := by decide +kernel
theorem dX3_value_83 : decode cX3_value 83 = .ok (.iconst 2, 1) := by decide +kernel
theorem dX3_value_84 : decode cX3_value 84 = .ok (.invokevirtual 63, 3) := by decide +kernel
theorem dX3_value_87 : decode cX3_value 87 = .ok (.ifCond .eq 7, 3) := by decide +kernel
theorem dX3_value_90 : decode cX3_value 90 = .ok (.iconst 1, 1) := by decide +kernel
theorem dX3_value_91 : decode cX3_value 91 = .ok (.goto 4, 3) := by decide +kernel
theorem dX3_value_94 : decode cX3_value 94 = .ok (.iconst 0, 1) := by decide +kernel
theorem dX3_value_95 : decode cX3_value 95 = .ok (.ireturn, 1) := by decide +kernel
theorem dX3_value_96 : decode cX3_value 96 = .ok (.aload_n 0, 1) := by decide +kernel
theorem dX3_value_97 : decode cX3_value 97 = .ok (.iload_n 1, 1) := by decide +kernel
theorem dX3_value_98 : decode cX3_value 98 = .ok (.iconst 4, 1) := by decide +kernel
theorem dX3_value_99 : decode cX3_value 99 = .ok (.invokevirtual 63, 3) := by decide +kernel
theorem dX3_value_102 : decode cX3_value 102 = .ok (.ifCond .eq 7, 3) := by decide +kernel
theorem dX3_value_105 : decode cX3_value 105 = .ok (.iconst 1, 1) := by decide +kernel
theorem dX3_value_106 : decode cX3_value 106 = .ok (.goto 4, 3) := by decide +kernel
theorem dX3_value_109 : decode cX3_value 109 = .ok (.iconst 0, 1) := by decide +kernel
theorem dX3_value_110 : decode cX3_value 110 = .ok (.ireturn, 1) := by decide +kernel
theorem dX3_value_111 : decode cX3_value 111 = .ok (.iconst (-1), 1) := by decide +kernel
theorem dX3_value_112 : decode cX3_value 112 = .ok (.ireturn, 1) := by decide +kernel
theorem dX3_addToDigest_0 : decode cX3_addToDigest 0 = .ok (.lload_n 1, 1) := by decide +kernel
theorem dX3_addToDigest_1 : decode cX3_addToDigest 1 = .ok (.lstore_n 3, 1) := by decide +kernel
theorem dX3_addToDigest_2 : decode cX3_addToDigest 2 = .ok (.iconst 0, 1) := by decide +kernel
theorem dX3_addToDigest_3 : decode cX3_addToDigest 3 = .ok (.istore 5, 2) := by decide +kernel
theorem dX3_addToDigest_5 : decode cX3_addToDigest 5 = .ok (.iload 5, 2) := by decide +kernel
theorem dX3_addToDigest_7 : decode cX3_addToDigest 7 = .ok (.aload_n 0, 1) := by decide +kernel
theorem dX3_addToDigest_8 : decode cX3_addToDigest 8 = .ok (.getfield 9, 3) := by decide +kernel
theorem dX3_addToDigest_11 : decode cX3_addToDigest 11 = .ok (.if_icmp .ge 41, 3) := by decide +kernel
theorem dX3_addToDigest_14 : decode cX3_addToDigest 14 = .ok (.iconst 0, 1) := by decide +kernel
theorem dX3_addToDigest_15 : decode cX3_addToDigest 15 = .ok (.istore 6, 2) := by decide +kernel
theorem dX3_addToDigest_17 : decode cX3_addToDigest 17 = .ok (.iload 6, 2) := by decide +kernel
theorem dX3_addToDigest_19 : decode cX3_addToDigest 19 = .ok (.bipush 6, 2) := by decide +kernel
theorem dX3_addToDigest_21 : decode cX3_addToDigest 21 = .ok (.if_icmp .ge 25, 3) := by decide +kernel
theorem dX3_addToDigest_24 : decode cX3_addToDigest 24 = .ok (.ldc2_w 82, 3) := by decide +kernel
theorem dX3_addToDigest_27 : decode cX3_addToDigest 27 = .ok (.lload_n 3, 1) := by decide +kernel
theorem dX3_addToDigest_28 : decode cX3_addToDigest 28 = .ok (.lmul, 1) := by decide +kernel
theorem dX3_addToDigest_29 : decode cX3_addToDigest 29 = .ok (.aload_n 0, 1) := by decide +kernel
theorem dX3_addToDigest_30 : decode cX3_addToDigest 30 = .ok (.iload 5, 2) := by decide +kernel
theorem dX3_addToDigest_32 : decode cX3_addToDigest 32 = .ok (.iload 6, 2) := by decide +kernel
theorem dX3_addToDigest_34 : decode cX3_addToDigest 34 = .ok (.invokevirtual 84, 3) := by decide +kernel
theorem dX3_addToDigest_37 : decode cX3_addToDigest 37 = .ok (.i2l, 1) := by decide +kernel
theorem dX3_addToDigest_38 : decode cX3_addToDigest 38 = .ok (.ladd, 1) := by decide +kernel
theorem dX3_addToDigest_39 : decode cX3_addToDigest 39 = .ok (.lstore_n 3, 1) := by decide +kernel
theorem dX3_addToDigest_40 : decode cX3_addToDigest 40 = .ok (.iinc 6 1, 3) := by decide +kernel
theorem dX3_addToDigest_43 : decode cX3_addToDigest 43 = .ok (.goto (-26), 3) := by decide +kernel
theorem dX3_addToDigest_46 : decode cX3_addToDigest 46 = .ok (.iinc 5 1, 3) := by decide +kernel
theorem dX3_addToDigest_49 : decode cX3_addToDigest 49 = .ok (.goto (-44), 3) := by decide +kernel
theorem dX3_addToDigest_52 : decode cX3_addToDigest 52 = .ok (.lload_n 3, 1) := by decide +kernel
theorem dX3_addToDigest_53 : decode cX3_addToDigest 53 = .ok (.lreturn, 1) := by decide +kernel
theorem dX4_init_0 : decode cX4_init 0 = .ok (.aload_n 0, 1) := by decide +kernel
theorem dX4_init_1 : decode cX4_init 1 = .ok (.invokespecial 3, 3) := by decide +kernel
theorem dX4_init_4 : decode cX4_init 4 = .ok (.aload_n 0, 1) := by decide +kernel
theorem dX4_init_5 : decode cX4_init 5 = .ok (.bipush 9, 2) := by decide +kernel
theorem dX4_init_7 : decode cX4_init 7 = .ok (.newarray .int, 2) := by decide +kernel
theorem dX4_init_9 : decode cX4_init 9 = .ok (.putfield 9, 3) := by decide +kernel
theorem dX4_init_12 : decode cX4_init 12 = .ok (.aload_n 0, 1) := by decide +kernel
theorem dX4_init_13 : decode cX4_init 13 = .ok (.invokevirtual 15, 3) := by decide +kernel
theorem dX4_init_16 : decode cX4_init 16 = .ok (.return_, 1) := by decide +kernel
theorem dX4_reset_0 : decode cX4_reset 0 = .ok (.aload_n 0, 1) := by decide +kernel
theorem dX4_reset_1 : decode cX4_reset 1 = .ok (.iconst 0, 1) := by decide +kernel
theorem dX4_reset_2 : decode cX4_reset 2 = .ok (.putfield 18, 3) := by decide +kernel
theorem dX4_reset_5 : decode cX4_reset 5 = .ok (.aload_n 0, 1) := by decide +kernel
theorem dX4_reset_6 : decode cX4_reset 6 = .ok (.iconst (-1), 1) := by decide +kernel
theorem dX4_reset_7 : decode cX4_reset 7 = .ok (.putfield 22, 3) := by decide +kernel
theorem dX4_reset_10 : decode cX4_reset 10 = .ok (.aload_n 0, 1) := by decide +kernel
theorem dX4_reset_11 : decode cX4_reset 11 = .ok (.iconst 0, 1) := by decide +kernel
theorem dX4_reset_12 : decode cX4_reset 12 = .ok (.putfield 25, 3) := by decide +kernel
theorem dX4_reset_15 : decode cX4_reset 15 = .ok (.aload_n 0, 1) := by decide +kernel
theorem dX4_reset_16 : decode cX4_reset 16 = .ok (.iconst 0, 1) := by decide +kernel
theorem dX4_reset_17 : decode cX4_reset 17 = .ok (.putfield 28, 3) := by decide +kernel
theorem dX4_reset_20 : decode cX4_reset 20 = .ok (.aload_n 0, 1) := by decide +kernel
theorem dX4_reset_21 : decode cX4_reset 21 = .ok (.iconst 0, 1) := by decide +kernel
theorem dX4_reset_22 : decode cX4_reset 22 = .ok (.putfield 31, 3) := by decide +kernel
theorem dX4_reset_25 : decode cX4_reset 25 = .ok (.aload_n 0, 1) := by decide +kernel
theorem dX4_reset_26 : decode cX4_reset 26 = .ok (.iconst 0, 1) := by decide +kernel
theorem dX4_reset_27 : decode cX4_reset 27 = .ok (.putfield 34, 3) := by decide +kernel
theorem dX4_reset_30 : decode cX4_reset 30 = .ok (.aload_n 0, 1) := by decide +kernel
theorem dX4_reset_31 : decode cX4_reset 31 = .ok (.iconst 0, 1) := by decide +kernel
theorem dX4_reset_32 : decode cX4_reset 32 = .ok (.putfield 37, 3) := by decide +kernel
theorem dX4_reset_35 : decode cX4_reset 35 = .ok (.aload_n 0, 1) := by decide +kernel
theorem dX4_reset_36 : decode cX4_reset 36 = .ok (.iconst 0, 1) := by decide +kernel
theorem dX4_reset_37 : decode cX4_reset 37 = .ok (.putfield 40, 3) := by decide +kernel
theorem dX4_reset_40 : decode cX4_reset 40 = .ok (.return_, 1) := by decide +kernel
theorem dX4_copyFrom_0 : decode cX4_copyFrom 0 = .ok (.aload_n 1, 1) := by decide +kernel
theorem dX4_copyFrom_1 : decode cX4_copyFrom 1 = .ok (.getfield 9, 3) := by decide +kernel
theorem dX4_copyFrom_4 : decode cX4_copyFrom 4 = .ok (.aload_n 0, 1) := by decide +kernel
theorem dX4_copyFrom_5 : decode cX4_copyFrom 5 = .ok (.getfield 9, 3) := by decide +kernel
theorem dX4_copyFrom_8 : decode cX4_copyFrom 8 = .ok (.invokestatic 43, 3) := by decide +kernel
theorem dX4_copyFrom_11 : decode cX4_copyFrom 11 = .ok (.aload_n 0, 1) := by decide +kernel
theorem dX4_copyFrom_12 : decode cX4_copyFrom 12 = .ok (.aload_n 1, 1) := by decide +kernel
theorem dX4_copyFrom_13 : decode cX4_copyFrom 13 = .ok (.getfield 18, 3) := by decide +kernel
theorem dX4_copyFrom_16 : decode cX4_copyFrom 16 = .ok (.putfield 18, 3) := by decide +kernel
theorem dX4_copyFrom_19 : decode cX4_copyFrom 19 = .ok (.aload_n 0, 1) := by decide +kernel
theorem dX4_copyFrom_20 : decode cX4_copyFrom 20 = .ok (.aload_n 1, 1) := by decide +kernel
theorem dX4_copyFrom_21 : decode cX4_copyFrom 21 = .ok (.getfield 22, 3) := by decide +kernel
theorem dX4_copyFrom_24 : decode cX4_copyFrom 24 = .ok (.putfield 22, 3) := by decide +kernel
theorem dX4_copyFrom_27 : decode cX4_copyFrom 27 = .ok (.aload_n 0, 1) := by decide +kernel
theorem dX4_copyFrom_28 : decode cX4_copyFrom 28 = .ok (.aload_n 1, 1) := by decide +kernel
theorem dX4_copyFrom_29 : decode cX4_copyFrom 29 = .ok (.getfield 25, 3) := by decide +kernel
theorem dX4_copyFrom_32 : decode cX4_copyFrom 32 = .ok (.putfield 25, 3) := by decide +kernel
theorem dX4_copyFrom_35 : decode cX4_copyFrom 35 = .ok (.aload_n 0, 1) := by decide +kernel
theorem dX4_copyFrom_36 : decode cX4_copyFrom 36 = .ok (.aload_n 1, 1) := by decide +kernel
theorem dX4_copyFrom_37 : decode cX4_copyFrom 37 = .ok (.getfield 28, 3) := by decide +kernel
theorem dX4_copyFrom_40 : decode cX4_copyFrom 40 = .ok (.putfield 28, 3) := by decide +kernel
theorem dX4_copyFrom_43 : decode cX4_copyFrom 43 = .ok (.aload_n 0, 1) := by decide +kernel
theorem dX4_copyFrom_44 : decode cX4_copyFrom 44 = .ok (.aload_n 1, 1) := by decide +kernel
theorem dX4_copyFrom_45 : decode cX4_copyFrom 45 = .ok (.getfield 31, 3) := by decide +kernel
theorem dX4_copyFrom_48 : decode cX4_copyFrom 48 = .ok (.putfield 31, 3) := by decide +kernel
theorem dX4_copyFrom_51 : decode cX4_copyFrom 51 = .ok (.aload_n 0, 1) := by decide +kernel
theorem dX4_copyFrom_52 : decode cX4_copyFrom 52 = .ok (.aload_n 1, 1) := by decide +kernel
theorem dX4_copyFrom_53 : decode cX4_copyFrom 53 = .ok (.getfield 34, 3) := by decide +kernel
theorem dX4_copyFrom_56 : decode cX4_copyFrom 56 = .ok (.putfield 34, 3) := by decide +kernel
theorem dX4_copyFrom_59 : decode cX4_copyFrom 59 = .ok (.aload_n 0, 1) := by decide +kernel
theorem dX4_copyFrom_60 : decode cX4_copyFrom 60 = .ok (.aload_n 1, 1) := by decide +kernel
theorem dX4_copyFrom_61 : decode cX4_copyFrom 61 = .ok (.getfield 37, 3) := by decide +kernel
theorem dX4_copyFrom_64 : decode cX4_copyFrom 64 = .ok (.putfield 37, 3) := by decide +kernel
theorem dX4_copyFrom_67 : decode cX4_copyFrom 67 = .ok (.aload_n 0, 1) := by decide +kernel
theorem dX4_copyFrom_68 : decode cX4_copyFrom 68 = .ok (.aload_n 1, 1) := by decide +kernel
theorem dX4_copyFrom_69 : decode cX4_copyFrom 69 = .ok (.getfield 40, 3) := by decide +kernel
theorem dX4_copyFrom_72 : decode cX4_copyFrom 72 = .ok (.putfield 40, 3) := by decide +kernel
theorem dX4_copyFrom_75 : decode cX4_copyFrom 75 = .ok (.return_, 1) := by decide +kernel
theorem dX4_shorten_0 : decode cX4_shorten 0 = .ok (.aload_n 0, 1) := by decide +kernel
theorem dX4_shorten_1 : decode cX4_shorten 1 = .ok (.aload_n 0, 1) := by decide +kernel
theorem dX4_shorten_2 : decode cX4_shorten 2 = .ok (.getfield 18, 3) := by decide +kernel
theorem dX4_shorten_5 : decode cX4_shorten 5 = .ok (.iload_n 1, 1) := by decide +kernel
theorem dX4_shorten_6 : decode cX4_shorten 6 = .ok (.invokestatic 47, 3) := by decide +kernel
theorem dX4_shorten_9 : decode cX4_shorten 9 = .ok (.putfield 18, 3) := by decide +kernel
theorem dX4_shorten_12 : decode cX4_shorten 12 = .ok (.return_, 1) := by decide +kernel
theorem dX4_pickAt_0 : decode cX4_pickAt 0 = .ok (.iload_n 1, 1) := by decide +kernel
theorem dX4_pickAt_1 : decode cX4_pickAt 1 = .ok (.ifCond .lt 29, 3) := by decide +kernel
theorem dX4_pickAt_4 : decode cX4_pickAt 4 = .ok (.iload_n 1, 1) := by decide +kernel
theorem dX4_pickAt_5 : decode cX4_pickAt 5 = .ok (.aload_n 0, 1) := by decide +kernel
theorem dX4_pickAt_6 : decode cX4_pickAt 6 = .ok (.getfield 18, 3) := by decide +kernel
theorem dX4_pickAt_9 : decode cX4_pickAt 9 = .ok (.if_icmp .ge 21, 3) := by decide +kernel
theorem dX4_pickAt_12 : decode cX4_pickAt 12 = .ok (.iload_n 1, 1) := by decide +kernel
theorem dX4_pickAt_13 : decode cX4_pickAt 13 = .ok (.aload_n 0, 1) := by decide +kernel
theorem dX4_pickAt_14 : decode cX4_pickAt 14 = .ok (.getfield 9, 3) := by decide +kernel
theorem dX4_pickAt_17 : decode cX4_pickAt 17 = .ok (.arraylength, 1) := by decide +kernel
theorem dX4_pickAt_18 : decode cX4_pickAt 18 = .ok (.if_icmp .ge 12, 3) := by decide +kernel
theorem dX4_pickAt_21 : decode cX4_pickAt 21 = .ok (.aload_n 0, 1) := by decide +kernel
theorem dX4_pickAt_22 : decode cX4_pickAt 22 = .ok (.getfield 9, 3) := by decide +kernel
theorem dX4_pickAt_25 : decode cX4_pickAt 25 = .ok (.iload_n 1, 1) := by decide +kernel
theorem dX4_pickAt_26 : decode cX4_pickAt 26 = .ok (.iaload, 1) := by decide +kernel
theorem dX4_pickAt_27 : decode cX4_pickAt 27 = .ok (.goto 4, 3) := by decide +kernel
theorem dX4_pickAt_30 : decode cX4_pickAt 30 = .ok (.iconst (-1), 1) := by decide +kernel
theorem dX4_pickAt_31 : decode cX4_pickAt 31 = .ok (.ireturn, 1) := by decide +kernel
theorem dX4_pickCount_0 : decode cX4_pickCount 0 = .ok (.iconst 0, 1) := by decide +kernel
theorem dX4_pickCount_1 : decode cX4_pickCount 1 = .ok (.istore_n 1, 1) := by decide +kernel
theorem dX4_pickCount_2 : decode cX4_pickCount 2 = .ok (.iconst 0, 1) := by decide +kernel
theorem dX4_pickCount_3 : decode cX4_pickCount 3 = .ok (.istore_n 2, 1) := by decide +kernel
theorem dX4_pickCount_4 : decode cX4_pickCount 4 = .ok (.iload_n 2, 1) := by decide +kernel
theorem dX4_pickCount_5 : decode cX4_pickCount 5 = .ok (.aload_n 0, 1) := by decide +kernel
theorem dX4_pickCount_6 : decode cX4_pickCount 6 = .ok (.getfield 18, 3) := by decide +kernel
theorem dX4_pickCount_9 : decode cX4_pickCount 9 = .ok (.if_icmp .ge 21, 3) := by decide +kernel
theorem dX4_pickCount_12 : decode cX4_pickCount 12 = .ok (.aload_n 0, 1) := by decide +kernel
theorem dX4_pickCount_13 : decode cX4_pickCount 13 = .ok (.iload_n 2, 1) := by decide +kernel
theorem dX4_pickCount_14 : decode cX4_pickCount 14 = .ok (.invokevirtual 53, 3) := by decide +kernel
theorem dX4_pickCount_17 : decode cX4_pickCount 17 = .ok (.iconst (-1), 1) := by decide +kernel
theorem dX4_pickCount_18 : decode cX4_pickCount 18 = .ok (.if_icmp .eq 6, 3) := by decide +kernel
theorem dX4_pickCount_21 : decode cX4_pickCount 21 = .ok (.iinc 1 1, 3) := by decide +kernel
theorem dX4_pickCount_24 : decode cX4_pickCount 24 = .ok (.iinc 2 1, 3) := by decide +kernel
theorem dX4_pickCount_27 : decode cX4_pickCount 27 = .ok (.goto (-23), 3) := by decide +kernel
theorem dX4_pickCount_30 : decode cX4_pickCount 30 = .ok (.iload_n 1, 1) := by decide +kernel
theorem dX4_pickCount_31 : decode cX4_pickCount 31 = .ok (.ireturn, 1) := by decide +kernel
theorem dX4_pickSum_0 : decode cX4_pickSum 0 = .ok (.iconst 0, 1) := by decide +kernel
theorem dX4_pickSum_1 : decode cX4_pickSum 1 = .ok (.istore_n 1, 1) := by decide +kernel
theorem dX4_pickSum_2 : decode cX4_pickSum 2 = .ok (.iconst 0, 1) := by decide +kernel
theorem dX4_pickSum_3 : decode cX4_pickSum 3 = .ok (.istore_n 2, 1) := by decide +kernel
theorem dX4_pickSum_4 : decode cX4_pickSum 4 = .ok (.iload_n 2, 1) := by decide +kernel
theorem dX4_pickSum_5 : decode cX4_pickSum 5 = .ok (.aload_n 0, 1) := by decide +kernel
theorem dX4_pickSum_6 : decode cX4_pickSum 6 = .ok (.getfield 18, 3) := by decide +kernel
theorem dX4_pickSum_9 : decode cX4_pickSum 9 = .ok (.if_icmp .ge 26, 3) := by decide +kernel
theorem dX4_pickSum_12 : decode cX4_pickSum 12 = .ok (.aload_n 0, 1) := by decide +kernel
theorem dX4_pickSum_13 : decode cX4_pickSum 13 = .ok (.iload_n 2, 1) := by decide +kernel
theorem dX4_pickSum_14 : decode cX4_pickSum 14 = .ok (.invokevirtual 53, 3) := by decide +kernel
theorem dX4_pickSum_17 : decode cX4_pickSum 17 = .ok (.iconst (-1), 1) := by decide +kernel
theorem dX4_pickSum_18 : decode cX4_pickSum 18 = .ok (.if_icmp .eq 11, 3) := by decide +kernel
theorem dX4_pickSum_21 : decode cX4_pickSum 21 = .ok (.iload_n 1, 1) := by decide +kernel
theorem dX4_pickSum_22 : decode cX4_pickSum 22 = .ok (.aload_n 0, 1) := by decide +kernel
theorem dX4_pickSum_23 : decode cX4_pickSum 23 = .ok (.iload_n 2, 1) := by decide +kernel
theorem dX4_pickSum_24 : decode cX4_pickSum 24 = .ok (.invokevirtual 53, 3) := by decide +kernel
theorem dX4_pickSum_27 : decode cX4_pickSum 27 = .ok (.iadd, 1) := by decide +kernel
theorem dX4_pickSum_28 : decode cX4_pickSum 28 = .ok (.istore_n 1, 1) := by decide +kernel
theorem dX4_pickSum_29 : decode cX4_pickSum 29 = .ok (.iinc 2 1, 3) := by decide +kernel
theorem dX4_pickSum_32 : decode cX4_pickSum 32 = .ok (.goto (-28), 3) := by decide +kernel
theorem dX4_pickSum_35 : decode cX4_pickSum 35 = .ok (.iload_n 1, 1) := by decide +kernel
theorem dX4_pickSum_36 : decode cX4_pickSum 36 = .ok (.ireturn, 1) := by decide +kernel
theorem dX4_median_0 : decode cX4_median 0 = .ok (.aload_n 0, 1) := by decide +kernel
theorem dX4_median_1 : decode cX4_median 1 = .ok (.invokevirtual 57, 3) := by decide +kernel
theorem dX4_median_4 : decode cX4_median 4 = .ok (.istore_n 2, 1) := by decide +kernel
theorem dX4_median_5 : decode cX4_median 5 = .ok (.iconst 2, 1) := by decide +kernel
theorem dX4_median_6 : decode cX4_median 6 = .ok (.iload_n 2, 1) := by decide +kernel
theorem dX4_median_7 : decode cX4_median 7 = .ok (.imul, 1) := by decide +kernel
theorem dX4_median_8 : decode cX4_median 8 = .ok (.iload_n 1, 1) := by decide +kernel
theorem dX4_median_9 : decode cX4_median 9 = .ok (.if_icmp .lt 15, 3) := by decide +kernel
theorem dX4_median_12 : decode cX4_median 12 = .ok (.aload_n 0, 1) := by decide +kernel
theorem dX4_median_13 : decode cX4_median 13 = .ok (.iload_n 2, 1) := by decide +kernel
theorem dX4_median_14 : decode cX4_median 14 = .ok (.iconst 1, 1) := by decide +kernel
theorem dX4_median_15 : decode cX4_median 15 = .ok (.isub, 1) := by decide +kernel
theorem dX4_median_16 : decode cX4_median 16 = .ok (.iconst 2, 1) := by decide +kernel
theorem dX4_median_17 : decode cX4_median 17 = .ok (.idiv, 1) := by decide +kernel
theorem dX4_median_18 : decode cX4_median 18 = .ok (.invokevirtual 61, 3) := by decide +kernel
theorem dX4_median_21 : decode cX4_median 21 = .ok (.goto 4, 3) := by decide +kernel
theorem dX4_median_24 : decode cX4_median 24 = .ok (.iconst (-1), 1) := by decide +kernel
theorem dX4_median_25 : decode cX4_median 25 = .ok (.ireturn, 1) := by decide +kernel
theorem dX4_pickOfRank_0 : decode cX4_pickOfRank 0 = .ok (.iconst 0, 1) := by decide +kernel
theorem dX4_pickOfRank_1 : decode cX4_pickOfRank 1 = .ok (.istore_n 2, 1) := by decide +kernel
theorem dX4_pickOfRank_2 : decode cX4_pickOfRank 2 = .ok (.iload_n 2, 1) := by decide +kernel
theorem dX4_pickOfRank_3 : decode cX4_pickOfRank 3 = .ok (.aload_n 0, 1) := by decide +kernel
theorem dX4_pickOfRank_4 : decode cX4_pickOfRank 4 = .ok (.getfield 18, 3) := by decide +kernel
theorem dX4_pickOfRank_7 : decode cX4_pickOfRank 7 = .ok (.if_icmp .ge 42, 3) := by decide +kernel
theorem dX4_pickOfRank_10 : decode cX4_pickOfRank 10 = .ok (.aload_n 0, 1) := by decide +kernel
theorem dX4_pickOfRank_11 : decode cX4_pickOfRank 11 = .ok (.iload_n 2, 1) := by decide +kernel
theorem dX4_pickOfRank_12 : decode cX4_pickOfRank 12 = .ok (.invokevirtual 53, 3) := by decide +kernel
theorem dX4_pickOfRank_15 : decode cX4_pickOfRank 15 = .ok (.istore_n 3, 1) := by decide +kernel
theorem dX4_pickOfRank_16 : decode cX4_pickOfRank 16 = .ok (.iload_n 3, 1) := by decide +kernel
theorem dX4_pickOfRank_17 : decode cX4_pickOfRank 17 = .ok (.iconst (-1), 1) := by decide +kernel
theorem dX4_pickOfRank_18 : decode cX4_pickOfRank 18 = .ok (.if_icmp .eq 25, 3) := by decide +kernel
theorem dX4_pickOfRank_21 : decode cX4_pickOfRank 21 = .ok (.aload_n 0, 1) := by decide +kernel
theorem dX4_pickOfRank_22 : decode cX4_pickOfRank 22 = .ok (.iload_n 3, 1) := by decide +kernel
theorem dX4_pickOfRank_23 : decode cX4_pickOfRank 23 = .ok (.invokevirtual 64, 3) := by decide +kernel
theorem dX4_pickOfRank_26 : decode cX4_pickOfRank 26 = .ok (.iload_n 1, 1) := by decide +kernel
theorem dX4_pickOfRank_27 : decode cX4_pickOfRank 27 = .ok (.if_icmp .gt 16, 3) := by decide +kernel
theorem dX4_pickOfRank_30 : decode cX4_pickOfRank 30 = .ok (.iload_n 1, 1) := by decide +kernel
theorem dX4_pickOfRank_31 : decode cX4_pickOfRank 31 = .ok (.aload_n 0, 1) := by decide +kernel
theorem dX4_pickOfRank_32 : decode cX4_pickOfRank 32 = .ok (.iload_n 3, 1) := by decide +kernel
theorem dX4_pickOfRank_33 : decode cX4_pickOfRank 33 = .ok (.iconst 1, 1) := by decide +kernel
theorem dX4_pickOfRank_34 : decode cX4_pickOfRank 34 = .ok (.iadd, 1) := by decide +kernel
theorem dX4_pickOfRank_35 : decode cX4_pickOfRank 35 = .ok (.invokevirtual 64, 3) := by decide +kernel
theorem dX4_pickOfRank_38 : decode cX4_pickOfRank 38 = .ok (.if_icmp .ge 5, 3) := by decide +kernel
theorem dX4_pickOfRank_41 : decode cX4_pickOfRank 41 = .ok (.iload_n 3, 1) := by decide +kernel
theorem dX4_pickOfRank_42 : decode cX4_pickOfRank 42 = .ok (.ireturn, 1) := by decide +kernel
theorem dX4_pickOfRank_43 : decode cX4_pickOfRank 43 = .ok (.iinc 2 1, 3) := by decide +kernel
theorem dX4_pickOfRank_46 : decode cX4_pickOfRank 46 = .ok (.goto (-44), 3) := by decide +kernel
theorem dX4_pickOfRank_49 : decode cX4_pickOfRank 49 = .ok (.iconst (-1), 1) := by decide +kernel
theorem dX4_pickOfRank_50 : decode cX4_pickOfRank 50 = .ok (.ireturn, 1) := by decide +kernel
theorem dX4_picksBelow_0 : decode cX4_picksBelow 0 = .ok (.iconst 0, 1) := by decide +kernel
theorem dX4_picksBelow_1 : decode cX4_picksBelow 1 = .ok (.istore_n 2, 1) := by decide +kernel
theorem dX4_picksBelow_2 : decode cX4_picksBelow 2 = .ok (.iconst 0, 1) := by decide +kernel
theorem dX4_picksBelow_3 : decode cX4_picksBelow 3 = .ok (.istore_n 3, 1) := by decide +kernel
theorem dX4_picksBelow_4 : decode cX4_picksBelow 4 = .ok (.iload_n 3, 1) := by decide +kernel
theorem dX4_picksBelow_5 : decode cX4_picksBelow 5 = .ok (.aload_n 0, 1) := by decide +kernel
theorem dX4_picksBelow_6 : decode cX4_picksBelow 6 = .ok (.getfield 18, 3) := by decide +kernel
theorem dX4_picksBelow_9 : decode cX4_picksBelow 9 = .ok (.if_icmp .ge 41, 3) := by decide +kernel
theorem dX4_picksBelow_12 : decode cX4_picksBelow 12 = .ok (.iload_n 3, 1) := by decide +kernel
theorem dX4_picksBelow_13 : decode cX4_picksBelow 13 = .ok (.aload_n 0, 1) := by decide +kernel
theorem dX4_picksBelow_14 : decode cX4_picksBelow 14 = .ok (.getfield 9, 3) := by decide +kernel
theorem dX4_picksBelow_17 : decode cX4_picksBelow 17 = .ok (.arraylength, 1) := by decide +kernel
theorem dX4_picksBelow_18 : decode cX4_picksBelow 18 = .ok (.if_icmp .ge 32, 3) := by decide +kernel
theorem dX4_picksBelow_21 : decode cX4_picksBelow 21 = .ok (.aload_n 0, 1) := by decide +kernel
theorem dX4_picksBelow_22 : decode cX4_picksBelow 22 = .ok (.getfield 9, 3) := by decide +kernel
theorem dX4_picksBelow_25 : decode cX4_picksBelow 25 = .ok (.iload_n 3, 1) := by decide +kernel
theorem dX4_picksBelow_26 : decode cX4_picksBelow 26 = .ok (.iaload, 1) := by decide +kernel
theorem dX4_picksBelow_27 : decode cX4_picksBelow 27 = .ok (.iconst (-1), 1) := by decide +kernel
theorem dX4_picksBelow_28 : decode cX4_picksBelow 28 = .ok (.if_icmp .eq 16, 3) := by decide +kernel
theorem dX4_picksBelow_31 : decode cX4_picksBelow 31 = .ok (.aload_n 0, 1) := by decide +kernel
theorem dX4_picksBelow_32 : decode cX4_picksBelow 32 = .ok (.getfield 9, 3) := by decide +kernel
theorem dX4_picksBelow_35 : decode cX4_picksBelow 35 = .ok (.iload_n 3, 1) := by decide +kernel
theorem dX4_picksBelow_36 : decode cX4_picksBelow 36 = .ok (.iaload, 1) := by decide +kernel
theorem dX4_picksBelow_37 : decode cX4_picksBelow 37 = .ok (.iload_n 1, 1) := by decide +kernel
theorem dX4_picksBelow_38 : decode cX4_picksBelow 38 = .ok (.if_icmp .ge 6, 3) := by decide +kernel
theorem dX4_picksBelow_41 : decode cX4_picksBelow 41 = .ok (.iinc 2 1, 3) := by decide +kernel
theorem dX4_picksBelow_44 : decode cX4_picksBelow 44 = .ok (.iinc 3 1, 3) := by decide +kernel
theorem dX4_picksBelow_47 : decode cX4_picksBelow 47 = .ok (.goto (-43), 3) := by decide +kernel
theorem dX4_picksBelow_50 : decode cX4_picksBelow 50 = .ok (.iload_n 2, 1) := by decide +kernel
theorem dX4_picksBelow_51 : decode cX4_picksBelow 51 = .ok (.ireturn, 1) := by decide +kernel
theorem dX4_toldLevel_0 : decode cX4_toldLevel 0 = .ok (.aload_n 0, 1) := by decide +kernel
theorem dX4_toldLevel_1 : decode cX4_toldLevel 1 = .ok (.getfield 22, 3) := by decide +kernel
theorem dX4_toldLevel_4 : decode cX4_toldLevel 4 = .ok (.iconst (-1), 1) := by decide +kernel
theorem dX4_toldLevel_5 : decode cX4_toldLevel 5 = .ok (.if_icmp .eq 12, 3) := by decide +kernel
theorem dX4_toldLevel_8 : decode cX4_toldLevel 8 = .ok (.iload_n 1, 1) := by decide +kernel
theorem dX4_toldLevel_9 : decode cX4_toldLevel 9 = .ok (.aload_n 0, 1) := by decide +kernel
theorem dX4_toldLevel_10 : decode cX4_toldLevel 10 = .ok (.getfield 22, 3) := by decide +kernel
theorem dX4_toldLevel_13 : decode cX4_toldLevel 13 = .ok (.isub, 1) := by decide +kernel
theorem dX4_toldLevel_14 : decode cX4_toldLevel 14 = .ok (.goto 4, 3) := by decide +kernel
theorem dX4_toldLevel_17 : decode cX4_toldLevel 17 = .ok (.iconst (-1), 1) := by decide +kernel
theorem dX4_toldLevel_18 : decode cX4_toldLevel 18 = .ok (.ireturn, 1) := by decide +kernel
theorem dX4_enter_0 : decode cX4_enter 0 = .ok (.aload_n 0, 1) := by decide +kernel
theorem dX4_enter_1 : decode cX4_enter 1 = .ok (.dup, 1) := by decide +kernel
theorem dX4_enter_2 : decode cX4_enter 2 = .ok (.getfield 31, 3) := by decide +kernel
theorem dX4_enter_5 : decode cX4_enter 5 = .ok (.iconst 1, 1) := by decide +kernel
theorem dX4_enter_6 : decode cX4_enter 6 = .ok (.iadd, 1) := by decide +kernel
theorem dX4_enter_7 : decode cX4_enter 7 = .ok (.putfield 31, 3) := by decide +kernel
theorem dX4_enter_10 : decode cX4_enter 10 = .ok (.iload_n 1, 1) := by decide +kernel
theorem dX4_enter_11 : decode cX4_enter 11 = .ok (.iconst (-1), 1) := by decide +kernel
theorem dX4_enter_12 : decode cX4_enter 12 = .ok (.if_icmp .eq 13, 3) := by decide +kernel
theorem dX4_enter_15 : decode cX4_enter 15 = .ok (.aload_n 0, 1) := by decide +kernel
theorem dX4_enter_16 : decode cX4_enter 16 = .ok (.dup, 1) := by decide +kernel
theorem dX4_enter_17 : decode cX4_enter 17 = .ok (.getfield 34, 3) := by decide +kernel
theorem dX4_enter_20 : decode cX4_enter 20 = .ok (.iconst 1, 1) := by decide +kernel
theorem dX4_enter_21 : decode cX4_enter 21 = .ok (.iadd, 1) := by decide +kernel
theorem dX4_enter_22 : decode cX4_enter 22 = .ok (.putfield 34, 3) := by decide +kernel
theorem dX4_enter_25 : decode cX4_enter 25 = .ok (.aload_n 0, 1) := by decide +kernel
theorem dX4_enter_26 : decode cX4_enter 26 = .ok (.iload_n 1, 1) := by decide +kernel
theorem dX4_enter_27 : decode cX4_enter 27 = .ok (.aload_n 2, 1) := by decide +kernel
theorem dX4_enter_28 : decode cX4_enter 28 = .ok (.bipush 6, 2) := by decide +kernel
theorem dX4_enter_30 : decode cX4_enter 30 = .ok (.invokevirtual 67, 3) := by decide +kernel
theorem dX4_enter_33 : decode cX4_enter 33 = .ok (.invokevirtual 72, 3) := by decide +kernel
theorem dX4_enter_36 : decode cX4_enter 36 = .ok (.aload_n 0, 1) := by decide +kernel
theorem dX4_enter_37 : decode cX4_enter 37 = .ok (.aload_n 2, 1) := by decide +kernel
theorem dX4_enter_38 : decode cX4_enter 38 = .ok (.bipush 6, 2) := by decide +kernel
theorem dX4_enter_40 : decode cX4_enter 40 = .ok (.invokevirtual 67, 3) := by decide +kernel
theorem dX4_enter_43 : decode cX4_enter 43 = .ok (.invokevirtual 76, 3) := by decide +kernel
theorem dX4_enter_46 : decode cX4_enter 46 = .ok (.istore 4, 2) := by decide +kernel
theorem dX4_enter_48 : decode cX4_enter 48 = .ok (.iload 4, 2) := by decide +kernel
theorem dX4_enter_50 : decode cX4_enter 50 = .ok (.iconst (-1), 1) := by decide +kernel
theorem dX4_enter_51 : decode cX4_enter 51 = .ok (.if_icmp .eq 23, 3) := by decide +kernel
theorem dX4_enter_54 : decode cX4_enter 54 = .ok (.aload_n 0, 1) := by decide +kernel
theorem dX4_enter_55 : decode cX4_enter 55 = .ok (.iload 4, 2) := by decide +kernel
theorem dX4_enter_57 : decode cX4_enter 57 = .ok (.aload_n 2, 1) := by decide +kernel
theorem dX4_enter_58 : decode cX4_enter 58 = .ok (.bipush 7, 2) := by decide +kernel
theorem dX4_enter_60 : decode cX4_enter 60 = .ok (.invokevirtual 67, 3) := by decide +kernel
theorem dX4_enter_63 : decode cX4_enter 63 = .ok (.invokevirtual 79, 3) := by decide +kernel
theorem dX4_enter_66 : decode cX4_enter 66 = .ok (.aload_n 0, 1) := by decide +kernel
theorem dX4_enter_67 : decode cX4_enter 67 = .ok (.iconst 0, 1) := by decide +kernel
theorem dX4_enter_68 : decode cX4_enter 68 = .ok (.putfield 25, 3) := by decide +kernel
theorem dX4_enter_71 : decode cX4_enter 71 = .ok (.goto 13, 3) := by decide +kernel
theorem dX4_enter_74 : decode cX4_enter 74 = .ok (.aload_n 0, 1) := by decide +kernel
theorem dX4_enter_75 : decode cX4_enter 75 = .ok (.aload_n 2, 1) := by decide +kernel
theorem dX4_enter_76 : decode cX4_enter 76 = .ok (.bipush 8, 2) := by decide +kernel
theorem dX4_enter_78 : decode cX4_enter 78 = .ok (.invokevirtual 67, 3) := by decide +kernel
theorem dX4_enter_81 : decode cX4_enter 81 = .ok (.invokevirtual 82, 3) := by decide +kernel
theorem dX4_enter_84 : decode cX4_enter 84 = .ok (.aload_n 0, 1) := by decide +kernel
theorem dX4_enter_85 : decode cX4_enter 85 = .ok (.aload_n 0, 1) := by decide +kernel
theorem dX4_enter_86 : decode cX4_enter 86 = .ok (.iload_n 3, 1) := by decide +kernel
theorem dX4_enter_87 : decode cX4_enter 87 = .ok (.invokevirtual 86, 3) := by decide +kernel
theorem dX4_enter_90 : decode cX4_enter 90 = .ok (.aload_n 2, 1) := by decide +kernel
theorem dX4_enter_91 : decode cX4_enter 91 = .ok (.invokevirtual 89, 3) := by decide +kernel
theorem dX4_enter_94 : decode cX4_enter 94 = .ok (.return_, 1) := by decide +kernel
theorem dX4_push_0 : decode cX4_push 0 = .ok (.aload_n 0, 1) := by decide +kernel
theorem dX4_push_1 : decode cX4_push 1 = .ok (.aload_n 0, 1) := by decide +kernel
theorem dX4_push_2 : decode cX4_push 2 = .ok (.getfield 18, 3) := by decide +kernel
theorem dX4_push_5 : decode cX4_push 5 = .ok (.iconst 1, 1) := by decide +kernel
theorem dX4_push_6 : decode cX4_push 6 = .ok (.iadd, 1) := by decide +kernel
theorem dX4_push_7 : decode cX4_push 7 = .ok (.iload_n 2, 1) := by decide +kernel
theorem dX4_push_8 : decode cX4_push 8 = .ok (.aload_n 0, 1) := by decide +kernel
theorem dX4_push_9 : decode cX4_push 9 = .ok (.getfield 9, 3) := by decide +kernel
theorem dX4_push_12 : decode cX4_push 12 = .ok (.arraylength, 1) := by decide +kernel
theorem dX4_push_13 : decode cX4_push 13 = .ok (.invokestatic 47, 3) := by decide +kernel
theorem dX4_push_16 : decode cX4_push 16 = .ok (.invokestatic 47, 3) := by decide +kernel
theorem dX4_push_19 : decode cX4_push 19 = .ok (.putfield 18, 3) := by decide +kernel
theorem dX4_push_22 : decode cX4_push 22 = .ok (.aload_n 0, 1) := by decide +kernel
theorem dX4_push_23 : decode cX4_push 23 = .ok (.getfield 18, 3) := by decide +kernel
theorem dX4_push_26 : decode cX4_push 26 = .ok (.iconst 1, 1) := by decide +kernel
theorem dX4_push_27 : decode cX4_push 27 = .ok (.isub, 1) := by decide +kernel
theorem dX4_push_28 : decode cX4_push 28 = .ok (.istore_n 3, 1) := by decide +kernel
theorem dX4_push_29 : decode cX4_push 29 = .ok (.iload_n 3, 1) := by decide +kernel
theorem dX4_push_30 : decode cX4_push 30 = .ok (.ifCond .le 23, 3) := by decide +kernel
theorem dX4_push_33 : decode cX4_push 33 = .ok (.aload_n 0, 1) := by decide +kernel
theorem dX4_push_34 : decode cX4_push 34 = .ok (.getfield 9, 3) := by decide +kernel
theorem dX4_push_37 : decode cX4_push 37 = .ok (.iload_n 3, 1) := by decide +kernel
theorem dX4_push_38 : decode cX4_push 38 = .ok (.aload_n 0, 1) := by decide +kernel
theorem dX4_push_39 : decode cX4_push 39 = .ok (.getfield 9, 3) := by decide +kernel
theorem dX4_push_42 : decode cX4_push 42 = .ok (.iload_n 3, 1) := by decide +kernel
theorem dX4_push_43 : decode cX4_push 43 = .ok (.iconst 1, 1) := by decide +kernel
theorem dX4_push_44 : decode cX4_push 44 = .ok (.isub, 1) := by decide +kernel
theorem dX4_push_45 : decode cX4_push 45 = .ok (.iaload, 1) := by decide +kernel
theorem dX4_push_46 : decode cX4_push 46 = .ok (.iastore, 1) := by decide +kernel
theorem dX4_push_47 : decode cX4_push 47 = .ok (.iinc 3 (-1), 3) := by decide +kernel
theorem dX4_push_50 : decode cX4_push 50 = .ok (.goto (-21), 3) := by decide +kernel
theorem dX4_push_53 : decode cX4_push 53 = .ok (.aload_n 0, 1) := by decide +kernel
theorem dX4_push_54 : decode cX4_push 54 = .ok (.getfield 9, 3) := by decide +kernel
theorem dX4_push_57 : decode cX4_push 57 = .ok (.iconst 0, 1) := by decide +kernel
theorem dX4_push_58 : decode cX4_push 58 = .ok (.iload_n 1, 1) := by decide +kernel
theorem dX4_push_59 : decode cX4_push 59 = .ok (.iastore, 1) := by decide +kernel
theorem dX4_push_60 : decode cX4_push 60 = .ok (.return_, 1) := by decide +kernel
theorem dX4_follow_0 : decode cX4_follow 0 = .ok (.iload_n 2, 1) := by decide +kernel
theorem dX4_follow_1 : decode cX4_follow 1 = .ok (.ifCond .le 14, 3) := by decide +kernel
theorem dX4_follow_4 : decode cX4_follow 4 = .ok (.iload_n 1, 1) := by decide +kernel
theorem dX4_follow_5 : decode cX4_follow 5 = .ok (.aload_n 0, 1) := by decide +kernel
theorem dX4_follow_6 : decode cX4_follow 6 = .ok (.getfield 22, 3) := by decide +kernel
theorem dX4_follow_9 : decode cX4_follow 9 = .ok (.isub, 1) := by decide +kernel
theorem dX4_follow_10 : decode cX4_follow 10 = .ok (.iload_n 2, 1) := by decide +kernel
theorem dX4_follow_11 : decode cX4_follow 11 = .ok (.idiv, 1) := by decide +kernel
theorem dX4_follow_12 : decode cX4_follow 12 = .ok (.goto 4, 3) := by decide +kernel
theorem dX4_follow_15 : decode cX4_follow 15 = .ok (.iconst 0, 1) := by decide +kernel
theorem dX4_follow_16 : decode cX4_follow 16 = .ok (.istore_n 3, 1) := by decide +kernel
theorem dX4_follow_17 : decode cX4_follow 17 = .ok (.aload_n 0, 1) := by decide +kernel
theorem dX4_follow_18 : decode cX4_follow 18 = .ok (.aload_n 0, 1) := by decide +kernel
theorem dX4_follow_19 : decode cX4_follow 19 = .ok (.getfield 22, 3) := by decide +kernel
theorem dX4_follow_22 : decode cX4_follow 22 = .ok (.iconst (-1), 1) := by decide +kernel
theorem dX4_follow_23 : decode cX4_follow 23 = .ok (.if_icmp .eq 7, 3) := by decide +kernel
theorem dX4_follow_26 : decode cX4_follow 26 = .ok (.iload_n 3, 1) := by decide +kernel
theorem dX4_follow_27 : decode cX4_follow 27 = .ok (.ifCond .ne 7, 3) := by decide +kernel
theorem dX4_follow_30 : decode cX4_follow 30 = .ok (.iload_n 1, 1) := by decide +kernel
theorem dX4_follow_31 : decode cX4_follow 31 = .ok (.goto 9, 3) := by decide +kernel
theorem dX4_follow_34 : decode cX4_follow 34 = .ok (.aload_n 0, 1) := by decide +kernel
theorem dX4_follow_35 : decode cX4_follow 35 = .ok (.getfield 22, 3) := by decide +kernel
theorem dX4_follow_38 : decode cX4_follow 38 = .ok (.iload_n 3, 1) := by decide +kernel
theorem dX4_follow_39 : decode cX4_follow 39 = .ok (.iadd, 1) := by decide +kernel
theorem dX4_follow_40 : decode cX4_follow 40 = .ok (.putfield 22, 3) := by decide +kernel
theorem dX4_follow_43 : decode cX4_follow 43 = .ok (.return_, 1) := by decide +kernel
theorem dX4_miss_0 : decode cX4_miss 0 = .ok (.aload_n 0, 1) := by decide +kernel
theorem dX4_miss_1 : decode cX4_miss 1 = .ok (.dup, 1) := by decide +kernel
theorem dX4_miss_2 : decode cX4_miss 2 = .ok (.getfield 25, 3) := by decide +kernel
theorem dX4_miss_5 : decode cX4_miss 5 = .ok (.iconst 1, 1) := by decide +kernel
theorem dX4_miss_6 : decode cX4_miss 6 = .ok (.iadd, 1) := by decide +kernel
theorem dX4_miss_7 : decode cX4_miss 7 = .ok (.putfield 25, 3) := by decide +kernel
theorem dX4_miss_10 : decode cX4_miss 10 = .ok (.aload_n 0, 1) := by decide +kernel
theorem dX4_miss_11 : decode cX4_miss 11 = .ok (.getfield 25, 3) := by decide +kernel
theorem dX4_miss_14 : decode cX4_miss 14 = .ok (.iload_n 1, 1) := by decide +kernel
theorem dX4_miss_15 : decode cX4_miss 15 = .ok (.if_icmp .ne 32, 3) := by decide +kernel
theorem dX4_miss_18 : decode cX4_miss 18 = .ok (.aload_n 0, 1) := by decide +kernel
theorem dX4_miss_19 : decode cX4_miss 19 = .ok (.iconst (-1), 1) := by decide +kernel
theorem dX4_miss_20 : decode cX4_miss 20 = .ok (.putfield 22, 3) := by decide +kernel
theorem dX4_miss_23 : decode cX4_miss 23 = .ok (.iconst 0, 1) := by decide +kernel
theorem dX4_miss_24 : decode cX4_miss 24 = .ok (.istore_n 2, 1) := by decide +kernel
theorem dX4_miss_25 : decode cX4_miss 25 = .ok (.iload_n 2, 1) := by decide +kernel
theorem dX4_miss_26 : decode cX4_miss 26 = .ok (.aload_n 0, 1) := by decide +kernel
theorem dX4_miss_27 : decode cX4_miss 27 = .ok (.getfield 9, 3) := by decide +kernel
theorem dX4_miss_30 : decode cX4_miss 30 = .ok (.arraylength, 1) := by decide +kernel
theorem dX4_miss_31 : decode cX4_miss 31 = .ok (.if_icmp .ge 16, 3) := by decide +kernel
theorem dX4_miss_34 : decode cX4_miss 34 = .ok (.aload_n 0, 1) := by decide +kernel
theorem dX4_miss_35 : decode cX4_miss 35 = .ok (.getfield 9, 3) := by decide +kernel
theorem dX4_miss_38 : decode cX4_miss 38 = .ok (.iload_n 2, 1) := by decide +kernel
theorem dX4_miss_39 : decode cX4_miss 39 = .ok (.iconst (-1), 1) := by decide +kernel
theorem dX4_miss_40 : decode cX4_miss 40 = .ok (.iastore, 1) := by decide +kernel
theorem dX4_miss_41 : decode cX4_miss 41 = .ok (.iinc 2 1, 3) := by decide +kernel
theorem dX4_miss_44 : decode cX4_miss 44 = .ok (.goto (-19), 3) := by decide +kernel
theorem dX4_miss_47 : decode cX4_miss 47 = .ok (.return_, 1) := by decide +kernel
theorem dX4_judgeAlarm_0 : decode cX4_judgeAlarm 0 = .ok (.aload_n 0, 1) := by decide +kernel
theorem dX4_judgeAlarm_1 : decode cX4_judgeAlarm 1 = .ok (.getfield 28, 3) := by decide +kernel
theorem dX4_judgeAlarm_4 : decode cX4_judgeAlarm 4 = .ok (.istore_n 3, 1) := by decide +kernel
theorem dX4_judgeAlarm_5 : decode cX4_judgeAlarm 5 = .ok (.iload_n 1, 1) := by decide +kernel
theorem dX4_judgeAlarm_6 : decode cX4_judgeAlarm 6 = .ok (.iconst (-1), 1) := by decide +kernel
theorem dX4_judgeAlarm_7 : decode cX4_judgeAlarm 7 = .ok (.if_icmp .ne 11, 3) := by decide +kernel
theorem dX4_judgeAlarm_10 : decode cX4_judgeAlarm 10 = .ok (.aload_n 0, 1) := by decide +kernel
theorem dX4_judgeAlarm_11 : decode cX4_judgeAlarm 11 = .ok (.iconst 0, 1) := by decide +kernel
theorem dX4_judgeAlarm_12 : decode cX4_judgeAlarm 12 = .ok (.putfield 28, 3) := by decide +kernel
theorem dX4_judgeAlarm_15 : decode cX4_judgeAlarm 15 = .ok (.goto 88, 3) := by decide +kernel
theorem dX4_judgeAlarm_18 : decode cX4_judgeAlarm 18 = .ok (.iload_n 1, 1) := by decide +kernel
theorem dX4_judgeAlarm_19 : decode cX4_judgeAlarm 19 = .ok (.aload_n 2, 1) := by decide +kernel
theorem dX4_judgeAlarm_20 : decode cX4_judgeAlarm 20 = .ok (.bipush 9, 2) := by decide +kernel
theorem dX4_judgeAlarm_22 : decode cX4_judgeAlarm 22 = .ok (.invokevirtual 67, 3) := by decide +kernel
theorem dX4_judgeAlarm_25 : decode cX4_judgeAlarm 25 = .ok (.if_icmp .gt 11, 3) := by decide +kernel
theorem dX4_judgeAlarm_28 : decode cX4_judgeAlarm 28 = .ok (.aload_n 0, 1) := by decide +kernel
theorem dX4_judgeAlarm_29 : decode cX4_judgeAlarm 29 = .ok (.iconst 1, 1) := by decide +kernel
theorem dX4_judgeAlarm_30 : decode cX4_judgeAlarm 30 = .ok (.putfield 28, 3) := by decide +kernel
theorem dX4_judgeAlarm_33 : decode cX4_judgeAlarm 33 = .ok (.goto 70, 3) := by decide +kernel
theorem dX4_judgeAlarm_36 : decode cX4_judgeAlarm 36 = .ok (.iload_n 1, 1) := by decide +kernel
theorem dX4_judgeAlarm_37 : decode cX4_judgeAlarm 37 = .ok (.aload_n 2, 1) := by decide +kernel
theorem dX4_judgeAlarm_38 : decode cX4_judgeAlarm 38 = .ok (.bipush 10, 2) := by decide +kernel
theorem dX4_judgeAlarm_40 : decode cX4_judgeAlarm 40 = .ok (.invokevirtual 67, 3) := by decide +kernel
theorem dX4_judgeAlarm_43 : decode cX4_judgeAlarm 43 = .ok (.if_icmp .lt 11, 3) := by decide +kernel
theorem dX4_judgeAlarm_46 : decode cX4_judgeAlarm 46 = .ok (.aload_n 0, 1) := by decide +kernel
theorem dX4_judgeAlarm_47 : decode cX4_judgeAlarm 47 = .ok (.iconst 2, 1) := by decide +kernel
theorem dX4_judgeAlarm_48 : decode cX4_judgeAlarm 48 = .ok (.putfield 28, 3) := by decide +kernel
theorem dX4_judgeAlarm_51 : decode cX4_judgeAlarm 51 = .ok (.goto 52, 3) := by decide +kernel
theorem dX4_judgeAlarm_54 : decode cX4_judgeAlarm 54 = .ok (.iload_n 3, 1) := by decide +kernel
theorem dX4_judgeAlarm_55 : decode cX4_judgeAlarm 55 = .ok (.iconst 1, 1) := by decide +kernel
theorem dX4_judgeAlarm_56 : decode cX4_judgeAlarm 56 = .ok (.if_icmp .ne 20, 3) := by decide +kernel
theorem dX4_judgeAlarm_59 : decode cX4_judgeAlarm 59 = .ok (.iload_n 1, 1) := by decide +kernel
theorem dX4_judgeAlarm_60 : decode cX4_judgeAlarm 60 = .ok (.aload_n 2, 1) := by decide +kernel
theorem dX4_judgeAlarm_61 : decode cX4_judgeAlarm 61 = .ok (.bipush 9, 2) := by decide +kernel
theorem dX4_judgeAlarm_63 : decode cX4_judgeAlarm 63 = .ok (.invokevirtual 67, 3) := by decide +kernel
theorem dX4_judgeAlarm_66 : decode cX4_judgeAlarm 66 = .ok (.aload_n 2, 1) := by decide +kernel
theorem dX4_judgeAlarm_67 : decode cX4_judgeAlarm 67 = .ok (.bipush 11, 2) := by decide +kernel
theorem dX4_judgeAlarm_69 : decode cX4_judgeAlarm 69 = .ok (.invokevirtual 67, 3) := by decide +kernel
theorem dX4_judgeAlarm_72 : decode cX4_judgeAlarm 72 = .ok (.iadd, 1) := by decide +kernel
theorem dX4_judgeAlarm_73 : decode cX4_judgeAlarm 73 = .ok (.if_icmp .gt 25, 3) := by decide +kernel
theorem dX4_judgeAlarm_76 : decode cX4_judgeAlarm 76 = .ok (.iload_n 3, 1) := by decide +kernel
theorem dX4_judgeAlarm_77 : decode cX4_judgeAlarm 77 = .ok (.iconst 2, 1) := by decide +kernel
theorem dX4_judgeAlarm_78 : decode cX4_judgeAlarm 78 = .ok (.if_icmp .ne 25, 3) := by decide +kernel
theorem dX4_judgeAlarm_81 : decode cX4_judgeAlarm 81 = .ok (.iload_n 1, 1) := by decide +kernel
theorem dX4_judgeAlarm_82 : decode cX4_judgeAlarm 82 = .ok (.aload_n 2, 1) := by decide +kernel
theorem dX4_judgeAlarm_83 : decode cX4_judgeAlarm 83 = .ok (.bipush 10, 2) := by decide +kernel
theorem dX4_judgeAlarm_85 : decode cX4_judgeAlarm 85 = .ok (.invokevirtual 67, 3) := by decide +kernel
theorem dX4_judgeAlarm_88 : decode cX4_judgeAlarm 88 = .ok (.aload_n 2, 1) := by decide +kernel
theorem dX4_judgeAlarm_89 : decode cX4_judgeAlarm 89 = .ok (.bipush 11, 2) := by decide +kernel
theorem dX4_judgeAlarm_91 : decode cX4_judgeAlarm 91 = .ok (.invokevirtual 67, 3) := by decide +kernel
theorem dX4_judgeAlarm_94 : decode cX4_judgeAlarm 94 = .ok (.isub, 1) := by decide +kernel
theorem dX4_judgeAlarm_95 : decode cX4_judgeAlarm 95 = .ok (.if_icmp .ge 8, 3) := by decide +kernel
theorem dX4_judgeAlarm_98 : decode cX4_judgeAlarm 98 = .ok (.aload_n 0, 1) := by decide +kernel
theorem dX4_judgeAlarm_99 : decode cX4_judgeAlarm 99 = .ok (.iconst 0, 1) := by decide +kernel
theorem dX4_judgeAlarm_100 : decode cX4_judgeAlarm 100 = .ok (.putfield 28, 3) := by decide +kernel
theorem dX4_judgeAlarm_103 : decode cX4_judgeAlarm 103 = .ok (.aload_n 0, 1) := by decide +kernel
theorem dX4_judgeAlarm_104 : decode cX4_judgeAlarm 104 = .ok (.getfield 28, 3) := by decide +kernel
theorem dX4_judgeAlarm_107 : decode cX4_judgeAlarm 107 = .ok (.ifCond .eq 21, 3) := by decide +kernel
theorem dX4_judgeAlarm_110 : decode cX4_judgeAlarm 110 = .ok (.aload_n 0, 1) := by decide +kernel
theorem dX4_judgeAlarm_111 : decode cX4_judgeAlarm 111 = .ok (.getfield 28, 3) := by decide +kernel
theorem dX4_judgeAlarm_114 : decode cX4_judgeAlarm 114 = .ok (.iload_n 3, 1) := by decide +kernel
theorem dX4_judgeAlarm_115 : decode cX4_judgeAlarm 115 = .ok (.if_icmp .eq 13, 3) := by decide +kernel
theorem dX4_judgeAlarm_118 : decode cX4_judgeAlarm 118 = .ok (.aload_n 0, 1) := by decide +kernel
theorem dX4_judgeAlarm_119 : decode cX4_judgeAlarm 119 = .ok (.dup, 1) := by decide +kernel
theorem dX4_judgeAlarm_120 : decode cX4_judgeAlarm 120 = .ok (.getfield 40, 3) := by decide +kernel
theorem dX4_judgeAlarm_123 : decode cX4_judgeAlarm 123 = .ok (.iconst 1, 1) := by decide +kernel
theorem dX4_judgeAlarm_124 : decode cX4_judgeAlarm 124 = .ok (.iadd, 1) := by decide +kernel
theorem dX4_judgeAlarm_125 : decode cX4_judgeAlarm 125 = .ok (.putfield 40, 3) := by decide +kernel
theorem dX4_judgeAlarm_128 : decode cX4_judgeAlarm 128 = .ok (.return_, 1) := by decide +kernel
theorem dX5_init_0 : decode cX5_init 0 = .ok (.aload_n 0, 1) := by decide +kernel
theorem dX5_init_1 : decode cX5_init 1 = .ok (.invokespecial 3, 3) := by decide +kernel
theorem dX5_init_4 : decode cX5_init 4 = .ok (.aload_n 0, 1) := by decide +kernel
theorem dX5_init_5 : decode cX5_init 5 = .ok (.bipush 8, 2) := by decide +kernel
theorem dX5_init_7 : decode cX5_init 7 = .ok (.newarray .long, 2) := by decide +kernel
theorem dX5_init_9 : decode cX5_init 9 = .ok (.putfield 11, 3) := by decide +kernel
theorem dX5_init_12 : decode cX5_init 12 = .ok (.aload_n 0, 1) := by decide +kernel
theorem dX5_init_13 : decode cX5_init 13 = .ok (.iconst 0, 1) := by decide +kernel
theorem dX5_init_14 : decode cX5_init 14 = .ok (.putfield 15, 3) := by decide +kernel
theorem dX5_init_17 : decode cX5_init 17 = .ok (.return_, 1) := by decide +kernel
theorem dX5_reset_0 : decode cX5_reset 0 = .ok (.iconst 0, 1) := by decide +kernel
theorem dX5_reset_1 : decode cX5_reset 1 = .ok (.istore_n 1, 1) := by decide +kernel
theorem dX5_reset_2 : decode cX5_reset 2 = .ok (.iload_n 1, 1) := by decide +kernel
theorem dX5_reset_3 : decode cX5_reset 3 = .ok (.aload_n 0, 1) := by decide +kernel
theorem dX5_reset_4 : decode cX5_reset 4 = .ok (.getfield 11, 3) := by decide +kernel
theorem dX5_reset_7 : decode cX5_reset 7 = .ok (.arraylength, 1) := by decide +kernel
theorem dX5_reset_8 : decode cX5_reset 8 = .ok (.if_icmp .ge 16, 3) := by decide +kernel
theorem dX5_reset_11 : decode cX5_reset 11 = .ok (.aload_n 0, 1) := by decide +kernel
theorem dX5_reset_12 : decode cX5_reset 12 = .ok (.getfield 11, 3) := by decide +kernel
theorem dX5_reset_15 : decode cX5_reset 15 = .ok (.iload_n 1, 1) := by decide +kernel
theorem dX5_reset_16 : decode cX5_reset 16 = .ok (.lconst 0, 1) := by decide +kernel
theorem dX5_reset_17 : decode cX5_reset 17 = .ok (.lastore, 1) := by decide +kernel
theorem dX5_reset_18 : decode cX5_reset 18 = .ok (.iinc 1 1, 3) := by decide +kernel
theorem dX5_reset_21 : decode cX5_reset 21 = .ok (.goto (-19), 3) := by decide +kernel
theorem dX5_reset_24 : decode cX5_reset 24 = .ok (.aload_n 0, 1) := by decide +kernel
theorem dX5_reset_25 : decode cX5_reset 25 = .ok (.iconst 0, 1) := by decide +kernel
theorem dX5_reset_26 : decode cX5_reset 26 = .ok (.putfield 15, 3) := by decide +kernel
theorem dX5_reset_29 : decode cX5_reset 29 = .ok (.return_, 1) := by decide +kernel
theorem dX5_copyFrom_0 : decode cX5_copyFrom 0 = .ok (.aload_n 1, 1) := by decide +kernel
theorem dX5_copyFrom_1 : decode cX5_copyFrom 1 = .ok (.getfield 11, 3) := by decide +kernel
theorem dX5_copyFrom_4 : decode cX5_copyFrom 4 = .ok (.iconst 0, 1) := by decide +kernel
theorem dX5_copyFrom_5 : decode cX5_copyFrom 5 = .ok (.aload_n 0, 1) := by decide +kernel
theorem dX5_copyFrom_6 : decode cX5_copyFrom 6 = .ok (.getfield 11, 3) := by decide +kernel
theorem dX5_copyFrom_9 : decode cX5_copyFrom 9 = .ok (.iconst 0, 1) := by decide +kernel
theorem dX5_copyFrom_10 : decode cX5_copyFrom 10 = .ok (.aload_n 1, 1) := by decide +kernel
theorem dX5_copyFrom_11 : decode cX5_copyFrom 11 = .ok (.getfield 11, 3) := by decide +kernel
theorem dX5_copyFrom_14 : decode cX5_copyFrom 14 = .ok (.arraylength, 1) := by decide +kernel
theorem dX5_copyFrom_15 : decode cX5_copyFrom 15 = .ok (.aload_n 0, 1) := by decide +kernel
theorem dX5_copyFrom_16 : decode cX5_copyFrom 16 = .ok (.getfield 11, 3) := by decide +kernel
theorem dX5_copyFrom_19 : decode cX5_copyFrom 19 = .ok (.arraylength, 1) := by decide +kernel
theorem dX5_copyFrom_20 : decode cX5_copyFrom 20 = .ok (.invokestatic 19, 3) := by decide +kernel
theorem dX5_copyFrom_23 : decode cX5_copyFrom 23 = .ok (.invokestatic 25, 3) := by decide +kernel
theorem dX5_copyFrom_26 : decode cX5_copyFrom 26 = .ok (.aload_n 0, 1) := by decide +kernel
theorem dX5_copyFrom_27 : decode cX5_copyFrom 27 = .ok (.aload_n 1, 1) := by decide +kernel
theorem dX5_copyFrom_28 : decode cX5_copyFrom 28 = .ok (.getfield 15, 3) := by decide +kernel
theorem dX5_copyFrom_31 : decode cX5_copyFrom 31 = .ok (.putfield 15, 3) := by decide +kernel
theorem dX5_copyFrom_34 : decode cX5_copyFrom 34 = .ok (.return_, 1) := by decide +kernel
theorem dX5_covers_0 : decode cX5_covers 0 = .ok (.aload_n 0, 1) := by decide +kernel
theorem dX5_covers_1 : decode cX5_covers 1 = .ok (.iload_n 1, 1) := by decide +kernel
theorem dX5_covers_2 : decode cX5_covers 2 = .ok (.bipush 20, 2) := by decide +kernel
theorem dX5_covers_4 : decode cX5_covers 4 = .ok (.idiv, 1) := by decide +kernel
theorem dX5_covers_5 : decode cX5_covers 5 = .ok (.invokevirtual 31, 3) := by decide +kernel
theorem dX5_covers_8 : decode cX5_covers 8 = .ok (.ireturn, 1) := by decide +kernel
theorem dX5_hasBin_0 : decode cX5_hasBin 0 = .ok (.iload_n 1, 1) := by decide +kernel
theorem dX5_hasBin_1 : decode cX5_hasBin 1 = .ok (.bipush 64, 2) := by decide +kernel
theorem dX5_hasBin_3 : decode cX5_hasBin 3 = .ok (.idiv, 1) := by decide +kernel
theorem dX5_hasBin_4 : decode cX5_hasBin 4 = .ok (.istore_n 2, 1) := by decide +kernel
theorem dX5_hasBin_5 : decode cX5_hasBin 5 = .ok (.iload_n 1, 1) := by decide +kernel
theorem dX5_hasBin_6 : decode cX5_hasBin 6 = .ok (.ifCond .lt 32, 3) := by decide +kernel
theorem dX5_hasBin_9 : decode cX5_hasBin 9 = .ok (.iload_n 2, 1) := by decide +kernel
theorem dX5_hasBin_10 : decode cX5_hasBin 10 = .ok (.aload_n 0, 1) := by decide +kernel
theorem dX5_hasBin_11 : decode cX5_hasBin 11 = .ok (.getfield 11, 3) := by decide +kernel
theorem dX5_hasBin_14 : decode cX5_hasBin 14 = .ok (.arraylength, 1) := by decide +kernel
theorem dX5_hasBin_15 : decode cX5_hasBin 15 = .ok (.if_icmp .ge 23, 3) := by decide +kernel
theorem dX5_hasBin_18 : decode cX5_hasBin 18 = .ok (.aload_n 0, 1) := by decide +kernel
theorem dX5_hasBin_19 : decode cX5_hasBin 19 = .ok (.getfield 11, 3) := by decide +kernel
theorem dX5_hasBin_22 : decode cX5_hasBin 22 = .ok (.iload_n 2, 1) := by decide +kernel
theorem dX5_hasBin_23 : decode cX5_hasBin 23 = .ok (.laload, 1) := by decide +kernel
theorem dX5_hasBin_24 : decode cX5_hasBin 24 = .ok (.iload_n 1, 1) := by decide +kernel
theorem dX5_hasBin_25 : decode cX5_hasBin 25 = .ok (.invokestatic 35, 3) := by decide +kernel
theorem dX5_hasBin_28 : decode cX5_hasBin 28 = .ok (.land, 1) := by decide +kernel
theorem dX5_hasBin_29 : decode cX5_hasBin 29 = .ok (.lconst 0, 1) := by decide +kernel
theorem dX5_hasBin_30 : decode cX5_hasBin 30 = .ok (.lcmp, 1) := by decide +kernel
theorem dX5_hasBin_31 : decode cX5_hasBin 31 = .ok (.ifCond .eq 7, 3) := by decide +kernel
theorem dX5_hasBin_34 : decode cX5_hasBin 34 = .ok (.iconst 1, 1) := by decide +kernel
theorem dX5_hasBin_35 : decode cX5_hasBin 35 = .ok (.goto 4, 3) := by decide +kernel
theorem dX5_hasBin_38 : decode cX5_hasBin 38 = .ok (.iconst 0, 1) := by decide +kernel
theorem dX5_hasBin_39 : decode cX5_hasBin 39 = .ok (.ireturn, 1) := by decide +kernel
theorem dX5_put_0 : decode cX5_put 0 = .ok (.iload_n 1, 1) := by decide +kernel
theorem dX5_put_1 : decode cX5_put 1 = .ok (.bipush 20, 2) := by decide +kernel
theorem dX5_put_3 : decode cX5_put 3 = .ok (.idiv, 1) := by decide +kernel
theorem dX5_put_4 : decode cX5_put 4 = .ok (.istore_n 3, 1) := by decide +kernel
theorem dX5_put_5 : decode cX5_put 5 = .ok (.iload_n 3, 1) := by decide +kernel
theorem dX5_put_6 : decode cX5_put 6 = .ok (.bipush 64, 2) := by decide +kernel
theorem dX5_put_8 : decode cX5_put 8 = .ok (.idiv, 1) := by decide +kernel
theorem dX5_put_9 : decode cX5_put 9 = .ok (.istore 4, 2) := by decide +kernel
theorem dX5_put_11 : decode cX5_put 11 = .ok (.iload_n 3, 1) := by decide +kernel
theorem dX5_put_12 : decode cX5_put 12 = .ok (.ifCond .lt 22, 3) := by decide +kernel
theorem dX5_put_15 : decode cX5_put 15 = .ok (.iload 4, 2) := by decide +kernel
theorem dX5_put_17 : decode cX5_put 17 = .ok (.aload_n 0, 1) := by decide +kernel
theorem dX5_put_18 : decode cX5_put 18 = .ok (.getfield 11, 3) := by decide +kernel
theorem dX5_put_21 : decode cX5_put 21 = .ok (.arraylength, 1) := by decide +kernel
theorem dX5_put_22 : decode cX5_put 22 = .ok (.if_icmp .ge 12, 3) := by decide +kernel
theorem dX5_put_25 : decode cX5_put 25 = .ok (.aload_n 0, 1) := by decide +kernel
theorem dX5_put_26 : decode cX5_put 26 = .ok (.iload_n 3, 1) := by decide +kernel
theorem dX5_put_27 : decode cX5_put 27 = .ok (.invokevirtual 31, 3) := by decide +kernel
theorem dX5_put_30 : decode cX5_put 30 = .ok (.iload_n 2, 1) := by decide +kernel
theorem dX5_put_31 : decode cX5_put 31 = .ok (.if_icmp .ne 4, 3) := by decide +kernel
theorem dX5_put_34 : decode cX5_put 34 = .ok (.return_, 1) := by decide +kernel
theorem dX5_put_35 : decode cX5_put 35 = .ok (.aload_n 0, 1) := by decide +kernel
theorem dX5_put_36 : decode cX5_put 36 = .ok (.getfield 11, 3) := by decide +kernel
theorem dX5_put_39 : decode cX5_put 39 = .ok (.iload 4, 2) := by decide +kernel
theorem dX5_put_41 : decode cX5_put 41 = .ok (.dup2, 1) := by decide +kernel
theorem dX5_put_42 : decode cX5_put 42 = .ok (.laload, 1) := by decide +kernel
theorem dX5_put_43 : decode cX5_put 43 = .ok (.iload_n 3, 1) := by decide +kernel
theorem dX5_put_44 : decode cX5_put 44 = .ok (.invokestatic 35, 3) := by decide +kernel
theorem dX5_put_47 : decode cX5_put 47 = .ok (.lxor, 1) := by decide +kernel
theorem dX5_put_48 : decode cX5_put 48 = .ok (.lastore, 1) := by decide +kernel
theorem dX5_put_49 : decode cX5_put 49 = .ok (.aload_n 0, 1) := by decide +kernel
theorem dX5_put_50 : decode cX5_put 50 = .ok (.dup, 1) := by decide +kernel
theorem dX5_put_51 : decode cX5_put 51 = .ok (.getfield 15, 3) := by decide +kernel
theorem dX5_put_54 : decode cX5_put 54 = .ok (.iload_n 2, 1) := by decide +kernel
theorem dX5_put_55 : decode cX5_put 55 = .ok (.ifCond .eq 7, 3) := by decide +kernel
theorem dX5_put_58 : decode cX5_put 58 = .ok (.iconst 1, 1) := by decide +kernel
theorem dX5_put_59 : decode cX5_put 59 = .ok (.goto 4, 3) := by decide +kernel
theorem dX5_put_62 : decode cX5_put 62 = .ok (.iconst (-1), 1) := by decide +kernel
theorem dX5_put_63 : decode cX5_put 63 = .ok (.iadd, 1) := by decide +kernel
theorem dX5_put_64 : decode cX5_put 64 = .ok (.putfield 15, 3) := by decide +kernel
theorem dX5_put_67 : decode cX5_put 67 = .ok (.return_, 1) := by decide +kernel
theorem dX5_bit_0 : decode cX5_bit 0 = .ok (.lconst 1, 1) := by decide +kernel
theorem dX5_bit_1 : decode cX5_bit 1 = .ok (.iload_n 0, 1) := by decide +kernel
theorem dX5_bit_2 : decode cX5_bit 2 = .ok (.bipush 64, 2) := by decide +kernel
theorem dX5_bit_4 : decode cX5_bit 4 = .ok (.irem, 1) := by decide +kernel
theorem dX5_bit_5 : decode cX5_bit 5 = .ok (.lshl, 1) := by decide +kernel
theorem dX5_bit_6 : decode cX5_bit 6 = .ok (.lreturn, 1) := by decide +kernel
theorem dX5_addToDigest_0 : decode cX5_addToDigest 0 = .ok (.lload_n 1, 1) := by decide +kernel
theorem dX5_addToDigest_1 : decode cX5_addToDigest 1 = .ok (.lstore_n 3, 1) := by decide +kernel
theorem dX5_addToDigest_2 : decode cX5_addToDigest 2 = .ok (.iconst 0, 1) := by decide +kernel
theorem dX5_addToDigest_3 : decode cX5_addToDigest 3 = .ok (.istore 5, 2) := by decide +kernel
theorem dX5_addToDigest_5 : decode cX5_addToDigest 5 = .ok (.iload 5, 2) := by decide +kernel
theorem dX5_addToDigest_7 : decode cX5_addToDigest 7 = .ok (.sipush 501, 3) := by decide +kernel
theorem dX5_addToDigest_10 : decode cX5_addToDigest 10 = .ok (.if_icmp .ge 30, 3) := by decide +kernel
theorem dX5_addToDigest_13 : decode cX5_addToDigest 13 = .ok (.ldc2_w 39, 3) := by decide +kernel
theorem dX5_addToDigest_16 : decode cX5_addToDigest 16 = .ok (.lload_n 3, 1) := by decide +kernel
theorem dX5_addToDigest_17 : decode cX5_addToDigest 17 = .ok (.lmul, 1) := by decide +kernel
theorem dX5_addToDigest_18 : decode cX5_addToDigest 18 = .ok (.aload_n 0, 1) := by decide +kernel
theorem dX5_addToDigest_19 : decode cX5_addToDigest 19 = .ok (.iload 5, 2) := by decide +kernel
theorem dX5_addToDigest_21 : decode cX5_addToDigest 21 = .ok (.invokevirtual 31, 3) := by decide +kernel
theorem dX5_addToDigest_24 : decode cX5_addToDigest 24 = .ok (.ifCond .eq 7, 3) := by decide +kernel
theorem dX5_addToDigest_27 : decode cX5_addToDigest 27 = .ok (.lconst 1, 1) := by decide +kernel
theorem dX5_addToDigest_28 : decode cX5_addToDigest 28 = .ok (.goto 4, 3) := by decide +kernel
theorem dX5_addToDigest_31 : decode cX5_addToDigest 31 = .ok (.lconst 0, 1) := by decide +kernel
theorem dX5_addToDigest_32 : decode cX5_addToDigest 32 = .ok (.ladd, 1) := by decide +kernel
theorem dX5_addToDigest_33 : decode cX5_addToDigest 33 = .ok (.lstore_n 3, 1) := by decide +kernel
theorem dX5_addToDigest_34 : decode cX5_addToDigest 34 = .ok (.iinc 5 1, 3) := by decide +kernel
theorem dX5_addToDigest_37 : decode cX5_addToDigest 37 = .ok (.goto (-32), 3) := by decide +kernel
theorem dX5_addToDigest_40 : decode cX5_addToDigest 40 = .ok (.lload_n 3, 1) := by decide +kernel
theorem dX5_addToDigest_41 : decode cX5_addToDigest 41 = .ok (.lreturn, 1) := by decide +kernel
theorem dX6_init_0 : decode cX6_init 0 = .ok (.aload_n 0, 1) := by decide +kernel
theorem dX6_init_1 : decode cX6_init 1 = .ok (.invokespecial 3, 3) := by decide +kernel
theorem dX6_init_4 : decode cX6_init 4 = .ok (.aload_n 0, 1) := by decide +kernel
theorem dX6_init_5 : decode cX6_init 5 = .ok (.bipush 12, 2) := by decide +kernel
theorem dX6_init_7 : decode cX6_init 7 = .ok (.newarray .int, 2) := by decide +kernel
theorem dX6_init_9 : decode cX6_init 9 = .ok (.putfield 9, 3) := by decide +kernel
theorem dX6_init_12 : decode cX6_init 12 = .ok (.aload_n 0, 1) := by decide +kernel
theorem dX6_init_13 : decode cX6_init 13 = .ok (.invokevirtual 15, 3) := by decide +kernel
theorem dX6_init_16 : decode cX6_init 16 = .ok (.return_, 1) := by decide +kernel
theorem dX6_reset_0 : decode cX6_reset 0 = .ok (.getstatic 18, 3) := by decide +kernel
theorem dX6_reset_3 : decode cX6_reset 3 = .ok (.aload_n 0, 1) := by decide +kernel
theorem dX6_reset_4 : decode cX6_reset 4 = .ok (.getfield 9, 3) := by decide +kernel
theorem dX6_reset_7 : decode cX6_reset 7 = .ok (.invokestatic 21, 3) := by decide +kernel
theorem dX6_reset_10 : decode cX6_reset 10 = .ok (.return_, 1) := by decide +kernel
theorem dX6_copyFrom_0 : decode cX6_copyFrom 0 = .ok (.aload_n 1, 1) := by decide +kernel
theorem dX6_copyFrom_1 : decode cX6_copyFrom 1 = .ok (.getfield 9, 3) := by decide +kernel
theorem dX6_copyFrom_4 : decode cX6_copyFrom 4 = .ok (.aload_n 0, 1) := by decide +kernel
theorem dX6_copyFrom_5 : decode cX6_copyFrom 5 = .ok (.getfield 9, 3) := by decide +kernel
theorem dX6_copyFrom_8 : decode cX6_copyFrom 8 = .ok (.invokestatic 21, 3) := by decide +kernel
theorem dX6_copyFrom_11 : decode cX6_copyFrom 11 = .ok (.return_, 1) := by decide +kernel
theorem dX6_has_0 : decode cX6_has 0 = .ok (.iload_n 0, 1) := by decide +kernel
theorem dX6_has_1 : decode cX6_has 1 = .ok (.ifCond .lt 13, 3) := by decide +kernel
theorem dX6_has_4 : decode cX6_has 4 = .ok (.iload_n 0, 1) := by decide +kernel
theorem dX6_has_5 : decode cX6_has 5 = .ok (.bipush 12, 2) := by decide +kernel
theorem dX6_has_7 : decode cX6_has 7 = .ok (.if_icmp .ge 7, 3) := by decide +kernel
theorem dX6_has_10 : decode cX6_has 10 = .ok (.iconst 1, 1) := by decide +kernel
theorem dX6_has_11 : decode cX6_has 11 = .ok (.goto 4, 3) := by decide +kernel
theorem dX6_has_14 : decode cX6_has 14 = .ok (.iconst 0, 1) := by decide +kernel
theorem dX6_has_15 : decode cX6_has 15 = .ok (.ireturn, 1) := by decide +kernel
theorem dX6_allows_0 : decode cX6_allows 0 = .ok (.iload_n 1, 1) := by decide +kernel
theorem dX6_allows_1 : decode cX6_allows 1 = .ok (.invokestatic 25, 3) := by decide +kernel
theorem dX6_allows_4 : decode cX6_allows 4 = .ok (.ifCond .eq 21, 3) := by decide +kernel
theorem dX6_allows_7 : decode cX6_allows 7 = .ok (.iload_n 2, 1) := by decide +kernel
theorem dX6_allows_8 : decode cX6_allows 8 = .ok (.getstatic 29, 3) := by decide +kernel
theorem dX6_allows_11 : decode cX6_allows 11 = .ok (.iload_n 1, 1) := by decide +kernel
theorem dX6_allows_12 : decode cX6_allows 12 = .ok (.iaload, 1) := by decide +kernel
theorem dX6_allows_13 : decode cX6_allows 13 = .ok (.if_icmp .lt 12, 3) := by decide +kernel
theorem dX6_allows_16 : decode cX6_allows 16 = .ok (.iload_n 2, 1) := by decide +kernel
theorem dX6_allows_17 : decode cX6_allows 17 = .ok (.getstatic 32, 3) := by decide +kernel
theorem dX6_allows_20 : decode cX6_allows 20 = .ok (.iload_n 1, 1) := by decide +kernel
theorem dX6_allows_21 : decode cX6_allows 21 = .ok (.iaload, 1) := by decide +kernel
theorem dX6_allows_22 : decode cX6_allows 22 = .ok (.if_icmp .le 5, 3) := by decide +kernel
theorem dX6_allows_25 : decode cX6_allows 25 = .ok (.iconst 0, 1) := by decide +kernel
theorem dX6_allows_26 : decode cX6_allows 26 = .ok (.ireturn, 1) := by decide +kernel
theorem dX6_allows_27 : decode cX6_allows 27 = .ok (.iload_n 1, 1) := by decide +kernel
theorem dX6_allows_28 : decode cX6_allows 28 = .ok (.bipush 9, 2) := by decide +kernel
theorem dX6_allows_30 : decode cX6_allows 30 = .ok (.if_icmp .ne 13, 3) := by decide +kernel
theorem dX6_allows_33 : decode cX6_allows 33 = .ok (.iload_n 2, 1) := by decide +kernel
theorem dX6_allows_34 : decode cX6_allows 34 = .ok (.aload_n 0, 1) := by decide +kernel
theorem dX6_allows_35 : decode cX6_allows 35 = .ok (.bipush 10, 2) := by decide +kernel
theorem dX6_allows_37 : decode cX6_allows 37 = .ok (.invokevirtual 35, 3) := by decide +kernel
theorem dX6_allows_40 : decode cX6_allows 40 = .ok (.if_icmp .gt 23, 3) := by decide +kernel
theorem dX6_allows_43 : decode cX6_allows 43 = .ok (.iload_n 1, 1) := by decide +kernel
theorem dX6_allows_44 : decode cX6_allows 44 = .ok (.bipush 10, 2) := by decide +kernel
theorem dX6_allows_46 : decode cX6_allows 46 = .ok (.if_icmp .ne 13, 3) := by decide +kernel
theorem dX6_allows_49 : decode cX6_allows 49 = .ok (.iload_n 2, 1) := by decide +kernel
theorem dX6_allows_50 : decode cX6_allows 50 = .ok (.aload_n 0, 1) := by decide +kernel
theorem dX6_allows_51 : decode cX6_allows 51 = .ok (.bipush 9, 2) := by decide +kernel
theorem dX6_allows_53 : decode cX6_allows 53 = .ok (.invokevirtual 35, 3) := by decide +kernel
theorem dX6_allows_56 : decode cX6_allows 56 = .ok (.if_icmp .lt 7, 3) := by decide +kernel
theorem dX6_allows_59 : decode cX6_allows 59 = .ok (.iconst 1, 1) := by decide +kernel
theorem dX6_allows_60 : decode cX6_allows 60 = .ok (.goto 4, 3) := by decide +kernel
theorem dX6_allows_63 : decode cX6_allows 63 = .ok (.iconst 0, 1) := by decide +kernel
theorem dX6_allows_64 : decode cX6_allows 64 = .ok (.ireturn, 1) := by decide +kernel
theorem dX6_value_0 : decode cX6_value 0 = .ok (.iload_n 1, 1) := by decide +kernel
theorem dX6_value_1 : decode cX6_value 1 = .ok (.invokestatic 25, 3) := by decide +kernel
theorem dX6_value_4 : decode cX6_value 4 = .ok (.ifCond .eq 12, 3) := by decide +kernel
theorem dX6_value_7 : decode cX6_value 7 = .ok (.aload_n 0, 1) := by decide +kernel
theorem dX6_value_8 : decode cX6_value 8 = .ok (.getfield 9, 3) := by decide +kernel
theorem dX6_value_11 : decode cX6_value 11 = .ok (.iload_n 1, 1) := by decide +kernel
theorem dX6_value_12 : decode cX6_value 12 = .ok (.iaload, 1) := by decide +kernel
theorem dX6_value_13 : decode cX6_value 13 = .ok (.goto 4, 3) := by decide +kernel
theorem dX6_value_16 : decode cX6_value 16 = .ok (.iconst 0, 1) := by decide +kernel
theorem dX6_value_17 : decode cX6_value 17 = .ok (.ireturn, 1) := by decide +kernel
theorem dX6_put_0 : decode cX6_put 0 = .ok (.iload_n 1, 1) := by decide +kernel
theorem dX6_put_1 : decode cX6_put 1 = .ok (.invokestatic 25, 3) := by decide +kernel
theorem dX6_put_4 : decode cX6_put 4 = .ok (.ifCond .eq 10, 3) := by decide +kernel
theorem dX6_put_7 : decode cX6_put 7 = .ok (.aload_n 0, 1) := by decide +kernel
theorem dX6_put_8 : decode cX6_put 8 = .ok (.getfield 9, 3) := by decide +kernel
theorem dX6_put_11 : decode cX6_put 11 = .ok (.iload_n 1, 1) := by decide +kernel
theorem dX6_put_12 : decode cX6_put 12 = .ok (.iload_n 2, 1) := by decide +kernel
theorem dX6_put_13 : decode cX6_put 13 = .ok (.iastore, 1) := by decide +kernel
theorem dX6_put_14 : decode cX6_put 14 = .ok (.return_, 1) := by decide +kernel
theorem dX6_needAt_0 : decode cX6_needAt 0 = .ok (.iconst 1, 1) := by decide +kernel
theorem dX6_needAt_1 : decode cX6_needAt 1 = .ok (.aload_n 0, 1) := by decide +kernel
theorem dX6_needAt_2 : decode cX6_needAt 2 = .ok (.iconst 2, 1) := by decide +kernel
theorem dX6_needAt_3 : decode cX6_needAt 3 = .ok (.invokevirtual 35, 3) := by decide +kernel
theorem dX6_needAt_6 : decode cX6_needAt 6 = .ok (.iload_n 1, 1) := by decide +kernel
theorem dX6_needAt_7 : decode cX6_needAt 7 = .ok (.aload_n 0, 1) := by decide +kernel
theorem dX6_needAt_8 : decode cX6_needAt 8 = .ok (.iconst 3, 1) := by decide +kernel
theorem dX6_needAt_9 : decode cX6_needAt 9 = .ok (.invokevirtual 35, 3) := by decide +kernel
theorem dX6_needAt_12 : decode cX6_needAt 12 = .ok (.imul, 1) := by decide +kernel
theorem dX6_needAt_13 : decode cX6_needAt 13 = .ok (.sipush 1000, 3) := by decide +kernel
theorem dX6_needAt_16 : decode cX6_needAt 16 = .ok (.idiv, 1) := by decide +kernel
theorem dX6_needAt_17 : decode cX6_needAt 17 = .ok (.isub, 1) := by decide +kernel
theorem dX6_needAt_18 : decode cX6_needAt 18 = .ok (.invokestatic 39, 3) := by decide +kernel
theorem dX6_needAt_21 : decode cX6_needAt 21 = .ok (.ireturn, 1) := by decide +kernel
theorem dX7_init_0 : decode cX7_init 0 = .ok (.aload_n 0, 1) := by decide +kernel
theorem dX7_init_1 : decode cX7_init 1 = .ok (.invokespecial 3, 3) := by decide +kernel
theorem dX7_init_4 : decode cX7_init 4 = .ok (.aload_n 0, 1) := by decide +kernel
theorem dX7_init_5 : decode cX7_init 5 = .ok (.new 9, 3) := by decide +kernel
theorem dX7_init_8 : decode cX7_init 8 = .ok (.dup, 1) := by decide +kernel
theorem dX7_init_9 : decode cX7_init 9 = .ok (.invokespecial 11, 3) := by decide +kernel
theorem dX7_init_12 : decode cX7_init 12 = .ok (.putfield 12, 3) := by decide +kernel
theorem dX7_init_15 : decode cX7_init 15 = .ok (.aload_n 0, 1) := by decide +kernel
theorem dX7_init_16 : decode cX7_init 16 = .ok (.new 18, 3) := by decide +kernel
theorem dX7_init_19 : decode cX7_init 19 = .ok (.dup, 1) := by decide +kernel
theorem dX7_init_20 : decode cX7_init 20 = .ok (.invokespecial 20, 3) := by decide +kernel
theorem dX7_init_23 : decode cX7_init 23 = .ok (.putfield 21, 3) := by decide +kernel
theorem dX7_init_26 : decode cX7_init 26 = .ok (.aload_n 0, 1) := by decide +kernel
theorem dX7_init_27 : decode cX7_init 27 = .ok (.new 25, 3) := by decide +kernel
theorem dX7_init_30 : decode cX7_init 30 = .ok (.dup, 1) := by decide +kernel
theorem dX7_init_31 : decode cX7_init 31 = .ok (.invokespecial 27, 3) := by decide +kernel
theorem dX7_init_34 : decode cX7_init 34 = .ok (.putfield 28, 3) := by decide +kernel
theorem dX7_init_37 : decode cX7_init 37 = .ok (.aload_n 0, 1) := by decide +kernel
theorem dX7_init_38 : decode cX7_init 38 = .ok (.new 32, 3) := by decide +kernel
theorem dX7_init_41 : decode cX7_init 41 = .ok (.dup, 1) := by decide +kernel
theorem dX7_init_42 : decode cX7_init 42 = .ok (.invokespecial 34, 3) := by decide +kernel
theorem dX7_init_45 : decode cX7_init 45 = .ok (.putfield 35, 3) := by decide +kernel
theorem dX7_init_48 : decode cX7_init 48 = .ok (.aload_n 0, 1) := by decide +kernel
theorem dX7_init_49 : decode cX7_init 49 = .ok (.new 39, 3) := by decide +kernel
theorem dX7_init_52 : decode cX7_init 52 = .ok (.dup, 1) := by decide +kernel
theorem dX7_init_53 : decode cX7_init 53 = .ok (.invokespecial 41, 3) := by decide +kernel
theorem dX7_init_56 : decode cX7_init 56 = .ok (.putfield 42, 3) := by decide +kernel
theorem dX7_init_59 : decode cX7_init 59 = .ok (.aload_n 0, 1) := by decide +kernel
theorem dX7_init_60 : decode cX7_init 60 = .ok (.new 46, 3) := by decide +kernel
theorem dX7_init_63 : decode cX7_init 63 = .ok (.dup, 1) := by decide +kernel
theorem dX7_init_64 : decode cX7_init 64 = .ok (.invokespecial 48, 3) := by decide +kernel
theorem dX7_init_67 : decode cX7_init 67 = .ok (.putfield 49, 3) := by decide +kernel
theorem dX7_init_70 : decode cX7_init 70 = .ok (.aload_n 0, 1) := by decide +kernel
theorem dX7_init_71 : decode cX7_init 71 = .ok (.new 46, 3) := by decide +kernel
theorem dX7_init_74 : decode cX7_init 74 = .ok (.dup, 1) := by decide +kernel
theorem dX7_init_75 : decode cX7_init 75 = .ok (.invokespecial 48, 3) := by decide +kernel
theorem dX7_init_78 : decode cX7_init 78 = .ok (.putfield 53, 3) := by decide +kernel
theorem dX7_init_81 : decode cX7_init 81 = .ok (.return_, 1) := by decide +kernel
theorem dX7_copyFrom_0 : decode cX7_copyFrom 0 = .ok (.aload_n 0, 1) := by decide +kernel
theorem dX7_copyFrom_1 : decode cX7_copyFrom 1 = .ok (.getfield 12, 3) := by decide +kernel
theorem dX7_copyFrom_4 : decode cX7_copyFrom 4 = .ok (.aload_n 1, 1) := by decide +kernel
theorem dX7_copyFrom_5 : decode cX7_copyFrom 5 = .ok (.getfield 12, 3) := by decide +kernel
theorem dX7_copyFrom_8 : decode cX7_copyFrom 8 = .ok (.invokevirtual 56, 3) := by decide +kernel
theorem dX7_copyFrom_11 : decode cX7_copyFrom 11 = .ok (.aload_n 0, 1) := by decide +kernel
theorem dX7_copyFrom_12 : decode cX7_copyFrom 12 = .ok (.getfield 21, 3) := by decide +kernel
theorem dX7_copyFrom_15 : decode cX7_copyFrom 15 = .ok (.aload_n 1, 1) := by decide +kernel
theorem dX7_copyFrom_16 : decode cX7_copyFrom 16 = .ok (.getfield 21, 3) := by decide +kernel
theorem dX7_copyFrom_19 : decode cX7_copyFrom 19 = .ok (.invokevirtual 60, 3) := by decide +kernel
theorem dX7_copyFrom_22 : decode cX7_copyFrom 22 = .ok (.aload_n 0, 1) := by decide +kernel
theorem dX7_copyFrom_23 : decode cX7_copyFrom 23 = .ok (.getfield 28, 3) := by decide +kernel
theorem dX7_copyFrom_26 : decode cX7_copyFrom 26 = .ok (.aload_n 1, 1) := by decide +kernel
theorem dX7_copyFrom_27 : decode cX7_copyFrom 27 = .ok (.getfield 28, 3) := by decide +kernel
theorem dX7_copyFrom_30 : decode cX7_copyFrom 30 = .ok (.invokevirtual 63, 3) := by decide +kernel
theorem dX7_copyFrom_33 : decode cX7_copyFrom 33 = .ok (.aload_n 0, 1) := by decide +kernel
theorem dX7_copyFrom_34 : decode cX7_copyFrom 34 = .ok (.getfield 35, 3) := by decide +kernel
theorem dX7_copyFrom_37 : decode cX7_copyFrom 37 = .ok (.aload_n 1, 1) := by decide +kernel
theorem dX7_copyFrom_38 : decode cX7_copyFrom 38 = .ok (.getfield 35, 3) := by decide +kernel
theorem dX7_copyFrom_41 : decode cX7_copyFrom 41 = .ok (.invokevirtual 66, 3) := by decide +kernel
theorem dX7_copyFrom_44 : decode cX7_copyFrom 44 = .ok (.aload_n 0, 1) := by decide +kernel
theorem dX7_copyFrom_45 : decode cX7_copyFrom 45 = .ok (.getfield 42, 3) := by decide +kernel
theorem dX7_copyFrom_48 : decode cX7_copyFrom 48 = .ok (.aload_n 1, 1) := by decide +kernel
theorem dX7_copyFrom_49 : decode cX7_copyFrom 49 = .ok (.getfield 42, 3) := by decide +kernel
theorem dX7_copyFrom_52 : decode cX7_copyFrom 52 = .ok (.invokevirtual 69, 3) := by decide +kernel
theorem dX7_copyFrom_55 : decode cX7_copyFrom 55 = .ok (.aload_n 0, 1) := by decide +kernel
theorem dX7_copyFrom_56 : decode cX7_copyFrom 56 = .ok (.getfield 49, 3) := by decide +kernel
theorem dX7_copyFrom_59 : decode cX7_copyFrom 59 = .ok (.aload_n 1, 1) := by decide +kernel
theorem dX7_copyFrom_60 : decode cX7_copyFrom 60 = .ok (.getfield 49, 3) := by decide +kernel
theorem dX7_copyFrom_63 : decode cX7_copyFrom 63 = .ok (.invokevirtual 72, 3) := by decide +kernel
theorem dX7_copyFrom_66 : decode cX7_copyFrom 66 = .ok (.aload_n 0, 1) := by decide +kernel
theorem dX7_copyFrom_67 : decode cX7_copyFrom 67 = .ok (.getfield 53, 3) := by decide +kernel
theorem dX7_copyFrom_70 : decode cX7_copyFrom 70 = .ok (.aload_n 1, 1) := by decide +kernel
theorem dX7_copyFrom_71 : decode cX7_copyFrom 71 = .ok (.getfield 53, 3) := by decide +kernel
theorem dX7_copyFrom_74 : decode cX7_copyFrom 74 = .ok (.invokevirtual 72, 3) := by decide +kernel
theorem dX7_copyFrom_77 : decode cX7_copyFrom 77 = .ok (.return_, 1) := by decide +kernel
theorem dX7_startAgain_0 : decode cX7_startAgain 0 = .ok (.aload_n 0, 1) := by decide +kernel
theorem dX7_startAgain_1 : decode cX7_startAgain 1 = .ok (.getfield 12, 3) := by decide +kernel
theorem dX7_startAgain_4 : decode cX7_startAgain 4 = .ok (.getfield 75, 3) := by decide +kernel
theorem dX7_startAgain_7 : decode cX7_startAgain 7 = .ok (.istore_n 2, 1) := by decide +kernel
theorem dX7_startAgain_8 : decode cX7_startAgain 8 = .ok (.aload_n 0, 1) := by decide +kernel
theorem dX7_startAgain_9 : decode cX7_startAgain 9 = .ok (.getfield 12, 3) := by decide +kernel
theorem dX7_startAgain_12 : decode cX7_startAgain 12 = .ok (.invokevirtual 79, 3) := by decide +kernel
theorem dX7_startAgain_15 : decode cX7_startAgain 15 = .ok (.aload_n 0, 1) := by decide +kernel
theorem dX7_startAgain_16 : decode cX7_startAgain 16 = .ok (.getfield 12, 3) := by decide +kernel
theorem dX7_startAgain_19 : decode cX7_startAgain 19 = .ok (.iload_n 1, 1) := by decide +kernel
theorem dX7_startAgain_20 : decode cX7_startAgain 20 = .ok (.putfield 82, 3) := by decide +kernel
theorem dX7_startAgain_23 : decode cX7_startAgain 23 = .ok (.aload_n 0, 1) := by decide +kernel
theorem dX7_startAgain_24 : decode cX7_startAgain 24 = .ok (.getfield 12, 3) := by decide +kernel
theorem dX7_startAgain_27 : decode cX7_startAgain 27 = .ok (.iload_n 2, 1) := by decide +kernel
theorem dX7_startAgain_28 : decode cX7_startAgain 28 = .ok (.putfield 75, 3) := by decide +kernel
theorem dX7_startAgain_31 : decode cX7_startAgain 31 = .ok (.aload_n 0, 1) := by decide +kernel
theorem dX7_startAgain_32 : decode cX7_startAgain 32 = .ok (.getfield 21, 3) := by decide +kernel
theorem dX7_startAgain_35 : decode cX7_startAgain 35 = .ok (.invokevirtual 85, 3) := by decide +kernel
theorem dX7_startAgain_38 : decode cX7_startAgain 38 = .ok (.aload_n 0, 1) := by decide +kernel
theorem dX7_startAgain_39 : decode cX7_startAgain 39 = .ok (.getfield 28, 3) := by decide +kernel
theorem dX7_startAgain_42 : decode cX7_startAgain 42 = .ok (.invokevirtual 86, 3) := by decide +kernel
theorem dX7_startAgain_45 : decode cX7_startAgain 45 = .ok (.aload_n 0, 1) := by decide +kernel
theorem dX7_startAgain_46 : decode cX7_startAgain 46 = .ok (.getfield 35, 3) := by decide +kernel
theorem dX7_startAgain_49 : decode cX7_startAgain 49 = .ok (.invokevirtual 87, 3) := by decide +kernel
theorem dX7_startAgain_52 : decode cX7_startAgain 52 = .ok (.aload_n 0, 1) := by decide +kernel
theorem dX7_startAgain_53 : decode cX7_startAgain 53 = .ok (.getfield 42, 3) := by decide +kernel
theorem dX7_startAgain_56 : decode cX7_startAgain 56 = .ok (.invokevirtual 88, 3) := by decide +kernel
theorem dX7_startAgain_59 : decode cX7_startAgain 59 = .ok (.aload_n 0, 1) := by decide +kernel
theorem dX7_startAgain_60 : decode cX7_startAgain 60 = .ok (.getfield 49, 3) := by decide +kernel
theorem dX7_startAgain_63 : decode cX7_startAgain 63 = .ok (.invokevirtual 89, 3) := by decide +kernel
theorem dX7_startAgain_66 : decode cX7_startAgain 66 = .ok (.aload_n 0, 1) := by decide +kernel
theorem dX7_startAgain_67 : decode cX7_startAgain 67 = .ok (.getfield 53, 3) := by decide +kernel
theorem dX7_startAgain_70 : decode cX7_startAgain 70 = .ok (.invokevirtual 89, 3) := by decide +kernel
theorem dX7_startAgain_73 : decode cX7_startAgain 73 = .ok (.return_, 1) := by decide +kernel
theorem dX7_change_0 : decode cX7_change 0 = .ok (.aload_n 0, 1) := by decide +kernel
theorem dX7_change_1 : decode cX7_change 1 = .ok (.getfield 21, 3) := by decide +kernel
theorem dX7_change_4 : decode cX7_change 4 = .ok (.iload_n 1, 1) := by decide +kernel
theorem dX7_change_5 : decode cX7_change 5 = .ok (.iload_n 2, 1) := by decide +kernel
theorem dX7_change_6 : decode cX7_change 6 = .ok (.invokevirtual 90, 3) := by decide +kernel
theorem dX7_change_9 : decode cX7_change 9 = .ok (.iload_n 1, 1) := by decide +kernel
theorem dX7_change_10 : decode cX7_change 10 = .ok (.bipush 6, 2) := by decide +kernel
theorem dX7_change_12 : decode cX7_change 12 = .ok (.if_icmp .ne 11, 3) := by decide +kernel
theorem dX7_change_15 : decode cX7_change 15 = .ok (.aload_n 0, 1) := by decide +kernel
theorem dX7_change_16 : decode cX7_change 16 = .ok (.getfield 42, 3) := by decide +kernel
theorem dX7_change_19 : decode cX7_change 19 = .ok (.iload_n 2, 1) := by decide +kernel
theorem dX7_change_20 : decode cX7_change 20 = .ok (.invokevirtual 94, 3) := by decide +kernel
theorem dX7_change_23 : decode cX7_change 23 = .ok (.return_, 1) := by decide +kernel
theorem dX7_takeShots_0 : decode cX7_takeShots 0 = .ok (.iconst 0, 1) := by decide +kernel
theorem dX7_takeShots_1 : decode cX7_takeShots 1 = .ok (.istore_n 2, 1) := by decide +kernel
theorem dX7_takeShots_2 : decode cX7_takeShots 2 = .ok (.iload_n 2, 1) := by decide +kernel
theorem dX7_takeShots_3 : decode cX7_takeShots 3 = .ok (.iload_n 1, 1) := by decide +kernel
theorem dX7_takeShots_4 : decode cX7_takeShots 4 = .ok (.if_icmp .ge 113, 3) := by decide +kernel
theorem dX7_takeShots_7 : decode cX7_takeShots 7 = .ok (.aload_n 0, 1) := by decide +kernel
theorem dX7_takeShots_8 : decode cX7_takeShots 8 = .ok (.invokevirtual 98, 3) := by decide +kernel
theorem dX7_takeShots_11 : decode cX7_takeShots 11 = .ok (.aload_n 0, 1) := by decide +kernel
theorem dX7_takeShots_12 : decode cX7_takeShots 12 = .ok (.invokevirtual 101, 3) := by decide +kernel
theorem dX7_takeShots_15 : decode cX7_takeShots 15 = .ok (.aload_n 0, 1) := by decide +kernel
theorem dX7_takeShots_16 : decode cX7_takeShots 16 = .ok (.getfield 21, 3) := by decide +kernel
theorem dX7_takeShots_19 : decode cX7_takeShots 19 = .ok (.iconst 4, 1) := by decide +kernel
theorem dX7_takeShots_20 : decode cX7_takeShots 20 = .ok (.invokevirtual 104, 3) := by decide +kernel
theorem dX7_takeShots_23 : decode cX7_takeShots 23 = .ok (.iconst 1, 1) := by decide +kernel
theorem dX7_takeShots_24 : decode cX7_takeShots 24 = .ok (.if_icmp .ne 7, 3) := by decide +kernel
theorem dX7_takeShots_27 : decode cX7_takeShots 27 = .ok (.aload_n 0, 1) := by decide +kernel
theorem dX7_takeShots_28 : decode cX7_takeShots 28 = .ok (.invokevirtual 108, 3) := by decide +kernel
theorem dX7_takeShots_31 : decode cX7_takeShots 31 = .ok (.aload_n 0, 1) := by decide +kernel
theorem dX7_takeShots_32 : decode cX7_takeShots 32 = .ok (.getfield 35, 3) := by decide +kernel
theorem dX7_takeShots_35 : decode cX7_takeShots 35 = .ok (.aload_n 0, 1) := by decide +kernel
theorem dX7_takeShots_36 : decode cX7_takeShots 36 = .ok (.getfield 21, 3) := by decide +kernel
theorem dX7_takeShots_39 : decode cX7_takeShots 39 = .ok (.iconst 5, 1) := by decide +kernel
theorem dX7_takeShots_40 : decode cX7_takeShots 40 = .ok (.invokevirtual 104, 3) := by decide +kernel
theorem dX7_takeShots_43 : decode cX7_takeShots 43 = .ok (.aload_n 0, 1) := by decide +kernel
theorem dX7_takeShots_44 : decode cX7_takeShots 44 = .ok (.getfield 42, 3) := by decide +kernel
theorem dX7_takeShots_47 : decode cX7_takeShots 47 = .ok (.getfield 111, 3) := by decide +kernel
theorem dX7_takeShots_50 : decode cX7_takeShots 50 = .ok (.invokevirtual 114, 3) := by decide +kernel
theorem dX7_takeShots_53 : decode cX7_takeShots 53 = .ok (.istore_n 3, 1) := by decide +kernel
theorem dX7_takeShots_54 : decode cX7_takeShots 54 = .ok (.aload_n 0, 1) := by decide +kernel
theorem dX7_takeShots_55 : decode cX7_takeShots 55 = .ok (.getfield 35, 3) := by decide +kernel
theorem dX7_takeShots_58 : decode cX7_takeShots 58 = .ok (.iload_n 3, 1) := by decide +kernel
theorem dX7_takeShots_59 : decode cX7_takeShots 59 = .ok (.iconst 4, 1) := by decide +kernel
theorem dX7_takeShots_60 : decode cX7_takeShots 60 = .ok (.invokevirtual 118, 3) := by decide +kernel
theorem dX7_takeShots_63 : decode cX7_takeShots 63 = .ok (.aload_n 0, 1) := by decide +kernel
theorem dX7_takeShots_64 : decode cX7_takeShots 64 = .ok (.getfield 53, 3) := by decide +kernel
theorem dX7_takeShots_67 : decode cX7_takeShots 67 = .ok (.aload_n 0, 1) := by decide +kernel
theorem dX7_takeShots_68 : decode cX7_takeShots 68 = .ok (.getfield 49, 3) := by decide +kernel
theorem dX7_takeShots_71 : decode cX7_takeShots 71 = .ok (.invokevirtual 72, 3) := by decide +kernel
theorem dX7_takeShots_74 : decode cX7_takeShots 74 = .ok (.aload_n 0, 1) := by decide +kernel
theorem dX7_takeShots_75 : decode cX7_takeShots 75 = .ok (.getfield 49, 3) := by decide +kernel
theorem dX7_takeShots_78 : decode cX7_takeShots 78 = .ok (.aload_n 0, 1) := by decide +kernel
theorem dX7_takeShots_79 : decode cX7_takeShots 79 = .ok (.getfield 35, 3) := by decide +kernel
theorem dX7_takeShots_82 : decode cX7_takeShots 82 = .ok (.invokevirtual 121, 3) := by decide +kernel
theorem dX7_takeShots_85 : decode cX7_takeShots 85 = .ok (.aload_n 0, 1) := by decide +kernel
theorem dX7_takeShots_86 : decode cX7_takeShots 86 = .ok (.getfield 42, 3) := by decide +kernel
theorem dX7_takeShots_89 : decode cX7_takeShots 89 = .ok (.aload_n 0, 1) := by decide +kernel
theorem dX7_takeShots_90 : decode cX7_takeShots 90 = .ok (.getfield 35, 3) := by decide +kernel
theorem dX7_takeShots_93 : decode cX7_takeShots 93 = .ok (.iload_n 3, 1) := by decide +kernel
theorem dX7_takeShots_94 : decode cX7_takeShots 94 = .ok (.invokevirtual 124, 3) := by decide +kernel
theorem dX7_takeShots_97 : decode cX7_takeShots 97 = .ok (.aload_n 0, 1) := by decide +kernel
theorem dX7_takeShots_98 : decode cX7_takeShots 98 = .ok (.getfield 21, 3) := by decide +kernel
theorem dX7_takeShots_101 : decode cX7_takeShots 101 = .ok (.aload_n 0, 1) := by decide +kernel
theorem dX7_takeShots_102 : decode cX7_takeShots 102 = .ok (.getfield 12, 3) := by decide +kernel
theorem dX7_takeShots_105 : decode cX7_takeShots 105 = .ok (.getfield 82, 3) := by decide +kernel
theorem dX7_takeShots_108 : decode cX7_takeShots 108 = .ok (.invokevirtual 127, 3) := by decide +kernel
theorem dX7_takeShots_111 : decode cX7_takeShots 111 = .ok (.iinc 2 1, 3) := by decide +kernel
theorem dX7_takeShots_114 : decode cX7_takeShots 114 = .ok (.goto (-112), 3) := by decide +kernel
theorem dX7_takeShots_117 : decode cX7_takeShots 117 = .ok (.return_, 1) := by decide +kernel
theorem dX7_learnFalseEchoes_0 : decode cX7_learnFalseEchoes 0 = .ok (.iconst 0, 1) := by decide +kernel
theorem dX7_learnFalseEchoes_1 : decode cX7_learnFalseEchoes 1 = .ok (.istore_n 2, 1) := by decide +kernel
theorem dX7_learnFalseEchoes_2 : decode cX7_learnFalseEchoes 2 = .ok (.iload_n 2, 1) := by decide +kernel
theorem dX7_learnFalseEchoes_3 : decode cX7_learnFalseEchoes 3 = .ok (.iload_n 1, 1) := by decide +kernel
theorem dX7_learnFalseEchoes_4 : decode cX7_learnFalseEchoes 4 = .ok (.if_icmp .ge 76, 3) := by decide +kernel
theorem dX7_learnFalseEchoes_7 : decode cX7_learnFalseEchoes 7 = .ok (.aload_n 0, 1) := by decide +kernel
theorem dX7_learnFalseEchoes_8 : decode cX7_learnFalseEchoes 8 = .ok (.invokevirtual 98, 3) := by decide +kernel
theorem dX7_learnFalseEchoes_11 : decode cX7_learnFalseEchoes 11 = .ok (.iconst 0, 1) := by decide +kernel
theorem dX7_learnFalseEchoes_12 : decode cX7_learnFalseEchoes 12 = .ok (.istore_n 3, 1) := by decide +kernel
theorem dX7_learnFalseEchoes_13 : decode cX7_learnFalseEchoes 13 = .ok (.iload_n 3, 1) := by decide +kernel
theorem dX7_learnFalseEchoes_14 : decode cX7_learnFalseEchoes 14 = .ok (.aload_n 0, 1) := by decide +kernel
theorem dX7_learnFalseEchoes_15 : decode cX7_learnFalseEchoes 15 = .ok (.getfield 35, 3) := by decide +kernel
theorem dX7_learnFalseEchoes_18 : decode cX7_learnFalseEchoes 18 = .ok (.getfield 131, 3) := by decide +kernel
theorem dX7_learnFalseEchoes_21 : decode cX7_learnFalseEchoes 21 = .ok (.if_icmp .ge 53, 3) := by decide +kernel
theorem dX7_learnFalseEchoes_24 : decode cX7_learnFalseEchoes 24 = .ok (.aload_n 0, 1) := by decide +kernel
theorem dX7_learnFalseEchoes_25 : decode cX7_learnFalseEchoes 25 = .ok (.getfield 35, 3) := by decide +kernel
theorem dX7_learnFalseEchoes_28 : decode cX7_learnFalseEchoes 28 = .ok (.iload_n 3, 1) := by decide +kernel
theorem dX7_learnFalseEchoes_29 : decode cX7_learnFalseEchoes 29 = .ok (.invokevirtual 124, 3) := by decide +kernel
theorem dX7_learnFalseEchoes_32 : decode cX7_learnFalseEchoes 32 = .ok (.istore 4, 2) := by decide +kernel
theorem dX7_learnFalseEchoes_34 : decode cX7_learnFalseEchoes 34 = .ok (.aload_n 0, 1) := by decide +kernel
theorem dX7_learnFalseEchoes_35 : decode cX7_learnFalseEchoes 35 = .ok (.getfield 35, 3) := by decide +kernel
theorem dX7_learnFalseEchoes_38 : decode cX7_learnFalseEchoes 38 = .ok (.iload_n 3, 1) := by decide +kernel
theorem dX7_learnFalseEchoes_39 : decode cX7_learnFalseEchoes 39 = .ok (.invokevirtual 134, 3) := by decide +kernel
theorem dX7_learnFalseEchoes_42 : decode cX7_learnFalseEchoes 42 = .ok (.iconst 1, 1) := by decide +kernel
theorem dX7_learnFalseEchoes_43 : decode cX7_learnFalseEchoes 43 = .ok (.if_icmp .gt 25, 3) := by decide +kernel
theorem dX7_learnFalseEchoes_46 : decode cX7_learnFalseEchoes 46 = .ok (.iload 4, 2) := by decide +kernel
theorem dX7_learnFalseEchoes_48 : decode cX7_learnFalseEchoes 48 = .ok (.aload_n 0, 1) := by decide +kernel
theorem dX7_learnFalseEchoes_49 : decode cX7_learnFalseEchoes 49 = .ok (.getfield 12, 3) := by decide +kernel
theorem dX7_learnFalseEchoes_52 : decode cX7_learnFalseEchoes 52 = .ok (.getfield 82, 3) := by decide +kernel
theorem dX7_learnFalseEchoes_55 : decode cX7_learnFalseEchoes 55 = .ok (.if_icmp .gt 13, 3) := by decide +kernel
theorem dX7_learnFalseEchoes_58 : decode cX7_learnFalseEchoes 58 = .ok (.aload_n 0, 1) := by decide +kernel
theorem dX7_learnFalseEchoes_59 : decode cX7_learnFalseEchoes 59 = .ok (.getfield 28, 3) := by decide +kernel
theorem dX7_learnFalseEchoes_62 : decode cX7_learnFalseEchoes 62 = .ok (.iload 4, 2) := by decide +kernel
theorem dX7_learnFalseEchoes_64 : decode cX7_learnFalseEchoes 64 = .ok (.iconst 1, 1) := by decide +kernel
theorem dX7_learnFalseEchoes_65 : decode cX7_learnFalseEchoes 65 = .ok (.invokevirtual 137, 3) := by decide +kernel
theorem dX7_learnFalseEchoes_68 : decode cX7_learnFalseEchoes 68 = .ok (.iinc 3 1, 3) := by decide +kernel
theorem dX7_learnFalseEchoes_71 : decode cX7_learnFalseEchoes 71 = .ok (.goto (-58), 3) := by decide +kernel
theorem dX7_learnFalseEchoes_74 : decode cX7_learnFalseEchoes 74 = .ok (.iinc 2 1, 3) := by decide +kernel
theorem dX7_learnFalseEchoes_77 : decode cX7_learnFalseEchoes 77 = .ok (.goto (-75), 3) := by decide +kernel
theorem dX7_learnFalseEchoes_80 : decode cX7_learnFalseEchoes 80 = .ok (.return_, 1) := by decide +kernel
theorem dX7_send_0 : decode cX7_send 0 = .ok (.aload_n 0, 1) := by decide +kernel
theorem dX7_send_1 : decode cX7_send 1 = .ok (.getfield 12, 3) := by decide +kernel
theorem dX7_send_4 : decode cX7_send 4 = .ok (.invokevirtual 140, 3) := by decide +kernel
theorem dX7_send_7 : decode cX7_send 7 = .ok (.aload_n 0, 1) := by decide +kernel
theorem dX7_send_8 : decode cX7_send 8 = .ok (.getfield 35, 3) := by decide +kernel
theorem dX7_send_11 : decode cX7_send 11 = .ok (.invokevirtual 87, 3) := by decide +kernel
theorem dX7_send_14 : decode cX7_send 14 = .ok (.aload_n 0, 1) := by decide +kernel
theorem dX7_send_15 : decode cX7_send 15 = .ok (.getfield 12, 3) := by decide +kernel
theorem dX7_send_18 : decode cX7_send 18 = .ok (.getfield 82, 3) := by decide +kernel
theorem dX7_send_21 : decode cX7_send 21 = .ok (.aload_n 0, 1) := by decide +kernel
theorem dX7_send_22 : decode cX7_send 22 = .ok (.getfield 12, 3) := by decide +kernel
theorem dX7_send_25 : decode cX7_send 25 = .ok (.getfield 143, 3) := by decide +kernel
theorem dX7_send_28 : decode cX7_send 28 = .ok (.isub, 1) := by decide +kernel
theorem dX7_send_29 : decode cX7_send 29 = .ok (.istore_n 1, 1) := by decide +kernel
theorem dX7_send_30 : decode cX7_send 30 = .ok (.iconst 0, 1) := by decide +kernel
theorem dX7_send_31 : decode cX7_send 31 = .ok (.istore_n 2, 1) := by decide +kernel
theorem dX7_send_32 : decode cX7_send 32 = .ok (.iload_n 2, 1) := by decide +kernel
theorem dX7_send_33 : decode cX7_send 33 = .ok (.aload_n 0, 1) := by decide +kernel
theorem dX7_send_34 : decode cX7_send 34 = .ok (.getfield 12, 3) := by decide +kernel
theorem dX7_send_37 : decode cX7_send 37 = .ok (.getfield 146, 3) := by decide +kernel
theorem dX7_send_40 : decode cX7_send 40 = .ok (.if_icmp .ge 45, 3) := by decide +kernel
theorem dX7_send_43 : decode cX7_send 43 = .ok (.aload_n 0, 1) := by decide +kernel
theorem dX7_send_44 : decode cX7_send 44 = .ok (.getfield 12, 3) := by decide +kernel
theorem dX7_send_47 : decode cX7_send 47 = .ok (.iload_n 2, 1) := by decide +kernel
theorem dX7_send_48 : decode cX7_send 48 = .ok (.invokevirtual 149, 3) := by decide +kernel
theorem dX7_send_51 : decode cX7_send 51 = .ok (.iload_n 1, 1) := by decide +kernel
theorem dX7_send_52 : decode cX7_send 52 = .ok (.if_icmp .ge 27, 3) := by decide +kernel
theorem dX7_send_55 : decode cX7_send 55 = .ok (.aload_n 0, 1) := by decide +kernel
theorem dX7_send_56 : decode cX7_send 56 = .ok (.getfield 35, 3) := by decide +kernel
theorem dX7_send_59 : decode cX7_send 59 = .ok (.iconst 0, 1) := by decide +kernel
theorem dX7_send_60 : decode cX7_send 60 = .ok (.aload_n 0, 1) := by decide +kernel
theorem dX7_send_61 : decode cX7_send 61 = .ok (.getfield 12, 3) := by decide +kernel
theorem dX7_send_64 : decode cX7_send 64 = .ok (.iload_n 2, 1) := by decide +kernel
theorem dX7_send_65 : decode cX7_send 65 = .ok (.invokevirtual 149, 3) := by decide +kernel
theorem dX7_send_68 : decode cX7_send 68 = .ok (.aload_n 0, 1) := by decide +kernel
theorem dX7_send_69 : decode cX7_send 69 = .ok (.getfield 12, 3) := by decide +kernel
theorem dX7_send_72 : decode cX7_send 72 = .ok (.iload_n 2, 1) := by decide +kernel
theorem dX7_send_73 : decode cX7_send 73 = .ok (.invokevirtual 152, 3) := by decide +kernel
theorem dX7_send_76 : decode cX7_send 76 = .ok (.invokevirtual 155, 3) := by decide +kernel
theorem dX7_send_79 : decode cX7_send 79 = .ok (.iinc 2 1, 3) := by decide +kernel
theorem dX7_send_82 : decode cX7_send 82 = .ok (.goto (-50), 3) := by decide +kernel
theorem dX7_send_85 : decode cX7_send 85 = .ok (.aload_n 0, 1) := by decide +kernel
theorem dX7_send_86 : decode cX7_send 86 = .ok (.iload_n 1, 1) := by decide +kernel
theorem dX7_send_87 : decode cX7_send 87 = .ok (.invokevirtual 159, 3) := by decide +kernel
theorem dX7_send_90 : decode cX7_send 90 = .ok (.istore_n 2, 1) := by decide +kernel
theorem dX7_send_91 : decode cX7_send 91 = .ok (.aload_n 0, 1) := by decide +kernel
theorem dX7_send_92 : decode cX7_send 92 = .ok (.getfield 12, 3) := by decide +kernel
theorem dX7_send_95 : decode cX7_send 95 = .ok (.getfield 163, 3) := by decide +kernel
theorem dX7_send_98 : decode cX7_send 98 = .ok (.ifCond .le 42, 3) := by decide +kernel
theorem dX7_send_101 : decode cX7_send 101 = .ok (.aload_n 0, 1) := by decide +kernel
theorem dX7_send_102 : decode cX7_send 102 = .ok (.getfield 35, 3) := by decide +kernel
theorem dX7_send_105 : decode cX7_send 105 = .ok (.iconst 2, 1) := by decide +kernel
theorem dX7_send_106 : decode cX7_send 106 = .ok (.iconst 0, 1) := by decide +kernel
theorem dX7_send_107 : decode cX7_send 107 = .ok (.iload_n 1, 1) := by decide +kernel
theorem dX7_send_108 : decode cX7_send 108 = .ok (.aload_n 0, 1) := by decide +kernel
theorem dX7_send_109 : decode cX7_send 109 = .ok (.getfield 12, 3) := by decide +kernel
theorem dX7_send_112 : decode cX7_send 112 = .ok (.getfield 163, 3) := by decide +kernel
theorem dX7_send_115 : decode cX7_send 115 = .ok (.isub, 1) := by decide +kernel
theorem dX7_send_116 : decode cX7_send 116 = .ok (.invokestatic 166, 3) := by decide +kernel
theorem dX7_send_119 : decode cX7_send 119 = .ok (.bipush 10, 2) := by decide +kernel
theorem dX7_send_121 : decode cX7_send 121 = .ok (.bipush 70, 2) := by decide +kernel
theorem dX7_send_123 : decode cX7_send 123 = .ok (.aload_n 0, 1) := by decide +kernel
theorem dX7_send_124 : decode cX7_send 124 = .ok (.getfield 12, 3) := by decide +kernel
theorem dX7_send_127 : decode cX7_send 127 = .ok (.getfield 163, 3) := by decide +kernel
theorem dX7_send_130 : decode cX7_send 130 = .ok (.bipush 10, 2) := by decide +kernel
theorem dX7_send_132 : decode cX7_send 132 = .ok (.idiv, 1) := by decide +kernel
theorem dX7_send_133 : decode cX7_send 133 = .ok (.isub, 1) := by decide +kernel
theorem dX7_send_134 : decode cX7_send 134 = .ok (.invokestatic 166, 3) := by decide +kernel
theorem dX7_send_137 : decode cX7_send 137 = .ok (.invokevirtual 155, 3) := by decide +kernel
theorem dX7_send_140 : decode cX7_send 140 = .ok (.iload_n 2, 1) := by decide +kernel
theorem dX7_send_141 : decode cX7_send 141 = .ok (.ifCond .ne 44, 3) := by decide +kernel
theorem dX7_send_144 : decode cX7_send 144 = .ok (.iconst 0, 1) := by decide +kernel
theorem dX7_send_145 : decode cX7_send 145 = .ok (.bipush 80, 2) := by decide +kernel
theorem dX7_send_147 : decode cX7_send 147 = .ok (.aload_n 0, 1) := by decide +kernel
theorem dX7_send_148 : decode cX7_send 148 = .ok (.getfield 12, 3) := by decide +kernel
theorem dX7_send_151 : decode cX7_send 151 = .ok (.getfield 163, 3) := by decide +kernel
theorem dX7_send_154 : decode cX7_send 154 = .ok (.iconst 5, 1) := by decide +kernel
theorem dX7_send_155 : decode cX7_send 155 = .ok (.idiv, 1) := by decide +kernel
theorem dX7_send_156 : decode cX7_send 156 = .ok (.isub, 1) := by decide +kernel
theorem dX7_send_157 : decode cX7_send 157 = .ok (.invokestatic 166, 3) := by decide +kernel
theorem dX7_send_160 : decode cX7_send 160 = .ok (.istore_n 3, 1) := by decide +kernel
theorem dX7_send_161 : decode cX7_send 161 = .ok (.aload_n 0, 1) := by decide +kernel
theorem dX7_send_162 : decode cX7_send 162 = .ok (.getfield 35, 3) := by decide +kernel
theorem dX7_send_165 : decode cX7_send 165 = .ok (.iconst 3, 1) := by decide +kernel
theorem dX7_send_166 : decode cX7_send 166 = .ok (.iload_n 1, 1) := by decide +kernel
theorem dX7_send_167 : decode cX7_send 167 = .ok (.iload_n 3, 1) := by decide +kernel
theorem dX7_send_168 : decode cX7_send 168 = .ok (.invokevirtual 155, 3) := by decide +kernel
theorem dX7_send_171 : decode cX7_send 171 = .ok (.aload_n 0, 1) := by decide +kernel
theorem dX7_send_172 : decode cX7_send 172 = .ok (.getfield 35, 3) := by decide +kernel
theorem dX7_send_175 : decode cX7_send 175 = .ok (.iconst 4, 1) := by decide +kernel
theorem dX7_send_176 : decode cX7_send 176 = .ok (.iconst 2, 1) := by decide +kernel
theorem dX7_send_177 : decode cX7_send 177 = .ok (.iload_n 1, 1) := by decide +kernel
theorem dX7_send_178 : decode cX7_send 178 = .ok (.imul, 1) := by decide +kernel
theorem dX7_send_179 : decode cX7_send 179 = .ok (.iload_n 3, 1) := by decide +kernel
theorem dX7_send_180 : decode cX7_send 180 = .ok (.iconst 2, 1) := by decide +kernel
theorem dX7_send_181 : decode cX7_send 181 = .ok (.idiv, 1) := by decide +kernel
theorem dX7_send_182 : decode cX7_send 182 = .ok (.invokevirtual 155, 3) := by decide +kernel
theorem dX7_send_185 : decode cX7_send 185 = .ok (.aload_n 0, 1) := by decide +kernel
theorem dX7_send_186 : decode cX7_send 186 = .ok (.getfield 35, 3) := by decide +kernel
theorem dX7_send_189 : decode cX7_send 189 = .ok (.aload_n 0, 1) := by decide +kernel
theorem dX7_send_190 : decode cX7_send 190 = .ok (.getfield 12, 3) := by decide +kernel
theorem dX7_send_193 : decode cX7_send 193 = .ok (.aload_n 0, 1) := by decide +kernel
theorem dX7_send_194 : decode cX7_send 194 = .ok (.getfield 21, 3) := by decide +kernel
theorem dX7_send_197 : decode cX7_send 197 = .ok (.iconst 0, 1) := by decide +kernel
theorem dX7_send_198 : decode cX7_send 198 = .ok (.invokevirtual 104, 3) := by decide +kernel
theorem dX7_send_201 : decode cX7_send 201 = .ok (.aload_n 0, 1) := by decide +kernel
theorem dX7_send_202 : decode cX7_send 202 = .ok (.getfield 21, 3) := by decide +kernel
theorem dX7_send_205 : decode cX7_send 205 = .ok (.iconst 1, 1) := by decide +kernel
theorem dX7_send_206 : decode cX7_send 206 = .ok (.invokevirtual 104, 3) := by decide +kernel
theorem dX7_send_209 : decode cX7_send 209 = .ok (.invokevirtual 171, 3) := by decide +kernel
theorem dX7_send_212 : decode cX7_send 212 = .ok (.return_, 1) := by decide +kernel
theorem dX7_sendBlades_0 : decode cX7_sendBlades 0 = .ok (.iconst 0, 1) := by decide +kernel
theorem dX7_sendBlades_1 : decode cX7_sendBlades 1 = .ok (.istore_n 2, 1) := by decide +kernel
theorem dX7_sendBlades_2 : decode cX7_sendBlades 2 = .ok (.iconst 0, 1) := by decide +kernel
theorem dX7_sendBlades_3 : decode cX7_sendBlades 3 = .ok (.istore_n 3, 1) := by decide +kernel
theorem dX7_sendBlades_4 : decode cX7_sendBlades 4 = .ok (.iload_n 3, 1) := by decide +kernel
theorem dX7_sendBlades_5 : decode cX7_sendBlades 5 = .ok (.aload_n 0, 1) := by decide +kernel
theorem dX7_sendBlades_6 : decode cX7_sendBlades 6 = .ok (.getfield 12, 3) := by decide +kernel
theorem dX7_sendBlades_9 : decode cX7_sendBlades 9 = .ok (.getfield 175, 3) := by decide +kernel
theorem dX7_sendBlades_12 : decode cX7_sendBlades 12 = .ok (.if_icmp .ge 65, 3) := by decide +kernel
theorem dX7_sendBlades_15 : decode cX7_sendBlades 15 = .ok (.iload_n 3, 1) := by decide +kernel
theorem dX7_sendBlades_16 : decode cX7_sendBlades 16 = .ok (.iconst 2, 1) := by decide +kernel
theorem dX7_sendBlades_17 : decode cX7_sendBlades 17 = .ok (.irem, 1) := by decide +kernel
theorem dX7_sendBlades_18 : decode cX7_sendBlades 18 = .ok (.ifCond .ne 13, 3) := by decide +kernel
theorem dX7_sendBlades_21 : decode cX7_sendBlades 21 = .ok (.aload_n 0, 1) := by decide +kernel
theorem dX7_sendBlades_22 : decode cX7_sendBlades 22 = .ok (.getfield 12, 3) := by decide +kernel
theorem dX7_sendBlades_25 : decode cX7_sendBlades 25 = .ok (.getfield 178, 3) := by decide +kernel
theorem dX7_sendBlades_28 : decode cX7_sendBlades 28 = .ok (.goto 10, 3) := by decide +kernel
theorem dX7_sendBlades_31 : decode cX7_sendBlades 31 = .ok (.aload_n 0, 1) := by decide +kernel
theorem dX7_sendBlades_32 : decode cX7_sendBlades 32 = .ok (.getfield 12, 3) := by decide +kernel
theorem dX7_sendBlades_35 : decode cX7_sendBlades 35 = .ok (.getfield 181, 3) := by decide +kernel
theorem dX7_sendBlades_38 : decode cX7_sendBlades 38 = .ok (.istore 4, 2) := by decide +kernel
theorem dX7_sendBlades_40 : decode cX7_sendBlades 40 = .ok (.aload_n 0, 1) := by decide +kernel
theorem dX7_sendBlades_41 : decode cX7_sendBlades 41 = .ok (.getfield 12, 3) := by decide +kernel
theorem dX7_sendBlades_44 : decode cX7_sendBlades 44 = .ok (.iload_n 3, 1) := by decide +kernel
theorem dX7_sendBlades_45 : decode cX7_sendBlades 45 = .ok (.invokevirtual 184, 3) := by decide +kernel
theorem dX7_sendBlades_48 : decode cX7_sendBlades 48 = .ok (.ifCond .eq 23, 3) := by decide +kernel
theorem dX7_sendBlades_51 : decode cX7_sendBlades 51 = .ok (.iload 4, 2) := by decide +kernel
theorem dX7_sendBlades_53 : decode cX7_sendBlades 53 = .ok (.iload_n 1, 1) := by decide +kernel
theorem dX7_sendBlades_54 : decode cX7_sendBlades 54 = .ok (.if_icmp .ge 17, 3) := by decide +kernel
theorem dX7_sendBlades_57 : decode cX7_sendBlades 57 = .ok (.aload_n 0, 1) := by decide +kernel
theorem dX7_sendBlades_58 : decode cX7_sendBlades 58 = .ok (.getfield 35, 3) := by decide +kernel
theorem dX7_sendBlades_61 : decode cX7_sendBlades 61 = .ok (.iconst 1, 1) := by decide +kernel
theorem dX7_sendBlades_62 : decode cX7_sendBlades 62 = .ok (.iload 4, 2) := by decide +kernel
theorem dX7_sendBlades_64 : decode cX7_sendBlades 64 = .ok (.bipush 60, 2) := by decide +kernel
theorem dX7_sendBlades_66 : decode cX7_sendBlades 66 = .ok (.invokevirtual 155, 3) := by decide +kernel
theorem dX7_sendBlades_69 : decode cX7_sendBlades 69 = .ok (.iconst 1, 1) := by decide +kernel
theorem dX7_sendBlades_70 : decode cX7_sendBlades 70 = .ok (.istore_n 2, 1) := by decide +kernel
theorem dX7_sendBlades_71 : decode cX7_sendBlades 71 = .ok (.iinc 3 1, 3) := by decide +kernel
theorem dX7_sendBlades_74 : decode cX7_sendBlades 74 = .ok (.goto (-70), 3) := by decide +kernel
theorem dX7_sendBlades_77 : decode cX7_sendBlades 77 = .ok (.iload_n 2, 1) := by decide +kernel
theorem dX7_sendBlades_78 : decode cX7_sendBlades 78 = .ok (.ireturn, 1) := by decide +kernel
theorem dX7_findCandidates_0 : decode cX7_findCandidates 0 = .ok (.iconst 0, 1) := by decide +kernel
theorem dX7_findCandidates_1 : decode cX7_findCandidates 1 = .ok (.istore_n 1, 1) := by decide +kernel
theorem dX7_findCandidates_2 : decode cX7_findCandidates 2 = .ok (.iload_n 1, 1) := by decide +kernel
theorem dX7_findCandidates_3 : decode cX7_findCandidates 3 = .ok (.aload_n 0, 1) := by decide +kernel
theorem dX7_findCandidates_4 : decode cX7_findCandidates 4 = .ok (.getfield 35, 3) := by decide +kernel
theorem dX7_findCandidates_7 : decode cX7_findCandidates 7 = .ok (.getfield 131, 3) := by decide +kernel
theorem dX7_findCandidates_10 : decode cX7_findCandidates 10 = .ok (.if_icmp .ge 68, 3) := by decide +kernel
theorem dX7_findCandidates_13 : decode cX7_findCandidates 13 = .ok (.aload_n 0, 1) := by decide +kernel
theorem dX7_findCandidates_14 : decode cX7_findCandidates 14 = .ok (.getfield 35, 3) := by decide +kernel
theorem dX7_findCandidates_17 : decode cX7_findCandidates 17 = .ok (.iload_n 1, 1) := by decide +kernel
theorem dX7_findCandidates_18 : decode cX7_findCandidates 18 = .ok (.invokevirtual 124, 3) := by decide +kernel
theorem dX7_findCandidates_21 : decode cX7_findCandidates 21 = .ok (.istore_n 2, 1) := by decide +kernel
theorem dX7_findCandidates_22 : decode cX7_findCandidates 22 = .ok (.iload_n 2, 1) := by decide +kernel
theorem dX7_findCandidates_23 : decode cX7_findCandidates 23 = .ok (.aload_n 0, 1) := by decide +kernel
theorem dX7_findCandidates_24 : decode cX7_findCandidates 24 = .ok (.getfield 12, 3) := by decide +kernel
theorem dX7_findCandidates_27 : decode cX7_findCandidates 27 = .ok (.getfield 82, 3) := by decide +kernel
theorem dX7_findCandidates_30 : decode cX7_findCandidates 30 = .ok (.if_icmp .gt 42, 3) := by decide +kernel
theorem dX7_findCandidates_33 : decode cX7_findCandidates 33 = .ok (.aload_n 0, 1) := by decide +kernel
theorem dX7_findCandidates_34 : decode cX7_findCandidates 34 = .ok (.getfield 28, 3) := by decide +kernel
theorem dX7_findCandidates_37 : decode cX7_findCandidates 37 = .ok (.iload_n 2, 1) := by decide +kernel
theorem dX7_findCandidates_38 : decode cX7_findCandidates 38 = .ok (.invokevirtual 187, 3) := by decide +kernel
theorem dX7_findCandidates_41 : decode cX7_findCandidates 41 = .ok (.ifCond .ne 31, 3) := by decide +kernel
theorem dX7_findCandidates_44 : decode cX7_findCandidates 44 = .ok (.aload_n 0, 1) := by decide +kernel
theorem dX7_findCandidates_45 : decode cX7_findCandidates 45 = .ok (.getfield 35, 3) := by decide +kernel
theorem dX7_findCandidates_48 : decode cX7_findCandidates 48 = .ok (.iload_n 1, 1) := by decide +kernel
theorem dX7_findCandidates_49 : decode cX7_findCandidates 49 = .ok (.invokevirtual 190, 3) := by decide +kernel
theorem dX7_findCandidates_52 : decode cX7_findCandidates 52 = .ok (.aload_n 0, 1) := by decide +kernel
theorem dX7_findCandidates_53 : decode cX7_findCandidates 53 = .ok (.getfield 21, 3) := by decide +kernel
theorem dX7_findCandidates_56 : decode cX7_findCandidates 56 = .ok (.iload_n 2, 1) := by decide +kernel
theorem dX7_findCandidates_57 : decode cX7_findCandidates 57 = .ok (.invokevirtual 193, 3) := by decide +kernel
theorem dX7_findCandidates_60 : decode cX7_findCandidates 60 = .ok (.if_icmp .lt 12, 3) := by decide +kernel
theorem dX7_findCandidates_63 : decode cX7_findCandidates 63 = .ok (.aload_n 0, 1) := by decide +kernel
theorem dX7_findCandidates_64 : decode cX7_findCandidates 64 = .ok (.getfield 35, 3) := by decide +kernel
theorem dX7_findCandidates_67 : decode cX7_findCandidates 67 = .ok (.iload_n 1, 1) := by decide +kernel
theorem dX7_findCandidates_68 : decode cX7_findCandidates 68 = .ok (.iconst 1, 1) := by decide +kernel
theorem dX7_findCandidates_69 : decode cX7_findCandidates 69 = .ok (.invokevirtual 118, 3) := by decide +kernel
theorem dX7_findCandidates_72 : decode cX7_findCandidates 72 = .ok (.iinc 1 1, 3) := by decide +kernel
theorem dX7_findCandidates_75 : decode cX7_findCandidates 75 = .ok (.goto (-73), 3) := by decide +kernel
theorem dX7_findCandidates_78 : decode cX7_findCandidates 78 = .ok (.return_, 1) := by decide +kernel
theorem dX7_dropBlades_0 : decode cX7_dropBlades 0 = .ok (.iconst 0, 1) := by decide +kernel
theorem dX7_dropBlades_1 : decode cX7_dropBlades 1 = .ok (.istore_n 1, 1) := by decide +kernel
theorem dX7_dropBlades_2 : decode cX7_dropBlades 2 = .ok (.iload_n 1, 1) := by decide +kernel
theorem dX7_dropBlades_3 : decode cX7_dropBlades 3 = .ok (.aload_n 0, 1) := by decide +kernel
theorem dX7_dropBlades_4 : decode cX7_dropBlades 4 = .ok (.getfield 35, 3) := by decide +kernel
theorem dX7_dropBlades_7 : decode cX7_dropBlades 7 = .ok (.getfield 131, 3) := by decide +kernel
theorem dX7_dropBlades_10 : decode cX7_dropBlades 10 = .ok (.if_icmp .ge 102, 3) := by decide +kernel
theorem dX7_dropBlades_13 : decode cX7_dropBlades 13 = .ok (.aload_n 0, 1) := by decide +kernel
theorem dX7_dropBlades_14 : decode cX7_dropBlades 14 = .ok (.getfield 35, 3) := by decide +kernel
theorem dX7_dropBlades_17 : decode cX7_dropBlades 17 = .ok (.iload_n 1, 1) := by decide +kernel
theorem dX7_dropBlades_18 : decode cX7_dropBlades 18 = .ok (.invokevirtual 124, 3) := by decide +kernel
theorem dX7_dropBlades_21 : decode cX7_dropBlades 21 = .ok (.istore_n 2, 1) := by decide +kernel
theorem dX7_dropBlades_22 : decode cX7_dropBlades 22 = .ok (.aload_n 0, 1) := by decide +kernel
theorem dX7_dropBlades_23 : decode cX7_dropBlades 23 = .ok (.getfield 35, 3) := by decide +kernel
theorem dX7_dropBlades_26 : decode cX7_dropBlades 26 = .ok (.iload_n 1, 1) := by decide +kernel
theorem dX7_dropBlades_27 : decode cX7_dropBlades 27 = .ok (.iconst 1, 1) := by decide +kernel
theorem dX7_dropBlades_28 : decode cX7_dropBlades 28 = .ok (.invokevirtual 196, 3) := by decide +kernel
theorem dX7_dropBlades_31 : decode cX7_dropBlades 31 = .ok (.ifCond .eq 75, 3) := by decide +kernel
theorem dX7_dropBlades_34 : decode cX7_dropBlades 34 = .ok (.iload_n 2, 1) := by decide +kernel
theorem dX7_dropBlades_35 : decode cX7_dropBlades 35 = .ok (.aload_n 0, 1) := by decide +kernel
theorem dX7_dropBlades_36 : decode cX7_dropBlades 36 = .ok (.getfield 12, 3) := by decide +kernel
theorem dX7_dropBlades_39 : decode cX7_dropBlades 39 = .ok (.getfield 178, 3) := by decide +kernel
theorem dX7_dropBlades_42 : decode cX7_dropBlades 42 = .ok (.bipush 40, 2) := by decide +kernel
theorem dX7_dropBlades_44 : decode cX7_dropBlades 44 = .ok (.isub, 1) := by decide +kernel
theorem dX7_dropBlades_45 : decode cX7_dropBlades 45 = .ok (.if_icmp .lt 61, 3) := by decide +kernel
theorem dX7_dropBlades_48 : decode cX7_dropBlades 48 = .ok (.iload_n 2, 1) := by decide +kernel
theorem dX7_dropBlades_49 : decode cX7_dropBlades 49 = .ok (.aload_n 0, 1) := by decide +kernel
theorem dX7_dropBlades_50 : decode cX7_dropBlades 50 = .ok (.getfield 12, 3) := by decide +kernel
theorem dX7_dropBlades_53 : decode cX7_dropBlades 53 = .ok (.getfield 181, 3) := by decide +kernel
theorem dX7_dropBlades_56 : decode cX7_dropBlades 56 = .ok (.bipush 40, 2) := by decide +kernel
theorem dX7_dropBlades_58 : decode cX7_dropBlades 58 = .ok (.iadd, 1) := by decide +kernel
theorem dX7_dropBlades_59 : decode cX7_dropBlades 59 = .ok (.if_icmp .gt 47, 3) := by decide +kernel
theorem dX7_dropBlades_62 : decode cX7_dropBlades 62 = .ok (.aload_n 0, 1) := by decide +kernel
theorem dX7_dropBlades_63 : decode cX7_dropBlades 63 = .ok (.getfield 49, 3) := by decide +kernel
theorem dX7_dropBlades_66 : decode cX7_dropBlades 66 = .ok (.iload_n 2, 1) := by decide +kernel
theorem dX7_dropBlades_67 : decode cX7_dropBlades 67 = .ok (.invokevirtual 200, 3) := by decide +kernel
theorem dX7_dropBlades_70 : decode cX7_dropBlades 70 = .ok (.ifCond .eq 14, 3) := by decide +kernel
theorem dX7_dropBlades_73 : decode cX7_dropBlades 73 = .ok (.aload_n 0, 1) := by decide +kernel
theorem dX7_dropBlades_74 : decode cX7_dropBlades 74 = .ok (.getfield 53, 3) := by decide +kernel
theorem dX7_dropBlades_77 : decode cX7_dropBlades 77 = .ok (.iload_n 2, 1) := by decide +kernel
theorem dX7_dropBlades_78 : decode cX7_dropBlades 78 = .ok (.invokevirtual 200, 3) := by decide +kernel
theorem dX7_dropBlades_81 : decode cX7_dropBlades 81 = .ok (.ifCond .ne 25, 3) := by decide +kernel
theorem dX7_dropBlades_84 : decode cX7_dropBlades 84 = .ok (.aload_n 0, 1) := by decide +kernel
theorem dX7_dropBlades_85 : decode cX7_dropBlades 85 = .ok (.getfield 35, 3) := by decide +kernel
theorem dX7_dropBlades_88 : decode cX7_dropBlades 88 = .ok (.iload_n 1, 1) := by decide +kernel
theorem dX7_dropBlades_89 : decode cX7_dropBlades 89 = .ok (.iconst 2, 1) := by decide +kernel
theorem dX7_dropBlades_90 : decode cX7_dropBlades 90 = .ok (.invokevirtual 118, 3) := by decide +kernel
theorem dX7_dropBlades_93 : decode cX7_dropBlades 93 = .ok (.aload_n 0, 1) := by decide +kernel
theorem dX7_dropBlades_94 : decode cX7_dropBlades 94 = .ok (.getfield 42, 3) := by decide +kernel
theorem dX7_dropBlades_97 : decode cX7_dropBlades 97 = .ok (.dup, 1) := by decide +kernel
theorem dX7_dropBlades_98 : decode cX7_dropBlades 98 = .ok (.getfield 203, 3) := by decide +kernel
theorem dX7_dropBlades_101 : decode cX7_dropBlades 101 = .ok (.iconst 1, 1) := by decide +kernel
theorem dX7_dropBlades_102 : decode cX7_dropBlades 102 = .ok (.iadd, 1) := by decide +kernel
theorem dX7_dropBlades_103 : decode cX7_dropBlades 103 = .ok (.putfield 203, 3) := by decide +kernel
theorem dX7_dropBlades_106 : decode cX7_dropBlades 106 = .ok (.iinc 1 1, 3) := by decide +kernel
theorem dX7_dropBlades_109 : decode cX7_dropBlades 109 = .ok (.goto (-107), 3) := by decide +kernel
theorem dX7_dropBlades_112 : decode cX7_dropBlades 112 = .ok (.return_, 1) := by decide +kernel
theorem dX8_init_0 : decode cX8_init 0 = .ok (.aload_n 0, 1) := by decide +kernel
theorem dX8_init_1 : decode cX8_init 1 = .ok (.invokespecial 3, 3) := by decide +kernel
theorem dX8_init_4 : decode cX8_init 4 = .ok (.aload_n 0, 1) := by decide +kernel
theorem dX8_init_5 : decode cX8_init 5 = .ok (.bipush 6, 2) := by decide +kernel
theorem dX8_init_7 : decode cX8_init 7 = .ok (.newarray .int, 2) := by decide +kernel
theorem dX8_init_9 : decode cX8_init 9 = .ok (.putfield 9, 3) := by decide +kernel
theorem dX8_init_12 : decode cX8_init 12 = .ok (.aload_n 0, 1) := by decide +kernel
theorem dX8_init_13 : decode cX8_init 13 = .ok (.bipush 6, 2) := by decide +kernel
theorem dX8_init_15 : decode cX8_init 15 = .ok (.newarray .int, 2) := by decide +kernel
theorem dX8_init_17 : decode cX8_init 17 = .ok (.putfield 15, 3) := by decide +kernel
theorem dX8_init_20 : decode cX8_init 20 = .ok (.aload_n 0, 1) := by decide +kernel
theorem dX8_init_21 : decode cX8_init 21 = .ok (.invokevirtual 18, 3) := by decide +kernel
theorem dX8_init_24 : decode cX8_init 24 = .ok (.return_, 1) := by decide +kernel
theorem dX8_reset_0 : decode cX8_reset 0 = .ok (.aload_n 0, 1) := by decide +kernel
theorem dX8_reset_1 : decode cX8_reset 1 = .ok (.sipush 2000, 3) := by decide +kernel
theorem dX8_reset_4 : decode cX8_reset 4 = .ok (.putfield 21, 3) := by decide +kernel
theorem dX8_reset_7 : decode cX8_reset 7 = .ok (.aload_n 0, 1) := by decide +kernel
theorem dX8_reset_8 : decode cX8_reset 8 = .ok (.sipush 500, 3) := by decide +kernel
theorem dX8_reset_11 : decode cX8_reset 11 = .ok (.putfield 25, 3) := by decide +kernel
theorem dX8_reset_14 : decode cX8_reset 14 = .ok (.aload_n 0, 1) := by decide +kernel
theorem dX8_reset_15 : decode cX8_reset 15 = .ok (.iconst 0, 1) := by decide +kernel
theorem dX8_reset_16 : decode cX8_reset 16 = .ok (.putfield 28, 3) := by decide +kernel
theorem dX8_reset_19 : decode cX8_reset 19 = .ok (.aload_n 0, 1) := by decide +kernel
theorem dX8_reset_20 : decode cX8_reset 20 = .ok (.iconst 0, 1) := by decide +kernel
theorem dX8_reset_21 : decode cX8_reset 21 = .ok (.putfield 31, 3) := by decide +kernel
theorem dX8_reset_24 : decode cX8_reset 24 = .ok (.aload_n 0, 1) := by decide +kernel
theorem dX8_reset_25 : decode cX8_reset 25 = .ok (.iconst 0, 1) := by decide +kernel
theorem dX8_reset_26 : decode cX8_reset 26 = .ok (.putfield 34, 3) := by decide +kernel
theorem dX8_reset_29 : decode cX8_reset 29 = .ok (.aload_n 0, 1) := by decide +kernel
theorem dX8_reset_30 : decode cX8_reset 30 = .ok (.iconst 0, 1) := by decide +kernel
theorem dX8_reset_31 : decode cX8_reset 31 = .ok (.putfield 37, 3) := by decide +kernel
theorem dX8_reset_34 : decode cX8_reset 34 = .ok (.aload_n 0, 1) := by decide +kernel
theorem dX8_reset_35 : decode cX8_reset 35 = .ok (.sipush 300, 3) := by decide +kernel
theorem dX8_reset_38 : decode cX8_reset 38 = .ok (.putfield 40, 3) := by decide +kernel
theorem dX8_reset_41 : decode cX8_reset 41 = .ok (.aload_n 0, 1) := by decide +kernel
theorem dX8_reset_42 : decode cX8_reset 42 = .ok (.sipush 600, 3) := by decide +kernel
theorem dX8_reset_45 : decode cX8_reset 45 = .ok (.putfield 43, 3) := by decide +kernel
theorem dX8_reset_48 : decode cX8_reset 48 = .ok (.aload_n 0, 1) := by decide +kernel
theorem dX8_reset_49 : decode cX8_reset 49 = .ok (.iconst 0, 1) := by decide +kernel
theorem dX8_reset_50 : decode cX8_reset 50 = .ok (.putfield 46, 3) := by decide +kernel
theorem dX8_reset_53 : decode cX8_reset 53 = .ok (.aload_n 0, 1) := by decide +kernel
theorem dX8_reset_54 : decode cX8_reset 54 = .ok (.bipush 47, 2) := by decide +kernel
theorem dX8_reset_56 : decode cX8_reset 56 = .ok (.putfield 49, 3) := by decide +kernel
theorem dX8_reset_59 : decode cX8_reset 59 = .ok (.aload_n 0, 1) := by decide +kernel
theorem dX8_reset_60 : decode cX8_reset 60 = .ok (.bipush 20, 2) := by decide +kernel
theorem dX8_reset_62 : decode cX8_reset 62 = .ok (.putfield 52, 3) := by decide +kernel
theorem dX8_reset_65 : decode cX8_reset 65 = .ok (.aload_n 0, 1) := by decide +kernel
theorem dX8_reset_66 : decode cX8_reset 66 = .ok (.iconst 1, 1) := by decide +kernel
theorem dX8_reset_67 : decode cX8_reset 67 = .ok (.putfield 55, 3) := by decide +kernel
theorem dX8_reset_70 : decode cX8_reset 70 = .ok (.return_, 1) := by decide +kernel
theorem dX8_copyFrom_0 : decode cX8_copyFrom 0 = .ok (.aload_n 0, 1) := by decide +kernel
theorem dX8_copyFrom_1 : decode cX8_copyFrom 1 = .ok (.aload_n 1, 1) := by decide +kernel
theorem dX8_copyFrom_2 : decode cX8_copyFrom 2 = .ok (.getfield 21, 3) := by decide +kernel
theorem dX8_copyFrom_5 : decode cX8_copyFrom 5 = .ok (.putfield 21, 3) := by decide +kernel
theorem dX8_copyFrom_8 : decode cX8_copyFrom 8 = .ok (.aload_n 0, 1) := by decide +kernel
theorem dX8_copyFrom_9 : decode cX8_copyFrom 9 = .ok (.aload_n 1, 1) := by decide +kernel
theorem dX8_copyFrom_10 : decode cX8_copyFrom 10 = .ok (.getfield 25, 3) := by decide +kernel
theorem dX8_copyFrom_13 : decode cX8_copyFrom 13 = .ok (.putfield 25, 3) := by decide +kernel
theorem dX8_copyFrom_16 : decode cX8_copyFrom 16 = .ok (.aload_n 0, 1) := by decide +kernel
theorem dX8_copyFrom_17 : decode cX8_copyFrom 17 = .ok (.aload_n 1, 1) := by decide +kernel
theorem dX8_copyFrom_18 : decode cX8_copyFrom 18 = .ok (.getfield 28, 3) := by decide +kernel
theorem dX8_copyFrom_21 : decode cX8_copyFrom 21 = .ok (.putfield 28, 3) := by decide +kernel
theorem dX8_copyFrom_24 : decode cX8_copyFrom 24 = .ok (.aload_n 0, 1) := by decide +kernel
theorem dX8_copyFrom_25 : decode cX8_copyFrom 25 = .ok (.aload_n 1, 1) := by decide +kernel
theorem dX8_copyFrom_26 : decode cX8_copyFrom 26 = .ok (.getfield 31, 3) := by decide +kernel
theorem dX8_copyFrom_29 : decode cX8_copyFrom 29 = .ok (.putfield 31, 3) := by decide +kernel
theorem dX8_copyFrom_32 : decode cX8_copyFrom 32 = .ok (.aload_n 0, 1) := by decide +kernel
theorem dX8_copyFrom_33 : decode cX8_copyFrom 33 = .ok (.aload_n 1, 1) := by decide +kernel
theorem dX8_copyFrom_34 : decode cX8_copyFrom 34 = .ok (.getfield 34, 3) := by decide +kernel
theorem dX8_copyFrom_37 : decode cX8_copyFrom 37 = .ok (.putfield 34, 3) := by decide +kernel
theorem dX8_copyFrom_40 : decode cX8_copyFrom 40 = .ok (.aload_n 1, 1) := by decide +kernel
theorem dX8_copyFrom_41 : decode cX8_copyFrom 41 = .ok (.getfield 9, 3) := by decide +kernel
theorem dX8_copyFrom_44 : decode cX8_copyFrom 44 = .ok (.aload_n 0, 1) := by decide +kernel
theorem dX8_copyFrom_45 : decode cX8_copyFrom 45 = .ok (.getfield 9, 3) := by decide +kernel
theorem dX8_copyFrom_48 : decode cX8_copyFrom 48 = .ok (.invokestatic 58, 3) := by decide +kernel
theorem dX8_copyFrom_51 : decode cX8_copyFrom 51 = .ok (.aload_n 1, 1) := by decide +kernel
theorem dX8_copyFrom_52 : decode cX8_copyFrom 52 = .ok (.getfield 15, 3) := by decide +kernel
theorem dX8_copyFrom_55 : decode cX8_copyFrom 55 = .ok (.aload_n 0, 1) := by decide +kernel
theorem dX8_copyFrom_56 : decode cX8_copyFrom 56 = .ok (.getfield 15, 3) := by decide +kernel
theorem dX8_copyFrom_59 : decode cX8_copyFrom 59 = .ok (.invokestatic 58, 3) := by decide +kernel
theorem dX8_copyFrom_62 : decode cX8_copyFrom 62 = .ok (.aload_n 0, 1) := by decide +kernel
theorem dX8_copyFrom_63 : decode cX8_copyFrom 63 = .ok (.aload_n 1, 1) := by decide +kernel
theorem dX8_copyFrom_64 : decode cX8_copyFrom 64 = .ok (.getfield 37, 3) := by decide +kernel
theorem dX8_copyFrom_67 : decode cX8_copyFrom 67 = .ok (.putfield 37, 3) := by decide +kernel
theorem dX8_copyFrom_70 : decode cX8_copyFrom 70 = .ok (.aload_n 0, 1) := by decide +kernel
theorem dX8_copyFrom_71 : decode cX8_copyFrom 71 = .ok (.aload_n 1, 1) := by decide +kernel
theorem dX8_copyFrom_72 : decode cX8_copyFrom 72 = .ok (.getfield 40, 3) := by decide +kernel
theorem dX8_copyFrom_75 : decode cX8_copyFrom 75 = .ok (.putfield 40, 3) := by decide +kernel
theorem dX8_copyFrom_78 : decode cX8_copyFrom 78 = .ok (.aload_n 0, 1) := by decide +kernel
theorem dX8_copyFrom_79 : decode cX8_copyFrom 79 = .ok (.aload_n 1, 1) := by decide +kernel
theorem dX8_copyFrom_80 : decode cX8_copyFrom 80 = .ok (.getfield 43, 3) := by decide +kernel
theorem dX8_copyFrom_83 : decode cX8_copyFrom 83 = .ok (.putfield 43, 3) := by decide +kernel
theorem dX8_copyFrom_86 : decode cX8_copyFrom 86 = .ok (.aload_n 0, 1) := by decide +kernel
theorem dX8_copyFrom_87 : decode cX8_copyFrom 87 = .ok (.aload_n 1, 1) := by decide +kernel
theorem dX8_copyFrom_88 : decode cX8_copyFrom 88 = .ok (.getfield 46, 3) := by decide +kernel
theorem dX8_copyFrom_91 : decode cX8_copyFrom 91 = .ok (.putfield 46, 3) := by decide +kernel
theorem dX8_copyFrom_94 : decode cX8_copyFrom 94 = .ok (.aload_n 0, 1) := by decide +kernel
theorem dX8_copyFrom_95 : decode cX8_copyFrom 95 = .ok (.aload_n 1, 1) := by decide +kernel
theorem dX8_copyFrom_96 : decode cX8_copyFrom 96 = .ok (.getfield 49, 3) := by decide +kernel
theorem dX8_copyFrom_99 : decode cX8_copyFrom 99 = .ok (.putfield 49, 3) := by decide +kernel
theorem dX8_copyFrom_102 : decode cX8_copyFrom 102 = .ok (.aload_n 0, 1) := by decide +kernel
theorem dX8_copyFrom_103 : decode cX8_copyFrom 103 = .ok (.aload_n 1, 1) := by decide +kernel
theorem dX8_copyFrom_104 : decode cX8_copyFrom 104 = .ok (.getfield 52, 3) := by decide +kernel
theorem dX8_copyFrom_107 : decode cX8_copyFrom 107 = .ok (.putfield 52, 3) := by decide +kernel
theorem dX8_copyFrom_110 : decode cX8_copyFrom 110 = .ok (.aload_n 0, 1) := by decide +kernel
theorem dX8_copyFrom_111 : decode cX8_copyFrom 111 = .ok (.aload_n 1, 1) := by decide +kernel
theorem dX8_copyFrom_112 : decode cX8_copyFrom 112 = .ok (.getfield 55, 3) := by decide +kernel
theorem dX8_copyFrom_115 : decode cX8_copyFrom 115 = .ok (.putfield 55, 3) := by decide +kernel
theorem dX8_copyFrom_118 : decode cX8_copyFrom 118 = .ok (.return_, 1) := by decide +kernel
theorem dX8_allowsDepth_0 : decode cX8_allowsDepth 0 = .ok (.iload_n 0, 1) := by decide +kernel
theorem dX8_allowsDepth_1 : decode cX8_allowsDepth 1 = .ok (.sipush 500, 3) := by decide +kernel
theorem dX8_allowsDepth_4 : decode cX8_allowsDepth 4 = .ok (.if_icmp .lt 14, 3) := by decide +kernel
theorem dX8_allowsDepth_7 : decode cX8_allowsDepth 7 = .ok (.iload_n 0, 1) := by decide +kernel
theorem dX8_allowsDepth_8 : decode cX8_allowsDepth 8 = .ok (.sipush 10000, 3) := by decide +kernel
theorem dX8_allowsDepth_11 : decode cX8_allowsDepth 11 = .ok (.if_icmp .gt 7, 3) := by decide +kernel
theorem dX8_allowsDepth_14 : decode cX8_allowsDepth 14 = .ok (.iconst 1, 1) := by decide +kernel
theorem dX8_allowsDepth_15 : decode cX8_allowsDepth 15 = .ok (.goto 4, 3) := by decide +kernel
theorem dX8_allowsDepth_18 : decode cX8_allowsDepth 18 = .ok (.iconst 0, 1) := by decide +kernel
theorem dX8_allowsDepth_19 : decode cX8_allowsDepth 19 = .ok (.ireturn, 1) := by decide +kernel
theorem dX8_allowsLevel_0 : decode cX8_allowsLevel 0 = .ok (.iload_n 1, 1) := by decide +kernel
theorem dX8_allowsLevel_1 : decode cX8_allowsLevel 1 = .ok (.ifCond .lt 15, 3) := by decide +kernel
theorem dX8_allowsLevel_4 : decode cX8_allowsLevel 4 = .ok (.iload_n 1, 1) := by decide +kernel
theorem dX8_allowsLevel_5 : decode cX8_allowsLevel 5 = .ok (.aload_n 0, 1) := by decide +kernel
theorem dX8_allowsLevel_6 : decode cX8_allowsLevel 6 = .ok (.getfield 21, 3) := by decide +kernel
theorem dX8_allowsLevel_9 : decode cX8_allowsLevel 9 = .ok (.if_icmp .gt 7, 3) := by decide +kernel
theorem dX8_allowsLevel_12 : decode cX8_allowsLevel 12 = .ok (.iconst 1, 1) := by decide +kernel
theorem dX8_allowsLevel_13 : decode cX8_allowsLevel 13 = .ok (.goto 4, 3) := by decide +kernel
theorem dX8_allowsLevel_16 : decode cX8_allowsLevel 16 = .ok (.iconst 0, 1) := by decide +kernel
theorem dX8_allowsLevel_17 : decode cX8_allowsLevel 17 = .ok (.ireturn, 1) := by decide +kernel
theorem dX8_allowsFlow_0 : decode cX8_allowsFlow 0 = .ok (.iload_n 0, 1) := by decide +kernel
theorem dX8_allowsFlow_1 : decode cX8_allowsFlow 1 = .ok (.sipush (-200), 3) := by decide +kernel
theorem dX8_allowsFlow_4 : decode cX8_allowsFlow 4 = .ok (.if_icmp .lt 14, 3) := by decide +kernel
theorem dX8_allowsFlow_7 : decode cX8_allowsFlow 7 = .ok (.iload_n 0, 1) := by decide +kernel
theorem dX8_allowsFlow_8 : decode cX8_allowsFlow 8 = .ok (.sipush 200, 3) := by decide +kernel
theorem dX8_allowsFlow_11 : decode cX8_allowsFlow 11 = .ok (.if_icmp .gt 7, 3) := by decide +kernel
theorem dX8_allowsFlow_14 : decode cX8_allowsFlow 14 = .ok (.iconst 1, 1) := by decide +kernel
theorem dX8_allowsFlow_15 : decode cX8_allowsFlow 15 = .ok (.goto 4, 3) := by decide +kernel
theorem dX8_allowsFlow_18 : decode cX8_allowsFlow 18 = .ok (.iconst 0, 1) := by decide +kernel
theorem dX8_allowsFlow_19 : decode cX8_allowsFlow 19 = .ok (.ireturn, 1) := by decide +kernel
theorem dX8_allowsFoam_0 : decode cX8_allowsFoam 0 = .ok (.iload_n 0, 1) := by decide +kernel
theorem dX8_allowsFoam_1 : decode cX8_allowsFoam 1 = .ok (.ifCond .lt 14, 3) := by decide +kernel
theorem dX8_allowsFoam_4 : decode cX8_allowsFoam 4 = .ok (.iload_n 0, 1) := by decide +kernel
theorem dX8_allowsFoam_5 : decode cX8_allowsFoam 5 = .ok (.sipush 500, 3) := by decide +kernel
theorem dX8_allowsFoam_8 : decode cX8_allowsFoam 8 = .ok (.if_icmp .gt 7, 3) := by decide +kernel
theorem dX8_allowsFoam_11 : decode cX8_allowsFoam 11 = .ok (.iconst 1, 1) := by decide +kernel
theorem dX8_allowsFoam_12 : decode cX8_allowsFoam 12 = .ok (.goto 4, 3) := by decide +kernel
theorem dX8_allowsFoam_15 : decode cX8_allowsFoam 15 = .ok (.iconst 0, 1) := by decide +kernel
theorem dX8_allowsFoam_16 : decode cX8_allowsFoam 16 = .ok (.ireturn, 1) := by decide +kernel
theorem dX8_allowsThing_0 : decode cX8_allowsThing 0 = .ok (.iload_n 0, 1) := by decide +kernel
theorem dX8_allowsThing_1 : decode cX8_allowsThing 1 = .ok (.invokestatic 62, 3) := by decide +kernel
theorem dX8_allowsThing_4 : decode cX8_allowsThing 4 = .ok (.ifCond .eq 18, 3) := by decide +kernel
theorem dX8_allowsThing_7 : decode cX8_allowsThing 7 = .ok (.iload_n 1, 1) := by decide +kernel
theorem dX8_allowsThing_8 : decode cX8_allowsThing 8 = .ok (.iconst 1, 1) := by decide +kernel
theorem dX8_allowsThing_9 : decode cX8_allowsThing 9 = .ok (.if_icmp .lt 13, 3) := by decide +kernel
theorem dX8_allowsThing_12 : decode cX8_allowsThing 12 = .ok (.iload_n 1, 1) := by decide +kernel
theorem dX8_allowsThing_13 : decode cX8_allowsThing 13 = .ok (.bipush 100, 2) := by decide +kernel
theorem dX8_allowsThing_15 : decode cX8_allowsThing 15 = .ok (.if_icmp .gt 7, 3) := by decide +kernel
theorem dX8_allowsThing_18 : decode cX8_allowsThing 18 = .ok (.iconst 1, 1) := by decide +kernel
theorem dX8_allowsThing_19 : decode cX8_allowsThing 19 = .ok (.goto 4, 3) := by decide +kernel
theorem dX8_allowsThing_22 : decode cX8_allowsThing 22 = .ok (.iconst 0, 1) := by decide +kernel
theorem dX8_allowsThing_23 : decode cX8_allowsThing 23 = .ok (.ireturn, 1) := by decide +kernel
theorem dX8_allowsStirrer_0 : decode cX8_allowsStirrer 0 = .ok (.iload_n 0, 1) := by decide +kernel
theorem dX8_allowsStirrer_1 : decode cX8_allowsStirrer 1 = .ok (.ifCond .lt 55, 3) := by decide +kernel
theorem dX8_allowsStirrer_4 : decode cX8_allowsStirrer 4 = .ok (.iload_n 0, 1) := by decide +kernel
theorem dX8_allowsStirrer_5 : decode cX8_allowsStirrer 5 = .ok (.bipush 6, 2) := by decide +kernel
theorem dX8_allowsStirrer_7 : decode cX8_allowsStirrer 7 = .ok (.if_icmp .gt 49, 3) := by decide +kernel
theorem dX8_allowsStirrer_10 : decode cX8_allowsStirrer 10 = .ok (.iload_n 1, 1) := by decide +kernel
theorem dX8_allowsStirrer_11 : decode cX8_allowsStirrer 11 = .ok (.invokestatic 62, 3) := by decide +kernel
theorem dX8_allowsStirrer_14 : decode cX8_allowsStirrer 14 = .ok (.ifCond .eq 42, 3) := by decide +kernel
theorem dX8_allowsStirrer_17 : decode cX8_allowsStirrer 17 = .ok (.iload_n 2, 1) := by decide +kernel
theorem dX8_allowsStirrer_18 : decode cX8_allowsStirrer 18 = .ok (.invokestatic 62, 3) := by decide +kernel
theorem dX8_allowsStirrer_21 : decode cX8_allowsStirrer 21 = .ok (.ifCond .eq 35, 3) := by decide +kernel
theorem dX8_allowsStirrer_24 : decode cX8_allowsStirrer 24 = .ok (.iload_n 1, 1) := by decide +kernel
theorem dX8_allowsStirrer_25 : decode cX8_allowsStirrer 25 = .ok (.iload_n 2, 1) := by decide +kernel
theorem dX8_allowsStirrer_26 : decode cX8_allowsStirrer 26 = .ok (.if_icmp .ge 30, 3) := by decide +kernel
theorem dX8_allowsStirrer_29 : decode cX8_allowsStirrer 29 = .ok (.iload_n 3, 1) := by decide +kernel
theorem dX8_allowsStirrer_30 : decode cX8_allowsStirrer 30 = .ok (.ifCond .lt 26, 3) := by decide +kernel
theorem dX8_allowsStirrer_33 : decode cX8_allowsStirrer 33 = .ok (.iload_n 3, 1) := by decide +kernel
theorem dX8_allowsStirrer_34 : decode cX8_allowsStirrer 34 = .ok (.sipush 359, 3) := by decide +kernel
theorem dX8_allowsStirrer_37 : decode cX8_allowsStirrer 37 = .ok (.if_icmp .gt 19, 3) := by decide +kernel
theorem dX8_allowsStirrer_40 : decode cX8_allowsStirrer 40 = .ok (.iload 4, 2) := by decide +kernel
theorem dX8_allowsStirrer_42 : decode cX8_allowsStirrer 42 = .ok (.ifCond .lt 14, 3) := by decide +kernel
theorem dX8_allowsStirrer_45 : decode cX8_allowsStirrer 45 = .ok (.iload 4, 2) := by decide +kernel
theorem dX8_allowsStirrer_47 : decode cX8_allowsStirrer 47 = .ok (.bipush 90, 2) := by decide +kernel
theorem dX8_allowsStirrer_49 : decode cX8_allowsStirrer 49 = .ok (.if_icmp .gt 7, 3) := by decide +kernel
theorem dX8_allowsStirrer_52 : decode cX8_allowsStirrer 52 = .ok (.iconst 1, 1) := by decide +kernel
theorem dX8_allowsStirrer_53 : decode cX8_allowsStirrer 53 = .ok (.goto 4, 3) := by decide +kernel
theorem dX8_allowsStirrer_56 : decode cX8_allowsStirrer 56 = .ok (.iconst 0, 1) := by decide +kernel
theorem dX8_allowsStirrer_57 : decode cX8_allowsStirrer 57 = .ok (.ireturn, 1) := by decide +kernel
theorem dX8_hasPlaceForThing_0 : decode cX8_hasPlaceForThing 0 = .ok (.aload_n 0, 1) := by decide +kernel
theorem dX8_hasPlaceForThing_1 : decode cX8_hasPlaceForThing 1 = .ok (.getfield 34, 3) := by decide +kernel
theorem dX8_hasPlaceForThing_4 : decode cX8_hasPlaceForThing 4 = .ok (.bipush 6, 2) := by decide +kernel
theorem dX8_hasPlaceForThing_6 : decode cX8_hasPlaceForThing 6 = .ok (.if_icmp .ge 7, 3) := by decide +kernel
theorem dX8_hasPlaceForThing_9 : decode cX8_hasPlaceForThing 9 = .ok (.iconst 1, 1) := by decide +kernel
theorem dX8_hasPlaceForThing_10 : decode cX8_hasPlaceForThing 10 = .ok (.goto 4, 3) := by decide +kernel
theorem dX8_hasPlaceForThing_13 : decode cX8_hasPlaceForThing 13 = .ok (.iconst 0, 1) := by decide +kernel
theorem dX8_hasPlaceForThing_14 : decode cX8_hasPlaceForThing 14 = .ok (.ireturn, 1) := by decide +kernel
theorem dX8_hasThing_0 : decode cX8_hasThing 0 = .ok (.iload_n 1, 1) := by decide +kernel
theorem dX8_hasThing_1 : decode cX8_hasThing 1 = .ok (.ifCond .lt 21, 3) := by decide +kernel
theorem dX8_hasThing_4 : decode cX8_hasThing 4 = .ok (.iload_n 1, 1) := by decide +kernel
theorem dX8_hasThing_5 : decode cX8_hasThing 5 = .ok (.aload_n 0, 1) := by decide +kernel
theorem dX8_hasThing_6 : decode cX8_hasThing 6 = .ok (.getfield 34, 3) := by decide +kernel
theorem dX8_hasThing_9 : decode cX8_hasThing 9 = .ok (.if_icmp .ge 13, 3) := by decide +kernel
theorem dX8_hasThing_12 : decode cX8_hasThing 12 = .ok (.iload_n 1, 1) := by decide +kernel
theorem dX8_hasThing_13 : decode cX8_hasThing 13 = .ok (.bipush 6, 2) := by decide +kernel
theorem dX8_hasThing_15 : decode cX8_hasThing 15 = .ok (.if_icmp .ge 7, 3) := by decide +kernel
theorem dX8_hasThing_18 : decode cX8_hasThing 18 = .ok (.iconst 1, 1) := by decide +kernel
theorem dX8_hasThing_19 : decode cX8_hasThing 19 = .ok (.goto 4, 3) := by decide +kernel
theorem dX8_hasThing_22 : decode cX8_hasThing 22 = .ok (.iconst 0, 1) := by decide +kernel
theorem dX8_hasThing_23 : decode cX8_hasThing 23 = .ok (.ireturn, 1) := by decide +kernel
theorem dX8_putThing_0 : decode cX8_putThing 0 = .ok (.aload_n 0, 1) := by decide +kernel
theorem dX8_putThing_1 : decode cX8_putThing 1 = .ok (.getfield 34, 3) := by decide +kernel
theorem dX8_putThing_4 : decode cX8_putThing 4 = .ok (.ifCond .lt 57, 3) := by decide +kernel
theorem dX8_putThing_7 : decode cX8_putThing 7 = .ok (.aload_n 0, 1) := by decide +kernel
theorem dX8_putThing_8 : decode cX8_putThing 8 = .ok (.getfield 34, 3) := by decide +kernel
theorem dX8_putThing_11 : decode cX8_putThing 11 = .ok (.aload_n 0, 1) := by decide +kernel
theorem dX8_putThing_12 : decode cX8_putThing 12 = .ok (.getfield 9, 3) := by decide +kernel
theorem dX8_putThing_15 : decode cX8_putThing 15 = .ok (.arraylength, 1) := by decide +kernel
theorem dX8_putThing_16 : decode cX8_putThing 16 = .ok (.if_icmp .ge 45, 3) := by decide +kernel
theorem dX8_putThing_19 : decode cX8_putThing 19 = .ok (.aload_n 0, 1) := by decide +kernel
theorem dX8_putThing_20 : decode cX8_putThing 20 = .ok (.getfield 34, 3) := by decide +kernel
theorem dX8_putThing_23 : decode cX8_putThing 23 = .ok (.aload_n 0, 1) := by decide +kernel
theorem dX8_putThing_24 : decode cX8_putThing 24 = .ok (.getfield 15, 3) := by decide +kernel
theorem dX8_putThing_27 : decode cX8_putThing 27 = .ok (.arraylength, 1) := by decide +kernel
theorem dX8_putThing_28 : decode cX8_putThing 28 = .ok (.if_icmp .ge 33, 3) := by decide +kernel
theorem dX8_putThing_31 : decode cX8_putThing 31 = .ok (.aload_n 0, 1) := by decide +kernel
theorem dX8_putThing_32 : decode cX8_putThing 32 = .ok (.getfield 9, 3) := by decide +kernel
theorem dX8_putThing_35 : decode cX8_putThing 35 = .ok (.aload_n 0, 1) := by decide +kernel
theorem dX8_putThing_36 : decode cX8_putThing 36 = .ok (.getfield 34, 3) := by decide +kernel
theorem dX8_putThing_39 : decode cX8_putThing 39 = .ok (.iload_n 1, 1) := by decide +kernel
theorem dX8_putThing_40 : decode cX8_putThing 40 = .ok (.iastore, 1) := by decide +kernel
theorem dX8_putThing_41 : decode cX8_putThing 41 = .ok (.aload_n 0, 1) := by decide +kernel
theorem dX8_putThing_42 : decode cX8_putThing 42 = .ok (.getfield 15, 3) := by decide +kernel
theorem dX8_putThing_45 : decode cX8_putThing 45 = .ok (.aload_n 0, 1) := by decide +kernel
theorem dX8_putThing_46 : decode cX8_putThing 46 = .ok (.getfield 34, 3) := by decide +kernel
theorem dX8_putThing_49 : decode cX8_putThing 49 = .ok (.iload_n 2, 1) := by decide +kernel
theorem dX8_putThing_50 : decode cX8_putThing 50 = .ok (.iastore, 1) := by decide +kernel
theorem dX8_putThing_51 : decode cX8_putThing 51 = .ok (.aload_n 0, 1) := by decide +kernel
theorem dX8_putThing_52 : decode cX8_putThing 52 = .ok (.dup, 1) := by decide +kernel
theorem dX8_putThing_53 : decode cX8_putThing 53 = .ok (.getfield 34, 3) := by decide +kernel
theorem dX8_putThing_56 : decode cX8_putThing 56 = .ok (.iconst 1, 1) := by decide +kernel
theorem dX8_putThing_57 : decode cX8_putThing 57 = .ok (.iadd, 1) := by decide +kernel
theorem dX8_putThing_58 : decode cX8_putThing 58 = .ok (.putfield 34, 3) := by decide +kernel
theorem dX8_putThing_61 : decode cX8_putThing 61 = .ok (.return_, 1) := by decide +kernel
theorem dX8_dropThing_0 : decode cX8_dropThing 0 = .ok (.aload_n 0, 1) := by decide +kernel
theorem dX8_dropThing_1 : decode cX8_dropThing 1 = .ok (.iload_n 1, 1) := by decide +kernel
theorem dX8_dropThing_2 : decode cX8_dropThing 2 = .ok (.invokevirtual 66, 3) := by decide +kernel
theorem dX8_dropThing_5 : decode cX8_dropThing 5 = .ok (.ifCond .ne 4, 3) := by decide +kernel
theorem dX8_dropThing_8 : decode cX8_dropThing 8 = .ok (.return_, 1) := by decide +kernel
theorem dX8_dropThing_9 : decode cX8_dropThing 9 = .ok (.iload_n 1, 1) := by decide +kernel
theorem dX8_dropThing_10 : decode cX8_dropThing 10 = .ok (.istore_n 2, 1) := by decide +kernel
theorem dX8_dropThing_11 : decode cX8_dropThing 11 = .ok (.iload_n 2, 1) := by decide +kernel
theorem dX8_dropThing_12 : decode cX8_dropThing 12 = .ok (.iconst 1, 1) := by decide +kernel
theorem dX8_dropThing_13 : decode cX8_dropThing 13 = .ok (.iadd, 1) := by decide +kernel
theorem dX8_dropThing_14 : decode cX8_dropThing 14 = .ok (.aload_n 0, 1) := by decide +kernel
theorem dX8_dropThing_15 : decode cX8_dropThing 15 = .ok (.getfield 34, 3) := by decide +kernel
theorem dX8_dropThing_18 : decode cX8_dropThing 18 = .ok (.if_icmp .ge 45, 3) := by decide +kernel
theorem dX8_dropThing_21 : decode cX8_dropThing 21 = .ok (.iload_n 2, 1) := by decide +kernel
theorem dX8_dropThing_22 : decode cX8_dropThing 22 = .ok (.iconst 1, 1) := by decide +kernel
theorem dX8_dropThing_23 : decode cX8_dropThing 23 = .ok (.iadd, 1) := by decide +kernel
theorem dX8_dropThing_24 : decode cX8_dropThing 24 = .ok (.bipush 6, 2) := by decide +kernel
theorem dX8_dropThing_26 : decode cX8_dropThing 26 = .ok (.if_icmp .ge 37, 3) := by decide +kernel
theorem dX8_dropThing_29 : decode cX8_dropThing 29 = .ok (.aload_n 0, 1) := by decide +kernel
theorem dX8_dropThing_30 : decode cX8_dropThing 30 = .ok (.getfield 9, 3) := by decide +kernel
theorem dX8_dropThing_33 : decode cX8_dropThing 33 = .ok (.iload_n 2, 1) := by decide +kernel
theorem dX8_dropThing_34 : decode cX8_dropThing 34 = .ok (.aload_n 0, 1) := by decide +kernel
theorem dX8_dropThing_35 : decode cX8_dropThing 35 = .ok (.getfield 9, 3) := by decide +kernel
theorem dX8_dropThing_38 : decode cX8_dropThing 38 = .ok (.iload_n 2, 1) := by decide +kernel
theorem dX8_dropThing_39 : decode cX8_dropThing 39 = .ok (.iconst 1, 1) := by decide +kernel
theorem dX8_dropThing_40 : decode cX8_dropThing 40 = .ok (.iadd, 1) := by decide +kernel
theorem dX8_dropThing_41 : decode cX8_dropThing 41 = .ok (.iaload, 1) := by decide +kernel
theorem dX8_dropThing_42 : decode cX8_dropThing 42 = .ok (.iastore, 1) := by decide +kernel
theorem dX8_dropThing_43 : decode cX8_dropThing 43 = .ok (.aload_n 0, 1) := by decide +kernel
theorem dX8_dropThing_44 : decode cX8_dropThing 44 = .ok (.getfield 15, 3) := by decide +kernel
theorem dX8_dropThing_47 : decode cX8_dropThing 47 = .ok (.iload_n 2, 1) := by decide +kernel
theorem dX8_dropThing_48 : decode cX8_dropThing 48 = .ok (.aload_n 0, 1) := by decide +kernel
theorem dX8_dropThing_49 : decode cX8_dropThing 49 = .ok (.getfield 15, 3) := by decide +kernel
theorem dX8_dropThing_52 : decode cX8_dropThing 52 = .ok (.iload_n 2, 1) := by decide +kernel
theorem dX8_dropThing_53 : decode cX8_dropThing 53 = .ok (.iconst 1, 1) := by decide +kernel
theorem dX8_dropThing_54 : decode cX8_dropThing 54 = .ok (.iadd, 1) := by decide +kernel
theorem dX8_dropThing_55 : decode cX8_dropThing 55 = .ok (.iaload, 1) := by decide +kernel
theorem dX8_dropThing_56 : decode cX8_dropThing 56 = .ok (.iastore, 1) := by decide +kernel
theorem dX8_dropThing_57 : decode cX8_dropThing 57 = .ok (.iinc 2 1, 3) := by decide +kernel
theorem dX8_dropThing_60 : decode cX8_dropThing 60 = .ok (.goto (-49), 3) := by decide +kernel
theorem dX8_dropThing_63 : decode cX8_dropThing 63 = .ok (.aload_n 0, 1) := by decide +kernel
theorem dX8_dropThing_64 : decode cX8_dropThing 64 = .ok (.dup, 1) := by decide +kernel
theorem dX8_dropThing_65 : decode cX8_dropThing 65 = .ok (.getfield 34, 3) := by decide +kernel
theorem dX8_dropThing_68 : decode cX8_dropThing 68 = .ok (.iconst 1, 1) := by decide +kernel
theorem dX8_dropThing_69 : decode cX8_dropThing 69 = .ok (.isub, 1) := by decide +kernel
theorem dX8_dropThing_70 : decode cX8_dropThing 70 = .ok (.putfield 34, 3) := by decide +kernel
theorem dX8_dropThing_73 : decode cX8_dropThing 73 = .ok (.return_, 1) := by decide +kernel
theorem dX8_thingDistance_0 : decode cX8_thingDistance 0 = .ok (.aload_n 0, 1) := by decide +kernel
theorem dX8_thingDistance_1 : decode cX8_thingDistance 1 = .ok (.iload_n 1, 1) := by decide +kernel
theorem dX8_thingDistance_2 : decode cX8_thingDistance 2 = .ok (.invokevirtual 66, 3) := by decide +kernel
theorem dX8_thingDistance_5 : decode cX8_thingDistance 5 = .ok (.ifCond .eq 12, 3) := by decide +kernel
theorem dX8_thingDistance_8 : decode cX8_thingDistance 8 = .ok (.aload_n 0, 1) := by decide +kernel
theorem dX8_thingDistance_9 : decode cX8_thingDistance 9 = .ok (.getfield 9, 3) := by decide +kernel
theorem dX8_thingDistance_12 : decode cX8_thingDistance 12 = .ok (.iload_n 1, 1) := by decide +kernel
theorem dX8_thingDistance_13 : decode cX8_thingDistance 13 = .ok (.iaload, 1) := by decide +kernel
theorem dX8_thingDistance_14 : decode cX8_thingDistance 14 = .ok (.goto 4, 3) := by decide +kernel
theorem dX8_thingDistance_17 : decode cX8_thingDistance 17 = .ok (.iconst (-1), 1) := by decide +kernel
theorem dX8_thingDistance_18 : decode cX8_thingDistance 18 = .ok (.ireturn, 1) := by decide +kernel
theorem dX8_thingStrength_0 : decode cX8_thingStrength 0 = .ok (.aload_n 0, 1) := by decide +kernel
theorem dX8_thingStrength_1 : decode cX8_thingStrength 1 = .ok (.iload_n 1, 1) := by decide +kernel
theorem dX8_thingStrength_2 : decode cX8_thingStrength 2 = .ok (.invokevirtual 66, 3) := by decide +kernel
theorem dX8_thingStrength_5 : decode cX8_thingStrength 5 = .ok (.ifCond .eq 12, 3) := by decide +kernel
theorem dX8_thingStrength_8 : decode cX8_thingStrength 8 = .ok (.aload_n 0, 1) := by decide +kernel
theorem dX8_thingStrength_9 : decode cX8_thingStrength 9 = .ok (.getfield 15, 3) := by decide +kernel
theorem dX8_thingStrength_12 : decode cX8_thingStrength 12 = .ok (.iload_n 1, 1) := by decide +kernel
theorem dX8_thingStrength_13 : decode cX8_thingStrength 13 = .ok (.iaload, 1) := by decide +kernel
theorem dX8_thingStrength_14 : decode cX8_thingStrength 14 = .ok (.goto 4, 3) := by decide +kernel
theorem dX8_thingStrength_17 : decode cX8_thingStrength 17 = .ok (.iconst (-1), 1) := by decide +kernel
theorem dX8_thingStrength_18 : decode cX8_thingStrength 18 = .ok (.ireturn, 1) := by decide +kernel
theorem dX8_putStirrer_0 : decode cX8_putStirrer 0 = .ok (.aload_n 0, 1) := by decide +kernel
theorem dX8_putStirrer_1 : decode cX8_putStirrer 1 = .ok (.iload_n 1, 1) := by decide +kernel
theorem dX8_putStirrer_2 : decode cX8_putStirrer 2 = .ok (.putfield 37, 3) := by decide +kernel
theorem dX8_putStirrer_5 : decode cX8_putStirrer 5 = .ok (.aload_n 0, 1) := by decide +kernel
theorem dX8_putStirrer_6 : decode cX8_putStirrer 6 = .ok (.iload_n 2, 1) := by decide +kernel
theorem dX8_putStirrer_7 : decode cX8_putStirrer 7 = .ok (.putfield 40, 3) := by decide +kernel
theorem dX8_putStirrer_10 : decode cX8_putStirrer 10 = .ok (.aload_n 0, 1) := by decide +kernel
theorem dX8_putStirrer_11 : decode cX8_putStirrer 11 = .ok (.iload_n 3, 1) := by decide +kernel
theorem dX8_putStirrer_12 : decode cX8_putStirrer 12 = .ok (.putfield 43, 3) := by decide +kernel
theorem dX8_putStirrer_15 : decode cX8_putStirrer 15 = .ok (.aload_n 0, 1) := by decide +kernel
theorem dX8_putStirrer_16 : decode cX8_putStirrer 16 = .ok (.iload 4, 2) := by decide +kernel
theorem dX8_putStirrer_18 : decode cX8_putStirrer 18 = .ok (.putfield 49, 3) := by decide +kernel
theorem dX8_putStirrer_21 : decode cX8_putStirrer 21 = .ok (.aload_n 0, 1) := by decide +kernel
theorem dX8_putStirrer_22 : decode cX8_putStirrer 22 = .ok (.iload 5, 2) := by decide +kernel
theorem dX8_putStirrer_24 : decode cX8_putStirrer 24 = .ok (.putfield 52, 3) := by decide +kernel
theorem dX8_putStirrer_27 : decode cX8_putStirrer 27 = .ok (.return_, 1) := by decide +kernel
theorem dX8_moveOn_0 : decode cX8_moveOn 0 = .ok (.aload_n 0, 1) := by decide +kernel
theorem dX8_moveOn_1 : decode cX8_moveOn 1 = .ok (.aload_n 0, 1) := by decide +kernel
theorem dX8_moveOn_2 : decode cX8_moveOn 2 = .ok (.getfield 21, 3) := by decide +kernel
theorem dX8_moveOn_5 : decode cX8_moveOn 5 = .ok (.iconst 0, 1) := by decide +kernel
theorem dX8_moveOn_6 : decode cX8_moveOn 6 = .ok (.aload_n 0, 1) := by decide +kernel
theorem dX8_moveOn_7 : decode cX8_moveOn 7 = .ok (.getfield 25, 3) := by decide +kernel
theorem dX8_moveOn_10 : decode cX8_moveOn 10 = .ok (.aload_n 0, 1) := by decide +kernel
theorem dX8_moveOn_11 : decode cX8_moveOn 11 = .ok (.getfield 28, 3) := by decide +kernel
theorem dX8_moveOn_14 : decode cX8_moveOn 14 = .ok (.iadd, 1) := by decide +kernel
theorem dX8_moveOn_15 : decode cX8_moveOn 15 = .ok (.invokestatic 69, 3) := by decide +kernel
theorem dX8_moveOn_18 : decode cX8_moveOn 18 = .ok (.invokestatic 75, 3) := by decide +kernel
theorem dX8_moveOn_21 : decode cX8_moveOn 21 = .ok (.putfield 25, 3) := by decide +kernel
theorem dX8_moveOn_24 : decode cX8_moveOn 24 = .ok (.aload_n 0, 1) := by decide +kernel
theorem dX8_moveOn_25 : decode cX8_moveOn 25 = .ok (.aload_n 0, 1) := by decide +kernel
theorem dX8_moveOn_26 : decode cX8_moveOn 26 = .ok (.getfield 46, 3) := by decide +kernel
theorem dX8_moveOn_29 : decode cX8_moveOn 29 = .ok (.aload_n 0, 1) := by decide +kernel
theorem dX8_moveOn_30 : decode cX8_moveOn 30 = .ok (.getfield 49, 3) := by decide +kernel
theorem dX8_moveOn_33 : decode cX8_moveOn 33 = .ok (.iadd, 1) := by decide +kernel
theorem dX8_moveOn_34 : decode cX8_moveOn 34 = .ok (.sipush 360, 3) := by decide +kernel
theorem dX8_moveOn_37 : decode cX8_moveOn 37 = .ok (.irem, 1) := by decide +kernel
theorem dX8_moveOn_38 : decode cX8_moveOn 38 = .ok (.putfield 46, 3) := by decide +kernel
theorem dX8_moveOn_41 : decode cX8_moveOn 41 = .ok (.return_, 1) := by decide +kernel
theorem dX8_bladeAngle_0 : decode cX8_bladeAngle 0 = .ok (.aload_n 0, 1) := by decide +kernel
theorem dX8_bladeAngle_1 : decode cX8_bladeAngle 1 = .ok (.getfield 37, 3) := by decide +kernel
theorem dX8_bladeAngle_4 : decode cX8_bladeAngle 4 = .ok (.ifCond .le 25, 3) := by decide +kernel
theorem dX8_bladeAngle_7 : decode cX8_bladeAngle 7 = .ok (.aload_n 0, 1) := by decide +kernel
theorem dX8_bladeAngle_8 : decode cX8_bladeAngle 8 = .ok (.getfield 46, 3) := by decide +kernel
theorem dX8_bladeAngle_11 : decode cX8_bladeAngle 11 = .ok (.sipush 360, 3) := by decide +kernel
theorem dX8_bladeAngle_14 : decode cX8_bladeAngle 14 = .ok (.iload_n 1, 1) := by decide +kernel
theorem dX8_bladeAngle_15 : decode cX8_bladeAngle 15 = .ok (.imul, 1) := by decide +kernel
theorem dX8_bladeAngle_16 : decode cX8_bladeAngle 16 = .ok (.aload_n 0, 1) := by decide +kernel
theorem dX8_bladeAngle_17 : decode cX8_bladeAngle 17 = .ok (.getfield 37, 3) := by decide +kernel
theorem dX8_bladeAngle_20 : decode cX8_bladeAngle 20 = .ok (.idiv, 1) := by decide +kernel
theorem dX8_bladeAngle_21 : decode cX8_bladeAngle 21 = .ok (.iadd, 1) := by decide +kernel
theorem dX8_bladeAngle_22 : decode cX8_bladeAngle 22 = .ok (.sipush 360, 3) := by decide +kernel
theorem dX8_bladeAngle_25 : decode cX8_bladeAngle 25 = .ok (.irem, 1) := by decide +kernel
theorem dX8_bladeAngle_26 : decode cX8_bladeAngle 26 = .ok (.goto 4, 3) := by decide +kernel
theorem dX8_bladeAngle_29 : decode cX8_bladeAngle 29 = .ok (.iconst (-1), 1) := by decide +kernel
theorem dX8_bladeAngle_30 : decode cX8_bladeAngle 30 = .ok (.ireturn, 1) := by decide +kernel
theorem dX8_isInBeam_0 : decode cX8_isInBeam 0 = .ok (.aload_n 0, 1) := by decide +kernel
theorem dX8_isInBeam_1 : decode cX8_isInBeam 1 = .ok (.iload_n 1, 1) := by decide +kernel
theorem dX8_isInBeam_2 : decode cX8_isInBeam 2 = .ok (.invokevirtual 78, 3) := by decide +kernel
theorem dX8_isInBeam_5 : decode cX8_isInBeam 5 = .ok (.istore_n 2, 1) := by decide +kernel
theorem dX8_isInBeam_6 : decode cX8_isInBeam 6 = .ok (.iload_n 2, 1) := by decide +kernel
theorem dX8_isInBeam_7 : decode cX8_isInBeam 7 = .ok (.aload_n 0, 1) := by decide +kernel
theorem dX8_isInBeam_8 : decode cX8_isInBeam 8 = .ok (.getfield 52, 3) := by decide +kernel
theorem dX8_isInBeam_11 : decode cX8_isInBeam 11 = .ok (.if_icmp .le 15, 3) := by decide +kernel
theorem dX8_isInBeam_14 : decode cX8_isInBeam 14 = .ok (.iload_n 2, 1) := by decide +kernel
theorem dX8_isInBeam_15 : decode cX8_isInBeam 15 = .ok (.sipush 360, 3) := by decide +kernel
theorem dX8_isInBeam_18 : decode cX8_isInBeam 18 = .ok (.aload_n 0, 1) := by decide +kernel
theorem dX8_isInBeam_19 : decode cX8_isInBeam 19 = .ok (.getfield 52, 3) := by decide +kernel
theorem dX8_isInBeam_22 : decode cX8_isInBeam 22 = .ok (.isub, 1) := by decide +kernel
theorem dX8_isInBeam_23 : decode cX8_isInBeam 23 = .ok (.if_icmp .lt 7, 3) := by decide +kernel
theorem dX8_isInBeam_26 : decode cX8_isInBeam 26 = .ok (.iconst 1, 1) := by decide +kernel
theorem dX8_isInBeam_27 : decode cX8_isInBeam 27 = .ok (.goto 4, 3) := by decide +kernel
theorem dX8_isInBeam_30 : decode cX8_isInBeam 30 = .ok (.iconst 0, 1) := by decide +kernel
theorem dX8_isInBeam_31 : decode cX8_isInBeam 31 = .ok (.ireturn, 1) := by decide +kernel
theorem dX8_draw_0 : decode cX8_draw 0 = .ok (.aload_n 0, 1) := by decide +kernel
theorem dX8_draw_1 : decode cX8_draw 1 = .ok (.ldc2_w 82, 3) := by decide +kernel
theorem dX8_draw_4 : decode cX8_draw 4 = .ok (.aload_n 0, 1) := by decide +kernel
theorem dX8_draw_5 : decode cX8_draw 5 = .ok (.getfield 55, 3) := by decide +kernel
theorem dX8_draw_8 : decode cX8_draw 8 = .ok (.i2l, 1) := by decide +kernel
theorem dX8_draw_9 : decode cX8_draw 9 = .ok (.lmul, 1) := by decide +kernel
theorem dX8_draw_10 : decode cX8_draw 10 = .ok (.ldc2_w 84, 3) := by decide +kernel
theorem dX8_draw_13 : decode cX8_draw 13 = .ok (.ladd, 1) := by decide +kernel
theorem dX8_draw_14 : decode cX8_draw 14 = .ok (.ldc2_w 86, 3) := by decide +kernel
theorem dX8_draw_17 : decode cX8_draw 17 = .ok (.lrem, 1) := by decide +kernel
theorem dX8_draw_18 : decode cX8_draw 18 = .ok (.l2i, 1) := by decide +kernel
theorem dX8_draw_19 : decode cX8_draw 19 = .ok (.putfield 55, 3) := by decide +kernel
theorem dX8_draw_22 : decode cX8_draw 22 = .ok (.iload_n 1, 1) := by decide +kernel
theorem dX8_draw_23 : decode cX8_draw 23 = .ok (.ifCond .le 15, 3) := by decide +kernel
theorem dX8_draw_26 : decode cX8_draw 26 = .ok (.aload_n 0, 1) := by decide +kernel
theorem dX8_draw_27 : decode cX8_draw 27 = .ok (.getfield 55, 3) := by decide +kernel
theorem dX8_draw_30 : decode cX8_draw 30 = .ok (.ldc 88, 2) := by decide +kernel
theorem dX8_draw_32 : decode cX8_draw 32 = .ok (.idiv, 1) := by decide +kernel
theorem dX8_draw_33 : decode cX8_draw 33 = .ok (.iload_n 1, 1) := by decide +kernel
theorem dX8_draw_34 : decode cX8_draw 34 = .ok (.irem, 1) := by decide +kernel
theorem dX8_draw_35 : decode cX8_draw 35 = .ok (.goto 4, 3) := by decide +kernel
theorem dX8_draw_38 : decode cX8_draw 38 = .ok (.iconst 0, 1) := by decide +kernel
theorem dX8_draw_39 : decode cX8_draw 39 = .ok (.ireturn, 1) := by decide +kernel
theorem dX8_addToDigest_0 : decode cX8_addToDigest 0 = .ok (.lload_n 1, 1) := by decide +kernel
theorem dX8_addToDigest_1 : decode cX8_addToDigest 1 = .ok (.lstore_n 3, 1) := by decide +kernel
theorem dX8_addToDigest_2 : decode cX8_addToDigest 2 = .ok (.iconst 0, 1) := by decide +kernel
theorem dX8_addToDigest_3 : decode cX8_addToDigest 3 = .ok (.istore 5, 2) := by decide +kernel
theorem dX8_addToDigest_5 : decode cX8_addToDigest 5 = .ok (.iload 5, 2) := by decide +kernel
theorem dX8_addToDigest_7 : decode cX8_addToDigest 7 = .ok (.aload_n 0, 1) := by decide +kernel
theorem dX8_addToDigest_8 : decode cX8_addToDigest 8 = .ok (.getfield 34, 3) := by decide +kernel
theorem dX8_addToDigest_11 : decode cX8_addToDigest 11 = .ok (.if_icmp .ge 37, 3) := by decide +kernel
theorem dX8_addToDigest_14 : decode cX8_addToDigest 14 = .ok (.ldc2_w 89, 3) := by decide +kernel
theorem dX8_addToDigest_17 : decode cX8_addToDigest 17 = .ok (.lload_n 3, 1) := by decide +kernel
theorem dX8_addToDigest_18 : decode cX8_addToDigest 18 = .ok (.lmul, 1) := by decide +kernel
theorem dX8_addToDigest_19 : decode cX8_addToDigest 19 = .ok (.aload_n 0, 1) := by decide +kernel
theorem dX8_addToDigest_20 : decode cX8_addToDigest 20 = .ok (.iload 5, 2) := by decide +kernel
theorem dX8_addToDigest_22 : decode cX8_addToDigest 22 = .ok (.invokevirtual 91, 3) := by decide +kernel
theorem dX8_addToDigest_25 : decode cX8_addToDigest 25 = .ok (.i2l, 1) := by decide +kernel
theorem dX8_addToDigest_26 : decode cX8_addToDigest 26 = .ok (.ladd, 1) := by decide +kernel
theorem dX8_addToDigest_27 : decode cX8_addToDigest 27 = .ok (.lstore_n 3, 1) := by decide +kernel
theorem dX8_addToDigest_28 : decode cX8_addToDigest 28 = .ok (.ldc2_w 89, 3) := by decide +kernel
theorem dX8_addToDigest_31 : decode cX8_addToDigest 31 = .ok (.lload_n 3, 1) := by decide +kernel
theorem dX8_addToDigest_32 : decode cX8_addToDigest 32 = .ok (.lmul, 1) := by decide +kernel
theorem dX8_addToDigest_33 : decode cX8_addToDigest 33 = .ok (.aload_n 0, 1) := by decide +kernel
theorem dX8_addToDigest_34 : decode cX8_addToDigest 34 = .ok (.iload 5, 2) := by decide +kernel
theorem dX8_addToDigest_36 : decode cX8_addToDigest 36 = .ok (.invokevirtual 94, 3) := by decide +kernel
theorem dX8_addToDigest_39 : decode cX8_addToDigest 39 = .ok (.i2l, 1) := by decide +kernel
theorem dX8_addToDigest_40 : decode cX8_addToDigest 40 = .ok (.ladd, 1) := by decide +kernel
theorem dX8_addToDigest_41 : decode cX8_addToDigest 41 = .ok (.lstore_n 3, 1) := by decide +kernel
theorem dX8_addToDigest_42 : decode cX8_addToDigest 42 = .ok (.iinc 5 1, 3) := by decide +kernel
theorem dX8_addToDigest_45 : decode cX8_addToDigest 45 = .ok (.goto (-40), 3) := by decide +kernel
theorem dX8_addToDigest_48 : decode cX8_addToDigest 48 = .ok (.iconst 0, 1) := by decide +kernel
theorem dX8_addToDigest_49 : decode cX8_addToDigest 49 = .ok (.istore 5, 2) := by decide +kernel
theorem dX8_addToDigest_51 : decode cX8_addToDigest 51 = .ok (.iload 5, 2) := by decide +kernel
theorem dX8_addToDigest_53 : decode cX8_addToDigest 53 = .ok (.aload_n 0, 1) := by decide +kernel
theorem dX8_addToDigest_54 : decode cX8_addToDigest 54 = .ok (.getfield 37, 3) := by decide +kernel
theorem dX8_addToDigest_57 : decode cX8_addToDigest 57 = .ok (.if_icmp .ge 23, 3) := by decide +kernel
theorem dX8_addToDigest_60 : decode cX8_addToDigest 60 = .ok (.ldc2_w 89, 3) := by decide +kernel
theorem dX8_addToDigest_63 : decode cX8_addToDigest 63 = .ok (.lload_n 3, 1) := by decide +kernel
theorem dX8_addToDigest_64 : decode cX8_addToDigest 64 = .ok (.lmul, 1) := by decide +kernel
theorem dX8_addToDigest_65 : decode cX8_addToDigest 65 = .ok (.aload_n 0, 1) := by decide +kernel
theorem dX8_addToDigest_66 : decode cX8_addToDigest 66 = .ok (.iload 5, 2) := by decide +kernel
theorem dX8_addToDigest_68 : decode cX8_addToDigest 68 = .ok (.invokevirtual 78, 3) := by decide +kernel
theorem dX8_addToDigest_71 : decode cX8_addToDigest 71 = .ok (.i2l, 1) := by decide +kernel
theorem dX8_addToDigest_72 : decode cX8_addToDigest 72 = .ok (.ladd, 1) := by decide +kernel
theorem dX8_addToDigest_73 : decode cX8_addToDigest 73 = .ok (.lstore_n 3, 1) := by decide +kernel
theorem dX8_addToDigest_74 : decode cX8_addToDigest 74 = .ok (.iinc 5 1, 3) := by decide +kernel
theorem dX8_addToDigest_77 : decode cX8_addToDigest 77 = .ok (.goto (-26), 3) := by decide +kernel
theorem dX8_addToDigest_80 : decode cX8_addToDigest 80 = .ok (.lload_n 3, 1) := by decide +kernel
theorem dX8_addToDigest_81 : decode cX8_addToDigest 81 = .ok (.lreturn, 1) := by decide +kernel
theorem dX10_init_0 : decode cX10_init 0 = .ok (.aload_n 0, 1) := by decide +kernel
theorem dX10_init_1 : decode cX10_init 1 = .ok (.invokespecial 3, 3) := by decide +kernel
theorem dX10_init_4 : decode cX10_init 4 = .ok (.aload_n 0, 1) := by decide +kernel
theorem dX10_init_5 : decode cX10_init 5 = .ok (.new 9, 3) := by decide +kernel
theorem dX10_init_8 : decode cX10_init 8 = .ok (.dup, 1) := by decide +kernel
theorem dX10_init_9 : decode cX10_init 9 = .ok (.invokespecial 11, 3) := by decide +kernel
theorem dX10_init_12 : decode cX10_init 12 = .ok (.putfield 12, 3) := by decide +kernel
theorem dX10_init_15 : decode cX10_init 15 = .ok (.aload_n 0, 1) := by decide +kernel
theorem dX10_init_16 : decode cX10_init 16 = .ok (.new 9, 3) := by decide +kernel
theorem dX10_init_19 : decode cX10_init 19 = .ok (.dup, 1) := by decide +kernel
theorem dX10_init_20 : decode cX10_init 20 = .ok (.invokespecial 11, 3) := by decide +kernel
theorem dX10_init_23 : decode cX10_init 23 = .ok (.putfield 16, 3) := by decide +kernel
theorem dX10_init_26 : decode cX10_init 26 = .ok (.aload_n 0, 1) := by decide +kernel
theorem dX10_init_27 : decode cX10_init 27 = .ok (.iconst 4, 1) := by decide +kernel
theorem dX10_init_28 : decode cX10_init 28 = .ok (.anewarray 9, 3) := by decide +kernel
theorem dX10_init_31 : decode cX10_init 31 = .ok (.putfield 19, 3) := by decide +kernel
theorem dX10_init_34 : decode cX10_init 34 = .ok (.aload_n 0, 1) := by decide +kernel
theorem dX10_init_35 : decode cX10_init 35 = .ok (.iconst 0, 1) := by decide +kernel
theorem dX10_init_36 : decode cX10_init 36 = .ok (.putfield 23, 3) := by decide +kernel
theorem dX10_init_39 : decode cX10_init 39 = .ok (.aload_n 0, 1) := by decide +kernel
theorem dX10_init_40 : decode cX10_init 40 = .ok (.iconst 0, 1) := by decide +kernel
theorem dX10_init_41 : decode cX10_init 41 = .ok (.putfield 27, 3) := by decide +kernel
theorem dX10_init_44 : decode cX10_init 44 = .ok (.aload_n 0, 1) := by decide +kernel
theorem dX10_init_45 : decode cX10_init 45 = .ok (.new 30, 3) := by decide +kernel
theorem dX10_init_48 : decode cX10_init 48 = .ok (.dup, 1) := by decide +kernel
theorem dX10_init_49 : decode cX10_init 49 = .ok (.invokespecial 32, 3) := by decide +kernel
theorem dX10_init_52 : decode cX10_init 52 = .ok (.putfield 33, 3) := by decide +kernel
theorem dX10_init_55 : decode cX10_init 55 = .ok (.iconst 0, 1) := by decide +kernel
theorem dX10_init_56 : decode cX10_init 56 = .ok (.istore_n 1, 1) := by decide +kernel
theorem dX10_init_57 : decode cX10_init 57 = .ok (.iload_n 1, 1) := by decide +kernel
theorem dX10_init_58 : decode cX10_init 58 = .ok (.aload_n 0, 1) := by decide +kernel
theorem dX10_init_59 : decode cX10_init 59 = .ok (.getfield 19, 3) := by decide +kernel
theorem dX10_init_62 : decode cX10_init 62 = .ok (.arraylength, 1) := by decide +kernel
theorem dX10_init_63 : decode cX10_init 63 = .ok (.if_icmp .ge 22, 3) := by decide +kernel
theorem dX10_init_66 : decode cX10_init 66 = .ok (.aload_n 0, 1) := by decide +kernel
theorem dX10_init_67 : decode cX10_init 67 = .ok (.getfield 19, 3) := by decide +kernel
theorem dX10_init_70 : decode cX10_init 70 = .ok (.iload_n 1, 1) := by decide +kernel
theorem dX10_init_71 : decode cX10_init 71 = .ok (.new 9, 3) := by decide +kernel
theorem dX10_init_74 : decode cX10_init 74 = .ok (.dup, 1) := by decide +kernel
theorem dX10_init_75 : decode cX10_init 75 = .ok (.invokespecial 11, 3) := by decide +kernel
theorem dX10_init_78 : decode cX10_init 78 = .ok (.aastore, 1) := by decide +kernel
theorem dX10_init_79 : decode cX10_init 79 = .ok (.iinc 1 1, 3) := by decide +kernel
theorem dX10_init_82 : decode cX10_init 82 = .ok (.goto (-25), 3) := by decide +kernel
theorem dX10_init_85 : decode cX10_init 85 = .ok (.return_, 1) := by decide +kernel
theorem dX10_begin_0 : decode cX10_begin 0 = .ok (.iload_n 1, 1) := by decide +kernel
theorem dX10_begin_1 : decode cX10_begin 1 = .ok (.invokestatic 37, 3) := by decide +kernel
theorem dX10_begin_4 : decode cX10_begin 4 = .ok (.ifCond .ne 13, 3) := by decide +kernel
theorem dX10_begin_7 : decode cX10_begin 7 = .ok (.new 43, 3) := by decide +kernel
theorem dX10_begin_10 : decode cX10_begin 10 = .ok (.dup, 1) := by decide +kernel
theorem dX10_begin_11 : decode cX10_begin 11 = .ok (.ldc 45, 2) := by decide +kernel
theorem dX10_begin_13 : decode cX10_begin 13 = .ok (.invokespecial 47, 3) := by decide +kernel
theorem dX10_begin_16 : decode cX10_begin 16 = .ok (.athrow, 1) := by decide +kernel
theorem dX10_begin_17 : decode cX10_begin 17 = .ok (.aload_n 0, 1) := by decide +kernel
theorem dX10_begin_18 : decode cX10_begin 18 = .ok (.invokevirtual 50, 3) := by decide +kernel
theorem dX10_begin_21 : decode cX10_begin 21 = .ok (.aload_n 0, 1) := by decide +kernel
theorem dX10_begin_22 : decode cX10_begin 22 = .ok (.getfield 12, 3) := by decide +kernel
theorem dX10_begin_25 : decode cX10_begin 25 = .ok (.getfield 53, 3) := by decide +kernel
theorem dX10_begin_28 : decode cX10_begin 28 = .ok (.getfield 57, 3) := by decide +kernel
theorem dX10_begin_31 : decode cX10_begin 31 = .ok (.istore_n 2, 1) := by decide +kernel
theorem dX10_begin_32 : decode cX10_begin 32 = .ok (.aload_n 0, 1) := by decide +kernel
theorem dX10_begin_33 : decode cX10_begin 33 = .ok (.getfield 12, 3) := by decide +kernel
theorem dX10_begin_36 : decode cX10_begin 36 = .ok (.iload_n 1, 1) := by decide +kernel
theorem dX10_begin_37 : decode cX10_begin 37 = .ok (.invokevirtual 62, 3) := by decide +kernel
theorem dX10_begin_40 : decode cX10_begin 40 = .ok (.iload_n 2, 1) := by decide +kernel
theorem dX10_begin_41 : decode cX10_begin 41 = .ok (.ireturn, 1) := by decide +kernel
theorem dX10_setLevel_0 : decode cX10_setLevel 0 = .ok (.aload_n 0, 1) := by decide +kernel
theorem dX10_setLevel_1 : decode cX10_setLevel 1 = .ok (.getfield 12, 3) := by decide +kernel
theorem dX10_setLevel_4 : decode cX10_setLevel 4 = .ok (.getfield 66, 3) := by decide +kernel
theorem dX10_setLevel_7 : decode cX10_setLevel 7 = .ok (.iload_n 1, 1) := by decide +kernel
theorem dX10_setLevel_8 : decode cX10_setLevel 8 = .ok (.invokevirtual 70, 3) := by decide +kernel
theorem dX10_setLevel_11 : decode cX10_setLevel 11 = .ok (.ifCond .ne 13, 3) := by decide +kernel
theorem dX10_setLevel_14 : decode cX10_setLevel 14 = .ok (.new 43, 3) := by decide +kernel
theorem dX10_setLevel_17 : decode cX10_setLevel 17 = .ok (.dup, 1) := by decide +kernel
theorem dX10_setLevel_18 : decode cX10_setLevel 18 = .ok (.ldc 73, 2) := by decide +kernel
theorem dX10_setLevel_20 : decode cX10_setLevel 20 = .ok (.invokespecial 47, 3) := by decide +kernel
theorem dX10_setLevel_23 : decode cX10_setLevel 23 = .ok (.athrow, 1) := by decide +kernel
theorem dX10_setLevel_24 : decode cX10_setLevel 24 = .ok (.aload_n 0, 1) := by decide +kernel
theorem dX10_setLevel_25 : decode cX10_setLevel 25 = .ok (.invokevirtual 50, 3) := by decide +kernel
theorem dX10_setLevel_28 : decode cX10_setLevel 28 = .ok (.aload_n 0, 1) := by decide +kernel
theorem dX10_setLevel_29 : decode cX10_setLevel 29 = .ok (.getfield 12, 3) := by decide +kernel
theorem dX10_setLevel_32 : decode cX10_setLevel 32 = .ok (.getfield 66, 3) := by decide +kernel
theorem dX10_setLevel_35 : decode cX10_setLevel 35 = .ok (.getfield 75, 3) := by decide +kernel
theorem dX10_setLevel_38 : decode cX10_setLevel 38 = .ok (.istore_n 2, 1) := by decide +kernel
theorem dX10_setLevel_39 : decode cX10_setLevel 39 = .ok (.aload_n 0, 1) := by decide +kernel
theorem dX10_setLevel_40 : decode cX10_setLevel 40 = .ok (.getfield 12, 3) := by decide +kernel
theorem dX10_setLevel_43 : decode cX10_setLevel 43 = .ok (.getfield 66, 3) := by decide +kernel
theorem dX10_setLevel_46 : decode cX10_setLevel 46 = .ok (.iload_n 1, 1) := by decide +kernel
theorem dX10_setLevel_47 : decode cX10_setLevel 47 = .ok (.putfield 75, 3) := by decide +kernel
theorem dX10_setLevel_50 : decode cX10_setLevel 50 = .ok (.iload_n 2, 1) := by decide +kernel
theorem dX10_setLevel_51 : decode cX10_setLevel 51 = .ok (.ireturn, 1) := by decide +kernel
theorem dX10_setFlow_0 : decode cX10_setFlow 0 = .ok (.iload_n 1, 1) := by decide +kernel
theorem dX10_setFlow_1 : decode cX10_setFlow 1 = .ok (.invokestatic 78, 3) := by decide +kernel
theorem dX10_setFlow_4 : decode cX10_setFlow 4 = .ok (.ifCond .ne 13, 3) := by decide +kernel
theorem dX10_setFlow_7 : decode cX10_setFlow 7 = .ok (.new 43, 3) := by decide +kernel
theorem dX10_setFlow_10 : decode cX10_setFlow 10 = .ok (.dup, 1) := by decide +kernel
theorem dX10_setFlow_11 : decode cX10_setFlow 11 = .ok (.ldc 81, 2) := by decide +kernel
theorem dX10_setFlow_13 : decode cX10_setFlow 13 = .ok (.invokespecial 47, 3) := by decide +kernel
theorem dX10_setFlow_16 : decode cX10_setFlow 16 = .ok (.athrow, 1) := by decide +kernel
theorem dX10_setFlow_17 : decode cX10_setFlow 17 = .ok (.aload_n 0, 1) := by decide +kernel
theorem dX10_setFlow_18 : decode cX10_setFlow 18 = .ok (.invokevirtual 50, 3) := by decide +kernel
theorem dX10_setFlow_21 : decode cX10_setFlow 21 = .ok (.aload_n 0, 1) := by decide +kernel
theorem dX10_setFlow_22 : decode cX10_setFlow 22 = .ok (.getfield 12, 3) := by decide +kernel
theorem dX10_setFlow_25 : decode cX10_setFlow 25 = .ok (.getfield 66, 3) := by decide +kernel
theorem dX10_setFlow_28 : decode cX10_setFlow 28 = .ok (.getfield 83, 3) := by decide +kernel
theorem dX10_setFlow_31 : decode cX10_setFlow 31 = .ok (.istore_n 2, 1) := by decide +kernel
theorem dX10_setFlow_32 : decode cX10_setFlow 32 = .ok (.aload_n 0, 1) := by decide +kernel
theorem dX10_setFlow_33 : decode cX10_setFlow 33 = .ok (.getfield 12, 3) := by decide +kernel
theorem dX10_setFlow_36 : decode cX10_setFlow 36 = .ok (.getfield 66, 3) := by decide +kernel
theorem dX10_setFlow_39 : decode cX10_setFlow 39 = .ok (.iload_n 1, 1) := by decide +kernel
theorem dX10_setFlow_40 : decode cX10_setFlow 40 = .ok (.putfield 83, 3) := by decide +kernel
theorem dX10_setFlow_43 : decode cX10_setFlow 43 = .ok (.iload_n 2, 1) := by decide +kernel
theorem dX10_setFlow_44 : decode cX10_setFlow 44 = .ok (.ireturn, 1) := by decide +kernel
theorem dX10_setFoam_0 : decode cX10_setFoam 0 = .ok (.iload_n 1, 1) := by decide +kernel
theorem dX10_setFoam_1 : decode cX10_setFoam 1 = .ok (.invokestatic 86, 3) := by decide +kernel
theorem dX10_setFoam_4 : decode cX10_setFoam 4 = .ok (.ifCond .ne 13, 3) := by decide +kernel
theorem dX10_setFoam_7 : decode cX10_setFoam 7 = .ok (.new 43, 3) := by decide +kernel
theorem dX10_setFoam_10 : decode cX10_setFoam 10 = .ok (.dup, 1) := by decide +kernel
theorem dX10_setFoam_11 : decode cX10_setFoam 11 = .ok (.ldc 89, 2) := by decide +kernel
theorem dX10_setFoam_13 : decode cX10_setFoam 13 = .ok (.invokespecial 47, 3) := by decide +kernel
theorem dX10_setFoam_16 : decode cX10_setFoam 16 = .ok (.athrow, 1) := by decide +kernel
theorem dX10_setFoam_17 : decode cX10_setFoam 17 = .ok (.aload_n 0, 1) := by decide +kernel
theorem dX10_setFoam_18 : decode cX10_setFoam 18 = .ok (.invokevirtual 50, 3) := by decide +kernel
theorem dX10_setFoam_21 : decode cX10_setFoam 21 = .ok (.aload_n 0, 1) := by decide +kernel
theorem dX10_setFoam_22 : decode cX10_setFoam 22 = .ok (.getfield 12, 3) := by decide +kernel
theorem dX10_setFoam_25 : decode cX10_setFoam 25 = .ok (.getfield 66, 3) := by decide +kernel
theorem dX10_setFoam_28 : decode cX10_setFoam 28 = .ok (.getfield 91, 3) := by decide +kernel
theorem dX10_setFoam_31 : decode cX10_setFoam 31 = .ok (.istore_n 2, 1) := by decide +kernel
theorem dX10_setFoam_32 : decode cX10_setFoam 32 = .ok (.aload_n 0, 1) := by decide +kernel
theorem dX10_setFoam_33 : decode cX10_setFoam 33 = .ok (.getfield 12, 3) := by decide +kernel
theorem dX10_setFoam_36 : decode cX10_setFoam 36 = .ok (.getfield 66, 3) := by decide +kernel
theorem dX10_setFoam_39 : decode cX10_setFoam 39 = .ok (.iload_n 1, 1) := by decide +kernel
theorem dX10_setFoam_40 : decode cX10_setFoam 40 = .ok (.putfield 91, 3) := by decide +kernel
theorem dX10_setFoam_43 : decode cX10_setFoam 43 = .ok (.iload_n 2, 1) := by decide +kernel
theorem dX10_setFoam_44 : decode cX10_setFoam 44 = .ok (.ireturn, 1) := by decide +kernel
theorem dX10_addThing_0 : decode cX10_addThing 0 = .ok (.iload_n 1, 1) := by decide +kernel
theorem dX10_addThing_1 : decode cX10_addThing 1 = .ok (.iload_n 2, 1) := by decide +kernel
theorem dX10_addThing_2 : decode cX10_addThing 2 = .ok (.invokestatic 94, 3) := by decide +kernel
theorem dX10_addThing_5 : decode cX10_addThing 5 = .ok (.ifCond .ne 13, 3) := by decide +kernel
theorem dX10_addThing_8 : decode cX10_addThing 8 = .ok (.new 43, 3) := by decide +kernel
theorem dX10_addThing_11 : decode cX10_addThing 11 = .ok (.dup, 1) := by decide +kernel
theorem dX10_addThing_12 : decode cX10_addThing 12 = .ok (.ldc 98, 2) := by decide +kernel
theorem dX10_addThing_14 : decode cX10_addThing 14 = .ok (.invokespecial 47, 3) := by decide +kernel
theorem dX10_addThing_17 : decode cX10_addThing 17 = .ok (.athrow, 1) := by decide +kernel
theorem dX10_addThing_18 : decode cX10_addThing 18 = .ok (.aload_n 0, 1) := by decide +kernel
theorem dX10_addThing_19 : decode cX10_addThing 19 = .ok (.getfield 12, 3) := by decide +kernel
theorem dX10_addThing_22 : decode cX10_addThing 22 = .ok (.getfield 66, 3) := by decide +kernel
theorem dX10_addThing_25 : decode cX10_addThing 25 = .ok (.invokevirtual 100, 3) := by decide +kernel
theorem dX10_addThing_28 : decode cX10_addThing 28 = .ok (.ifCond .ne 13, 3) := by decide +kernel
theorem dX10_addThing_31 : decode cX10_addThing 31 = .ok (.new 104, 3) := by decide +kernel
theorem dX10_addThing_34 : decode cX10_addThing 34 = .ok (.dup, 1) := by decide +kernel
theorem dX10_addThing_35 : decode cX10_addThing 35 = .ok (.ldc 106, 2) := by decide +kernel
theorem dX10_addThing_37 : decode cX10_addThing 37 = .ok (.invokespecial 108, 3) := by decide +kernel
theorem dX10_addThing_40 : decode cX10_addThing 40 = .ok (.athrow, 1) := by decide +kernel
theorem dX10_addThing_41 : decode cX10_addThing 41 = .ok (.aload_n 0, 1) := by decide +kernel
theorem dX10_addThing_42 : decode cX10_addThing 42 = .ok (.invokevirtual 50, 3) := by decide +kernel
theorem dX10_addThing_45 : decode cX10_addThing 45 = .ok (.aload_n 0, 1) := by decide +kernel
theorem dX10_addThing_46 : decode cX10_addThing 46 = .ok (.getfield 12, 3) := by decide +kernel
theorem dX10_addThing_49 : decode cX10_addThing 49 = .ok (.getfield 66, 3) := by decide +kernel
theorem dX10_addThing_52 : decode cX10_addThing 52 = .ok (.iload_n 1, 1) := by decide +kernel
theorem dX10_addThing_53 : decode cX10_addThing 53 = .ok (.iload_n 2, 1) := by decide +kernel
theorem dX10_addThing_54 : decode cX10_addThing 54 = .ok (.invokevirtual 109, 3) := by decide +kernel
theorem dX10_addThing_57 : decode cX10_addThing 57 = .ok (.aload_n 0, 1) := by decide +kernel
theorem dX10_addThing_58 : decode cX10_addThing 58 = .ok (.getfield 12, 3) := by decide +kernel
theorem dX10_addThing_61 : decode cX10_addThing 61 = .ok (.getfield 66, 3) := by decide +kernel
theorem dX10_addThing_64 : decode cX10_addThing 64 = .ok (.getfield 113, 3) := by decide +kernel
theorem dX10_addThing_67 : decode cX10_addThing 67 = .ok (.iconst 1, 1) := by decide +kernel
theorem dX10_addThing_68 : decode cX10_addThing 68 = .ok (.isub, 1) := by decide +kernel
theorem dX10_addThing_69 : decode cX10_addThing 69 = .ok (.ireturn, 1) := by decide +kernel
theorem dX10_removeThing_0 : decode cX10_removeThing 0 = .ok (.aload_n 0, 1) := by decide +kernel
theorem dX10_removeThing_1 : decode cX10_removeThing 1 = .ok (.getfield 12, 3) := by decide +kernel
theorem dX10_removeThing_4 : decode cX10_removeThing 4 = .ok (.getfield 66, 3) := by decide +kernel
theorem dX10_removeThing_7 : decode cX10_removeThing 7 = .ok (.iload_n 1, 1) := by decide +kernel
theorem dX10_removeThing_8 : decode cX10_removeThing 8 = .ok (.invokevirtual 116, 3) := by decide +kernel
theorem dX10_removeThing_11 : decode cX10_removeThing 11 = .ok (.ifCond .ne 13, 3) := by decide +kernel
theorem dX10_removeThing_14 : decode cX10_removeThing 14 = .ok (.new 119, 3) := by decide +kernel
theorem dX10_removeThing_17 : decode cX10_removeThing 17 = .ok (.dup, 1) := by decide +kernel
theorem dX10_removeThing_18 : decode cX10_removeThing 18 = .ok (.ldc 121, 2) := by decide +kernel
theorem dX10_removeThing_20 : decode cX10_removeThing 20 = .ok (.invokespecial 123, 3) := by decide +kernel
theorem dX10_removeThing_23 : decode cX10_removeThing 23 = .ok (.athrow, 1) := by decide +kernel
theorem dX10_removeThing_24 : decode cX10_removeThing 24 = .ok (.aload_n 0, 1) := by decide +kernel
theorem dX10_removeThing_25 : decode cX10_removeThing 25 = .ok (.invokevirtual 50, 3) := by decide +kernel
theorem dX10_removeThing_28 : decode cX10_removeThing 28 = .ok (.aload_n 0, 1) := by decide +kernel
theorem dX10_removeThing_29 : decode cX10_removeThing 29 = .ok (.getfield 12, 3) := by decide +kernel
theorem dX10_removeThing_32 : decode cX10_removeThing 32 = .ok (.getfield 66, 3) := by decide +kernel
theorem dX10_removeThing_35 : decode cX10_removeThing 35 = .ok (.iload_n 1, 1) := by decide +kernel
theorem dX10_removeThing_36 : decode cX10_removeThing 36 = .ok (.invokevirtual 124, 3) := by decide +kernel
theorem dX10_removeThing_39 : decode cX10_removeThing 39 = .ok (.aload_n 0, 1) := by decide +kernel
theorem dX10_removeThing_40 : decode cX10_removeThing 40 = .ok (.getfield 12, 3) := by decide +kernel
theorem dX10_removeThing_43 : decode cX10_removeThing 43 = .ok (.getfield 66, 3) := by decide +kernel
theorem dX10_removeThing_46 : decode cX10_removeThing 46 = .ok (.getfield 113, 3) := by decide +kernel
theorem dX10_removeThing_49 : decode cX10_removeThing 49 = .ok (.ireturn, 1) := by decide +kernel
theorem dX10_setStirrer_0 : decode cX10_setStirrer 0 = .ok (.iload_n 1, 1) := by decide +kernel
theorem dX10_setStirrer_1 : decode cX10_setStirrer 1 = .ok (.iload_n 2, 1) := by decide +kernel
theorem dX10_setStirrer_2 : decode cX10_setStirrer 2 = .ok (.iload_n 3, 1) := by decide +kernel
theorem dX10_setStirrer_3 : decode cX10_setStirrer 3 = .ok (.iload 4, 2) := by decide +kernel
theorem dX10_setStirrer_5 : decode cX10_setStirrer 5 = .ok (.iload 5, 2) := by decide +kernel
theorem dX10_setStirrer_7 : decode cX10_setStirrer 7 = .ok (.invokestatic 127, 3) := by decide +kernel
theorem dX10_setStirrer_10 : decode cX10_setStirrer 10 = .ok (.ifCond .ne 13, 3) := by decide +kernel
theorem dX10_setStirrer_13 : decode cX10_setStirrer 13 = .ok (.new 43, 3) := by decide +kernel
theorem dX10_setStirrer_16 : decode cX10_setStirrer 16 = .ok (.dup, 1) := by decide +kernel
theorem dX10_setStirrer_17 : decode cX10_setStirrer 17 = .ok (.ldc 131, 2) := by decide +kernel
theorem dX10_setStirrer_19 : decode cX10_setStirrer 19 = .ok (.invokespecial 47, 3) := by decide +kernel
theorem dX10_setStirrer_22 : decode cX10_setStirrer 22 = .ok (.athrow, 1) := by decide +kernel
theorem dX10_setStirrer_23 : decode cX10_setStirrer 23 = .ok (.aload_n 0, 1) := by decide +kernel
theorem dX10_setStirrer_24 : decode cX10_setStirrer 24 = .ok (.invokevirtual 50, 3) := by decide +kernel
theorem dX10_setStirrer_27 : decode cX10_setStirrer 27 = .ok (.aload_n 0, 1) := by decide +kernel
theorem dX10_setStirrer_28 : decode cX10_setStirrer 28 = .ok (.getfield 12, 3) := by decide +kernel
theorem dX10_setStirrer_31 : decode cX10_setStirrer 31 = .ok (.getfield 66, 3) := by decide +kernel
theorem dX10_setStirrer_34 : decode cX10_setStirrer 34 = .ok (.getfield 133, 3) := by decide +kernel
theorem dX10_setStirrer_37 : decode cX10_setStirrer 37 = .ok (.istore 6, 2) := by decide +kernel
theorem dX10_setStirrer_39 : decode cX10_setStirrer 39 = .ok (.aload_n 0, 1) := by decide +kernel
theorem dX10_setStirrer_40 : decode cX10_setStirrer 40 = .ok (.getfield 12, 3) := by decide +kernel
theorem dX10_setStirrer_43 : decode cX10_setStirrer 43 = .ok (.getfield 66, 3) := by decide +kernel
theorem dX10_setStirrer_46 : decode cX10_setStirrer 46 = .ok (.iload_n 1, 1) := by decide +kernel
theorem dX10_setStirrer_47 : decode cX10_setStirrer 47 = .ok (.iload_n 2, 1) := by decide +kernel
theorem dX10_setStirrer_48 : decode cX10_setStirrer 48 = .ok (.iload_n 3, 1) := by decide +kernel
theorem dX10_setStirrer_49 : decode cX10_setStirrer 49 = .ok (.iload 4, 2) := by decide +kernel
theorem dX10_setStirrer_51 : decode cX10_setStirrer 51 = .ok (.iload 5, 2) := by decide +kernel
theorem dX10_setStirrer_53 : decode cX10_setStirrer 53 = .ok (.invokevirtual 136, 3) := by decide +kernel
theorem dX10_setStirrer_56 : decode cX10_setStirrer 56 = .ok (.iload 6, 2) := by decide +kernel
theorem dX10_setStirrer_58 : decode cX10_setStirrer 58 = .ok (.ireturn, 1) := by decide +kernel
theorem dX10_set_0 : decode cX10_set 0 = .ok (.aload_n 0, 1) := by decide +kernel
theorem dX10_set_1 : decode cX10_set 1 = .ok (.getfield 12, 3) := by decide +kernel
theorem dX10_set_4 : decode cX10_set 4 = .ok (.getfield 140, 3) := by decide +kernel
theorem dX10_set_7 : decode cX10_set 7 = .ok (.iload_n 1, 1) := by decide +kernel
theorem dX10_set_8 : decode cX10_set 8 = .ok (.iload_n 2, 1) := by decide +kernel
theorem dX10_set_9 : decode cX10_set 9 = .ok (.invokevirtual 144, 3) := by decide +kernel
theorem dX10_set_12 : decode cX10_set 12 = .ok (.ifCond .ne 13, 3) := by decide +kernel
theorem dX10_set_15 : decode cX10_set 15 = .ok (.new 43, 3) := by decide +kernel
theorem dX10_set_18 : decode cX10_set 18 = .ok (.dup, 1) := by decide +kernel
theorem dX10_set_19 : decode cX10_set 19 = .ok (.ldc 149, 2) := by decide +kernel
theorem dX10_set_21 : decode cX10_set 21 = .ok (.invokespecial 47, 3) := by decide +kernel
theorem dX10_set_24 : decode cX10_set 24 = .ok (.athrow, 1) := by decide +kernel
theorem dX10_set_25 : decode cX10_set 25 = .ok (.aload_n 0, 1) := by decide +kernel
theorem dX10_set_26 : decode cX10_set 26 = .ok (.invokevirtual 50, 3) := by decide +kernel
theorem dX10_set_29 : decode cX10_set 29 = .ok (.aload_n 0, 1) := by decide +kernel
theorem dX10_set_30 : decode cX10_set 30 = .ok (.getfield 12, 3) := by decide +kernel
theorem dX10_set_33 : decode cX10_set 33 = .ok (.getfield 140, 3) := by decide +kernel
theorem dX10_set_36 : decode cX10_set 36 = .ok (.iload_n 1, 1) := by decide +kernel
theorem dX10_set_37 : decode cX10_set 37 = .ok (.invokevirtual 151, 3) := by decide +kernel
theorem dX10_set_40 : decode cX10_set 40 = .ok (.istore_n 3, 1) := by decide +kernel
theorem dX10_set_41 : decode cX10_set 41 = .ok (.aload_n 0, 1) := by decide +kernel
theorem dX10_set_42 : decode cX10_set 42 = .ok (.getfield 12, 3) := by decide +kernel
theorem dX10_set_45 : decode cX10_set 45 = .ok (.iload_n 1, 1) := by decide +kernel
theorem dX10_set_46 : decode cX10_set 46 = .ok (.iload_n 2, 1) := by decide +kernel
theorem dX10_set_47 : decode cX10_set 47 = .ok (.invokevirtual 155, 3) := by decide +kernel
theorem dX10_set_50 : decode cX10_set 50 = .ok (.iload_n 3, 1) := by decide +kernel
theorem dX10_set_51 : decode cX10_set 51 = .ok (.ireturn, 1) := by decide +kernel
theorem dX10_setS_0 : decode cX10_setS 0 = .ok (.iload_n 1, 1) := by decide +kernel
theorem dX10_setS_1 : decode cX10_setS 1 = .ok (.ifCond .ge 13, 3) := by decide +kernel
theorem dX10_setS_4 : decode cX10_setS 4 = .ok (.new 43, 3) := by decide +kernel
theorem dX10_setS_7 : decode cX10_setS 7 = .ok (.dup, 1) := by decide +kernel
theorem dX10_setS_8 : decode cX10_setS 8 = .ok (.ldc 158, 2) := by decide +kernel
theorem dX10_setS_10 : decode cX10_setS 10 = .ok (.invokespecial 47, 3) := by decide +kernel
theorem dX10_setS_13 : decode cX10_setS 13 = .ok (.athrow, 1) := by decide +kernel
theorem dX10_setS_14 : decode cX10_setS 14 = .ok (.aload_n 0, 1) := by decide +kernel
theorem dX10_setS_15 : decode cX10_setS 15 = .ok (.invokevirtual 50, 3) := by decide +kernel
theorem dX10_setS_18 : decode cX10_setS 18 = .ok (.aload_n 0, 1) := by decide +kernel
theorem dX10_setS_19 : decode cX10_setS 19 = .ok (.getfield 12, 3) := by decide +kernel
theorem dX10_setS_22 : decode cX10_setS 22 = .ok (.getfield 66, 3) := by decide +kernel
theorem dX10_setS_25 : decode cX10_setS 25 = .ok (.getfield 160, 3) := by decide +kernel
theorem dX10_setS_28 : decode cX10_setS 28 = .ok (.istore_n 2, 1) := by decide +kernel
theorem dX10_setS_29 : decode cX10_setS 29 = .ok (.aload_n 0, 1) := by decide +kernel
theorem dX10_setS_30 : decode cX10_setS 30 = .ok (.getfield 12, 3) := by decide +kernel
theorem dX10_setS_33 : decode cX10_setS 33 = .ok (.getfield 66, 3) := by decide +kernel
theorem dX10_setS_36 : decode cX10_setS 36 = .ok (.iload_n 1, 1) := by decide +kernel
theorem dX10_setS_37 : decode cX10_setS 37 = .ok (.putfield 160, 3) := by decide +kernel
theorem dX10_setS_40 : decode cX10_setS 40 = .ok (.iload_n 2, 1) := by decide +kernel
theorem dX10_setS_41 : decode cX10_setS 41 = .ok (.ireturn, 1) := by decide +kernel
theorem dX10_mask_0 : decode cX10_mask 0 = .ok (.iload_n 1, 1) := by decide +kernel
theorem dX10_mask_1 : decode cX10_mask 1 = .ok (.invokestatic 163, 3) := by decide +kernel
theorem dX10_mask_4 : decode cX10_mask 4 = .ok (.ifCond .ne 13, 3) := by decide +kernel
theorem dX10_mask_7 : decode cX10_mask 7 = .ok (.new 43, 3) := by decide +kernel
theorem dX10_mask_10 : decode cX10_mask 10 = .ok (.dup, 1) := by decide +kernel
theorem dX10_mask_11 : decode cX10_mask 11 = .ok (.ldc 166, 2) := by decide +kernel
theorem dX10_mask_13 : decode cX10_mask 13 = .ok (.invokespecial 47, 3) := by decide +kernel
theorem dX10_mask_16 : decode cX10_mask 16 = .ok (.athrow, 1) := by decide +kernel
theorem dX10_mask_17 : decode cX10_mask 17 = .ok (.aload_n 0, 1) := by decide +kernel
theorem dX10_mask_18 : decode cX10_mask 18 = .ok (.invokevirtual 50, 3) := by decide +kernel
theorem dX10_mask_21 : decode cX10_mask 21 = .ok (.aload_n 0, 1) := by decide +kernel
theorem dX10_mask_22 : decode cX10_mask 22 = .ok (.getfield 12, 3) := by decide +kernel
theorem dX10_mask_25 : decode cX10_mask 25 = .ok (.getfield 168, 3) := by decide +kernel
theorem dX10_mask_28 : decode cX10_mask 28 = .ok (.iload_n 1, 1) := by decide +kernel
theorem dX10_mask_29 : decode cX10_mask 29 = .ok (.invokevirtual 172, 3) := by decide +kernel
theorem dX10_mask_32 : decode cX10_mask 32 = .ok (.istore_n 3, 1) := by decide +kernel
theorem dX10_mask_33 : decode cX10_mask 33 = .ok (.aload_n 0, 1) := by decide +kernel
theorem dX10_mask_34 : decode cX10_mask 34 = .ok (.getfield 12, 3) := by decide +kernel
theorem dX10_mask_37 : decode cX10_mask 37 = .ok (.getfield 168, 3) := by decide +kernel
theorem dX10_mask_40 : decode cX10_mask 40 = .ok (.iload_n 1, 1) := by decide +kernel
theorem dX10_mask_41 : decode cX10_mask 41 = .ok (.iload_n 2, 1) := by decide +kernel
theorem dX10_mask_42 : decode cX10_mask 42 = .ok (.invokevirtual 177, 3) := by decide +kernel
theorem dX10_mask_45 : decode cX10_mask 45 = .ok (.iload_n 3, 1) := by decide +kernel
theorem dX10_mask_46 : decode cX10_mask 46 = .ok (.ifCond .eq 7, 3) := by decide +kernel
theorem dX10_mask_49 : decode cX10_mask 49 = .ok (.iconst 1, 1) := by decide +kernel
theorem dX10_mask_50 : decode cX10_mask 50 = .ok (.goto 4, 3) := by decide +kernel
theorem dX10_mask_53 : decode cX10_mask 53 = .ok (.iconst 0, 1) := by decide +kernel
theorem dX10_mask_54 : decode cX10_mask 54 = .ok (.ireturn, 1) := by decide +kernel
theorem dX10_learn_0 : decode cX10_learn 0 = .ok (.iload_n 1, 1) := by decide +kernel
theorem dX10_learn_1 : decode cX10_learn 1 = .ok (.invokestatic 181, 3) := by decide +kernel
theorem dX10_learn_4 : decode cX10_learn 4 = .ok (.ifCond .ne 13, 3) := by decide +kernel
theorem dX10_learn_7 : decode cX10_learn 7 = .ok (.new 43, 3) := by decide +kernel
theorem dX10_learn_10 : decode cX10_learn 10 = .ok (.dup, 1) := by decide +kernel
theorem dX10_learn_11 : decode cX10_learn 11 = .ok (.ldc 184, 2) := by decide +kernel
theorem dX10_learn_13 : decode cX10_learn 13 = .ok (.invokespecial 47, 3) := by decide +kernel
theorem dX10_learn_16 : decode cX10_learn 16 = .ok (.athrow, 1) := by decide +kernel
theorem dX10_learn_17 : decode cX10_learn 17 = .ok (.aload_n 0, 1) := by decide +kernel
theorem dX10_learn_18 : decode cX10_learn 18 = .ok (.invokevirtual 50, 3) := by decide +kernel
theorem dX10_learn_21 : decode cX10_learn 21 = .ok (.aload_n 0, 1) := by decide +kernel
theorem dX10_learn_22 : decode cX10_learn 22 = .ok (.getfield 12, 3) := by decide +kernel
theorem dX10_learn_25 : decode cX10_learn 25 = .ok (.iload_n 1, 1) := by decide +kernel
theorem dX10_learn_26 : decode cX10_learn 26 = .ok (.invokevirtual 186, 3) := by decide +kernel
theorem dX10_learn_29 : decode cX10_learn 29 = .ok (.aload_n 0, 1) := by decide +kernel
theorem dX10_learn_30 : decode cX10_learn 30 = .ok (.getfield 12, 3) := by decide +kernel
theorem dX10_learn_33 : decode cX10_learn 33 = .ok (.getfield 168, 3) := by decide +kernel
theorem dX10_learn_36 : decode cX10_learn 36 = .ok (.getfield 189, 3) := by decide +kernel
theorem dX10_learn_39 : decode cX10_learn 39 = .ok (.ireturn, 1) := by decide +kernel
theorem dX10_forget_0 : decode cX10_forget 0 = .ok (.aload_n 0, 1) := by decide +kernel
theorem dX10_forget_1 : decode cX10_forget 1 = .ok (.invokevirtual 50, 3) := by decide +kernel
theorem dX10_forget_4 : decode cX10_forget 4 = .ok (.aload_n 0, 1) := by decide +kernel
theorem dX10_forget_5 : decode cX10_forget 5 = .ok (.getfield 12, 3) := by decide +kernel
theorem dX10_forget_8 : decode cX10_forget 8 = .ok (.getfield 168, 3) := by decide +kernel
theorem dX10_forget_11 : decode cX10_forget 11 = .ok (.getfield 189, 3) := by decide +kernel
theorem dX10_forget_14 : decode cX10_forget 14 = .ok (.istore_n 1, 1) := by decide +kernel
theorem dX10_forget_15 : decode cX10_forget 15 = .ok (.aload_n 0, 1) := by decide +kernel
theorem dX10_forget_16 : decode cX10_forget 16 = .ok (.getfield 12, 3) := by decide +kernel
theorem dX10_forget_19 : decode cX10_forget 19 = .ok (.getfield 168, 3) := by decide +kernel
theorem dX10_forget_22 : decode cX10_forget 22 = .ok (.invokevirtual 192, 3) := by decide +kernel
theorem dX10_forget_25 : decode cX10_forget 25 = .ok (.iload_n 1, 1) := by decide +kernel
theorem dX10_forget_26 : decode cX10_forget 26 = .ok (.ireturn, 1) := by decide +kernel
theorem dX10_shoot_0 : decode cX10_shoot 0 = .ok (.iload_n 1, 1) := by decide +kernel
theorem dX10_shoot_1 : decode cX10_shoot 1 = .ok (.invokestatic 195, 3) := by decide +kernel
theorem dX10_shoot_4 : decode cX10_shoot 4 = .ok (.ifCond .ne 13, 3) := by decide +kernel
theorem dX10_shoot_7 : decode cX10_shoot 7 = .ok (.new 43, 3) := by decide +kernel
theorem dX10_shoot_10 : decode cX10_shoot 10 = .ok (.dup, 1) := by decide +kernel
theorem dX10_shoot_11 : decode cX10_shoot 11 = .ok (.ldc 184, 2) := by decide +kernel
theorem dX10_shoot_13 : decode cX10_shoot 13 = .ok (.invokespecial 47, 3) := by decide +kernel
theorem dX10_shoot_16 : decode cX10_shoot 16 = .ok (.athrow, 1) := by decide +kernel
theorem dX10_shoot_17 : decode cX10_shoot 17 = .ok (.aload_n 0, 1) := by decide +kernel
theorem dX10_shoot_18 : decode cX10_shoot 18 = .ok (.invokevirtual 50, 3) := by decide +kernel
theorem dX10_shoot_21 : decode cX10_shoot 21 = .ok (.aload_n 0, 1) := by decide +kernel
theorem dX10_shoot_22 : decode cX10_shoot 22 = .ok (.getfield 12, 3) := by decide +kernel
theorem dX10_shoot_25 : decode cX10_shoot 25 = .ok (.getfield 53, 3) := by decide +kernel
theorem dX10_shoot_28 : decode cX10_shoot 28 = .ok (.getfield 198, 3) := by decide +kernel
theorem dX10_shoot_31 : decode cX10_shoot 31 = .ok (.istore_n 2, 1) := by decide +kernel
theorem dX10_shoot_32 : decode cX10_shoot 32 = .ok (.aload_n 0, 1) := by decide +kernel
theorem dX10_shoot_33 : decode cX10_shoot 33 = .ok (.getfield 12, 3) := by decide +kernel
theorem dX10_shoot_36 : decode cX10_shoot 36 = .ok (.iload_n 1, 1) := by decide +kernel
theorem dX10_shoot_37 : decode cX10_shoot 37 = .ok (.invokevirtual 201, 3) := by decide +kernel
theorem dX10_shoot_40 : decode cX10_shoot 40 = .ok (.aload_n 0, 1) := by decide +kernel
theorem dX10_shoot_41 : decode cX10_shoot 41 = .ok (.getfield 12, 3) := by decide +kernel
theorem dX10_shoot_44 : decode cX10_shoot 44 = .ok (.getfield 53, 3) := by decide +kernel
theorem dX10_shoot_47 : decode cX10_shoot 47 = .ok (.getfield 198, 3) := by decide +kernel
theorem dX10_shoot_50 : decode cX10_shoot 50 = .ok (.iload_n 2, 1) := by decide +kernel
theorem dX10_shoot_51 : decode cX10_shoot 51 = .ok (.isub, 1) := by decide +kernel
theorem dX10_shoot_52 : decode cX10_shoot 52 = .ok (.ireturn, 1) := by decide +kernel
theorem dX10_echo_0 : decode cX10_echo 0 = .ok (.iload_n 1, 1) := by decide +kernel
theorem dX10_echo_1 : decode cX10_echo 1 = .ok (.ifCond .lt 13, 3) := by decide +kernel
theorem dX10_echo_4 : decode cX10_echo 4 = .ok (.iload_n 2, 1) := by decide +kernel
theorem dX10_echo_5 : decode cX10_echo 5 = .ok (.ifCond .lt 9, 3) := by decide +kernel
theorem dX10_echo_8 : decode cX10_echo 8 = .ok (.iload_n 2, 1) := by decide +kernel
theorem dX10_echo_9 : decode cX10_echo 9 = .ok (.bipush 6, 2) := by decide +kernel
theorem dX10_echo_11 : decode cX10_echo 11 = .ok (.if_icmp .lt 13, 3) := by decide +kernel
theorem dX10_echo_14 : decode cX10_echo 14 = .ok (.new 43, 3) := by decide +kernel
theorem dX10_echo_17 : decode cX10_echo 17 = .ok (.dup, 1) := by decide +kernel
theorem dX10_echo_18 : decode cX10_echo 18 = .ok (.ldc 204, 2) := by decide +kernel
theorem dX10_echo_20 : decode cX10_echo 20 = .ok (.invokespecial 47, 3) := by decide +kernel
theorem dX10_echo_23 : decode cX10_echo 23 = .ok (.athrow, 1) := by decide +kernel
theorem dX10_echo_24 : decode cX10_echo 24 = .ok (.aload_n 0, 1) := by decide +kernel
theorem dX10_echo_25 : decode cX10_echo 25 = .ok (.getfield 12, 3) := by decide +kernel
theorem dX10_echo_28 : decode cX10_echo 28 = .ok (.getfield 206, 3) := by decide +kernel
theorem dX10_echo_31 : decode cX10_echo 31 = .ok (.iload_n 1, 1) := by decide +kernel
theorem dX10_echo_32 : decode cX10_echo 32 = .ok (.iload_n 2, 1) := by decide +kernel
theorem dX10_echo_33 : decode cX10_echo 33 = .ok (.invokevirtual 210, 3) := by decide +kernel
theorem dX10_echo_36 : decode cX10_echo 36 = .ok (.ireturn, 1) := by decide +kernel
theorem dX10_pick_0 : decode cX10_pick 0 = .ok (.iload_n 1, 1) := by decide +kernel
theorem dX10_pick_1 : decode cX10_pick 1 = .ok (.ifCond .ge 13, 3) := by decide +kernel
theorem dX10_pick_4 : decode cX10_pick 4 = .ok (.new 43, 3) := by decide +kernel
theorem dX10_pick_7 : decode cX10_pick 7 = .ok (.dup, 1) := by decide +kernel
theorem dX10_pick_8 : decode cX10_pick 8 = .ok (.ldc 215, 2) := by decide +kernel
theorem dX10_pick_10 : decode cX10_pick 10 = .ok (.invokespecial 47, 3) := by decide +kernel
theorem dX10_pick_13 : decode cX10_pick 13 = .ok (.athrow, 1) := by decide +kernel
theorem dX10_pick_14 : decode cX10_pick 14 = .ok (.aload_n 0, 1) := by decide +kernel
theorem dX10_pick_15 : decode cX10_pick 15 = .ok (.getfield 12, 3) := by decide +kernel
theorem dX10_pick_18 : decode cX10_pick 18 = .ok (.getfield 53, 3) := by decide +kernel
theorem dX10_pick_21 : decode cX10_pick 21 = .ok (.iload_n 1, 1) := by decide +kernel
theorem dX10_pick_22 : decode cX10_pick 22 = .ok (.invokevirtual 217, 3) := by decide +kernel
theorem dX10_pick_25 : decode cX10_pick 25 = .ok (.ireturn, 1) := by decide +kernel
theorem dX10_isMasked_0 : decode cX10_isMasked 0 = .ok (.iload_n 1, 1) := by decide +kernel
theorem dX10_isMasked_1 : decode cX10_isMasked 1 = .ok (.invokestatic 163, 3) := by decide +kernel
theorem dX10_isMasked_4 : decode cX10_isMasked 4 = .ok (.ifCond .ne 13, 3) := by decide +kernel
theorem dX10_isMasked_7 : decode cX10_isMasked 7 = .ok (.new 43, 3) := by decide +kernel
theorem dX10_isMasked_10 : decode cX10_isMasked 10 = .ok (.dup, 1) := by decide +kernel
theorem dX10_isMasked_11 : decode cX10_isMasked 11 = .ok (.ldc 166, 2) := by decide +kernel
theorem dX10_isMasked_13 : decode cX10_isMasked 13 = .ok (.invokespecial 47, 3) := by decide +kernel
theorem dX10_isMasked_16 : decode cX10_isMasked 16 = .ok (.athrow, 1) := by decide +kernel
theorem dX10_isMasked_17 : decode cX10_isMasked 17 = .ok (.aload_n 0, 1) := by decide +kernel
theorem dX10_isMasked_18 : decode cX10_isMasked 18 = .ok (.getfield 12, 3) := by decide +kernel
theorem dX10_isMasked_21 : decode cX10_isMasked 21 = .ok (.getfield 168, 3) := by decide +kernel
theorem dX10_isMasked_24 : decode cX10_isMasked 24 = .ok (.iload_n 1, 1) := by decide +kernel
theorem dX10_isMasked_25 : decode cX10_isMasked 25 = .ok (.invokevirtual 172, 3) := by decide +kernel
theorem dX10_isMasked_28 : decode cX10_isMasked 28 = .ok (.ireturn, 1) := by decide +kernel
theorem dX10_need_0 : decode cX10_need 0 = .ok (.iload_n 1, 1) := by decide +kernel
theorem dX10_need_1 : decode cX10_need 1 = .ok (.invokestatic 163, 3) := by decide +kernel
theorem dX10_need_4 : decode cX10_need 4 = .ok (.ifCond .ne 13, 3) := by decide +kernel
theorem dX10_need_7 : decode cX10_need 7 = .ok (.new 43, 3) := by decide +kernel
theorem dX10_need_10 : decode cX10_need 10 = .ok (.dup, 1) := by decide +kernel
theorem dX10_need_11 : decode cX10_need 11 = .ok (.ldc 166, 2) := by decide +kernel
theorem dX10_need_13 : decode cX10_need 13 = .ok (.invokespecial 47, 3) := by decide +kernel
theorem dX10_need_16 : decode cX10_need 16 = .ok (.athrow, 1) := by decide +kernel
theorem dX10_need_17 : decode cX10_need 17 = .ok (.aload_n 0, 1) := by decide +kernel
theorem dX10_need_18 : decode cX10_need 18 = .ok (.getfield 12, 3) := by decide +kernel
theorem dX10_need_21 : decode cX10_need 21 = .ok (.getfield 140, 3) := by decide +kernel
theorem dX10_need_24 : decode cX10_need 24 = .ok (.iload_n 1, 1) := by decide +kernel
theorem dX10_need_25 : decode cX10_need 25 = .ok (.invokevirtual 220, 3) := by decide +kernel
theorem dX10_need_28 : decode cX10_need 28 = .ok (.ireturn, 1) := by decide +kernel
theorem dX10_thing_0 : decode cX10_thing 0 = .ok (.aload_n 0, 1) := by decide +kernel
theorem dX10_thing_1 : decode cX10_thing 1 = .ok (.getfield 12, 3) := by decide +kernel
theorem dX10_thing_4 : decode cX10_thing 4 = .ok (.getfield 66, 3) := by decide +kernel
theorem dX10_thing_7 : decode cX10_thing 7 = .ok (.iload_n 1, 1) := by decide +kernel
