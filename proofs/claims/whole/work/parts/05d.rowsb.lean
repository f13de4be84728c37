theorem dX0_init_0 : decode cX0_init 0 = .ok (.aload_n 0, 1) := by decide +kernel
theorem dX0_init_1 : decode cX0_init 1 = .ok (.invokespecial 3, 3) := by decide +kernel
theorem dX0_init_4 : decode cX0_init 4 = .ok (.aload_n 0, 1) := by decide +kernel
theorem dX0_init_5 : decode cX0_init 5 = .ok (.bipush 9, 2) := by decide +kernel
theorem dX0_init_7 : decode cX0_init 7 = .ok (.anewarray 11, 3) := by decide +kernel
theorem dX0_init_10 : decode cX0_init 10 = .ok (.putfield 13, 3) := by decide +kernel
theorem dX0_init_13 : decode cX0_init 13 = .ok (.iconst 0, 1) := by decide +kernel
theorem dX0_init_14 : decode cX0_init 14 = .ok (.istore_n 2, 1) := by decide +kernel
theorem dX0_init_15 : decode cX0_init 15 = .ok (.iload_n 2, 1) := by decide +kernel
theorem dX0_init_16 : decode cX0_init 16 = .ok (.bipush 9, 2) := by decide +kernel
theorem dX0_init_18 : decode cX0_init 18 = .ok (.if_icmp .ge 23, 3) := by decide +kernel
theorem dX0_init_21 : decode cX0_init 21 = .ok (.aload_n 0, 1) := by decide +kernel
theorem dX0_init_22 : decode cX0_init 22 = .ok (.getfield 13, 3) := by decide +kernel
theorem dX0_init_25 : decode cX0_init 25 = .ok (.iload_n 2, 1) := by decide +kernel
theorem dX0_init_26 : decode cX0_init 26 = .ok (.new 11, 3) := by decide +kernel
theorem dX0_init_29 : decode cX0_init 29 = .ok (.dup, 1) := by decide +kernel
theorem dX0_init_30 : decode cX0_init 30 = .ok (.aload_n 1, 1) := by decide +kernel
theorem dX0_init_31 : decode cX0_init 31 = .ok (.invokespecial 17, 3) := by decide +kernel
theorem dX0_init_34 : decode cX0_init 34 = .ok (.aastore, 1) := by decide +kernel
theorem dX0_init_35 : decode cX0_init 35 = .ok (.iinc 2 1, 3) := by decide +kernel
theorem dX0_init_38 : decode cX0_init 38 = .ok (.goto (-23), 3) := by decide +kernel
theorem dX0_init_41 : decode cX0_init 41 = .ok (.return_, 1) := by decide +kernel
theorem dX0_write_0 : decode cX0_write 0 = .ok (.aload_n 0, 1) := by decide +kernel
theorem dX0_write_1 : decode cX0_write 1 = .ok (.invokevirtual 20, 3) := by decide +kernel
theorem dX0_write_4 : decode cX0_write 4 = .ok (.astore_n 2, 1) := by decide +kernel
theorem dX0_write_5 : decode cX0_write 5 = .ok (.aload_n 2, 1) := by decide +kernel
theorem dX0_write_6 : decode cX0_write 6 = .ok (.ifnull 8, 3) := by decide +kernel
theorem dX0_write_9 : decode cX0_write 9 = .ok (.aload_n 2, 1) := by decide +kernel
theorem dX0_write_10 : decode cX0_write 10 = .ok (.aload_n 1, 1) := by decide +kernel
theorem dX0_write_11 : decode cX0_write 11 = .ok (.invokevirtual 24, 3) := by decide +kernel
theorem dX0_write_14 : decode cX0_write 14 = .ok (.return_, 1) := by decide +kernel
theorem dX0_read_0 : decode cX0_read 0 = .ok (.aload_n 0, 1) := by decide +kernel
theorem dX0_read_1 : decode cX0_read 1 = .ok (.invokevirtual 20, 3) := by decide +kernel
theorem dX0_read_4 : decode cX0_read 4 = .ok (.astore_n 2, 1) := by decide +kernel
theorem dX0_read_5 : decode cX0_read 5 = .ok (.aload_n 2, 1) := by decide +kernel
theorem dX0_read_6 : decode cX0_read 6 = .ok (.ifnull 8, 3) := by decide +kernel
theorem dX0_read_9 : decode cX0_read 9 = .ok (.aload_n 1, 1) := by decide +kernel
theorem dX0_read_10 : decode cX0_read 10 = .ok (.aload_n 2, 1) := by decide +kernel
theorem dX0_read_11 : decode cX0_read 11 = .ok (.invokevirtual 24, 3) := by decide +kernel
theorem dX0_read_14 : decode cX0_read 14 = .ok (.return_, 1) := by decide +kernel
theorem dX0_freePlace_0 : decode cX0_freePlace 0 = .ok (.aload_n 0, 1) := by decide +kernel
theorem dX0_freePlace_1 : decode cX0_freePlace 1 = .ok (.getfield 28, 3) := by decide +kernel
theorem dX0_freePlace_4 : decode cX0_freePlace 4 = .ok (.ifCond .lt 24, 3) := by decide +kernel
theorem dX0_freePlace_7 : decode cX0_freePlace 7 = .ok (.aload_n 0, 1) := by decide +kernel
theorem dX0_freePlace_8 : decode cX0_freePlace 8 = .ok (.getfield 28, 3) := by decide +kernel
theorem dX0_freePlace_11 : decode cX0_freePlace 11 = .ok (.bipush 9, 2) := by decide +kernel
theorem dX0_freePlace_13 : decode cX0_freePlace 13 = .ok (.if_icmp .ge 15, 3) := by decide +kernel
theorem dX0_freePlace_16 : decode cX0_freePlace 16 = .ok (.aload_n 0, 1) := by decide +kernel
theorem dX0_freePlace_17 : decode cX0_freePlace 17 = .ok (.getfield 13, 3) := by decide +kernel
theorem dX0_freePlace_20 : decode cX0_freePlace 20 = .ok (.aload_n 0, 1) := by decide +kernel
theorem dX0_freePlace_21 : decode cX0_freePlace 21 = .ok (.getfield 28, 3) := by decide +kernel
theorem dX0_freePlace_24 : decode cX0_freePlace 24 = .ok (.aaload, 1) := by decide +kernel
theorem dX0_freePlace_25 : decode cX0_freePlace 25 = .ok (.goto 4, 3) := by decide +kernel
theorem dX0_freePlace_28 : decode cX0_freePlace 28 = .ok (.aconst_null, 1) := by decide +kernel
theorem dX0_freePlace_29 : decode cX0_freePlace 29 = .ok (.areturn, 1) := by decide +kernel
theorem dX0_push_0 : decode cX0_push 0 = .ok (.aload_n 0, 1) := by decide +kernel
theorem dX0_push_1 : decode cX0_push 1 = .ok (.aload_n 0, 1) := by decide +kernel
theorem dX0_push_2 : decode cX0_push 2 = .ok (.getfield 28, 3) := by decide +kernel
theorem dX0_push_5 : decode cX0_push 5 = .ok (.iconst 1, 1) := by decide +kernel
theorem dX0_push_6 : decode cX0_push 6 = .ok (.iadd, 1) := by decide +kernel
theorem dX0_push_7 : decode cX0_push 7 = .ok (.bipush 9, 2) := by decide +kernel
theorem dX0_push_9 : decode cX0_push 9 = .ok (.irem, 1) := by decide +kernel
theorem dX0_push_10 : decode cX0_push 10 = .ok (.putfield 28, 3) := by decide +kernel
theorem dX0_push_13 : decode cX0_push 13 = .ok (.aload_n 0, 1) := by decide +kernel
theorem dX0_push_14 : decode cX0_push 14 = .ok (.aload_n 0, 1) := by decide +kernel
theorem dX0_push_15 : decode cX0_push 15 = .ok (.getfield 32, 3) := by decide +kernel
theorem dX0_push_18 : decode cX0_push 18 = .ok (.iconst 1, 1) := by decide +kernel
theorem dX0_push_19 : decode cX0_push 19 = .ok (.iadd, 1) := by decide +kernel
theorem dX0_push_20 : decode cX0_push 20 = .ok (.bipush 8, 2) := by decide +kernel
theorem dX0_push_22 : decode cX0_push 22 = .ok (.invokestatic 35, 3) := by decide +kernel
theorem dX0_push_25 : decode cX0_push 25 = .ok (.putfield 32, 3) := by decide +kernel
theorem dX0_push_28 : decode cX0_push 28 = .ok (.return_, 1) := by decide +kernel
theorem dX0_pop_0 : decode cX0_pop 0 = .ok (.aload_n 0, 1) := by decide +kernel
theorem dX0_pop_1 : decode cX0_pop 1 = .ok (.aload_n 0, 1) := by decide +kernel
theorem dX0_pop_2 : decode cX0_pop 2 = .ok (.getfield 28, 3) := by decide +kernel
theorem dX0_pop_5 : decode cX0_pop 5 = .ok (.bipush 9, 2) := by decide +kernel
theorem dX0_pop_7 : decode cX0_pop 7 = .ok (.iadd, 1) := by decide +kernel
theorem dX0_pop_8 : decode cX0_pop 8 = .ok (.iconst 1, 1) := by decide +kernel
theorem dX0_pop_9 : decode cX0_pop 9 = .ok (.isub, 1) := by decide +kernel
theorem dX0_pop_10 : decode cX0_pop 10 = .ok (.bipush 9, 2) := by decide +kernel
theorem dX0_pop_12 : decode cX0_pop 12 = .ok (.irem, 1) := by decide +kernel
theorem dX0_pop_13 : decode cX0_pop 13 = .ok (.putfield 28, 3) := by decide +kernel
theorem dX0_pop_16 : decode cX0_pop 16 = .ok (.aload_n 0, 1) := by decide +kernel
theorem dX0_pop_17 : decode cX0_pop 17 = .ok (.dup, 1) := by decide +kernel
theorem dX0_pop_18 : decode cX0_pop 18 = .ok (.getfield 32, 3) := by decide +kernel
theorem dX0_pop_21 : decode cX0_pop 21 = .ok (.iconst 1, 1) := by decide +kernel
theorem dX0_pop_22 : decode cX0_pop 22 = .ok (.isub, 1) := by decide +kernel
theorem dX0_pop_23 : decode cX0_pop 23 = .ok (.putfield 32, 3) := by decide +kernel
theorem dX0_pop_26 : decode cX0_pop 26 = .ok (.return_, 1) := by decide +kernel
theorem dX3_init_0 : decode cX3_init 0 = .ok (.aload_n 0, 1) := by decide +kernel
theorem dX3_init_1 : decode cX3_init 1 = .ok (.invokespecial 3, 3) := by decide +kernel
theorem dX3_init_4 : decode cX3_init 4 = .ok (.aload_n 0, 1) := by decide +kernel
theorem dX3_init_5 : decode cX3_init 5 = .ok (.new 9, 3) := by decide +kernel
theorem dX3_init_8 : decode cX3_init 8 = .ok (.dup, 1) := by decide +kernel
theorem dX3_init_9 : decode cX3_init 9 = .ok (.invokespecial 11, 3) := by decide +kernel
theorem dX3_init_12 : decode cX3_init 12 = .ok (.putfield 12, 3) := by decide +kernel
theorem dX3_init_15 : decode cX3_init 15 = .ok (.aload_n 0, 1) := by decide +kernel
theorem dX3_init_16 : decode cX3_init 16 = .ok (.iconst 4, 1) := by decide +kernel
theorem dX3_init_17 : decode cX3_init 17 = .ok (.newarray .int, 2) := by decide +kernel
theorem dX3_init_19 : decode cX3_init 19 = .ok (.putfield 18, 3) := by decide +kernel
theorem dX3_init_22 : decode cX3_init 22 = .ok (.return_, 1) := by decide +kernel
theorem dX3_formOf_0 : decode cX3_formOf 0 = .ok (.iload_n 0, 1) := by decide +kernel
theorem dX3_formOf_1 : decode cX3_formOf 1 = .ok (.tableswitch 71 0 7 #[47, 50, 53, 56, 59, 62, 65, 68], 47) := by decide +kernel
theorem dX3_formOf_48 : decode cX3_formOf 48 = .ok (.ldc 22, 2) := by decide +kernel
theorem dX3_formOf_50 : decode cX3_formOf 50 = .ok (.areturn, 1) := by decide +kernel
theorem dX3_formOf_51 : decode cX3_formOf 51 = .ok (.ldc 24, 2) := by decide +kernel
theorem dX3_formOf_53 : decode cX3_formOf 53 = .ok (.areturn, 1) := by decide +kernel
theorem dX3_formOf_54 : decode cX3_formOf 54 = .ok (.ldc 26, 2) := by decide +kernel
theorem dX3_formOf_56 : decode cX3_formOf 56 = .ok (.areturn, 1) := by decide +kernel
theorem dX3_formOf_57 : decode cX3_formOf 57 = .ok (.ldc 28, 2) := by decide +kernel
theorem dX3_formOf_59 : decode cX3_formOf 59 = .ok (.areturn, 1) := by decide +kernel
theorem dX3_formOf_60 : decode cX3_formOf 60 = .ok (.ldc 30, 2) := by decide +kernel
theorem dX3_formOf_62 : decode cX3_formOf 62 = .ok (.areturn, 1) := by decide +kernel
theorem dX3_formOf_63 : decode cX3_formOf 63 = .ok (.ldc 32, 2) := by decide +kernel
theorem dX3_formOf_65 : decode cX3_formOf 65 = .ok (.areturn, 1) := by decide +kernel
theorem dX3_formOf_66 : decode cX3_formOf 66 = .ok (.ldc 34, 2) := by decide +kernel
theorem dX3_formOf_68 : decode cX3_formOf 68 = .ok (.areturn, 1) := by decide +kernel
theorem dX3_formOf_69 : decode cX3_formOf 69 = .ok (.ldc 36, 2) := by decide +kernel
theorem dX3_formOf_71 : decode cX3_formOf 71 = .ok (.areturn, 1) := by decide +kernel
theorem dX3_formOf_72 : decode cX3_formOf 72 = .ok (.ldc 38, 2) := by decide +kernel
theorem dX3_formOf_74 : decode cX3_formOf 74 = .ok (.areturn, 1) := by decide +kernel
theorem dX3_countCommands_0 : decode cX3_countCommands 0 = .ok (.aload_n 0, 1) := by decide +kernel
theorem dX3_countCommands_1 : decode cX3_countCommands 1 = .ok (.iconst 0, 1) := by decide +kernel
theorem dX3_countCommands_2 : decode cX3_countCommands 2 = .ok (.putfield 40, 3) := by decide +kernel
theorem dX3_countCommands_5 : decode cX3_countCommands 5 = .ok (.iconst 1, 1) := by decide +kernel
theorem dX3_countCommands_6 : decode cX3_countCommands 6 = .ok (.istore_n 1, 1) := by decide +kernel
theorem dX3_countCommands_7 : decode cX3_countCommands 7 = .ok (.iload_n 1, 1) := by decide +kernel
theorem dX3_countCommands_8 : decode cX3_countCommands 8 = .ok (.bipush 60, 2) := by decide +kernel
theorem dX3_countCommands_10 : decode cX3_countCommands 10 = .ok (.if_icmp .gt 59, 3) := by decide +kernel
theorem dX3_countCommands_13 : decode cX3_countCommands 13 = .ok (.aload_n 0, 1) := by decide +kernel
theorem dX3_countCommands_14 : decode cX3_countCommands 14 = .ok (.invokevirtual 44, 3) := by decide +kernel
theorem dX3_countCommands_17 : decode cX3_countCommands 17 = .ok (.ifCond .ne 5, 3) := by decide +kernel
theorem dX3_countCommands_20 : decode cX3_countCommands 20 = .ok (.iconst (-1), 1) := by decide +kernel
theorem dX3_countCommands_21 : decode cX3_countCommands 21 = .ok (.ireturn, 1) := by decide +kernel
theorem dX3_countCommands_22 : decode cX3_countCommands 22 = .ok (.aload_n 0, 1) := by decide +kernel
theorem dX3_countCommands_23 : decode cX3_countCommands 23 = .ok (.getfield 40, 3) := by decide +kernel
theorem dX3_countCommands_26 : decode cX3_countCommands 26 = .ok (.aload_n 0, 1) := by decide +kernel
theorem dX3_countCommands_27 : decode cX3_countCommands 27 = .ok (.getfield 12, 3) := by decide +kernel
theorem dX3_countCommands_30 : decode cX3_countCommands 30 = .ok (.invokevirtual 48, 3) := by decide +kernel
theorem dX3_countCommands_33 : decode cX3_countCommands 33 = .ok (.if_icmp .lt 5, 3) := by decide +kernel
theorem dX3_countCommands_36 : decode cX3_countCommands 36 = .ok (.iload_n 1, 1) := by decide +kernel
theorem dX3_countCommands_37 : decode cX3_countCommands 37 = .ok (.ireturn, 1) := by decide +kernel
theorem dX3_countCommands_38 : decode cX3_countCommands 38 = .ok (.aload_n 0, 1) := by decide +kernel
theorem dX3_countCommands_39 : decode cX3_countCommands 39 = .ok (.aload_n 0, 1) := by decide +kernel
theorem dX3_countCommands_40 : decode cX3_countCommands 40 = .ok (.getfield 40, 3) := by decide +kernel
theorem dX3_countCommands_43 : decode cX3_countCommands 43 = .ok (.invokevirtual 52, 3) := by decide +kernel
theorem dX3_countCommands_46 : decode cX3_countCommands 46 = .ok (.bipush 59, 2) := by decide +kernel
theorem dX3_countCommands_48 : decode cX3_countCommands 48 = .ok (.if_icmp .eq 5, 3) := by decide +kernel
theorem dX3_countCommands_51 : decode cX3_countCommands 51 = .ok (.iconst (-1), 1) := by decide +kernel
theorem dX3_countCommands_52 : decode cX3_countCommands 52 = .ok (.ireturn, 1) := by decide +kernel
theorem dX3_countCommands_53 : decode cX3_countCommands 53 = .ok (.aload_n 0, 1) := by decide +kernel
theorem dX3_countCommands_54 : decode cX3_countCommands 54 = .ok (.dup, 1) := by decide +kernel
theorem dX3_countCommands_55 : decode cX3_countCommands 55 = .ok (.getfield 40, 3) := by decide +kernel
theorem dX3_countCommands_58 : decode cX3_countCommands 58 = .ok (.iconst 1, 1) := by decide +kernel
theorem dX3_countCommands_59 : decode cX3_countCommands 59 = .ok (.iadd, 1) := by decide +kernel
theorem dX3_countCommands_60 : decode cX3_countCommands 60 = .ok (.putfield 40, 3) := by decide +kernel
theorem dX3_countCommands_63 : decode cX3_countCommands 63 = .ok (.iinc 1 1, 3) := by decide +kernel
theorem dX3_countCommands_66 : decode cX3_countCommands 66 = .ok (.goto (-59), 3) := by decide +kernel
theorem dX3_countCommands_69 : decode cX3_countCommands 69 = .ok (.iconst (-1), 1) := by decide +kernel
theorem dX3_countCommands_70 : decode cX3_countCommands 70 = .ok (.ireturn, 1) := by decide +kernel
theorem dX3_readNext_0 : decode cX3_readNext 0 = .ok (.aload_n 0, 1) := by decide +kernel
theorem dX3_readNext_1 : decode cX3_readNext 1 = .ok (.invokevirtual 44, 3) := by decide +kernel
theorem dX3_readNext_4 : decode cX3_readNext 4 = .ok (.pop, 1) := by decide +kernel
theorem dX3_readNext_5 : decode cX3_readNext 5 = .ok (.aload_n 0, 1) := by decide +kernel
theorem dX3_readNext_6 : decode cX3_readNext 6 = .ok (.dup, 1) := by decide +kernel
theorem dX3_readNext_7 : decode cX3_readNext 7 = .ok (.getfield 40, 3) := by decide +kernel
theorem dX3_readNext_10 : decode cX3_readNext 10 = .ok (.iconst 1, 1) := by decide +kernel
theorem dX3_readNext_11 : decode cX3_readNext 11 = .ok (.iadd, 1) := by decide +kernel
theorem dX3_readNext_12 : decode cX3_readNext 12 = .ok (.putfield 40, 3) := by decide +kernel
theorem dX3_readNext_15 : decode cX3_readNext 15 = .ok (.return_, 1) := by decide +kernel
theorem dX3_readCommand_0 : decode cX3_readCommand 0 = .ok (.iconst 0, 1) := by decide +kernel
theorem dX3_readCommand_1 : decode cX3_readCommand 1 = .ok (.istore_n 1, 1) := by decide +kernel
theorem dX3_readCommand_2 : decode cX3_readCommand 2 = .ok (.iconst 0, 1) := by decide +kernel
theorem dX3_readCommand_3 : decode cX3_readCommand 3 = .ok (.istore_n 2, 1) := by decide +kernel
theorem dX3_readCommand_4 : decode cX3_readCommand 4 = .ok (.iload_n 2, 1) := by decide +kernel
theorem dX3_readCommand_5 : decode cX3_readCommand 5 = .ok (.bipush 8, 2) := by decide +kernel
theorem dX3_readCommand_7 : decode cX3_readCommand 7 = .ok (.if_icmp .gt 49, 3) := by decide +kernel
theorem dX3_readCommand_10 : decode cX3_readCommand 10 = .ok (.iload_n 2, 1) := by decide +kernel
theorem dX3_readCommand_11 : decode cX3_readCommand 11 = .ok (.invokestatic 56, 3) := by decide +kernel
theorem dX3_readCommand_14 : decode cX3_readCommand 14 = .ok (.astore_n 3, 1) := by decide +kernel
theorem dX3_readCommand_15 : decode cX3_readCommand 15 = .ok (.aload_n 0, 1) := by decide +kernel
theorem dX3_readCommand_16 : decode cX3_readCommand 16 = .ok (.aload_n 3, 1) := by decide +kernel
theorem dX3_readCommand_17 : decode cX3_readCommand 17 = .ok (.invokevirtual 60, 3) := by decide +kernel
theorem dX3_readCommand_20 : decode cX3_readCommand 20 = .ok (.istore 4, 2) := by decide +kernel
theorem dX3_readCommand_22 : decode cX3_readCommand 22 = .ok (.iload 4, 2) := by decide +kernel
theorem dX3_readCommand_24 : decode cX3_readCommand 24 = .ok (.aload_n 3, 1) := by decide +kernel
theorem dX3_readCommand_25 : decode cX3_readCommand 25 = .ok (.invokevirtual 64, 3) := by decide +kernel
theorem dX3_readCommand_28 : decode cX3_readCommand 28 = .ok (.if_icmp .ne 15, 3) := by decide +kernel
theorem dX3_readCommand_31 : decode cX3_readCommand 31 = .ok (.aload_n 0, 1) := by decide +kernel
theorem dX3_readCommand_32 : decode cX3_readCommand 32 = .ok (.iload_n 2, 1) := by decide +kernel
theorem dX3_readCommand_33 : decode cX3_readCommand 33 = .ok (.putfield 67, 3) := by decide +kernel
theorem dX3_readCommand_36 : decode cX3_readCommand 36 = .ok (.aload_n 0, 1) := by decide +kernel
theorem dX3_readCommand_37 : decode cX3_readCommand 37 = .ok (.aload_n 3, 1) := by decide +kernel
theorem dX3_readCommand_38 : decode cX3_readCommand 38 = .ok (.invokevirtual 70, 3) := by decide +kernel
theorem dX3_readCommand_41 : decode cX3_readCommand 41 = .ok (.iconst 1, 1) := by decide +kernel
theorem dX3_readCommand_42 : decode cX3_readCommand 42 = .ok (.ireturn, 1) := by decide +kernel
theorem dX3_readCommand_43 : decode cX3_readCommand 43 = .ok (.iload_n 1, 1) := by decide +kernel
theorem dX3_readCommand_44 : decode cX3_readCommand 44 = .ok (.iload 4, 2) := by decide +kernel
theorem dX3_readCommand_46 : decode cX3_readCommand 46 = .ok (.invokestatic 74, 3) := by decide +kernel
theorem dX3_readCommand_49 : decode cX3_readCommand 49 = .ok (.istore_n 1, 1) := by decide +kernel
theorem dX3_readCommand_50 : decode cX3_readCommand 50 = .ok (.iinc 2 1, 3) := by decide +kernel
theorem dX3_readCommand_53 : decode cX3_readCommand 53 = .ok (.goto (-49), 3) := by decide +kernel
theorem dX3_readCommand_56 : decode cX3_readCommand 56 = .ok (.aload_n 0, 1) := by decide +kernel
theorem dX3_readCommand_57 : decode cX3_readCommand 57 = .ok (.dup, 1) := by decide +kernel
theorem dX3_readCommand_58 : decode cX3_readCommand 58 = .ok (.getfield 40, 3) := by decide +kernel
theorem dX3_readCommand_61 : decode cX3_readCommand 61 = .ok (.iload_n 1, 1) := by decide +kernel
theorem dX3_readCommand_62 : decode cX3_readCommand 62 = .ok (.iadd, 1) := by decide +kernel
theorem dX3_readCommand_63 : decode cX3_readCommand 63 = .ok (.putfield 40, 3) := by decide +kernel
theorem dX3_readCommand_66 : decode cX3_readCommand 66 = .ok (.iconst 0, 1) := by decide +kernel
theorem dX3_readCommand_67 : decode cX3_readCommand 67 = .ok (.ireturn, 1) := by decide +kernel
theorem dX3_fittingSigns_0 : decode cX3_fittingSigns 0 = .ok (.iconst 0, 1) := by decide +kernel
theorem dX3_fittingSigns_1 : decode cX3_fittingSigns 1 = .ok (.istore_n 2, 1) := by decide +kernel
theorem dX3_fittingSigns_2 : decode cX3_fittingSigns 2 = .ok (.iload_n 2, 1) := by decide +kernel
theorem dX3_fittingSigns_3 : decode cX3_fittingSigns 3 = .ok (.aload_n 1, 1) := by decide +kernel
theorem dX3_fittingSigns_4 : decode cX3_fittingSigns 4 = .ok (.invokevirtual 64, 3) := by decide +kernel
theorem dX3_fittingSigns_7 : decode cX3_fittingSigns 7 = .ok (.if_icmp .ge 32, 3) := by decide +kernel
theorem dX3_fittingSigns_10 : decode cX3_fittingSigns 10 = .ok (.aload_n 1, 1) := by decide +kernel
theorem dX3_fittingSigns_11 : decode cX3_fittingSigns 11 = .ok (.iload_n 2, 1) := by decide +kernel
theorem dX3_fittingSigns_12 : decode cX3_fittingSigns 12 = .ok (.invokevirtual 80, 3) := by decide +kernel
theorem dX3_fittingSigns_15 : decode cX3_fittingSigns 15 = .ok (.aload_n 0, 1) := by decide +kernel
theorem dX3_fittingSigns_16 : decode cX3_fittingSigns 16 = .ok (.aload_n 0, 1) := by decide +kernel
theorem dX3_fittingSigns_17 : decode cX3_fittingSigns 17 = .ok (.getfield 40, 3) := by decide +kernel
theorem dX3_fittingSigns_20 : decode cX3_fittingSigns 20 = .ok (.iload_n 2, 1) := by decide +kernel
theorem dX3_fittingSigns_21 : decode cX3_fittingSigns 21 = .ok (.iadd, 1) := by decide +kernel
theorem dX3_fittingSigns_22 : decode cX3_fittingSigns 22 = .ok (.invokevirtual 52, 3) := by decide +kernel
theorem dX3_fittingSigns_25 : decode cX3_fittingSigns 25 = .ok (.invokestatic 83, 3) := by decide +kernel
theorem dX3_fittingSigns_28 : decode cX3_fittingSigns 28 = .ok (.ifCond .ne 5, 3) := by decide +kernel
theorem dX3_fittingSigns_31 : decode cX3_fittingSigns 31 = .ok (.iload_n 2, 1) := by decide +kernel
theorem dX3_fittingSigns_32 : decode cX3_fittingSigns 32 = .ok (.ireturn, 1) := by decide +kernel
theorem dX3_fittingSigns_33 : decode cX3_fittingSigns 33 = .ok (.iinc 2 1, 3) := by decide +kernel
theorem dX3_fittingSigns_36 : decode cX3_fittingSigns 36 = .ok (.goto (-34), 3) := by decide +kernel
theorem dX3_fittingSigns_39 : decode cX3_fittingSigns 39 = .ok (.aload_n 1, 1) := by decide +kernel
theorem dX3_fittingSigns_40 : decode cX3_fittingSigns 40 = .ok (.invokevirtual 64, 3) := by decide +kernel
theorem dX3_fittingSigns_43 : decode cX3_fittingSigns 43 = .ok (.ireturn, 1) := by decide +kernel
theorem dX3_fits_0 : decode cX3_fits 0 = .ok (.iload_n 0, 1) := by decide +kernel
theorem dX3_fits_1 : decode cX3_fits 1 = .ok (.bipush 35, 2) := by decide +kernel
theorem dX3_fits_3 : decode cX3_fits 3 = .ok (.if_icmp .eq 9, 3) := by decide +kernel
theorem dX3_fits_6 : decode cX3_fits 6 = .ok (.iload_n 0, 1) := by decide +kernel
theorem dX3_fits_7 : decode cX3_fits 7 = .ok (.bipush 37, 2) := by decide +kernel
theorem dX3_fits_9 : decode cX3_fits 9 = .ok (.if_icmp .ne 8, 3) := by decide +kernel
theorem dX3_fits_12 : decode cX3_fits 12 = .ok (.iload_n 1, 1) := by decide +kernel
theorem dX3_fits_13 : decode cX3_fits 13 = .ok (.invokestatic 87, 3) := by decide +kernel
theorem dX3_fits_16 : decode cX3_fits 16 = .ok (.ireturn, 1) := by decide +kernel
theorem dX3_fits_17 : decode cX3_fits 17 = .ok (.iload_n 0, 1) := by decide +kernel
theorem dX3_fits_18 : decode cX3_fits 18 = .ok (.bipush 64, 2) := by decide +kernel
theorem dX3_fits_20 : decode cX3_fits 20 = .ok (.if_icmp .ne 21, 3) := by decide +kernel
theorem dX3_fits_23 : decode cX3_fits 23 = .ok (.iload_n 1, 1) := by decide +kernel
theorem dX3_fits_24 : decode cX3_fits 24 = .ok (.bipush 97, 2) := by decide +kernel
theorem dX3_fits_26 : decode cX3_fits 26 = .ok (.if_icmp .lt 13, 3) := by decide +kernel
theorem dX3_fits_29 : decode cX3_fits 29 = .ok (.iload_n 1, 1) := by decide +kernel
theorem dX3_fits_30 : decode cX3_fits 30 = .ok (.bipush 99, 2) := by decide +kernel
theorem dX3_fits_32 : decode cX3_fits 32 = .ok (.if_icmp .gt 7, 3) := by decide +kernel
theorem dX3_fits_35 : decode cX3_fits 35 = .ok (.iconst 1, 1) := by decide +kernel
theorem dX3_fits_36 : decode cX3_fits 36 = .ok (.goto 4, 3) := by decide +kernel
theorem dX3_fits_39 : decode cX3_fits 39 = .ok (.iconst 0, 1) := by decide +kernel
theorem dX3_fits_40 : decode cX3_fits 40 = .ok (.ireturn, 1) := by decide +kernel
theorem dX3_fits_41 : decode cX3_fits 41 = .ok (.iload_n 1, 1) := by decide +kernel
theorem dX3_fits_42 : decode cX3_fits 42 = .ok (.iload_n 0, 1) := by decide +kernel
theorem dX3_fits_43 : decode cX3_fits 43 = .ok (.if_icmp .ne 7, 3) := by decide +kernel
theorem dX3_fits_46 : decode cX3_fits 46 = .ok (.iconst 1, 1) := by decide +kernel
theorem dX3_fits_47 : decode cX3_fits 47 = .ok (.goto 4, 3) := by decide +kernel
theorem dX3_fits_50 : decode cX3_fits 50 = .ok (.iconst 0, 1) := by decide +kernel
theorem dX3_fits_51 : decode cX3_fits 51 = .ok (.ireturn, 1) := by decide +kernel
theorem dX3_isDigit_0 : decode cX3_isDigit 0 = .ok (.iload_n 0, 1) := by decide +kernel
theorem dX3_isDigit_1 : decode cX3_isDigit 1 = .ok (.bipush 48, 2) := by decide +kernel
theorem dX3_isDigit_3 : decode cX3_isDigit 3 = .ok (.if_icmp .lt 13, 3) := by decide +kernel
theorem dX3_isDigit_6 : decode cX3_isDigit 6 = .ok (.iload_n 0, 1) := by decide +kernel
theorem dX3_isDigit_7 : decode cX3_isDigit 7 = .ok (.bipush 57, 2) := by decide +kernel
theorem dX3_isDigit_9 : decode cX3_isDigit 9 = .ok (.if_icmp .gt 7, 3) := by decide +kernel
theorem dX3_isDigit_12 : decode cX3_isDigit 12 = .ok (.iconst 1, 1) := by decide +kernel
theorem dX3_isDigit_13 : decode cX3_isDigit 13 = .ok (.goto 4, 3) := by decide +kernel
theorem dX3_isDigit_16 : decode cX3_isDigit 16 = .ok (.iconst 0, 1) := by decide +kernel
theorem dX3_isDigit_17 : decode cX3_isDigit 17 = .ok (.ireturn, 1) := by decide +kernel
theorem dX3_signAt_0 : decode cX3_signAt 0 = .ok (.iload_n 1, 1) := by decide +kernel
theorem dX3_signAt_1 : decode cX3_signAt 1 = .ok (.ifCond .lt 25, 3) := by decide +kernel
theorem dX3_signAt_4 : decode cX3_signAt 4 = .ok (.iload_n 1, 1) := by decide +kernel
theorem dX3_signAt_5 : decode cX3_signAt 5 = .ok (.aload_n 0, 1) := by decide +kernel
theorem dX3_signAt_6 : decode cX3_signAt 6 = .ok (.getfield 12, 3) := by decide +kernel
theorem dX3_signAt_9 : decode cX3_signAt 9 = .ok (.invokevirtual 48, 3) := by decide +kernel
theorem dX3_signAt_12 : decode cX3_signAt 12 = .ok (.if_icmp .ge 14, 3) := by decide +kernel
theorem dX3_signAt_15 : decode cX3_signAt 15 = .ok (.aload_n 0, 1) := by decide +kernel
theorem dX3_signAt_16 : decode cX3_signAt 16 = .ok (.getfield 12, 3) := by decide +kernel
theorem dX3_signAt_19 : decode cX3_signAt 19 = .ok (.iload_n 1, 1) := by decide +kernel
theorem dX3_signAt_20 : decode cX3_signAt 20 = .ok (.invokevirtual 91, 3) := by decide +kernel
theorem dX3_signAt_23 : decode cX3_signAt 23 = .ok (.goto 4, 3) := by decide +kernel
theorem dX3_signAt_26 : decode cX3_signAt 26 = .ok (.iconst 0, 1) := by decide +kernel
theorem dX3_signAt_27 : decode cX3_signAt 27 = .ok (.ireturn, 1) := by decide +kernel
theorem dX3_readValues_0 : decode cX3_readValues 0 = .ok (.iconst 0, 1) := by decide +kernel
theorem dX3_readValues_1 : decode cX3_readValues 1 = .ok (.istore_n 2, 1) := by decide +kernel
theorem dX3_readValues_2 : decode cX3_readValues 2 = .ok (.iconst 0, 1) := by decide +kernel
theorem dX3_readValues_3 : decode cX3_readValues 3 = .ok (.istore_n 3, 1) := by decide +kernel
theorem dX3_readValues_4 : decode cX3_readValues 4 = .ok (.iload_n 3, 1) := by decide +kernel
theorem dX3_readValues_5 : decode cX3_readValues 5 = .ok (.aload_n 1, 1) := by decide +kernel
theorem dX3_readValues_6 : decode cX3_readValues 6 = .ok (.invokevirtual 64, 3) := by decide +kernel
theorem dX3_readValues_9 : decode cX3_readValues 9 = .ok (.if_icmp .ge 106, 3) := by decide +kernel
theorem dX3_readValues_12 : decode cX3_readValues 12 = .ok (.iload_n 2, 1) := by decide +kernel
theorem dX3_readValues_13 : decode cX3_readValues 13 = .ok (.iconst 4, 1) := by decide +kernel
theorem dX3_readValues_14 : decode cX3_readValues 14 = .ok (.if_icmp .ge 101, 3) := by decide +kernel
theorem dX3_readValues_17 : decode cX3_readValues 17 = .ok (.aload_n 1, 1) := by decide +kernel
theorem dX3_readValues_18 : decode cX3_readValues 18 = .ok (.iload_n 3, 1) := by decide +kernel
theorem dX3_readValues_19 : decode cX3_readValues 19 = .ok (.invokevirtual 80, 3) := by decide +kernel
theorem dX3_readValues_22 : decode cX3_readValues 22 = .ok (.istore 4, 2) := by decide +kernel
theorem dX3_readValues_24 : decode cX3_readValues 24 = .ok (.iload 4, 2) := by decide +kernel
theorem dX3_readValues_26 : decode cX3_readValues 26 = .ok (.bipush 64, 2) := by decide +kernel
theorem dX3_readValues_28 : decode cX3_readValues 28 = .ok (.if_icmp .ne 23, 3) := by decide +kernel
theorem dX3_readValues_31 : decode cX3_readValues 31 = .ok (.aload_n 0, 1) := by decide +kernel
theorem dX3_readValues_32 : decode cX3_readValues 32 = .ok (.getfield 18, 3) := by decide +kernel
theorem dX3_readValues_35 : decode cX3_readValues 35 = .ok (.iload_n 2, 1) := by decide +kernel
theorem dX3_readValues_36 : decode cX3_readValues 36 = .ok (.aload_n 0, 1) := by decide +kernel
theorem dX3_readValues_37 : decode cX3_readValues 37 = .ok (.aload_n 0, 1) := by decide +kernel
theorem dX3_readValues_38 : decode cX3_readValues 38 = .ok (.getfield 40, 3) := by decide +kernel
theorem dX3_readValues_41 : decode cX3_readValues 41 = .ok (.invokevirtual 52, 3) := by decide +kernel
theorem dX3_readValues_44 : decode cX3_readValues 44 = .ok (.iastore, 1) := by decide +kernel
theorem dX3_readValues_45 : decode cX3_readValues 45 = .ok (.iinc 2 1, 3) := by decide +kernel
theorem dX3_readValues_48 : decode cX3_readValues 48 = .ok (.goto 51, 3) := by decide +kernel
theorem dX3_readValues_51 : decode cX3_readValues 51 = .ok (.iload 4, 2) := by decide +kernel
theorem dX3_readValues_53 : decode cX3_readValues 53 = .ok (.bipush 35, 2) := by decide +kernel
theorem dX3_readValues_55 : decode cX3_readValues 55 = .ok (.if_icmp .ne 26, 3) := by decide +kernel
theorem dX3_readValues_58 : decode cX3_readValues 58 = .ok (.aload_n 0, 1) := by decide +kernel
theorem dX3_readValues_59 : decode cX3_readValues 59 = .ok (.getfield 18, 3) := by decide +kernel
theorem dX3_readValues_62 : decode cX3_readValues 62 = .ok (.iload_n 2, 1) := by decide +kernel
theorem dX3_readValues_63 : decode cX3_readValues 63 = .ok (.aload_n 0, 1) := by decide +kernel
theorem dX3_readValues_64 : decode cX3_readValues 64 = .ok (.aload_n 0, 1) := by decide +kernel
theorem dX3_readValues_65 : decode cX3_readValues 65 = .ok (.getfield 40, 3) := by decide +kernel
theorem dX3_readValues_68 : decode cX3_readValues 68 = .ok (.invokevirtual 52, 3) := by decide +kernel
theorem dX3_readValues_71 : decode cX3_readValues 71 = .ok (.bipush 48, 2) := by decide +kernel
theorem dX3_readValues_73 : decode cX3_readValues 73 = .ok (.isub, 1) := by decide +kernel
theorem dX3_readValues_74 : decode cX3_readValues 74 = .ok (.iastore, 1) := by decide +kernel
theorem dX3_readValues_75 : decode cX3_readValues 75 = .ok (.iinc 2 1, 3) := by decide +kernel
theorem dX3_readValues_78 : decode cX3_readValues 78 = .ok (.goto 21, 3) := by decide +kernel
theorem dX3_readValues_81 : decode cX3_readValues 81 = .ok (.iload 4, 2) := by decide +kernel
theorem dX3_readValues_83 : decode cX3_readValues 83 = .ok (.bipush 37, 2) := by decide +kernel
theorem dX3_readValues_85 : decode cX3_readValues 85 = .ok (.if_icmp .ne 14, 3) := by decide +kernel
theorem dX3_readValues_88 : decode cX3_readValues 88 = .ok (.aload_n 0, 1) := by decide +kernel
theorem dX3_readValues_89 : decode cX3_readValues 89 = .ok (.getfield 18, 3) := by decide +kernel
theorem dX3_readValues_92 : decode cX3_readValues 92 = .ok (.iload_n 2, 1) := by decide +kernel
theorem dX3_readValues_93 : decode cX3_readValues 93 = .ok (.aload_n 0, 1) := by decide +kernel
theorem dX3_readValues_94 : decode cX3_readValues 94 = .ok (.invokevirtual 92, 3) := by decide +kernel
theorem dX3_readValues_97 : decode cX3_readValues 97 = .ok (.iastore, 1) := by decide +kernel
theorem dX3_readValues_98 : decode cX3_readValues 98 = .ok (.return_, 1) := by decide +kernel
theorem dX3_readValues_99 : decode cX3_readValues 99 = .ok (.aload_n 0, 1) := by decide +kernel
theorem dX3_readValues_100 : decode cX3_readValues 100 = .ok (.dup, 1) := by decide +kernel
theorem dX3_readValues_101 : decode cX3_readValues 101 = .ok (.getfield 40, 3) := by decide +kernel
theorem dX3_readValues_104 : decode cX3_readValues 104 = .ok (.iconst 1, 1) := by decide +kernel
theorem dX3_readValues_105 : decode cX3_readValues 105 = .ok (.iadd, 1) := by decide +kernel
theorem dX3_readValues_106 : decode cX3_readValues 106 = .ok (.putfield 40, 3) := by decide +kernel
theorem dX3_readValues_109 : decode cX3_readValues 109 = .ok (.iinc 3 1, 3) := by decide +kernel
theorem dX3_readValues_112 : decode cX3_readValues 112 = .ok (.goto (-108), 3) := by decide +kernel
theorem dX3_readValues_115 : decode cX3_readValues 115 = .ok (.return_, 1) := by decide +kernel
theorem dX3_readNumber_0 : decode cX3_readNumber 0 = .ok (.iconst 0, 1) := by decide +kernel
theorem dX3_readNumber_1 : decode cX3_readNumber 1 = .ok (.istore_n 1, 1) := by decide +kernel
theorem dX3_readNumber_2 : decode cX3_readNumber 2 = .ok (.iconst 0, 1) := by decide +kernel
theorem dX3_readNumber_3 : decode cX3_readNumber 3 = .ok (.istore_n 2, 1) := by decide +kernel
theorem dX3_readNumber_4 : decode cX3_readNumber 4 = .ok (.iload_n 2, 1) := by decide +kernel
theorem dX3_readNumber_5 : decode cX3_readNumber 5 = .ok (.iconst 3, 1) := by decide +kernel
theorem dX3_readNumber_6 : decode cX3_readNumber 6 = .ok (.if_icmp .ge 50, 3) := by decide +kernel
theorem dX3_readNumber_9 : decode cX3_readNumber 9 = .ok (.aload_n 0, 1) := by decide +kernel
theorem dX3_readNumber_10 : decode cX3_readNumber 10 = .ok (.aload_n 0, 1) := by decide +kernel
theorem dX3_readNumber_11 : decode cX3_readNumber 11 = .ok (.getfield 40, 3) := by decide +kernel
theorem dX3_readNumber_14 : decode cX3_readNumber 14 = .ok (.invokevirtual 52, 3) := by decide +kernel
theorem dX3_readNumber_17 : decode cX3_readNumber 17 = .ok (.invokestatic 87, 3) := by decide +kernel
theorem dX3_readNumber_20 : decode cX3_readNumber 20 = .ok (.ifCond .eq 36, 3) := by decide +kernel
theorem dX3_readNumber_23 : decode cX3_readNumber 23 = .ok (.iload_n 1, 1) := by decide +kernel
theorem dX3_readNumber_24 : decode cX3_readNumber 24 = .ok (.bipush 10, 2) := by decide +kernel
theorem dX3_readNumber_26 : decode cX3_readNumber 26 = .ok (.imul, 1) := by decide +kernel
theorem dX3_readNumber_27 : decode cX3_readNumber 27 = .ok (.aload_n 0, 1) := by decide +kernel
theorem dX3_readNumber_28 : decode cX3_readNumber 28 = .ok (.aload_n 0, 1) := by decide +kernel
theorem dX3_readNumber_29 : decode cX3_readNumber 29 = .ok (.getfield 40, 3) := by decide +kernel
theorem dX3_readNumber_32 : decode cX3_readNumber 32 = .ok (.invokevirtual 52, 3) := by decide +kernel
theorem dX3_readNumber_35 : decode cX3_readNumber 35 = .ok (.iadd, 1) := by decide +kernel
theorem dX3_readNumber_36 : decode cX3_readNumber 36 = .ok (.bipush 48, 2) := by decide +kernel
theorem dX3_readNumber_38 : decode cX3_readNumber 38 = .ok (.isub, 1) := by decide +kernel
theorem dX3_readNumber_39 : decode cX3_readNumber 39 = .ok (.istore_n 1, 1) := by decide +kernel
theorem dX3_readNumber_40 : decode cX3_readNumber 40 = .ok (.aload_n 0, 1) := by decide +kernel
theorem dX3_readNumber_41 : decode cX3_readNumber 41 = .ok (.dup, 1) := by decide +kernel
theorem dX3_readNumber_42 : decode cX3_readNumber 42 = .ok (.getfield 40, 3) := by decide +kernel
theorem dX3_readNumber_45 : decode cX3_readNumber 45 = .ok (.iconst 1, 1) := by decide +kernel
theorem dX3_readNumber_46 : decode cX3_readNumber 46 = .ok (.iadd, 1) := by decide +kernel
theorem dX3_readNumber_47 : decode cX3_readNumber 47 = .ok (.putfield 40, 3) := by decide +kernel
theorem dX3_readNumber_50 : decode cX3_readNumber 50 = .ok (.iinc 2 1, 3) := by decide +kernel
theorem dX3_readNumber_53 : decode cX3_readNumber 53 = .ok (.goto (-49), 3) := by decide +kernel
theorem dX3_readNumber_56 : decode cX3_readNumber 56 = .ok (.iload_n 1, 1) := by decide +kernel
theorem dX3_readNumber_57 : decode cX3_readNumber 57 = .ok (.ireturn, 1) := by decide +kernel
theorem dX3_value_0 : decode cX3_value 0 = .ok (.iload_n 1, 1) := by decide +kernel
theorem dX3_value_1 : decode cX3_value 1 = .ok (.ifCond .lt 17, 3) := by decide +kernel
theorem dX3_value_4 : decode cX3_value 4 = .ok (.iload_n 1, 1) := by decide +kernel
theorem dX3_value_5 : decode cX3_value 5 = .ok (.iconst 4, 1) := by decide +kernel
theorem dX3_value_6 : decode cX3_value 6 = .ok (.if_icmp .ge 12, 3) := by decide +kernel
theorem dX3_value_9 : decode cX3_value 9 = .ok (.aload_n 0, 1) := by decide +kernel
theorem dX3_value_10 : decode cX3_value 10 = .ok (.getfield 18, 3) := by decide +kernel
theorem dX3_value_13 : decode cX3_value 13 = .ok (.iload_n 1, 1) := by decide +kernel
theorem dX3_value_14 : decode cX3_value 14 = .ok (.iaload, 1) := by decide +kernel
theorem dX3_value_15 : decode cX3_value 15 = .ok (.goto 4, 3) := by decide +kernel
theorem dX3_value_18 : decode cX3_value 18 = .ok (.iconst 0, 1) := by decide +kernel
theorem dX3_value_19 : decode cX3_value 19 = .ok (.ireturn, 1) := by decide +kernel
theorem dX6_init_0 : decode cX6_init 0 = .ok (.aload_n 0, 1) := by decide +kernel
theorem dX6_init_1 : decode cX6_init 1 = .ok (.invokespecial 1, 3) := by decide +kernel
theorem dX6_init_4 : decode cX6_init 4 = .ok (.aload_n 0, 1) := by decide +kernel
theorem dX6_init_5 : decode cX6_init 5 = .ok (.new 7, 3) := by decide +kernel
theorem dX6_init_8 : decode cX6_init 8 = .ok (.dup, 1) := by decide +kernel
theorem dX6_init_9 : decode cX6_init 9 = .ok (.invokespecial 9, 3) := by decide +kernel
theorem dX6_init_12 : decode cX6_init 12 = .ok (.putfield 10, 3) := by decide +kernel
theorem dX6_init_15 : decode cX6_init 15 = .ok (.aload_n 0, 1) := by decide +kernel
theorem dX6_init_16 : decode cX6_init 16 = .ok (.new 16, 3) := by decide +kernel
theorem dX6_init_19 : decode cX6_init 19 = .ok (.dup, 1) := by decide +kernel
theorem dX6_init_20 : decode cX6_init 20 = .ok (.aload_n 0, 1) := by decide +kernel
theorem dX6_init_21 : decode cX6_init 21 = .ok (.getfield 10, 3) := by decide +kernel
theorem dX6_init_24 : decode cX6_init 24 = .ok (.invokespecial 18, 3) := by decide +kernel
theorem dX6_init_27 : decode cX6_init 27 = .ok (.putfield 21, 3) := by decide +kernel
theorem dX6_init_30 : decode cX6_init 30 = .ok (.aload_n 0, 1) := by decide +kernel
theorem dX6_init_31 : decode cX6_init 31 = .ok (.new 16, 3) := by decide +kernel
theorem dX6_init_34 : decode cX6_init 34 = .ok (.dup, 1) := by decide +kernel
theorem dX6_init_35 : decode cX6_init 35 = .ok (.aload_n 0, 1) := by decide +kernel
theorem dX6_init_36 : decode cX6_init 36 = .ok (.getfield 10, 3) := by decide +kernel
theorem dX6_init_39 : decode cX6_init 39 = .ok (.invokespecial 18, 3) := by decide +kernel
theorem dX6_init_42 : decode cX6_init 42 = .ok (.putfield 25, 3) := by decide +kernel
theorem dX6_init_45 : decode cX6_init 45 = .ok (.aload_n 0, 1) := by decide +kernel
theorem dX6_init_46 : decode cX6_init 46 = .ok (.new 16, 3) := by decide +kernel
theorem dX6_init_49 : decode cX6_init 49 = .ok (.dup, 1) := by decide +kernel
theorem dX6_init_50 : decode cX6_init 50 = .ok (.aload_n 0, 1) := by decide +kernel
theorem dX6_init_51 : decode cX6_init 51 = .ok (.getfield 10, 3) := by decide +kernel
theorem dX6_init_54 : decode cX6_init 54 = .ok (.invokespecial 18, 3) := by decide +kernel
theorem dX6_init_57 : decode cX6_init 57 = .ok (.putfield 28, 3) := by decide +kernel
theorem dX6_init_60 : decode cX6_init 60 = .ok (.aload_n 0, 1) := by decide +kernel
theorem dX6_init_61 : decode cX6_init 61 = .ok (.new 31, 3) := by decide +kernel
theorem dX6_init_64 : decode cX6_init 64 = .ok (.dup, 1) := by decide +kernel
theorem dX6_init_65 : decode cX6_init 65 = .ok (.aload_n 0, 1) := by decide +kernel
theorem dX6_init_66 : decode cX6_init 66 = .ok (.getfield 10, 3) := by decide +kernel
theorem dX6_init_69 : decode cX6_init 69 = .ok (.invokespecial 33, 3) := by decide +kernel
theorem dX6_init_72 : decode cX6_init 72 = .ok (.putfield 34, 3) := by decide +kernel
theorem dX6_init_75 : decode cX6_init 75 = .ok (.aload_n 0, 1) := by decide +kernel
theorem dX6_init_76 : decode cX6_init 76 = .ok (.new 38, 3) := by decide +kernel
theorem dX6_init_79 : decode cX6_init 79 = .ok (.dup, 1) := by decide +kernel
theorem dX6_init_80 : decode cX6_init 80 = .ok (.invokespecial 40, 3) := by decide +kernel
theorem dX6_init_83 : decode cX6_init 83 = .ok (.putfield 41, 3) := by decide +kernel
theorem dX6_init_86 : decode cX6_init 86 = .ok (.aload_n 0, 1) := by decide +kernel
theorem dX6_init_87 : decode cX6_init 87 = .ok (.new 45, 3) := by decide +kernel
theorem dX6_init_90 : decode cX6_init 90 = .ok (.dup, 1) := by decide +kernel
theorem dX6_init_91 : decode cX6_init 91 = .ok (.invokespecial 47, 3) := by decide +kernel
theorem dX6_init_94 : decode cX6_init 94 = .ok (.putfield 48, 3) := by decide +kernel
theorem dX6_init_97 : decode cX6_init 97 = .ok (.aload_n 0, 1) := by decide +kernel
theorem dX6_init_98 : decode cX6_init 98 = .ok (.iconst 0, 1) := by decide +kernel
theorem dX6_init_99 : decode cX6_init 99 = .ok (.putfield 52, 3) := by decide +kernel
theorem dX6_init_102 : decode cX6_init 102 = .ok (.aload_n 0, 1) := by decide +kernel
theorem dX6_init_103 : decode cX6_init 103 = .ok (.iconst (-1), 1) := by decide +kernel
theorem dX6_init_104 : decode cX6_init 104 = .ok (.putfield 56, 3) := by decide +kernel
theorem dX6_init_107 : decode cX6_init 107 = .ok (.aload_n 0, 1) := by decide +kernel
theorem dX6_init_108 : decode cX6_init 108 = .ok (.iconst (-1), 1) := by decide +kernel
theorem dX6_init_109 : decode cX6_init 109 = .ok (.putfield 60, 3) := by decide +kernel
theorem dX6_init_112 : decode cX6_init 112 = .ok (.return_, 1) := by decide +kernel
theorem dX6_addStreet_0 : decode cX6_addStreet 0 = .ok (.aload_n 0, 1) := by decide +kernel
theorem dX6_addStreet_1 : decode cX6_addStreet 1 = .ok (.getfield 34, 3) := by decide +kernel
theorem dX6_addStreet_4 : decode cX6_addStreet 4 = .ok (.aload_n 0, 1) := by decide +kernel
theorem dX6_addStreet_5 : decode cX6_addStreet 5 = .ok (.getfield 21, 3) := by decide +kernel
theorem dX6_addStreet_8 : decode cX6_addStreet 8 = .ok (.invokevirtual 63, 3) := by decide +kernel
theorem dX6_addStreet_11 : decode cX6_addStreet 11 = .ok (.aload_n 0, 1) := by decide +kernel
theorem dX6_addStreet_12 : decode cX6_addStreet 12 = .ok (.getfield 21, 3) := by decide +kernel
theorem dX6_addStreet_15 : decode cX6_addStreet 15 = .ok (.iload_n 1, 1) := by decide +kernel
theorem dX6_addStreet_16 : decode cX6_addStreet 16 = .ok (.iload_n 2, 1) := by decide +kernel
theorem dX6_addStreet_17 : decode cX6_addStreet 17 = .ok (.iload_n 3, 1) := by decide +kernel
theorem dX6_addStreet_18 : decode cX6_addStreet 18 = .ok (.iload 4, 2) := by decide +kernel
theorem dX6_addStreet_20 : decode cX6_addStreet 20 = .ok (.invokevirtual 67, 3) := by decide +kernel
theorem dX6_addStreet_23 : decode cX6_addStreet 23 = .ok (.istore 5, 2) := by decide +kernel
theorem dX6_addStreet_25 : decode cX6_addStreet 25 = .ok (.iload 5, 2) := by decide +kernel
theorem dX6_addStreet_27 : decode cX6_addStreet 27 = .ok (.iconst (-1), 1) := by decide +kernel
theorem dX6_addStreet_28 : decode cX6_addStreet 28 = .ok (.if_icmp .ne 13, 3) := by decide +kernel
theorem dX6_addStreet_31 : decode cX6_addStreet 31 = .ok (.new 71, 3) := by decide +kernel
theorem dX6_addStreet_34 : decode cX6_addStreet 34 = .ok (.dup, 1) := by decide +kernel
theorem dX6_addStreet_35 : decode cX6_addStreet 35 = .ok (.ldc 73, 2) := by decide +kernel
theorem dX6_addStreet_37 : decode cX6_addStreet 37 = .ok (.invokespecial 75, 3) := by decide +kernel
theorem dX6_addStreet_40 : decode cX6_addStreet 40 = .ok (.athrow, 1) := by decide +kernel
theorem dX6_addStreet_41 : decode cX6_addStreet 41 = .ok (.iload 5, 2) := by decide +kernel
theorem dX6_addStreet_43 : decode cX6_addStreet 43 = .ok (.bipush (-2), 2) := by decide +kernel
theorem dX6_addStreet_45 : decode cX6_addStreet 45 = .ok (.if_icmp .ne 13, 3) := by decide +kernel
theorem dX6_addStreet_48 : decode cX6_addStreet 48 = .ok (.new 78, 3) := by decide +kernel
theorem dX6_addStreet_51 : decode cX6_addStreet 51 = .ok (.dup, 1) := by decide +kernel
theorem dX6_addStreet_52 : decode cX6_addStreet 52 = .ok (.ldc 80, 2) := by decide +kernel
theorem dX6_addStreet_54 : decode cX6_addStreet 54 = .ok (.invokespecial 82, 3) := by decide +kernel
theorem dX6_addStreet_57 : decode cX6_addStreet 57 = .ok (.athrow, 1) := by decide +kernel
theorem dX6_addStreet_58 : decode cX6_addStreet 58 = .ok (.iload 5, 2) := by decide +kernel
theorem dX6_addStreet_60 : decode cX6_addStreet 60 = .ok (.bipush (-4), 2) := by decide +kernel
theorem dX6_addStreet_62 : decode cX6_addStreet 62 = .ok (.if_icmp .ne 13, 3) := by decide +kernel
theorem dX6_addStreet_65 : decode cX6_addStreet 65 = .ok (.new 83, 3) := by decide +kernel
theorem dX6_addStreet_68 : decode cX6_addStreet 68 = .ok (.dup, 1) := by decide +kernel
theorem dX6_addStreet_69 : decode cX6_addStreet 69 = .ok (.ldc 85, 2) := by decide +kernel
theorem dX6_addStreet_71 : decode cX6_addStreet 71 = .ok (.invokespecial 87, 3) := by decide +kernel
theorem dX6_addStreet_74 : decode cX6_addStreet 74 = .ok (.athrow, 1) := by decide +kernel
theorem dX6_addStreet_75 : decode cX6_addStreet 75 = .ok (.aload_n 0, 1) := by decide +kernel
theorem dX6_addStreet_76 : decode cX6_addStreet 76 = .ok (.getfield 34, 3) := by decide +kernel
theorem dX6_addStreet_79 : decode cX6_addStreet 79 = .ok (.invokevirtual 88, 3) := by decide +kernel
theorem dX6_addStreet_82 : decode cX6_addStreet 82 = .ok (.iload 5, 2) := by decide +kernel
theorem dX6_addStreet_84 : decode cX6_addStreet 84 = .ok (.ireturn, 1) := by decide +kernel
theorem dX6_addPlough_0 : decode cX6_addPlough 0 = .ok (.aload_n 0, 1) := by decide +kernel
theorem dX6_addPlough_1 : decode cX6_addPlough 1 = .ok (.getfield 34, 3) := by decide +kernel
theorem dX6_addPlough_4 : decode cX6_addPlough 4 = .ok (.aload_n 0, 1) := by decide +kernel
theorem dX6_addPlough_5 : decode cX6_addPlough 5 = .ok (.getfield 21, 3) := by decide +kernel
theorem dX6_addPlough_8 : decode cX6_addPlough 8 = .ok (.invokevirtual 63, 3) := by decide +kernel
theorem dX6_addPlough_11 : decode cX6_addPlough 11 = .ok (.aload_n 0, 1) := by decide +kernel
theorem dX6_addPlough_12 : decode cX6_addPlough 12 = .ok (.getfield 21, 3) := by decide +kernel
theorem dX6_addPlough_15 : decode cX6_addPlough 15 = .ok (.iload_n 1, 1) := by decide +kernel
theorem dX6_addPlough_16 : decode cX6_addPlough 16 = .ok (.invokevirtual 91, 3) := by decide +kernel
theorem dX6_addPlough_19 : decode cX6_addPlough 19 = .ok (.istore_n 2, 1) := by decide +kernel
theorem dX6_addPlough_20 : decode cX6_addPlough 20 = .ok (.iload_n 2, 1) := by decide +kernel
theorem dX6_addPlough_21 : decode cX6_addPlough 21 = .ok (.iconst (-1), 1) := by decide +kernel
theorem dX6_addPlough_22 : decode cX6_addPlough 22 = .ok (.if_icmp .ne 13, 3) := by decide +kernel
theorem dX6_addPlough_25 : decode cX6_addPlough 25 = .ok (.new 71, 3) := by decide +kernel
theorem dX6_addPlough_28 : decode cX6_addPlough 28 = .ok (.dup, 1) := by decide +kernel
theorem dX6_addPlough_29 : decode cX6_addPlough 29 = .ok (.ldc 73, 2) := by decide +kernel
theorem dX6_addPlough_31 : decode cX6_addPlough 31 = .ok (.invokespecial 75, 3) := by decide +kernel
theorem dX6_addPlough_34 : decode cX6_addPlough 34 = .ok (.athrow, 1) := by decide +kernel
theorem dX6_addPlough_35 : decode cX6_addPlough 35 = .ok (.iload_n 2, 1) := by decide +kernel
theorem dX6_addPlough_36 : decode cX6_addPlough 36 = .ok (.bipush (-4), 2) := by decide +kernel
theorem dX6_addPlough_38 : decode cX6_addPlough 38 = .ok (.if_icmp .ne 13, 3) := by decide +kernel
theorem dX6_addPlough_41 : decode cX6_addPlough 41 = .ok (.new 83, 3) := by decide +kernel
theorem dX6_addPlough_44 : decode cX6_addPlough 44 = .ok (.dup, 1) := by decide +kernel
theorem dX6_addPlough_45 : decode cX6_addPlough 45 = .ok (.ldc 95, 2) := by decide +kernel
theorem dX6_addPlough_47 : decode cX6_addPlough 47 = .ok (.invokespecial 87, 3) := by decide +kernel
theorem dX6_addPlough_50 : decode cX6_addPlough 50 = .ok (.athrow, 1) := by decide +kernel
theorem dX6_addPlough_51 : decode cX6_addPlough 51 = .ok (.aload_n 0, 1) := by decide +kernel
theorem dX6_addPlough_52 : decode cX6_addPlough 52 = .ok (.getfield 34, 3) := by decide +kernel
theorem dX6_addPlough_55 : decode cX6_addPlough 55 = .ok (.invokevirtual 88, 3) := by decide +kernel
theorem dX6_addPlough_58 : decode cX6_addPlough 58 = .ok (.iload_n 2, 1) := by decide +kernel
theorem dX6_addPlough_59 : decode cX6_addPlough 59 = .ok (.ireturn, 1) := by decide +kernel
theorem dX6_order_0 : decode cX6_order 0 = .ok (.aload_n 0, 1) := by decide +kernel
theorem dX6_order_1 : decode cX6_order 1 = .ok (.getfield 34, 3) := by decide +kernel
theorem dX6_order_4 : decode cX6_order 4 = .ok (.aload_n 0, 1) := by decide +kernel
theorem dX6_order_5 : decode cX6_order 5 = .ok (.getfield 21, 3) := by decide +kernel
theorem dX6_order_8 : decode cX6_order 8 = .ok (.invokevirtual 63, 3) := by decide +kernel
theorem dX6_order_11 : decode cX6_order 11 = .ok (.aload_n 0, 1) := by decide +kernel
theorem dX6_order_12 : decode cX6_order 12 = .ok (.getfield 21, 3) := by decide +kernel
theorem dX6_order_15 : decode cX6_order 15 = .ok (.iload_n 1, 1) := by decide +kernel
theorem dX6_order_16 : decode cX6_order 16 = .ok (.iload_n 2, 1) := by decide +kernel
theorem dX6_order_17 : decode cX6_order 17 = .ok (.invokevirtual 97, 3) := by decide +kernel
theorem dX6_order_20 : decode cX6_order 20 = .ok (.istore_n 3, 1) := by decide +kernel
theorem dX6_order_21 : decode cX6_order 21 = .ok (.iload_n 3, 1) := by decide +kernel
theorem dX6_order_22 : decode cX6_order 22 = .ok (.iconst (-1), 1) := by decide +kernel
theorem dX6_order_23 : decode cX6_order 23 = .ok (.if_icmp .ne 13, 3) := by decide +kernel
theorem dX6_order_26 : decode cX6_order 26 = .ok (.new 71, 3) := by decide +kernel
theorem dX6_order_29 : decode cX6_order 29 = .ok (.dup, 1) := by decide +kernel
theorem dX6_order_30 : decode cX6_order 30 = .ok (.ldc 101, 2) := by decide +kernel
theorem dX6_order_32 : decode cX6_order 32 = .ok (.invokespecial 75, 3) := by decide +kernel
theorem dX6_order_35 : decode cX6_order 35 = .ok (.athrow, 1) := by decide +kernel
theorem dX6_order_36 : decode cX6_order 36 = .ok (.iload_n 3, 1) := by decide +kernel
theorem dX6_order_37 : decode cX6_order 37 = .ok (.bipush (-4), 2) := by decide +kernel
theorem dX6_order_39 : decode cX6_order 39 = .ok (.if_icmp .ne 13, 3) := by decide +kernel
theorem dX6_order_42 : decode cX6_order 42 = .ok (.new 83, 3) := by decide +kernel
theorem dX6_order_45 : decode cX6_order 45 = .ok (.dup, 1) := by decide +kernel
theorem dX6_order_46 : decode cX6_order 46 = .ok (.ldc 103, 2) := by decide +kernel
theorem dX6_order_48 : decode cX6_order 48 = .ok (.invokespecial 87, 3) := by decide +kernel
theorem dX6_order_51 : decode cX6_order 51 = .ok (.athrow, 1) := by decide +kernel
theorem dX6_order_52 : decode cX6_order 52 = .ok (.aload_n 0, 1) := by decide +kernel
theorem dX6_order_53 : decode cX6_order 53 = .ok (.getfield 34, 3) := by decide +kernel
theorem dX6_order_56 : decode cX6_order 56 = .ok (.invokevirtual 88, 3) := by decide +kernel
theorem dX6_order_59 : decode cX6_order 59 = .ok (.iload_n 3, 1) := by decide +kernel
theorem dX6_order_60 : decode cX6_order 60 = .ok (.ireturn, 1) := by decide +kernel
theorem dX6_cancelOrder_0 : decode cX6_cancelOrder 0 = .ok (.aload_n 0, 1) := by decide +kernel
theorem dX6_cancelOrder_1 : decode cX6_cancelOrder 1 = .ok (.getfield 34, 3) := by decide +kernel
theorem dX6_cancelOrder_4 : decode cX6_cancelOrder 4 = .ok (.aload_n 0, 1) := by decide +kernel
theorem dX6_cancelOrder_5 : decode cX6_cancelOrder 5 = .ok (.getfield 21, 3) := by decide +kernel
theorem dX6_cancelOrder_8 : decode cX6_cancelOrder 8 = .ok (.invokevirtual 63, 3) := by decide +kernel
theorem dX6_cancelOrder_11 : decode cX6_cancelOrder 11 = .ok (.aload_n 0, 1) := by decide +kernel
theorem dX6_cancelOrder_12 : decode cX6_cancelOrder 12 = .ok (.getfield 21, 3) := by decide +kernel
theorem dX6_cancelOrder_15 : decode cX6_cancelOrder 15 = .ok (.iload_n 1, 1) := by decide +kernel
theorem dX6_cancelOrder_16 : decode cX6_cancelOrder 16 = .ok (.invokevirtual 105, 3) := by decide +kernel
theorem dX6_cancelOrder_19 : decode cX6_cancelOrder 19 = .ok (.istore_n 2, 1) := by decide +kernel
theorem dX6_cancelOrder_20 : decode cX6_cancelOrder 20 = .ok (.iload_n 2, 1) := by decide +kernel
theorem dX6_cancelOrder_21 : decode cX6_cancelOrder 21 = .ok (.iconst (-1), 1) := by decide +kernel
theorem dX6_cancelOrder_22 : decode cX6_cancelOrder 22 = .ok (.if_icmp .ne 13, 3) := by decide +kernel
theorem dX6_cancelOrder_25 : decode cX6_cancelOrder 25 = .ok (.new 71, 3) := by decide +kernel
theorem dX6_cancelOrder_28 : decode cX6_cancelOrder 28 = .ok (.dup, 1) := by decide +kernel
theorem dX6_cancelOrder_29 : decode cX6_cancelOrder 29 = .ok (.ldc 108, 2) := by decide +kernel
theorem dX6_cancelOrder_31 : decode cX6_cancelOrder 31 = .ok (.invokespecial 75, 3) := by decide +kernel
theorem dX6_cancelOrder_34 : decode cX6_cancelOrder 34 = .ok (.athrow, 1) := by decide +kernel
theorem dX6_cancelOrder_35 : decode cX6_cancelOrder 35 = .ok (.iload_n 2, 1) := by decide +kernel
theorem dX6_cancelOrder_36 : decode cX6_cancelOrder 36 = .ok (.bipush (-5), 2) := by decide +kernel
theorem dX6_cancelOrder_38 : decode cX6_cancelOrder 38 = .ok (.if_icmp .ne 13, 3) := by decide +kernel
theorem dX6_cancelOrder_41 : decode cX6_cancelOrder 41 = .ok (.new 110, 3) := by decide +kernel
theorem dX6_cancelOrder_44 : decode cX6_cancelOrder 44 = .ok (.dup, 1) := by decide +kernel
theorem dX6_cancelOrder_45 : decode cX6_cancelOrder 45 = .ok (.ldc 112, 2) := by decide +kernel
theorem dX6_cancelOrder_47 : decode cX6_cancelOrder 47 = .ok (.invokespecial 114, 3) := by decide +kernel
theorem dX6_cancelOrder_50 : decode cX6_cancelOrder 50 = .ok (.athrow, 1) := by decide +kernel
theorem dX6_cancelOrder_51 : decode cX6_cancelOrder 51 = .ok (.aload_n 0, 1) := by decide +kernel
theorem dX6_cancelOrder_52 : decode cX6_cancelOrder 52 = .ok (.getfield 34, 3) := by decide +kernel
theorem dX6_cancelOrder_55 : decode cX6_cancelOrder 55 = .ok (.invokevirtual 88, 3) := by decide +kernel
theorem dX6_cancelOrder_58 : decode cX6_cancelOrder 58 = .ok (.iload_n 2, 1) := by decide +kernel
theorem dX6_cancelOrder_59 : decode cX6_cancelOrder 59 = .ok (.ireturn, 1) := by decide +kernel
theorem dX6_salt_0 : decode cX6_salt 0 = .ok (.aload_n 0, 1) := by decide +kernel
theorem dX6_salt_1 : decode cX6_salt 1 = .ok (.getfield 34, 3) := by decide +kernel
theorem dX6_salt_4 : decode cX6_salt 4 = .ok (.aload_n 0, 1) := by decide +kernel
theorem dX6_salt_5 : decode cX6_salt 5 = .ok (.getfield 21, 3) := by decide +kernel
theorem dX6_salt_8 : decode cX6_salt 8 = .ok (.invokevirtual 63, 3) := by decide +kernel
theorem dX6_salt_11 : decode cX6_salt 11 = .ok (.aload_n 0, 1) := by decide +kernel
theorem dX6_salt_12 : decode cX6_salt 12 = .ok (.getfield 21, 3) := by decide +kernel
theorem dX6_salt_15 : decode cX6_salt 15 = .ok (.iload_n 1, 1) := by decide +kernel
theorem dX6_salt_16 : decode cX6_salt 16 = .ok (.invokevirtual 115, 3) := by decide +kernel
theorem dX6_salt_19 : decode cX6_salt 19 = .ok (.istore_n 2, 1) := by decide +kernel
theorem dX6_salt_20 : decode cX6_salt 20 = .ok (.iload_n 2, 1) := by decide +kernel
theorem dX6_salt_21 : decode cX6_salt 21 = .ok (.iconst (-1), 1) := by decide +kernel
theorem dX6_salt_22 : decode cX6_salt 22 = .ok (.if_icmp .ne 13, 3) := by decide +kernel
theorem dX6_salt_25 : decode cX6_salt 25 = .ok (.new 71, 3) := by decide +kernel
theorem dX6_salt_28 : decode cX6_salt 28 = .ok (.dup, 1) := by decide +kernel
theorem dX6_salt_29 : decode cX6_salt 29 = .ok (.ldc 118, 2) := by decide +kernel
theorem dX6_salt_31 : decode cX6_salt 31 = .ok (.invokespecial 75, 3) := by decide +kernel
theorem dX6_salt_34 : decode cX6_salt 34 = .ok (.athrow, 1) := by decide +kernel
theorem dX6_salt_35 : decode cX6_salt 35 = .ok (.iload_n 2, 1) := by decide +kernel
theorem dX6_salt_36 : decode cX6_salt 36 = .ok (.bipush (-3), 2) := by decide +kernel
theorem dX6_salt_38 : decode cX6_salt 38 = .ok (.if_icmp .ne 13, 3) := by decide +kernel
theorem dX6_salt_41 : decode cX6_salt 41 = .ok (.new 120, 3) := by decide +kernel
theorem dX6_salt_44 : decode cX6_salt 44 = .ok (.dup, 1) := by decide +kernel
theorem dX6_salt_45 : decode cX6_salt 45 = .ok (.ldc 122, 2) := by decide +kernel
theorem dX6_salt_47 : decode cX6_salt 47 = .ok (.invokespecial 124, 3) := by decide +kernel
theorem dX6_salt_50 : decode cX6_salt 50 = .ok (.athrow, 1) := by decide +kernel
theorem dX6_salt_51 : decode cX6_salt 51 = .ok (.iload_n 2, 1) := by decide +kernel
theorem dX6_salt_52 : decode cX6_salt 52 = .ok (.bipush (-4), 2) := by decide +kernel
theorem dX6_salt_54 : decode cX6_salt 54 = .ok (.if_icmp .ne 13, 3) := by decide +kernel
theorem dX6_salt_57 : decode cX6_salt 57 = .ok (.new 83, 3) := by decide +kernel
theorem dX6_salt_60 : decode cX6_salt 60 = .ok (.dup, 1) := by decide +kernel
theorem dX6_salt_61 : decode cX6_salt 61 = .ok (.ldc 125, 2) := by decide +kernel
theorem dX6_salt_63 : decode cX6_salt 63 = .ok (.invokespecial 87, 3) := by decide +kernel
theorem dX6_salt_66 : decode cX6_salt 66 = .ok (.athrow, 1) := by decide +kernel
theorem dX6_salt_67 : decode cX6_salt 67 = .ok (.aload_n 0, 1) := by decide +kernel
theorem dX6_salt_68 : decode cX6_salt 68 = .ok (.getfield 34, 3) := by decide +kernel
theorem dX6_salt_71 : decode cX6_salt 71 = .ok (.invokevirtual 88, 3) := by decide +kernel
theorem dX6_salt_74 : decode cX6_salt 74 = .ok (.iload_n 2, 1) := by decide +kernel
theorem dX6_salt_75 : decode cX6_salt 75 = .ok (.ireturn, 1) := by decide +kernel
theorem dX6_loadSalt_0 : decode cX6_loadSalt 0 = .ok (.aload_n 0, 1) := by decide +kernel
theorem dX6_loadSalt_1 : decode cX6_loadSalt 1 = .ok (.getfield 34, 3) := by decide +kernel
theorem dX6_loadSalt_4 : decode cX6_loadSalt 4 = .ok (.aload_n 0, 1) := by decide +kernel
theorem dX6_loadSalt_5 : decode cX6_loadSalt 5 = .ok (.getfield 21, 3) := by decide +kernel
theorem dX6_loadSalt_8 : decode cX6_loadSalt 8 = .ok (.invokevirtual 63, 3) := by decide +kernel
theorem dX6_loadSalt_11 : decode cX6_loadSalt 11 = .ok (.aload_n 0, 1) := by decide +kernel
theorem dX6_loadSalt_12 : decode cX6_loadSalt 12 = .ok (.getfield 21, 3) := by decide +kernel
theorem dX6_loadSalt_15 : decode cX6_loadSalt 15 = .ok (.iload_n 1, 1) := by decide +kernel
theorem dX6_loadSalt_16 : decode cX6_loadSalt 16 = .ok (.invokevirtual 127, 3) := by decide +kernel
theorem dX6_loadSalt_19 : decode cX6_loadSalt 19 = .ok (.istore_n 2, 1) := by decide +kernel
theorem dX6_loadSalt_20 : decode cX6_loadSalt 20 = .ok (.iload_n 2, 1) := by decide +kernel
theorem dX6_loadSalt_21 : decode cX6_loadSalt 21 = .ok (.bipush (-2), 2) := by decide +kernel
theorem dX6_loadSalt_23 : decode cX6_loadSalt 23 = .ok (.if_icmp .ne 13, 3) := by decide +kernel
theorem dX6_loadSalt_26 : decode cX6_loadSalt 26 = .ok (.new 78, 3) := by decide +kernel
theorem dX6_loadSalt_29 : decode cX6_loadSalt 29 = .ok (.dup, 1) := by decide +kernel
theorem dX6_loadSalt_30 : decode cX6_loadSalt 30 = .ok (.ldc 130, 2) := by decide +kernel
theorem dX6_loadSalt_32 : decode cX6_loadSalt 32 = .ok (.invokespecial 82, 3) := by decide +kernel
theorem dX6_loadSalt_35 : decode cX6_loadSalt 35 = .ok (.athrow, 1) := by decide +kernel
theorem dX6_loadSalt_36 : decode cX6_loadSalt 36 = .ok (.iload_n 2, 1) := by decide +kernel
theorem dX6_loadSalt_37 : decode cX6_loadSalt 37 = .ok (.bipush (-3), 2) := by decide +kernel
theorem dX6_loadSalt_39 : decode cX6_loadSalt 39 = .ok (.if_icmp .ne 13, 3) := by decide +kernel
theorem dX6_loadSalt_42 : decode cX6_loadSalt 42 = .ok (.new 120, 3) := by decide +kernel
theorem dX6_loadSalt_45 : decode cX6_loadSalt 45 = .ok (.dup, 1) := by decide +kernel
theorem dX6_loadSalt_46 : decode cX6_loadSalt 46 = .ok (.ldc 132, 2) := by decide +kernel
theorem dX6_loadSalt_48 : decode cX6_loadSalt 48 = .ok (.invokespecial 124, 3) := by decide +kernel
theorem dX6_loadSalt_51 : decode cX6_loadSalt 51 = .ok (.athrow, 1) := by decide +kernel
theorem dX6_loadSalt_52 : decode cX6_loadSalt 52 = .ok (.aload_n 0, 1) := by decide +kernel
theorem dX6_loadSalt_53 : decode cX6_loadSalt 53 = .ok (.getfield 34, 3) := by decide +kernel
theorem dX6_loadSalt_56 : decode cX6_loadSalt 56 = .ok (.invokevirtual 88, 3) := by decide +kernel
theorem dX6_loadSalt_59 : decode cX6_loadSalt 59 = .ok (.iload_n 2, 1) := by decide +kernel
theorem dX6_loadSalt_60 : decode cX6_loadSalt 60 = .ok (.ireturn, 1) := by decide +kernel
theorem dX6_setSnowfall_0 : decode cX6_setSnowfall 0 = .ok (.aload_n 0, 1) := by decide +kernel
theorem dX6_setSnowfall_1 : decode cX6_setSnowfall 1 = .ok (.getfield 34, 3) := by decide +kernel
theorem dX6_setSnowfall_4 : decode cX6_setSnowfall 4 = .ok (.aload_n 0, 1) := by decide +kernel
theorem dX6_setSnowfall_5 : decode cX6_setSnowfall 5 = .ok (.getfield 21, 3) := by decide +kernel
theorem dX6_setSnowfall_8 : decode cX6_setSnowfall 8 = .ok (.invokevirtual 63, 3) := by decide +kernel
theorem dX6_setSnowfall_11 : decode cX6_setSnowfall 11 = .ok (.aload_n 0, 1) := by decide +kernel
theorem dX6_setSnowfall_12 : decode cX6_setSnowfall 12 = .ok (.getfield 21, 3) := by decide +kernel
theorem dX6_setSnowfall_15 : decode cX6_setSnowfall 15 = .ok (.iload_n 1, 1) := by decide +kernel
theorem dX6_setSnowfall_16 : decode cX6_setSnowfall 16 = .ok (.invokevirtual 134, 3) := by decide +kernel
theorem dX6_setSnowfall_19 : decode cX6_setSnowfall 19 = .ok (.istore_n 2, 1) := by decide +kernel
theorem dX6_setSnowfall_20 : decode cX6_setSnowfall 20 = .ok (.iload_n 2, 1) := by decide +kernel
theorem dX6_setSnowfall_21 : decode cX6_setSnowfall 21 = .ok (.bipush (-2), 2) := by decide +kernel
theorem dX6_setSnowfall_23 : decode cX6_setSnowfall 23 = .ok (.if_icmp .ne 13, 3) := by decide +kernel
theorem dX6_setSnowfall_26 : decode cX6_setSnowfall 26 = .ok (.new 78, 3) := by decide +kernel
theorem dX6_setSnowfall_29 : decode cX6_setSnowfall 29 = .ok (.dup, 1) := by decide +kernel
theorem dX6_setSnowfall_30 : decode cX6_setSnowfall 30 = .ok (.ldc 137, 2) := by decide +kernel
theorem dX6_setSnowfall_32 : decode cX6_setSnowfall 32 = .ok (.invokespecial 82, 3) := by decide +kernel
theorem dX6_setSnowfall_35 : decode cX6_setSnowfall 35 = .ok (.athrow, 1) := by decide +kernel
theorem dX6_setSnowfall_36 : decode cX6_setSnowfall 36 = .ok (.aload_n 0, 1) := by decide +kernel
theorem dX6_setSnowfall_37 : decode cX6_setSnowfall 37 = .ok (.getfield 34, 3) := by decide +kernel
theorem dX6_setSnowfall_40 : decode cX6_setSnowfall 40 = .ok (.invokevirtual 88, 3) := by decide +kernel
theorem dX6_setSnowfall_43 : decode cX6_setSnowfall 43 = .ok (.iload_n 2, 1) := by decide +kernel
theorem dX6_setSnowfall_44 : decode cX6_setSnowfall 44 = .ok (.ireturn, 1) := by decide +kernel
theorem dX6_setWind_0 : decode cX6_setWind 0 = .ok (.aload_n 0, 1) := by decide +kernel
theorem dX6_setWind_1 : decode cX6_setWind 1 = .ok (.getfield 34, 3) := by decide +kernel
theorem dX6_setWind_4 : decode cX6_setWind 4 = .ok (.aload_n 0, 1) := by decide +kernel
theorem dX6_setWind_5 : decode cX6_setWind 5 = .ok (.getfield 21, 3) := by decide +kernel
theorem dX6_setWind_8 : decode cX6_setWind 8 = .ok (.invokevirtual 63, 3) := by decide +kernel
theorem dX6_setWind_11 : decode cX6_setWind 11 = .ok (.aload_n 0, 1) := by decide +kernel
theorem dX6_setWind_12 : decode cX6_setWind 12 = .ok (.getfield 21, 3) := by decide +kernel
theorem dX6_setWind_15 : decode cX6_setWind 15 = .ok (.iload_n 1, 1) := by decide +kernel
theorem dX6_setWind_16 : decode cX6_setWind 16 = .ok (.invokevirtual 139, 3) := by decide +kernel
theorem dX6_setWind_19 : decode cX6_setWind 19 = .ok (.istore_n 2, 1) := by decide +kernel
theorem dX6_setWind_20 : decode cX6_setWind 20 = .ok (.iload_n 2, 1) := by decide +kernel
theorem dX6_setWind_21 : decode cX6_setWind 21 = .ok (.bipush (-2), 2) := by decide +kernel
theorem dX6_setWind_23 : decode cX6_setWind 23 = .ok (.if_icmp .ne 13, 3) := by decide +kernel
theorem dX6_setWind_26 : decode cX6_setWind 26 = .ok (.new 78, 3) := by decide +kernel
theorem dX6_setWind_29 : decode cX6_setWind 29 = .ok (.dup, 1) := by decide +kernel
theorem dX6_setWind_30 : decode cX6_setWind 30 = .ok (.ldc 142, 2) := by decide +kernel
theorem dX6_setWind_32 : decode cX6_setWind 32 = .ok (.invokespecial 82, 3) := by decide +kernel
theorem dX6_setWind_35 : decode cX6_setWind 35 = .ok (.athrow, 1) := by decide +kernel
theorem dX6_setWind_36 : decode cX6_setWind 36 = .ok (.aload_n 0, 1) := by decide +kernel
theorem dX6_setWind_37 : decode cX6_setWind 37 = .ok (.getfield 34, 3) := by decide +kernel
theorem dX6_setWind_40 : decode cX6_setWind 40 = .ok (.invokevirtual 88, 3) := by decide +kernel
theorem dX6_setWind_43 : decode cX6_setWind 43 = .ok (.iload_n 2, 1) := by decide +kernel
theorem dX6_setWind_44 : decode cX6_setWind 44 = .ok (.ireturn, 1) := by decide +kernel
theorem dX6_advance_0 : decode cX6_advance 0 = .ok (.aload_n 0, 1) := by decide +kernel
theorem dX6_advance_1 : decode cX6_advance 1 = .ok (.getfield 34, 3) := by decide +kernel
theorem dX6_advance_4 : decode cX6_advance 4 = .ok (.aload_n 0, 1) := by decide +kernel
theorem dX6_advance_5 : decode cX6_advance 5 = .ok (.getfield 21, 3) := by decide +kernel
theorem dX6_advance_8 : decode cX6_advance 8 = .ok (.invokevirtual 63, 3) := by decide +kernel
theorem dX6_advance_11 : decode cX6_advance 11 = .ok (.aload_n 0, 1) := by decide +kernel
theorem dX6_advance_12 : decode cX6_advance 12 = .ok (.getfield 21, 3) := by decide +kernel
theorem dX6_advance_15 : decode cX6_advance 15 = .ok (.iload_n 1, 1) := by decide +kernel
theorem dX6_advance_16 : decode cX6_advance 16 = .ok (.invokevirtual 144, 3) := by decide +kernel
theorem dX6_advance_19 : decode cX6_advance 19 = .ok (.istore_n 2, 1) := by decide +kernel
theorem dX6_advance_20 : decode cX6_advance 20 = .ok (.iload_n 2, 1) := by decide +kernel
theorem dX6_advance_21 : decode cX6_advance 21 = .ok (.bipush (-2), 2) := by decide +kernel
theorem dX6_advance_23 : decode cX6_advance 23 = .ok (.if_icmp .ne 13, 3) := by decide +kernel
theorem dX6_advance_26 : decode cX6_advance 26 = .ok (.new 78, 3) := by decide +kernel
theorem dX6_advance_29 : decode cX6_advance 29 = .ok (.dup, 1) := by decide +kernel
theorem dX6_advance_30 : decode cX6_advance 30 = .ok (.ldc 147, 2) := by decide +kernel
theorem dX6_advance_32 : decode cX6_advance 32 = .ok (.invokespecial 82, 3) := by decide +kernel
theorem dX6_advance_35 : decode cX6_advance 35 = .ok (.athrow, 1) := by decide +kernel
theorem dX6_advance_36 : decode cX6_advance 36 = .ok (.aload_n 0, 1) := by decide +kernel
theorem dX6_advance_37 : decode cX6_advance 37 = .ok (.getfield 34, 3) := by decide +kernel
theorem dX6_advance_40 : decode cX6_advance 40 = .ok (.invokevirtual 88, 3) := by decide +kernel
theorem dX6_advance_43 : decode cX6_advance 43 = .ok (.iload_n 2, 1) := by decide +kernel
theorem dX6_advance_44 : decode cX6_advance 44 = .ok (.ireturn, 1) := by decide +kernel
theorem dX6_streetCount_0 : decode cX6_streetCount 0 = .ok (.aload_n 0, 1) := by decide +kernel
theorem dX6_streetCount_1 : decode cX6_streetCount 1 = .ok (.getfield 21, 3) := by decide +kernel
theorem dX6_streetCount_4 : decode cX6_streetCount 4 = .ok (.getfield 149, 3) := by decide +kernel
theorem dX6_streetCount_7 : decode cX6_streetCount 7 = .ok (.getfield 153, 3) := by decide +kernel
theorem dX6_streetCount_10 : decode cX6_streetCount 10 = .ok (.ireturn, 1) := by decide +kernel
theorem dX6_lowerEnd_0 : decode cX6_lowerEnd 0 = .ok (.aload_n 0, 1) := by decide +kernel
theorem dX6_lowerEnd_1 : decode cX6_lowerEnd 1 = .ok (.getfield 21, 3) := by decide +kernel
theorem dX6_lowerEnd_4 : decode cX6_lowerEnd 4 = .ok (.getfield 149, 3) := by decide +kernel
theorem dX6_lowerEnd_7 : decode cX6_lowerEnd 7 = .ok (.iload_n 1, 1) := by decide +kernel
theorem dX6_lowerEnd_8 : decode cX6_lowerEnd 8 = .ok (.invokevirtual 158, 3) := by decide +kernel
theorem dX6_lowerEnd_11 : decode cX6_lowerEnd 11 = .ok (.ifCond .ne 13, 3) := by decide +kernel
theorem dX6_lowerEnd_14 : decode cX6_lowerEnd 14 = .ok (.new 71, 3) := by decide +kernel
theorem dX6_lowerEnd_17 : decode cX6_lowerEnd 17 = .ok (.dup, 1) := by decide +kernel
theorem dX6_lowerEnd_18 : decode cX6_lowerEnd 18 = .ok (.ldc 118, 2) := by decide +kernel
theorem dX6_lowerEnd_20 : decode cX6_lowerEnd 20 = .ok (.invokespecial 75, 3) := by decide +kernel
theorem dX6_lowerEnd_23 : decode cX6_lowerEnd 23 = .ok (.athrow, 1) := by decide +kernel
theorem dX6_lowerEnd_24 : decode cX6_lowerEnd 24 = .ok (.aload_n 0, 1) := by decide +kernel
theorem dX6_lowerEnd_25 : decode cX6_lowerEnd 25 = .ok (.getfield 21, 3) := by decide +kernel
theorem dX6_lowerEnd_28 : decode cX6_lowerEnd 28 = .ok (.getfield 149, 3) := by decide +kernel
theorem dX6_lowerEnd_31 : decode cX6_lowerEnd 31 = .ok (.getfield 162, 3) := by decide +kernel
theorem dX6_lowerEnd_34 : decode cX6_lowerEnd 34 = .ok (.iload_n 1, 1) := by decide +kernel
theorem dX6_lowerEnd_35 : decode cX6_lowerEnd 35 = .ok (.iaload, 1) := by decide +kernel
theorem dX6_lowerEnd_36 : decode cX6_lowerEnd 36 = .ok (.ireturn, 1) := by decide +kernel
theorem dX6_higherEnd_0 : decode cX6_higherEnd 0 = .ok (.aload_n 0, 1) := by decide +kernel
theorem dX6_higherEnd_1 : decode cX6_higherEnd 1 = .ok (.getfield 21, 3) := by decide +kernel
theorem dX6_higherEnd_4 : decode cX6_higherEnd 4 = .ok (.getfield 149, 3) := by decide +kernel
theorem dX6_higherEnd_7 : decode cX6_higherEnd 7 = .ok (.iload_n 1, 1) := by decide +kernel
theorem dX6_higherEnd_8 : decode cX6_higherEnd 8 = .ok (.invokevirtual 158, 3) := by decide +kernel
theorem dX6_higherEnd_11 : decode cX6_higherEnd 11 = .ok (.ifCond .ne 13, 3) := by decide +kernel
theorem dX6_higherEnd_14 : decode cX6_higherEnd 14 = .ok (.new 71, 3) := by decide +kernel
theorem dX6_higherEnd_17 : decode cX6_higherEnd 17 = .ok (.dup, 1) := by decide +kernel
theorem dX6_higherEnd_18 : decode cX6_higherEnd 18 = .ok (.ldc 118, 2) := by decide +kernel
theorem dX6_higherEnd_20 : decode cX6_higherEnd 20 = .ok (.invokespecial 75, 3) := by decide +kernel
theorem dX6_higherEnd_23 : decode cX6_higherEnd 23 = .ok (.athrow, 1) := by decide +kernel
theorem dX6_higherEnd_24 : decode cX6_higherEnd 24 = .ok (.aload_n 0, 1) := by decide +kernel
theorem dX6_higherEnd_25 : decode cX6_higherEnd 25 = .ok (.getfield 21, 3) := by decide +kernel
theorem dX6_higherEnd_28 : decode cX6_higherEnd 28 = .ok (.getfield 149, 3) := by decide +kernel
theorem dX6_higherEnd_31 : decode cX6_higherEnd 31 = .ok (.getfield 166, 3) := by decide +kernel
theorem dX6_higherEnd_34 : decode cX6_higherEnd 34 = .ok (.iload_n 1, 1) := by decide +kernel
theorem dX6_higherEnd_35 : decode cX6_higherEnd 35 = .ok (.iaload, 1) := by decide +kernel
theorem dX6_higherEnd_36 : decode cX6_higherEnd 36 = .ok (.ireturn, 1) := by decide +kernel
theorem dX6_streetClass_0 : decode cX6_streetClass 0 = .ok (.aload_n 0, 1) := by decide +kernel
theorem dX6_streetClass_1 : decode cX6_streetClass 1 = .ok (.getfield 21, 3) := by decide +kernel
theorem dX6_streetClass_4 : decode cX6_streetClass 4 = .ok (.getfield 149, 3) := by decide +kernel
theorem dX6_streetClass_7 : decode cX6_streetClass 7 = .ok (.iload_n 1, 1) := by decide +kernel
theorem dX6_streetClass_8 : decode cX6_streetClass 8 = .ok (.invokevirtual 158, 3) := by decide +kernel
theorem dX6_streetClass_11 : decode cX6_streetClass 11 = .ok (.ifCond .ne 13, 3) := by decide +kernel
theorem dX6_streetClass_14 : decode cX6_streetClass 14 = .ok (.new 71, 3) := by decide +kernel
theorem dX6_streetClass_17 : decode cX6_streetClass 17 = .ok (.dup, 1) := by decide +kernel
theorem dX6_streetClass_18 : decode cX6_streetClass 18 = .ok (.ldc 118, 2) := by decide +kernel
theorem dX6_streetClass_20 : decode cX6_streetClass 20 = .ok (.invokespecial 75, 3) := by decide +kernel
theorem dX6_streetClass_23 : decode cX6_streetClass 23 = .ok (.athrow, 1) := by decide +kernel
theorem dX6_streetClass_24 : decode cX6_streetClass 24 = .ok (.aload_n 0, 1) := by decide +kernel
theorem dX6_streetClass_25 : decode cX6_streetClass 25 = .ok (.getfield 21, 3) := by decide +kernel
theorem dX6_streetClass_28 : decode cX6_streetClass 28 = .ok (.getfield 149, 3) := by decide +kernel
theorem dX6_streetClass_31 : decode cX6_streetClass 31 = .ok (.getfield 169, 3) := by decide +kernel
theorem dX6_streetClass_34 : decode cX6_streetClass 34 = .ok (.iload_n 1, 1) := by decide +kernel
theorem dX6_streetClass_35 : decode cX6_streetClass 35 = .ok (.caload, 1) := by decide +kernel
theorem dX6_streetClass_36 : decode cX6_streetClass 36 = .ok (.ireturn, 1) := by decide +kernel
theorem dX6_length_0 : decode cX6_length 0 = .ok (.aload_n 0, 1) := by decide +kernel
theorem dX6_length_1 : decode cX6_length 1 = .ok (.getfield 21, 3) := by decide +kernel
theorem dX6_length_4 : decode cX6_length 4 = .ok (.getfield 149, 3) := by decide +kernel
theorem dX6_length_7 : decode cX6_length 7 = .ok (.iload_n 1, 1) := by decide +kernel
theorem dX6_length_8 : decode cX6_length 8 = .ok (.invokevirtual 158, 3) := by decide +kernel
theorem dX6_length_11 : decode cX6_length 11 = .ok (.ifCond .ne 13, 3) := by decide +kernel
theorem dX6_length_14 : decode cX6_length 14 = .ok (.new 71, 3) := by decide +kernel
theorem dX6_length_17 : decode cX6_length 17 = .ok (.dup, 1) := by decide +kernel
theorem dX6_length_18 : decode cX6_length 18 = .ok (.ldc 118, 2) := by decide +kernel
theorem dX6_length_20 : decode cX6_length 20 = .ok (.invokespecial 75, 3) := by decide +kernel
theorem dX6_length_23 : decode cX6_length 23 = .ok (.athrow, 1) := by decide +kernel
theorem dX6_length_24 : decode cX6_length 24 = .ok (.aload_n 0, 1) := by decide +kernel
theorem dX6_length_25 : decode cX6_length 25 = .ok (.getfield 21, 3) := by decide +kernel
theorem dX6_length_28 : decode cX6_length 28 = .ok (.getfield 149, 3) := by decide +kernel
theorem dX6_length_31 : decode cX6_length 31 = .ok (.getfield 173, 3) := by decide +kernel
theorem dX6_length_34 : decode cX6_length 34 = .ok (.iload_n 1, 1) := by decide +kernel
theorem dX6_length_35 : decode cX6_length 35 = .ok (.iaload, 1) := by decide +kernel
theorem dX6_length_36 : decode cX6_length 36 = .ok (.ireturn, 1) := by decide +kernel
theorem dX6_depth_0 : decode cX6_depth 0 = .ok (.aload_n 0, 1) := by decide +kernel
theorem dX6_depth_1 : decode cX6_depth 1 = .ok (.getfield 21, 3) := by decide +kernel
theorem dX6_depth_4 : decode cX6_depth 4 = .ok (.getfield 149, 3) := by decide +kernel
theorem dX6_depth_7 : decode cX6_depth 7 = .ok (.iload_n 1, 1) := by decide +kernel
theorem dX6_depth_8 : decode cX6_depth 8 = .ok (.invokevirtual 158, 3) := by decide +kernel
theorem dX6_depth_11 : decode cX6_depth 11 = .ok (.ifCond .ne 13, 3) := by decide +kernel
theorem dX6_depth_14 : decode cX6_depth 14 = .ok (.new 71, 3) := by decide +kernel
theorem dX6_depth_17 : decode cX6_depth 17 = .ok (.dup, 1) := by decide +kernel
theorem dX6_depth_18 : decode cX6_depth 18 = .ok (.ldc 118, 2) := by decide +kernel
theorem dX6_depth_20 : decode cX6_depth 20 = .ok (.invokespecial 75, 3) := by decide +kernel
theorem dX6_depth_23 : decode cX6_depth 23 = .ok (.athrow, 1) := by decide +kernel
theorem dX6_depth_24 : decode cX6_depth 24 = .ok (.aload_n 0, 1) := by decide +kernel
theorem dX6_depth_25 : decode cX6_depth 25 = .ok (.getfield 21, 3) := by decide +kernel
theorem dX6_depth_28 : decode cX6_depth 28 = .ok (.getfield 149, 3) := by decide +kernel
theorem dX6_depth_31 : decode cX6_depth 31 = .ok (.getfield 176, 3) := by decide +kernel
theorem dX6_depth_34 : decode cX6_depth 34 = .ok (.iload_n 1, 1) := by decide +kernel
theorem dX6_depth_35 : decode cX6_depth 35 = .ok (.iaload, 1) := by decide +kernel
theorem dX6_depth_36 : decode cX6_depth 36 = .ok (.ireturn, 1) := by decide +kernel
theorem dX6_isOverdue_0 : decode cX6_isOverdue 0 = .ok (.aload_n 0, 1) := by decide +kernel
theorem dX6_isOverdue_1 : decode cX6_isOverdue 1 = .ok (.getfield 21, 3) := by decide +kernel
theorem dX6_isOverdue_4 : decode cX6_isOverdue 4 = .ok (.getfield 149, 3) := by decide +kernel
theorem dX6_isOverdue_7 : decode cX6_isOverdue 7 = .ok (.iload_n 1, 1) := by decide +kernel
theorem dX6_isOverdue_8 : decode cX6_isOverdue 8 = .ok (.invokevirtual 158, 3) := by decide +kernel
theorem dX6_isOverdue_11 : decode cX6_isOverdue 11 = .ok (.ifCond .ne 13, 3) := by decide +kernel
theorem dX6_isOverdue_14 : decode cX6_isOverdue 14 = .ok (.new 71, 3) := by decide +kernel
theorem dX6_isOverdue_17 : decode cX6_isOverdue 17 = .ok (.dup, 1) := by decide +kernel
theorem dX6_isOverdue_18 : decode cX6_isOverdue 18 = .ok (.ldc 118, 2) := by decide +kernel
theorem dX6_isOverdue_20 : decode cX6_isOverdue 20 = .ok (.invokespecial 75, 3) := by decide +kernel
theorem dX6_isOverdue_23 : decode cX6_isOverdue 23 = .ok (.athrow, 1) := by decide +kernel
theorem dX6_isOverdue_24 : decode cX6_isOverdue 24 = .ok (.aload_n 0, 1) := by decide +kernel
theorem dX6_isOverdue_25 : decode cX6_isOverdue 25 = .ok (.getfield 21, 3) := by decide +kernel
theorem dX6_isOverdue_28 : decode cX6_isOverdue 28 = .ok (.getfield 149, 3) := by decide +kernel
theorem dX6_isOverdue_31 : decode cX6_isOverdue 31 = .ok (.iload_n 1, 1) := by decide +kernel
theorem dX6_isOverdue_32 : decode cX6_isOverdue 32 = .ok (.invokevirtual 179, 3) := by decide +kernel
theorem dX6_isOverdue_35 : decode cX6_isOverdue 35 = .ok (.ifCond .le 7, 3) := by decide +kernel
theorem dX6_isOverdue_38 : decode cX6_isOverdue 38 = .ok (.iconst 1, 1) := by decide +kernel
theorem dX6_isOverdue_39 : decode cX6_isOverdue 39 = .ok (.goto 4, 3) := by decide +kernel
theorem dX6_isOverdue_42 : decode cX6_isOverdue 42 = .ok (.iconst 0, 1) := by decide +kernel
theorem dX6_isOverdue_43 : decode cX6_isOverdue 43 = .ok (.ireturn, 1) := by decide +kernel
theorem dX6_isSalted_0 : decode cX6_isSalted 0 = .ok (.aload_n 0, 1) := by decide +kernel
theorem dX6_isSalted_1 : decode cX6_isSalted 1 = .ok (.getfield 21, 3) := by decide +kernel
theorem dX6_isSalted_4 : decode cX6_isSalted 4 = .ok (.getfield 149, 3) := by decide +kernel
theorem dX6_isSalted_7 : decode cX6_isSalted 7 = .ok (.iload_n 1, 1) := by decide +kernel
theorem dX6_isSalted_8 : decode cX6_isSalted 8 = .ok (.invokevirtual 158, 3) := by decide +kernel
theorem dX6_isSalted_11 : decode cX6_isSalted 11 = .ok (.ifCond .ne 13, 3) := by decide +kernel
theorem dX6_isSalted_14 : decode cX6_isSalted 14 = .ok (.new 71, 3) := by decide +kernel
theorem dX6_isSalted_17 : decode cX6_isSalted 17 = .ok (.dup, 1) := by decide +kernel
theorem dX6_isSalted_18 : decode cX6_isSalted 18 = .ok (.ldc 118, 2) := by decide +kernel
theorem dX6_isSalted_20 : decode cX6_isSalted 20 = .ok (.invokespecial 75, 3) := by decide +kernel
theorem dX6_isSalted_23 : decode cX6_isSalted 23 = .ok (.athrow, 1) := by decide +kernel
theorem dX6_isSalted_24 : decode cX6_isSalted 24 = .ok (.aload_n 0, 1) := by decide +kernel
theorem dX6_isSalted_25 : decode cX6_isSalted 25 = .ok (.getfield 21, 3) := by decide +kernel
theorem dX6_isSalted_28 : decode cX6_isSalted 28 = .ok (.getfield 149, 3) := by decide +kernel
theorem dX6_isSalted_31 : decode cX6_isSalted 31 = .ok (.iload_n 1, 1) := by decide +kernel
theorem dX6_isSalted_32 : decode cX6_isSalted 32 = .ok (.aload_n 0, 1) := by decide +kernel
theorem dX6_isSalted_33 : decode cX6_isSalted 33 = .ok (.getfield 21, 3) := by decide +kernel
theorem dX6_isSalted_36 : decode cX6_isSalted 36 = .ok (.getfield 182, 3) := by decide +kernel
theorem dX6_isSalted_39 : decode cX6_isSalted 39 = .ok (.invokevirtual 185, 3) := by decide +kernel
theorem dX6_isSalted_42 : decode cX6_isSalted 42 = .ok (.ifCond .le 7, 3) := by decide +kernel
theorem dX6_isSalted_45 : decode cX6_isSalted 45 = .ok (.iconst 1, 1) := by decide +kernel
theorem dX6_isSalted_46 : decode cX6_isSalted 46 = .ok (.goto 4, 3) := by decide +kernel
theorem dX6_isSalted_49 : decode cX6_isSalted 49 = .ok (.iconst 0, 1) := by decide +kernel
theorem dX6_isSalted_50 : decode cX6_isSalted 50 = .ok (.ireturn, 1) := by decide +kernel
theorem dX6_saltMinutes_0 : decode cX6_saltMinutes 0 = .ok (.aload_n 0, 1) := by decide +kernel
theorem dX6_saltMinutes_1 : decode cX6_saltMinutes 1 = .ok (.getfield 21, 3) := by decide +kernel
theorem dX6_saltMinutes_4 : decode cX6_saltMinutes 4 = .ok (.getfield 149, 3) := by decide +kernel
theorem dX6_saltMinutes_7 : decode cX6_saltMinutes 7 = .ok (.iload_n 1, 1) := by decide +kernel
theorem dX6_saltMinutes_8 : decode cX6_saltMinutes 8 = .ok (.invokevirtual 158, 3) := by decide +kernel
theorem dX6_saltMinutes_11 : decode cX6_saltMinutes 11 = .ok (.ifCond .ne 13, 3) := by decide +kernel
theorem dX6_saltMinutes_14 : decode cX6_saltMinutes 14 = .ok (.new 71, 3) := by decide +kernel
theorem dX6_saltMinutes_17 : decode cX6_saltMinutes 17 = .ok (.dup, 1) := by decide +kernel
theorem dX6_saltMinutes_18 : decode cX6_saltMinutes 18 = .ok (.ldc 118, 2) := by decide +kernel
theorem dX6_saltMinutes_20 : decode cX6_saltMinutes 20 = .ok (.invokespecial 75, 3) := by decide +kernel
theorem dX6_saltMinutes_23 : decode cX6_saltMinutes 23 = .ok (.athrow, 1) := by decide +kernel
theorem dX6_saltMinutes_24 : decode cX6_saltMinutes 24 = .ok (.aload_n 0, 1) := by decide +kernel
theorem dX6_saltMinutes_25 : decode cX6_saltMinutes 25 = .ok (.getfield 21, 3) := by decide +kernel
theorem dX6_saltMinutes_28 : decode cX6_saltMinutes 28 = .ok (.getfield 149, 3) := by decide +kernel
theorem dX6_saltMinutes_31 : decode cX6_saltMinutes 31 = .ok (.iload_n 1, 1) := by decide +kernel
theorem dX6_saltMinutes_32 : decode cX6_saltMinutes 32 = .ok (.aload_n 0, 1) := by decide +kernel
theorem dX6_saltMinutes_33 : decode cX6_saltMinutes 33 = .ok (.getfield 21, 3) := by decide +kernel
theorem dX6_saltMinutes_36 : decode cX6_saltMinutes 36 = .ok (.getfield 182, 3) := by decide +kernel
theorem dX6_saltMinutes_39 : decode cX6_saltMinutes 39 = .ok (.invokevirtual 185, 3) := by decide +kernel
theorem dX6_saltMinutes_42 : decode cX6_saltMinutes 42 = .ok (.istore_n 2, 1) := by decide +kernel
theorem dX6_saltMinutes_43 : decode cX6_saltMinutes 43 = .ok (.iload_n 2, 1) := by decide +kernel
theorem dX6_saltMinutes_44 : decode cX6_saltMinutes 44 = .ok (.ifCond .gt 13, 3) := by decide +kernel
theorem dX6_saltMinutes_47 : decode cX6_saltMinutes 47 = .ok (.new 110, 3) := by decide +kernel
theorem dX6_saltMinutes_50 : decode cX6_saltMinutes 50 = .ok (.dup, 1) := by decide +kernel
theorem dX6_saltMinutes_51 : decode cX6_saltMinutes 51 = .ok (.ldc 188, 2) := by decide +kernel
theorem dX6_saltMinutes_53 : decode cX6_saltMinutes 53 = .ok (.invokespecial 114, 3) := by decide +kernel
theorem dX6_saltMinutes_56 : decode cX6_saltMinutes 56 = .ok (.athrow, 1) := by decide +kernel
theorem dX6_saltMinutes_57 : decode cX6_saltMinutes 57 = .ok (.iload_n 2, 1) := by decide +kernel
theorem dX6_saltMinutes_58 : decode cX6_saltMinutes 58 = .ok (.ireturn, 1) := by decide +kernel
theorem dX6_complaints_0 : decode cX6_complaints 0 = .ok (.aload_n 0, 1) := by decide +kernel
theorem dX6_complaints_1 : decode cX6_complaints 1 = .ok (.getfield 21, 3) := by decide +kernel
theorem dX6_complaints_4 : decode cX6_complaints 4 = .ok (.getfield 149, 3) := by decide +kernel
theorem dX6_complaints_7 : decode cX6_complaints 7 = .ok (.iload_n 1, 1) := by decide +kernel
theorem dX6_complaints_8 : decode cX6_complaints 8 = .ok (.invokevirtual 158, 3) := by decide +kernel
theorem dX6_complaints_11 : decode cX6_complaints 11 = .ok (.ifCond .ne 13, 3) := by decide +kernel
theorem dX6_complaints_14 : decode cX6_complaints 14 = .ok (.new 71, 3) := by decide +kernel
theorem dX6_complaints_17 : decode cX6_complaints 17 = .ok (.dup, 1) := by decide +kernel
theorem dX6_complaints_18 : decode cX6_complaints 18 = .ok (.ldc 118, 2) := by decide +kernel
theorem dX6_complaints_20 : decode cX6_complaints 20 = .ok (.invokespecial 75, 3) := by decide +kernel
theorem dX6_complaints_23 : decode cX6_complaints 23 = .ok (.athrow, 1) := by decide +kernel
theorem dX6_complaints_24 : decode cX6_complaints 24 = .ok (.aload_n 0, 1) := by decide +kernel
theorem dX6_complaints_25 : decode cX6_complaints 25 = .ok (.getfield 21, 3) := by decide +kernel
theorem dX6_complaints_28 : decode cX6_complaints 28 = .ok (.getfield 149, 3) := by decide +kernel
theorem dX6_complaints_31 : decode cX6_complaints 31 = .ok (.getfield 190, 3) := by decide +kernel
theorem dX6_complaints_34 : decode cX6_complaints 34 = .ok (.iload_n 1, 1) := by decide +kernel
theorem dX6_complaints_35 : decode cX6_complaints 35 = .ok (.iaload, 1) := by decide +kernel
theorem dX6_complaints_36 : decode cX6_complaints 36 = .ok (.ireturn, 1) := by decide +kernel
theorem dX6_distance_0 : decode cX6_distance 0 = .ok (.iload_n 1, 1) := by decide +kernel
theorem dX6_distance_1 : decode cX6_distance 1 = .ok (.invokestatic 193, 3) := by decide +kernel
theorem dX6_distance_4 : decode cX6_distance 4 = .ok (.ifCond .eq 10, 3) := by decide +kernel
theorem dX6_distance_7 : decode cX6_distance 7 = .ok (.iload_n 2, 1) := by decide +kernel
theorem dX6_distance_8 : decode cX6_distance 8 = .ok (.invokestatic 193, 3) := by decide +kernel
theorem dX6_distance_11 : decode cX6_distance 11 = .ok (.ifCond .ne 13, 3) := by decide +kernel
theorem dX6_distance_14 : decode cX6_distance 14 = .ok (.new 71, 3) := by decide +kernel
theorem dX6_distance_17 : decode cX6_distance 17 = .ok (.dup, 1) := by decide +kernel
theorem dX6_distance_18 : decode cX6_distance 18 = .ok (.ldc 73, 2) := by decide +kernel
theorem dX6_distance_20 : decode cX6_distance 20 = .ok (.invokespecial 75, 3) := by decide +kernel
theorem dX6_distance_23 : decode cX6_distance 23 = .ok (.athrow, 1) := by decide +kernel
theorem dX6_distance_24 : decode cX6_distance 24 = .ok (.aload_n 0, 1) := by decide +kernel
theorem dX6_distance_25 : decode cX6_distance 25 = .ok (.getfield 10, 3) := by decide +kernel
theorem dX6_distance_28 : decode cX6_distance 28 = .ok (.iload_n 1, 1) := by decide +kernel
theorem dX6_distance_29 : decode cX6_distance 29 = .ok (.aload_n 0, 1) := by decide +kernel
theorem dX6_distance_30 : decode cX6_distance 30 = .ok (.getfield 21, 3) := by decide +kernel
theorem dX6_distance_33 : decode cX6_distance 33 = .ok (.getfield 149, 3) := by decide +kernel
theorem dX6_distance_36 : decode cX6_distance 36 = .ok (.invokevirtual 196, 3) := by decide +kernel
theorem dX6_distance_39 : decode cX6_distance 39 = .ok (.aload_n 0, 1) := by decide +kernel
theorem dX6_distance_40 : decode cX6_distance 40 = .ok (.getfield 10, 3) := by decide +kernel
theorem dX6_distance_43 : decode cX6_distance 43 = .ok (.iload_n 2, 1) := by decide +kernel
theorem dX6_distance_44 : decode cX6_distance 44 = .ok (.invokevirtual 200, 3) := by decide +kernel
theorem dX6_distance_47 : decode cX6_distance 47 = .ok (.istore_n 3, 1) := by decide +kernel
theorem dX6_distance_48 : decode cX6_distance 48 = .ok (.iload_n 3, 1) := by decide +kernel
theorem dX6_distance_49 : decode cX6_distance 49 = .ok (.ldc 203, 2) := by decide +kernel
theorem dX6_distance_51 : decode cX6_distance 51 = .ok (.if_icmp .lt 13, 3) := by decide +kernel
theorem dX6_distance_54 : decode cX6_distance 54 = .ok (.new 110, 3) := by decide +kernel
theorem dX6_distance_57 : decode cX6_distance 57 = .ok (.dup, 1) := by decide +kernel
theorem dX6_distance_58 : decode cX6_distance 58 = .ok (.ldc 204, 2) := by decide +kernel
theorem dX6_distance_60 : decode cX6_distance 60 = .ok (.invokespecial 114, 3) := by decide +kernel
theorem dX6_distance_63 : decode cX6_distance 63 = .ok (.athrow, 1) := by decide +kernel
theorem dX6_distance_64 : decode cX6_distance 64 = .ok (.iload_n 3, 1) := by decide +kernel
theorem dX6_distance_65 : decode cX6_distance 65 = .ok (.ireturn, 1) := by decide +kernel
theorem dX6_distanceByJunctions_0 : decode cX6_distanceByJunctions 0 = .ok (.iload_n 1, 1) := by decide +kernel
theorem dX6_distanceByJunctions_1 : decode cX6_distanceByJunctions 1 = .ok (.invokestatic 193, 3) := by decide +kernel
theorem dX6_distanceByJunctions_4 : decode cX6_distanceByJunctions 4 = .ok (.ifCond .eq 10, 3) := by decide +kernel
theorem dX6_distanceByJunctions_7 : decode cX6_distanceByJunctions 7 = .ok (.iload_n 2, 1) := by decide +kernel
theorem dX6_distanceByJunctions_8 : decode cX6_distanceByJunctions 8 = .ok (.invokestatic 193, 3) := by decide +kernel
theorem dX6_distanceByJunctions_11 : decode cX6_distanceByJunctions 11 = .ok (.ifCond .ne 13, 3) := by decide +kernel
theorem dX6_distanceByJunctions_14 : decode cX6_distanceByJunctions 14 = .ok (.new 71, 3) := by decide +kernel
theorem dX6_distanceByJunctions_17 : decode cX6_distanceByJunctions 17 = .ok (.dup, 1) := by decide +kernel
theorem dX6_distanceByJunctions_18 : decode cX6_distanceByJunctions 18 = .ok (.ldc 73, 2) := by decide +kernel
theorem dX6_distanceByJunctions_20 : decode cX6_distanceByJunctions 20 = .ok (.invokespecial 75, 3) := by decide +kernel
theorem dX6_distanceByJunctions_23 : decode cX6_distanceByJunctions 23 = .ok (.athrow, 1) := by decide +kernel
theorem dX6_distanceByJunctions_24 : decode cX6_distanceByJunctions 24 = .ok (.aload_n 0, 1) := by decide +kernel
theorem dX6_distanceByJunctions_25 : decode cX6_distanceByJunctions 25 = .ok (.getfield 10, 3) := by decide +kernel
theorem dX6_distanceByJunctions_28 : decode cX6_distanceByJunctions 28 = .ok (.aload_n 0, 1) := by decide +kernel
theorem dX6_distanceByJunctions_29 : decode cX6_distanceByJunctions 29 = .ok (.getfield 21, 3) := by decide +kernel
theorem dX6_distanceByJunctions_32 : decode cX6_distanceByJunctions 32 = .ok (.getfield 149, 3) := by decide +kernel
theorem dX6_distanceByJunctions_35 : decode cX6_distanceByJunctions 35 = .ok (.invokevirtual 206, 3) := by decide +kernel
theorem dX6_distanceByJunctions_38 : decode cX6_distanceByJunctions 38 = .ok (.aload_n 0, 1) := by decide +kernel
theorem dX6_distanceByJunctions_39 : decode cX6_distanceByJunctions 39 = .ok (.getfield 10, 3) := by decide +kernel
theorem dX6_distanceByJunctions_42 : decode cX6_distanceByJunctions 42 = .ok (.iload_n 1, 1) := by decide +kernel
theorem dX6_distanceByJunctions_43 : decode cX6_distanceByJunctions 43 = .ok (.iload_n 2, 1) := by decide +kernel
theorem dX6_distanceByJunctions_44 : decode cX6_distanceByJunctions 44 = .ok (.invokevirtual 210, 3) := by decide +kernel
theorem dX6_distanceByJunctions_47 : decode cX6_distanceByJunctions 47 = .ok (.istore_n 3, 1) := by decide +kernel
theorem dX6_distanceByJunctions_48 : decode cX6_distanceByJunctions 48 = .ok (.iload_n 3, 1) := by decide +kernel
theorem dX6_distanceByJunctions_49 : decode cX6_distanceByJunctions 49 = .ok (.ldc 203, 2) := by decide +kernel
theorem dX6_distanceByJunctions_51 : decode cX6_distanceByJunctions 51 = .ok (.if_icmp .lt 13, 3) := by decide +kernel
theorem dX6_distanceByJunctions_54 : decode cX6_distanceByJunctions 54 = .ok (.new 110, 3) := by decide +kernel
theorem dX6_distanceByJunctions_57 : decode cX6_distanceByJunctions 57 = .ok (.dup, 1) := by decide +kernel
theorem dX6_distanceByJunctions_58 : decode cX6_distanceByJunctions 58 = .ok (.ldc 204, 2) := by decide +kernel
theorem dX6_distanceByJunctions_60 : decode cX6_distanceByJunctions 60 = .ok (.invokespecial 114, 3) := by decide +kernel
theorem dX6_distanceByJunctions_63 : decode cX6_distanceByJunctions 63 = .ok (.athrow, 1) := by decide +kernel
theorem dX6_distanceByJunctions_64 : decode cX6_distanceByJunctions 64 = .ok (.iload_n 3, 1) := by decide +kernel
theorem dX6_distanceByJunctions_65 : decode cX6_distanceByJunctions 65 = .ok (.ireturn, 1) := by decide +kernel
theorem dX6_streetByUrgency_0 : decode cX6_streetByUrgency 0 = .ok (.aload_n 0, 1) := by decide +kernel
theorem dX6_streetByUrgency_1 : decode cX6_streetByUrgency 1 = .ok (.getfield 21, 3) := by decide +kernel
theorem dX6_streetByUrgency_4 : decode cX6_streetByUrgency 4 = .ok (.getfield 149, 3) := by decide +kernel
theorem dX6_streetByUrgency_7 : decode cX6_streetByUrgency 7 = .ok (.iload_n 1, 1) := by decide +kernel
theorem dX6_streetByUrgency_8 : decode cX6_streetByUrgency 8 = .ok (.invokevirtual 213, 3) := by decide +kernel
theorem dX6_streetByUrgency_11 : decode cX6_streetByUrgency 11 = .ok (.istore_n 2, 1) := by decide +kernel
theorem dX6_streetByUrgency_12 : decode cX6_streetByUrgency 12 = .ok (.iload_n 2, 1) := by decide +kernel
theorem dX6_streetByUrgency_13 : decode cX6_streetByUrgency 13 = .ok (.ifCond .ge 13, 3) := by decide +kernel
theorem dX6_streetByUrgency_16 : decode cX6_streetByUrgency 16 = .ok (.new 110, 3) := by decide +kernel
theorem dX6_streetByUrgency_19 : decode cX6_streetByUrgency 19 = .ok (.dup, 1) := by decide +kernel
theorem dX6_streetByUrgency_20 : decode cX6_streetByUrgency 20 = .ok (.ldc 216, 2) := by decide +kernel
theorem dX6_streetByUrgency_22 : decode cX6_streetByUrgency 22 = .ok (.invokespecial 114, 3) := by decide +kernel
theorem dX6_streetByUrgency_25 : decode cX6_streetByUrgency 25 = .ok (.athrow, 1) := by decide +kernel
theorem dX6_streetByUrgency_26 : decode cX6_streetByUrgency 26 = .ok (.iload_n 2, 1) := by decide +kernel
theorem dX6_streetByUrgency_27 : decode cX6_streetByUrgency 27 = .ok (.ireturn, 1) := by decide +kernel
theorem dX6_ploughCount_0 : decode cX6_ploughCount 0 = .ok (.aload_n 0, 1) := by decide +kernel
theorem dX6_ploughCount_1 : decode cX6_ploughCount 1 = .ok (.getfield 21, 3) := by decide +kernel
theorem dX6_ploughCount_4 : decode cX6_ploughCount 4 = .ok (.getfield 218, 3) := by decide +kernel
theorem dX6_ploughCount_7 : decode cX6_ploughCount 7 = .ok (.getfield 222, 3) := by decide +kernel
theorem dX6_ploughCount_10 : decode cX6_ploughCount 10 = .ok (.ireturn, 1) := by decide +kernel
theorem dX6_isBusy_0 : decode cX6_isBusy 0 = .ok (.aload_n 0, 1) := by decide +kernel
theorem dX6_isBusy_1 : decode cX6_isBusy 1 = .ok (.getfield 21, 3) := by decide +kernel
theorem dX6_isBusy_4 : decode cX6_isBusy 4 = .ok (.getfield 218, 3) := by decide +kernel
theorem dX6_isBusy_7 : decode cX6_isBusy 7 = .ok (.iload_n 1, 1) := by decide +kernel
theorem dX6_isBusy_8 : decode cX6_isBusy 8 = .ok (.invokevirtual 225, 3) := by decide +kernel
theorem dX6_isBusy_11 : decode cX6_isBusy 11 = .ok (.ifCond .ne 13, 3) := by decide +kernel
theorem dX6_isBusy_14 : decode cX6_isBusy 14 = .ok (.new 71, 3) := by decide +kernel
theorem dX6_isBusy_17 : decode cX6_isBusy 17 = .ok (.dup, 1) := by decide +kernel
theorem dX6_isBusy_18 : decode cX6_isBusy 18 = .ok (.ldc 108, 2) := by decide +kernel
theorem dX6_isBusy_20 : decode cX6_isBusy 20 = .ok (.invokespecial 75, 3) := by decide +kernel
theorem dX6_isBusy_23 : decode cX6_isBusy 23 = .ok (.athrow, 1) := by decide +kernel
theorem dX6_isBusy_24 : decode cX6_isBusy 24 = .ok (.aload_n 0, 1) := by decide +kernel
theorem dX6_isBusy_25 : decode cX6_isBusy 25 = .ok (.getfield 21, 3) := by decide +kernel
theorem dX6_isBusy_28 : decode cX6_isBusy 28 = .ok (.getfield 218, 3) := by decide +kernel
theorem dX6_isBusy_31 : decode cX6_isBusy 31 = .ok (.getfield 226, 3) := by decide +kernel
theorem dX6_isBusy_34 : decode cX6_isBusy 34 = .ok (.iload_n 1, 1) := by decide +kernel
theorem dX6_isBusy_35 : decode cX6_isBusy 35 = .ok (.iaload, 1) := by decide +kernel
theorem dX6_isBusy_36 : decode cX6_isBusy 36 = .ok (.ifCond .le 7, 3) := by decide +kernel
theorem dX6_isBusy_39 : decode cX6_isBusy 39 = .ok (.iconst 1, 1) := by decide +kernel
theorem dX6_isBusy_40 : decode cX6_isBusy 40 = .ok (.goto 4, 3) := by decide +kernel
theorem dX6_isBusy_43 : decode cX6_isBusy 43 = .ok (.iconst 0, 1) := by decide +kernel
theorem dX6_isBusy_44 : decode cX6_isBusy 44 = .ok (.ireturn, 1) := by decide +kernel
theorem dX6_junction_0 : decode cX6_junction 0 = .ok (.aload_n 0, 1) := by decide +kernel
theorem dX6_junction_1 : decode cX6_junction 1 = .ok (.getfield 21, 3) := by decide +kernel
theorem dX6_junction_4 : decode cX6_junction 4 = .ok (.getfield 218, 3) := by decide +kernel
theorem dX6_junction_7 : decode cX6_junction 7 = .ok (.iload_n 1, 1) := by decide +kernel
theorem dX6_junction_8 : decode cX6_junction 8 = .ok (.invokevirtual 225, 3) := by decide +kernel
theorem dX6_junction_11 : decode cX6_junction 11 = .ok (.ifCond .ne 13, 3) := by decide +kernel
theorem dX6_junction_14 : decode cX6_junction 14 = .ok (.new 71, 3) := by decide +kernel
theorem dX6_junction_17 : decode cX6_junction 17 = .ok (.dup, 1) := by decide +kernel
theorem dX6_junction_18 : decode cX6_junction 18 = .ok (.ldc 108, 2) := by decide +kernel
theorem dX6_junction_20 : decode cX6_junction 20 = .ok (.invokespecial 75, 3) := by decide +kernel
theorem dX6_junction_23 : decode cX6_junction 23 = .ok (.athrow, 1) := by decide +kernel
theorem dX6_junction_24 : decode cX6_junction 24 = .ok (.aload_n 0, 1) := by decide +kernel
theorem dX6_junction_25 : decode cX6_junction 25 = .ok (.getfield 21, 3) := by decide +kernel
theorem dX6_junction_28 : decode cX6_junction 28 = .ok (.getfield 218, 3) := by decide +kernel
theorem dX6_junction_31 : decode cX6_junction 31 = .ok (.getfield 229, 3) := by decide +kernel
theorem dX6_junction_34 : decode cX6_junction 34 = .ok (.iload_n 1, 1) := by decide +kernel
theorem dX6_junction_35 : decode cX6_junction 35 = .ok (.iaload, 1) := by decide +kernel
theorem dX6_junction_36 : decode cX6_junction 36 = .ok (.ireturn, 1) := by decide +kernel
theorem dX6_currentStreet_0 : decode cX6_currentStreet 0 = .ok (.aload_n 0, 1) := by decide +kernel
theorem dX6_currentStreet_1 : decode cX6_currentStreet 1 = .ok (.getfield 21, 3) := by decide +kernel
theorem dX6_currentStreet_4 : decode cX6_currentStreet 4 = .ok (.getfield 218, 3) := by decide +kernel
theorem dX6_currentStreet_7 : decode cX6_currentStreet 7 = .ok (.iload_n 1, 1) := by decide +kernel
theorem dX6_currentStreet_8 : decode cX6_currentStreet 8 = .ok (.invokevirtual 225, 3) := by decide +kernel
theorem dX6_currentStreet_11 : decode cX6_currentStreet 11 = .ok (.ifCond .ne 13, 3) := by decide +kernel
theorem dX6_currentStreet_14 : decode cX6_currentStreet 14 = .ok (.new 71, 3) := by decide +kernel
theorem dX6_currentStreet_17 : decode cX6_currentStreet 17 = .ok (.dup, 1) := by decide +kernel
theorem dX6_currentStreet_18 : decode cX6_currentStreet 18 = .ok (.ldc 108, 2) := by decide +kernel
theorem dX6_currentStreet_20 : decode cX6_currentStreet 20 = .ok (.invokespecial 75, 3) := by decide +kernel
theorem dX6_currentStreet_23 : decode cX6_currentStreet 23 = .ok (.athrow, 1) := by decide +kernel
theorem dX6_currentStreet_24 : decode cX6_currentStreet 24 = .ok (.aload_n 0, 1) := by decide +kernel
theorem dX6_currentStreet_25 : decode cX6_currentStreet 25 = .ok (.getfield 21, 3) := by decide +kernel
theorem dX6_currentStreet_28 : decode cX6_currentStreet 28 = .ok (.getfield 218, 3) := by decide +kernel
theorem dX6_currentStreet_31 : decode cX6_currentStreet 31 = .ok (.getfield 226, 3) := by decide +kernel
theorem dX6_currentStreet_34 : decode cX6_currentStreet 34 = .ok (.iload_n 1, 1) := by decide +kernel
theorem dX6_currentStreet_35 : decode cX6_currentStreet 35 = .ok (.iaload, 1) := by decide +kernel
theorem dX6_currentStreet_36 : decode cX6_currentStreet 36 = .ok (.ifCond .gt 13, 3) := by decide +kernel
theorem dX6_currentStreet_39 : decode cX6_currentStreet 39 = .ok (.new 110, 3) := by decide +kernel
theorem dX6_currentStreet_42 : decode cX6_currentStreet 42 = .ok (.dup, 1) := by decide +kernel
theorem dX6_currentStreet_43 : decode cX6_currentStreet 43 = .ok (.ldc 232, 2) := by decide +kernel
theorem dX6_currentStreet_45 : decode cX6_currentStreet 45 = .ok (.invokespecial 114, 3) := by decide +kernel
theorem dX6_currentStreet_48 : decode cX6_currentStreet 48 = .ok (.athrow, 1) := by decide +kernel
theorem dX6_currentStreet_49 : decode cX6_currentStreet 49 = .ok (.aload_n 0, 1) := by decide +kernel
theorem dX6_currentStreet_50 : decode cX6_currentStreet 50 = .ok (.getfield 21, 3) := by decide +kernel
theorem dX6_currentStreet_53 : decode cX6_currentStreet 53 = .ok (.getfield 218, 3) := by decide +kernel
theorem dX6_currentStreet_56 : decode cX6_currentStreet 56 = .ok (.getfield 234, 3) := by decide +kernel
theorem dX6_currentStreet_59 : decode cX6_currentStreet 59 = .ok (.iload_n 1, 1) := by decide +kernel
theorem dX6_currentStreet_60 : decode cX6_currentStreet 60 = .ok (.iaload, 1) := by decide +kernel
theorem dX6_currentStreet_61 : decode cX6_currentStreet 61 = .ok (.ireturn, 1) := by decide +kernel
theorem dX6_busyMinutes_0 : decode cX6_busyMinutes 0 = .ok (.aload_n 0, 1) := by decide +kernel
theorem dX6_busyMinutes_1 : decode cX6_busyMinutes 1 = .ok (.getfield 21, 3) := by decide +kernel
theorem dX6_busyMinutes_4 : decode cX6_busyMinutes 4 = .ok (.getfield 218, 3) := by decide +kernel
theorem dX6_busyMinutes_7 : decode cX6_busyMinutes 7 = .ok (.iload_n 1, 1) := by decide +kernel
theorem dX6_busyMinutes_8 : decode cX6_busyMinutes 8 = .ok (.invokevirtual 225, 3) := by decide +kernel
theorem dX6_busyMinutes_11 : decode cX6_busyMinutes 11 = .ok (.ifCond .ne 13, 3) := by decide +kernel
theorem dX6_busyMinutes_14 : decode cX6_busyMinutes 14 = .ok (.new 71, 3) := by decide +kernel
theorem dX6_busyMinutes_17 : decode cX6_busyMinutes 17 = .ok (.dup, 1) := by decide +kernel
theorem dX6_busyMinutes_18 : decode cX6_busyMinutes 18 = .ok (.ldc 108, 2) := by decide +kernel
theorem dX6_busyMinutes_20 : decode cX6_busyMinutes 20 = .ok (.invokespecial 75, 3) := by decide +kernel
theorem dX6_busyMinutes_23 : decode cX6_busyMinutes 23 = .ok (.athrow, 1) := by decide +kernel
theorem dX6_busyMinutes_24 : decode cX6_busyMinutes 24 = .ok (.aload_n 0, 1) := by decide +kernel
theorem dX6_busyMinutes_25 : decode cX6_busyMinutes 25 = .ok (.getfield 21, 3) := by decide +kernel
theorem dX6_busyMinutes_28 : decode cX6_busyMinutes 28 = .ok (.getfield 218, 3) := by decide +kernel
theorem dX6_busyMinutes_31 : decode cX6_busyMinutes 31 = .ok (.getfield 226, 3) := by decide +kernel
theorem dX6_busyMinutes_34 : decode cX6_busyMinutes 34 = .ok (.iload_n 1, 1) := by decide +kernel
theorem dX6_busyMinutes_35 : decode cX6_busyMinutes 35 = .ok (.iaload, 1) := by decide +kernel
theorem dX6_busyMinutes_36 : decode cX6_busyMinutes 36 = .ok (.ireturn, 1) := by decide +kernel
theorem dX6_queueLength_0 : decode cX6_queueLength 0 = .ok (.aload_n 0, 1) := by decide +kernel
theorem dX6_queueLength_1 : decode cX6_queueLength 1 = .ok (.getfield 21, 3) := by decide +kernel
theorem dX6_queueLength_4 : decode cX6_queueLength 4 = .ok (.getfield 218, 3) := by decide +kernel
theorem dX6_queueLength_7 : decode cX6_queueLength 7 = .ok (.iload_n 1, 1) := by decide +kernel
theorem dX6_queueLength_8 : decode cX6_queueLength 8 = .ok (.invokevirtual 225, 3) := by decide +kernel
theorem dX6_queueLength_11 : decode cX6_queueLength 11 = .ok (.ifCond .ne 13, 3) := by decide +kernel
theorem dX6_queueLength_14 : decode cX6_queueLength 14 = .ok (.new 71, 3) := by decide +kernel
theorem dX6_queueLength_17 : decode cX6_queueLength 17 = .ok (.dup, 1) := by decide +kernel
theorem dX6_queueLength_18 : decode cX6_queueLength 18 = .ok (.ldc 108, 2) := by decide +kernel
theorem dX6_queueLength_20 : decode cX6_queueLength 20 = .ok (.invokespecial 75, 3) := by decide +kernel
theorem dX6_queueLength_23 : decode cX6_queueLength 23 = .ok (.athrow, 1) := by decide +kernel
theorem dX6_queueLength_24 : decode cX6_queueLength 24 = .ok (.aload_n 0, 1) := by decide +kernel
theorem dX6_queueLength_25 : decode cX6_queueLength 25 = .ok (.getfield 21, 3) := by decide +kernel
theorem dX6_queueLength_28 : decode cX6_queueLength 28 = .ok (.getfield 218, 3) := by decide +kernel
theorem dX6_queueLength_31 : decode cX6_queueLength 31 = .ok (.getfield 237, 3) := by decide +kernel
theorem dX6_queueLength_34 : decode cX6_queueLength 34 = .ok (.iload_n 1, 1) := by decide +kernel
theorem dX6_queueLength_35 : decode cX6_queueLength 35 = .ok (.iaload, 1) := by decide +kernel
theorem dX6_queueLength_36 : decode cX6_queueLength 36 = .ok (.ireturn, 1) := by decide +kernel
theorem dX6_queuedStreet_0 : decode cX6_queuedStreet 0 = .ok (.aload_n 0, 1) := by decide +kernel
theorem dX6_queuedStreet_1 : decode cX6_queuedStreet 1 = .ok (.getfield 21, 3) := by decide +kernel
theorem dX6_queuedStreet_4 : decode cX6_queuedStreet 4 = .ok (.getfield 218, 3) := by decide +kernel
theorem dX6_queuedStreet_7 : decode cX6_queuedStreet 7 = .ok (.iload_n 1, 1) := by decide +kernel
theorem dX6_queuedStreet_8 : decode cX6_queuedStreet 8 = .ok (.invokevirtual 225, 3) := by decide +kernel
theorem dX6_queuedStreet_11 : decode cX6_queuedStreet 11 = .ok (.ifCond .ne 13, 3) := by decide +kernel
theorem dX6_queuedStreet_14 : decode cX6_queuedStreet 14 = .ok (.new 71, 3) := by decide +kernel
theorem dX6_queuedStreet_17 : decode cX6_queuedStreet 17 = .ok (.dup, 1) := by decide +kernel
theorem dX6_queuedStreet_18 : decode cX6_queuedStreet 18 = .ok (.ldc 108, 2) := by decide +kernel
theorem dX6_queuedStreet_20 : decode cX6_queuedStreet 20 = .ok (.invokespecial 75, 3) := by decide +kernel
theorem dX6_queuedStreet_23 : decode cX6_queuedStreet 23 = .ok (.athrow, 1) := by decide +kernel
theorem dX6_queuedStreet_24 : decode cX6_queuedStreet 24 = .ok (.aload_n 0, 1) := by decide +kernel
theorem dX6_queuedStreet_25 : decode cX6_queuedStreet 25 = .ok (.getfield 21, 3) := by decide +kernel
theorem dX6_queuedStreet_28 : decode cX6_queuedStreet 28 = .ok (.getfield 218, 3) := by decide +kernel
theorem dX6_queuedStreet_31 : decode cX6_queuedStreet 31 = .ok (.iload_n 1, 1) := by decide +kernel
theorem dX6_queuedStreet_32 : decode cX6_queuedStreet 32 = .ok (.iload_n 2, 1) := by decide +kernel
theorem dX6_queuedStreet_33 : decode cX6_queuedStreet 33 = .ok (.invokevirtual 240, 3) := by decide +kernel
theorem dX6_queuedStreet_36 : decode cX6_queuedStreet 36 = .ok (.istore_n 3, 1) := by decide +kernel
theorem dX6_queuedStreet_37 : decode cX6_queuedStreet 37 = .ok (.iload_n 3, 1) := by decide +kernel
theorem dX6_queuedStreet_38 : decode cX6_queuedStreet 38 = .ok (.ifCond .ge 13, 3) := by decide +kernel
theorem dX6_queuedStreet_41 : decode cX6_queuedStreet 41 = .ok (.new 110, 3) := by decide +kernel
theorem dX6_queuedStreet_44 : decode cX6_queuedStreet 44 = .ok (.dup, 1) := by decide +kernel
theorem dX6_queuedStreet_45 : decode cX6_queuedStreet 45 = .ok (.ldc 243, 2) := by decide +kernel
theorem dX6_queuedStreet_47 : decode cX6_queuedStreet 47 = .ok (.invokespecial 114, 3) := by decide +kernel
theorem dX6_queuedStreet_50 : decode cX6_queuedStreet 50 = .ok (.athrow, 1) := by decide +kernel
theorem dX6_queuedStreet_51 : decode cX6_queuedStreet 51 = .ok (.iload_n 3, 1) := by decide +kernel
theorem dX6_queuedStreet_52 : decode cX6_queuedStreet 52 = .ok (.ireturn, 1) := by decide +kernel
theorem dX6_orderMinutes_0 : decode cX6_orderMinutes 0 = .ok (.aload_n 0, 1) := by decide +kernel
theorem dX6_orderMinutes_1 : decode cX6_orderMinutes 1 = .ok (.getfield 21, 3) := by decide +kernel
theorem dX6_orderMinutes_4 : decode cX6_orderMinutes 4 = .ok (.getfield 218, 3) := by decide +kernel
theorem dX6_orderMinutes_7 : decode cX6_orderMinutes 7 = .ok (.iload_n 1, 1) := by decide +kernel
theorem dX6_orderMinutes_8 : decode cX6_orderMinutes 8 = .ok (.invokevirtual 225, 3) := by decide +kernel
theorem dX6_orderMinutes_11 : decode cX6_orderMinutes 11 = .ok (.ifCond .eq 17, 3) := by decide +kernel
theorem dX6_orderMinutes_14 : decode cX6_orderMinutes 14 = .ok (.aload_n 0, 1) := by decide +kernel
theorem dX6_orderMinutes_15 : decode cX6_orderMinutes 15 = .ok (.getfield 21, 3) := by decide +kernel
theorem dX6_orderMinutes_18 : decode cX6_orderMinutes 18 = .ok (.getfield 149, 3) := by decide +kernel
theorem dX6_orderMinutes_21 : decode cX6_orderMinutes 21 = .ok (.iload_n 2, 1) := by decide +kernel
theorem dX6_orderMinutes_22 : decode cX6_orderMinutes 22 = .ok (.invokevirtual 158, 3) := by decide +kernel
theorem dX6_orderMinutes_25 : decode cX6_orderMinutes 25 = .ok (.ifCond .ne 13, 3) := by decide +kernel
theorem dX6_orderMinutes_28 : decode cX6_orderMinutes 28 = .ok (.new 71, 3) := by decide +kernel
theorem dX6_orderMinutes_31 : decode cX6_orderMinutes 31 = .ok (.dup, 1) := by decide +kernel
theorem dX6_orderMinutes_32 : decode cX6_orderMinutes 32 = .ok (.ldc 101, 2) := by decide +kernel
theorem dX6_orderMinutes_34 : decode cX6_orderMinutes 34 = .ok (.invokespecial 75, 3) := by decide +kernel
theorem dX6_orderMinutes_37 : decode cX6_orderMinutes 37 = .ok (.athrow, 1) := by decide +kernel
theorem dX6_orderMinutes_38 : decode cX6_orderMinutes 38 = .ok (.aload_n 0, 1) := by decide +kernel
theorem dX6_orderMinutes_39 : decode cX6_orderMinutes 39 = .ok (.getfield 21, 3) := by decide +kernel
theorem dX6_orderMinutes_42 : decode cX6_orderMinutes 42 = .ok (.iload_n 1, 1) := by decide +kernel
theorem dX6_orderMinutes_43 : decode cX6_orderMinutes 43 = .ok (.iload_n 2, 1) := by decide +kernel
theorem dX6_orderMinutes_44 : decode cX6_orderMinutes 44 = .ok (.invokevirtual 245, 3) := by decide +kernel
theorem dX6_orderMinutes_47 : decode cX6_orderMinutes 47 = .ok (.istore_n 3, 1) := by decide +kernel
theorem dX6_orderMinutes_48 : decode cX6_orderMinutes 48 = .ok (.iload_n 3, 1) := by decide +kernel
theorem dX6_orderMinutes_49 : decode cX6_orderMinutes 49 = .ok (.ldc 203, 2) := by decide +kernel
theorem dX6_orderMinutes_51 : decode cX6_orderMinutes 51 = .ok (.if_icmp .lt 13, 3) := by decide +kernel
theorem dX6_orderMinutes_54 : decode cX6_orderMinutes 54 = .ok (.new 110, 3) := by decide +kernel
theorem dX6_orderMinutes_57 : decode cX6_orderMinutes 57 = .ok (.dup, 1) := by decide +kernel
theorem dX6_orderMinutes_58 : decode cX6_orderMinutes 58 = .ok (.ldc 248, 2) := by decide +kernel
theorem dX6_orderMinutes_60 : decode cX6_orderMinutes 60 = .ok (.invokespecial 114, 3) := by decide +kernel
theorem dX6_orderMinutes_63 : decode cX6_orderMinutes 63 = .ok (.athrow, 1) := by decide +kernel
theorem dX6_orderMinutes_64 : decode cX6_orderMinutes 64 = .ok (.iload_n 3, 1) := by decide +kernel
theorem dX6_orderMinutes_65 : decode cX6_orderMinutes 65 = .ok (.ireturn, 1) := by decide +kernel
theorem dX6_minutesUntilCleared_0 : decode cX6_minutesUntilCleared 0 = .ok (.aload_n 0, 1) := by decide +kernel
theorem dX6_minutesUntilCleared_1 : decode cX6_minutesUntilCleared 1 = .ok (.getfield 21, 3) := by decide +kernel
theorem dX6_minutesUntilCleared_4 : decode cX6_minutesUntilCleared 4 = .ok (.getfield 149, 3) := by decide +kernel
theorem dX6_minutesUntilCleared_7 : decode cX6_minutesUntilCleared 7 = .ok (.iload_n 1, 1) := by decide +kernel
theorem dX6_minutesUntilCleared_8 : decode cX6_minutesUntilCleared 8 = .ok (.invokevirtual 158, 3) := by decide +kernel
theorem dX6_minutesUntilCleared_11 : decode cX6_minutesUntilCleared 11 = .ok (.ifCond .ne 13, 3) := by decide +kernel
theorem dX6_minutesUntilCleared_14 : decode cX6_minutesUntilCleared 14 = .ok (.new 71, 3) := by decide +kernel
theorem dX6_minutesUntilCleared_17 : decode cX6_minutesUntilCleared 17 = .ok (.dup, 1) := by decide +kernel
theorem dX6_minutesUntilCleared_18 : decode cX6_minutesUntilCleared 18 = .ok (.ldc 118, 2) := by decide +kernel
theorem dX6_minutesUntilCleared_20 : decode cX6_minutesUntilCleared 20 = .ok (.invokespecial 75, 3) := by decide +kernel
theorem dX6_minutesUntilCleared_23 : decode cX6_minutesUntilCleared 23 = .ok (.athrow, 1) := by decide +kernel
theorem dX6_minutesUntilCleared_24 : decode cX6_minutesUntilCleared 24 = .ok (.aload_n 0, 1) := by decide +kernel
theorem dX6_minutesUntilCleared_25 : decode cX6_minutesUntilCleared 25 = .ok (.iload_n 1, 1) := by decide +kernel
theorem dX6_minutesUntilCleared_26 : decode cX6_minutesUntilCleared 26 = .ok (.invokevirtual 250, 3) := by decide +kernel
theorem dX6_minutesUntilCleared_29 : decode cX6_minutesUntilCleared 29 = .ok (.istore_n 2, 1) := by decide +kernel
theorem dX6_minutesUntilCleared_30 : decode cX6_minutesUntilCleared 30 = .ok (.iload_n 2, 1) := by decide +kernel
theorem dX6_minutesUntilCleared_31 : decode cX6_minutesUntilCleared 31 = .ok (.ifCond .ge 13, 3) := by decide +kernel
theorem dX6_minutesUntilCleared_34 : decode cX6_minutesUntilCleared 34 = .ok (.new 110, 3) := by decide +kernel
theorem dX6_minutesUntilCleared_37 : decode cX6_minutesUntilCleared 37 = .ok (.dup, 1) := by decide +kernel
theorem dX6_minutesUntilCleared_38 : decode cX6_minutesUntilCleared 38 = .ok (.ldc 253, 2) := by decide +kernel
theorem dX6_minutesUntilCleared_40 : decode cX6_minutesUntilCleared 40 = .ok (.invokespecial 114, 3) := by decide +kernel
theorem dX6_minutesUntilCleared_43 : decode cX6_minutesUntilCleared 43 = .ok (.athrow, 1) := by decide +kernel
theorem dX6_minutesUntilCleared_44 : decode cX6_minutesUntilCleared 44 = .ok (.iload_n 2, 1) := by decide +kernel
theorem dX6_minutesUntilCleared_45 : decode cX6_minutesUntilCleared 45 = .ok (.ireturn, 1) := by decide +kernel
theorem dX6_foretellClearing_0 : decode cX6_foretellClearing 0 = .ok (.aload_n 0, 1) := by decide +kernel
theorem dX6_foretellClearing_1 : decode cX6_foretellClearing 1 = .ok (.getfield 25, 3) := by decide +kernel
theorem dX6_foretellClearing_4 : decode cX6_foretellClearing 4 = .ok (.aload_n 0, 1) := by decide +kernel
theorem dX6_foretellClearing_5 : decode cX6_foretellClearing 5 = .ok (.getfield 21, 3) := by decide +kernel
theorem dX6_foretellClearing_8 : decode cX6_foretellClearing 8 = .ok (.invokevirtual 255, 3) := by decide +kernel
theorem dX6_foretellClearing_11 : decode cX6_foretellClearing 11 = .ok (.aload_n 0, 1) := by decide +kernel
theorem dX6_foretellClearing_12 : decode cX6_foretellClearing 12 = .ok (.getfield 25, 3) := by decide +kernel
theorem dX6_foretellClearing_15 : decode cX6_foretellClearing 15 = .ok (.getfield 149, 3) := by decide +kernel
theorem dX6_foretellClearing_18 : decode cX6_foretellClearing 18 = .ok (.iload_n 1, 1) := by decide +kernel
theorem dX6_foretellClearing_19 : decode cX6_foretellClearing 19 = .ok (.invokevirtual 258, 3) := by decide +kernel
theorem dX6_foretellClearing_22 : decode cX6_foretellClearing 22 = .ok (.istore_n 2, 1) := by decide +kernel
theorem dX6_foretellClearing_23 : decode cX6_foretellClearing 23 = .ok (.iconst 1, 1) := by decide +kernel
theorem dX6_foretellClearing_24 : decode cX6_foretellClearing 24 = .ok (.istore_n 3, 1) := by decide +kernel
theorem dX6_foretellClearing_25 : decode cX6_foretellClearing 25 = .ok (.iload_n 3, 1) := by decide +kernel
theorem dX6_foretellClearing_26 : decode cX6_foretellClearing 26 = .ok (.sipush 600, 3) := by decide +kernel
theorem dX6_foretellClearing_29 : decode cX6_foretellClearing 29 = .ok (.if_icmp .gt 35, 3) := by decide +kernel
theorem dX6_foretellClearing_32 : decode cX6_foretellClearing 32 = .ok (.aload_n 0, 1) := by decide +kernel
theorem dX6_foretellClearing_33 : decode cX6_foretellClearing 33 = .ok (.getfield 25, 3) := by decide +kernel
theorem dX6_foretellClearing_36 : decode cX6_foretellClearing 36 = .ok (.iconst 1, 1) := by decide +kernel
theorem dX6_foretellClearing_37 : decode cX6_foretellClearing 37 = .ok (.invokevirtual 144, 3) := by decide +kernel
theorem dX6_foretellClearing_40 : decode cX6_foretellClearing 40 = .ok (.pop, 1) := by decide +kernel
theorem dX6_foretellClearing_41 : decode cX6_foretellClearing 41 = .ok (.aload_n 0, 1) := by decide +kernel
theorem dX6_foretellClearing_42 : decode cX6_foretellClearing 42 = .ok (.getfield 25, 3) := by decide +kernel
theorem dX6_foretellClearing_45 : decode cX6_foretellClearing 45 = .ok (.getfield 149, 3) := by decide +kernel
theorem dX6_foretellClearing_48 : decode cX6_foretellClearing 48 = .ok (.iload_n 1, 1) := by decide +kernel
theorem dX6_foretellClearing_49 : decode cX6_foretellClearing 49 = .ok (.invokevirtual 258, 3) := by decide +kernel
theorem dX6_foretellClearing_52 : decode cX6_foretellClearing 52 = .ok (.iload_n 2, 1) := by decide +kernel
theorem dX6_foretellClearing_53 : decode cX6_foretellClearing 53 = .ok (.if_icmp .le 5, 3) := by decide +kernel
theorem dX6_foretellClearing_56 : decode cX6_foretellClearing 56 = .ok (.iload_n 3, 1) := by decide +kernel
theorem dX6_foretellClearing_57 : decode cX6_foretellClearing 57 = .ok (.ireturn, 1) := by decide +kernel
theorem dX6_foretellClearing_58 : decode cX6_foretellClearing 58 = .ok (.iinc 3 1, 3) := by decide +kernel
theorem dX6_foretellClearing_61 : decode cX6_foretellClearing 61 = .ok (.goto (-36), 3) := by decide +kernel
theorem dX6_foretellClearing_64 : decode cX6_foretellClearing 64 = .ok (.iconst (-1), 1) := by decide +kernel
theorem dX6_foretellClearing_65 : decode cX6_foretellClearing 65 = .ok (.ireturn, 1) := by decide +kernel
theorem dX6_depthAfter_0 : decode cX6_depthAfter 0 = .ok (.aload_n 0, 1) := by decide +kernel
theorem dX6_depthAfter_1 : decode cX6_depthAfter 1 = .ok (.getfield 21, 3) := by decide +kernel
theorem dX6_depthAfter_4 : decode cX6_depthAfter 4 = .ok (.getfield 149, 3) := by decide +kernel
theorem dX6_depthAfter_7 : decode cX6_depthAfter 7 = .ok (.iload_n 1, 1) := by decide +kernel
theorem dX6_depthAfter_8 : decode cX6_depthAfter 8 = .ok (.invokevirtual 158, 3) := by decide +kernel
theorem dX6_depthAfter_11 : decode cX6_depthAfter 11 = .ok (.ifCond .ne 13, 3) := by decide +kernel
theorem dX6_depthAfter_14 : decode cX6_depthAfter 14 = .ok (.new 71, 3) := by decide +kernel
theorem dX6_depthAfter_17 : decode cX6_depthAfter 17 = .ok (.dup, 1) := by decide +kernel
theorem dX6_depthAfter_18 : decode cX6_depthAfter 18 = .ok (.ldc 118, 2) := by decide +kernel
theorem dX6_depthAfter_20 : decode cX6_depthAfter 20 = .ok (.invokespecial 75, 3) := by decide +kernel
theorem dX6_depthAfter_23 : decode cX6_depthAfter 23 = .ok (.athrow, 1) := by decide +kernel
theorem dX6_depthAfter_24 : decode cX6_depthAfter 24 = .ok (.iload_n 2, 1) := by decide +kernel
theorem dX6_depthAfter_25 : decode cX6_depthAfter 25 = .ok (.ifCond .lt 10, 3) := by decide +kernel
theorem dX6_depthAfter_28 : decode cX6_depthAfter 28 = .ok (.iload_n 2, 1) := by decide +kernel
theorem dX6_depthAfter_29 : decode cX6_depthAfter 29 = .ok (.sipush 600, 3) := by decide +kernel
theorem dX6_depthAfter_32 : decode cX6_depthAfter 32 = .ok (.if_icmp .le 14, 3) := by decide +kernel
theorem dX6_depthAfter_35 : decode cX6_depthAfter 35 = .ok (.new 78, 3) := by decide +kernel
theorem dX6_depthAfter_38 : decode cX6_depthAfter 38 = .ok (.dup, 1) := by decide +kernel
theorem dX6_depthAfter_39 : decode cX6_depthAfter 39 = .ok (.ldc_w 261, 3) := by decide +kernel
theorem dX6_depthAfter_42 : decode cX6_depthAfter 42 = .ok (.invokespecial 82, 3) := by decide +kernel
theorem dX6_depthAfter_45 : decode cX6_depthAfter 45 = .ok (.athrow, 1) := by decide +kernel
theorem dX6_depthAfter_46 : decode cX6_depthAfter 46 = .ok (.iload_n 2, 1) := by decide +kernel
theorem dX6_depthAfter_47 : decode cX6_depthAfter 47 = .ok (.ifCond .ne 16, 3) := by decide +kernel
theorem dX6_depthAfter_50 : decode cX6_depthAfter 50 = .ok (.aload_n 0, 1) := by decide +kernel
theorem dX6_depthAfter_51 : decode cX6_depthAfter 51 = .ok (.getfield 21, 3) := by decide +kernel
theorem dX6_depthAfter_54 : decode cX6_depthAfter 54 = .ok (.getfield 149, 3) := by decide +kernel
theorem dX6_depthAfter_57 : decode cX6_depthAfter 57 = .ok (.getfield 176, 3) := by decide +kernel
theorem dX6_depthAfter_60 : decode cX6_depthAfter 60 = .ok (.iload_n 1, 1) := by decide +kernel
theorem dX6_depthAfter_61 : decode cX6_depthAfter 61 = .ok (.iaload, 1) := by decide +kernel
theorem dX6_depthAfter_62 : decode cX6_depthAfter 62 = .ok (.ireturn, 1) := by decide +kernel
theorem dX6_depthAfter_63 : decode cX6_depthAfter 63 = .ok (.aload_n 0, 1) := by decide +kernel
theorem dX6_depthAfter_64 : decode cX6_depthAfter 64 = .ok (.getfield 25, 3) := by decide +kernel
theorem dX6_depthAfter_67 : decode cX6_depthAfter 67 = .ok (.aload_n 0, 1) := by decide +kernel
theorem dX6_depthAfter_68 : decode cX6_depthAfter 68 = .ok (.getfield 21, 3) := by decide +kernel
theorem dX6_depthAfter_71 : decode cX6_depthAfter 71 = .ok (.invokevirtual 255, 3) := by decide +kernel
theorem dX6_depthAfter_74 : decode cX6_depthAfter 74 = .ok (.aload_n 0, 1) := by decide +kernel
theorem dX6_depthAfter_75 : decode cX6_depthAfter 75 = .ok (.getfield 25, 3) := by decide +kernel
theorem dX6_depthAfter_78 : decode cX6_depthAfter 78 = .ok (.iload_n 2, 1) := by decide +kernel
theorem dX6_depthAfter_79 : decode cX6_depthAfter 79 = .ok (.invokevirtual 144, 3) := by decide +kernel
theorem dX6_depthAfter_82 : decode cX6_depthAfter 82 = .ok (.pop, 1) := by decide +kernel
theorem dX6_depthAfter_83 : decode cX6_depthAfter 83 = .ok (.aload_n 0, 1) := by decide +kernel
theorem dX6_depthAfter_84 : decode cX6_depthAfter 84 = .ok (.getfield 25, 3) := by decide +kernel
theorem dX6_depthAfter_87 : decode cX6_depthAfter 87 = .ok (.getfield 149, 3) := by decide +kernel
theorem dX6_depthAfter_90 : decode cX6_depthAfter 90 = .ok (.getfield 176, 3) := by decide +kernel
theorem dX6_depthAfter_93 : decode cX6_depthAfter 93 = .ok (.iload_n 1, 1) := by decide +kernel
theorem dX6_depthAfter_94 : decode cX6_depthAfter 94 = .ok (.iaload, 1) := by decide +kernel
theorem dX6_depthAfter_95 : decode cX6_depthAfter 95 = .ok (.ireturn, 1) := by decide +kernel
theorem dX6_time_0 : decode cX6_time 0 = .ok (.aload_n 0, 1) := by decide +kernel
theorem dX6_time_1 : decode cX6_time 1 = .ok (.getfield 21, 3) := by decide +kernel
theorem dX6_time_4 : decode cX6_time 4 = .ok (.getfield 182, 3) := by decide +kernel
theorem dX6_time_7 : decode cX6_time 7 = .ok (.ireturn, 1) := by decide +kernel
theorem dX6_saltStore_0 : decode cX6_saltStore 0 = .ok (.aload_n 0, 1) := by decide +kernel
theorem dX6_saltStore_1 : decode cX6_saltStore 1 = .ok (.getfield 21, 3) := by decide +kernel
theorem dX6_saltStore_4 : decode cX6_saltStore 4 = .ok (.getfield 263, 3) := by decide +kernel
theorem dX6_saltStore_7 : decode cX6_saltStore 7 = .ok (.ireturn, 1) := by decide +kernel
theorem dX6_snowfall_0 : decode cX6_snowfall 0 = .ok (.aload_n 0, 1) := by decide +kernel
theorem dX6_snowfall_1 : decode cX6_snowfall 1 = .ok (.getfield 21, 3) := by decide +kernel
theorem dX6_snowfall_4 : decode cX6_snowfall 4 = .ok (.getfield 266, 3) := by decide +kernel
theorem dX6_snowfall_7 : decode cX6_snowfall 7 = .ok (.ireturn, 1) := by decide +kernel
theorem dX6_wind_0 : decode cX6_wind 0 = .ok (.aload_n 0, 1) := by decide +kernel
theorem dX6_wind_1 : decode cX6_wind 1 = .ok (.getfield 21, 3) := by decide +kernel
theorem dX6_wind_4 : decode cX6_wind 4 = .ok (.getfield 269, 3) := by decide +kernel
theorem dX6_wind_7 : decode cX6_wind 7 = .ok (.ireturn, 1) := by decide +kernel
theorem dX6_clearedTotal_0 : decode cX6_clearedTotal 0 = .ok (.aload_n 0, 1) := by decide +kernel
theorem dX6_clearedTotal_1 : decode cX6_clearedTotal 1 = .ok (.getfield 21, 3) := by decide +kernel
theorem dX6_clearedTotal_4 : decode cX6_clearedTotal 4 = .ok (.getfield 272, 3) := by decide +kernel
theorem dX6_clearedTotal_7 : decode cX6_clearedTotal 7 = .ok (.ireturn, 1) := by decide +kernel
theorem dX6_ploughedTotal_0 : decode cX6_ploughedTotal 0 = .ok (.aload_n 0, 1) := by decide +kernel
theorem dX6_ploughedTotal_1 : decode cX6_ploughedTotal 1 = .ok (.getfield 21, 3) := by decide +kernel
theorem dX6_ploughedTotal_4 : decode cX6_ploughedTotal 4 = .ok (.getfield 275, 3) := by decide +kernel
theorem dX6_ploughedTotal_7 : decode cX6_ploughedTotal 7 = .ok (.ireturn, 1) := by decide +kernel
theorem dX6_failedOrders_0 : decode cX6_failedOrders 0 = .ok (.aload_n 0, 1) := by decide +kernel
theorem dX6_failedOrders_1 : decode cX6_failedOrders 1 = .ok (.getfield 21, 3) := by decide +kernel
theorem dX6_failedOrders_4 : decode cX6_failedOrders 4 = .ok (.getfield 278, 3) := by decide +kernel
theorem dX6_failedOrders_7 : decode cX6_failedOrders 7 = .ok (.ireturn, 1) := by decide +kernel
theorem dX6_complaintTotal_0 : decode cX6_complaintTotal 0 = .ok (.aload_n 0, 1) := by decide +kernel
theorem dX6_complaintTotal_1 : decode cX6_complaintTotal 1 = .ok (.getfield 21, 3) := by decide +kernel
theorem dX6_complaintTotal_4 : decode cX6_complaintTotal 4 = .ok (.getfield 281, 3) := by decide +kernel
theorem dX6_complaintTotal_7 : decode cX6_complaintTotal 7 = .ok (.ireturn, 1) := by decide +kernel
theorem dX6_meanDepth_0 : decode cX6_meanDepth 0 = .ok (.aload_n 0, 1) := by decide +kernel
theorem dX6_meanDepth_1 : decode cX6_meanDepth 1 = .ok (.getfield 21, 3) := by decide +kernel
theorem dX6_meanDepth_4 : decode cX6_meanDepth 4 = .ok (.getfield 149, 3) := by decide +kernel
theorem dX6_meanDepth_7 : decode cX6_meanDepth 7 = .ok (.getfield 153, 3) := by decide +kernel
theorem dX6_meanDepth_10 : decode cX6_meanDepth 10 = .ok (.istore_n 1, 1) := by decide +kernel
theorem dX6_meanDepth_11 : decode cX6_meanDepth 11 = .ok (.iload_n 1, 1) := by decide +kernel
theorem dX6_meanDepth_12 : decode cX6_meanDepth 12 = .ok (.ifCond .gt 14, 3) := by decide +kernel
theorem dX6_meanDepth_15 : decode cX6_meanDepth 15 = .ok (.new 283, 3) := by decide +kernel
theorem dX6_meanDepth_18 : decode cX6_meanDepth 18 = .ok (.dup, 1) := by decide +kernel
theorem dX6_meanDepth_19 : decode cX6_meanDepth 19 = .ok (.ldc_w 285, 3) := by decide +kernel
theorem dX6_meanDepth_22 : decode cX6_meanDepth 22 = .ok (.invokespecial 287, 3) := by decide +kernel
theorem dX6_meanDepth_25 : decode cX6_meanDepth 25 = .ok (.athrow, 1) := by decide +kernel
theorem dX6_meanDepth_26 : decode cX6_meanDepth 26 = .ok (.aload_n 0, 1) := by decide +kernel
theorem dX6_meanDepth_27 : decode cX6_meanDepth 27 = .ok (.getfield 21, 3) := by decide +kernel
theorem dX6_meanDepth_30 : decode cX6_meanDepth 30 = .ok (.getfield 149, 3) := by decide +kernel
theorem dX6_meanDepth_33 : decode cX6_meanDepth 33 = .ok (.invokevirtual 288, 3) := by decide +kernel
theorem dX6_meanDepth_36 : decode cX6_meanDepth 36 = .ok (.i2d, 1) := by decide +kernel
theorem dX6_meanDepth_37 : decode cX6_meanDepth 37 = .ok (.iload_n 1, 1) := by decide +kernel
theorem dX6_meanDepth_38 : decode cX6_meanDepth 38 = .ok (.i2d, 1) := by decide +kernel
theorem dX6_meanDepth_39 : decode cX6_meanDepth 39 = .ok (.ddiv, 1) := by decide +kernel
theorem dX6_meanDepth_40 : decode cX6_meanDepth 40 = .ok (.dreturn, 1) := by decide +kernel
theorem dX6_saltedShare_0 : decode cX6_saltedShare 0 = .ok (.aload_n 0, 1) := by decide +kernel
theorem dX6_saltedShare_1 : decode cX6_saltedShare 1 = .ok (.getfield 21, 3) := by decide +kernel
theorem dX6_saltedShare_4 : decode cX6_saltedShare 4 = .ok (.getfield 149, 3) := by decide +kernel
theorem dX6_saltedShare_7 : decode cX6_saltedShare 7 = .ok (.getfield 153, 3) := by decide +kernel
theorem dX6_saltedShare_10 : decode cX6_saltedShare 10 = .ok (.istore_n 1, 1) := by decide +kernel
theorem dX6_saltedShare_11 : decode cX6_saltedShare 11 = .ok (.iload_n 1, 1) := by decide +kernel
theorem dX6_saltedShare_12 : decode cX6_saltedShare 12 = .ok (.ifCond .gt 14, 3) := by decide +kernel
theorem dX6_saltedShare_15 : decode cX6_saltedShare 15 = .ok (.new 283, 3) := by decide +kernel
theorem dX6_saltedShare_18 : decode cX6_saltedShare 18 = .ok (.dup, 1) := by decide +kernel
theorem dX6_saltedShare_19 : decode cX6_saltedShare 19 = .ok (.ldc_w 285, 3) := by decide +kernel
theorem dX6_saltedShare_22 : decode cX6_saltedShare 22 = .ok (.invokespecial 287, 3) := by decide +kernel
theorem dX6_saltedShare_25 : decode cX6_saltedShare 25 = .ok (.athrow, 1) := by decide +kernel
theorem dX6_saltedShare_26 : decode cX6_saltedShare 26 = .ok (.aload_n 0, 1) := by decide +kernel
theorem dX6_saltedShare_27 : decode cX6_saltedShare 27 = .ok (.getfield 21, 3) := by decide +kernel
theorem dX6_saltedShare_30 : decode cX6_saltedShare 30 = .ok (.getfield 149, 3) := by decide +kernel
theorem dX6_saltedShare_33 : decode cX6_saltedShare 33 = .ok (.aload_n 0, 1) := by decide +kernel
theorem dX6_saltedShare_34 : decode cX6_saltedShare 34 = .ok (.getfield 21, 3) := by decide +kernel
theorem dX6_saltedShare_37 : decode cX6_saltedShare 37 = .ok (.getfield 182, 3) := by decide +kernel
theorem dX6_saltedShare_40 : decode cX6_saltedShare 40 = .ok (.invokevirtual 292, 3) := by decide +kernel
theorem dX6_saltedShare_43 : decode cX6_saltedShare 43 = .ok (.i2f, 1) := by decide +kernel
theorem dX6_saltedShare_44 : decode cX6_saltedShare 44 = .ok (.iload_n 1, 1) := by decide +kernel
theorem dX6_saltedShare_45 : decode cX6_saltedShare 45 = .ok (.i2f, 1) := by decide +kernel
theorem dX6_saltedShare_46 : decode cX6_saltedShare 46 = .ok (.fdiv, 1) := by decide +kernel
theorem dX6_saltedShare_47 : decode cX6_saltedShare 47 = .ok (.freturn, 1) := by decide +kernel
theorem dX6_isConsistent_0 : decode cX6_isConsistent 0 = .ok (.aload_n 0, 1) := by decide +kernel
theorem dX6_isConsistent_1 : decode cX6_isConsistent 1 = .ok (.invokevirtual 295, 3) := by decide +kernel
theorem dX6_isConsistent_4 : decode cX6_isConsistent 4 = .ok (.ifCond .eq 40, 3) := by decide +kernel
theorem dX6_isConsistent_7 : decode cX6_isConsistent 7 = .ok (.aload_n 0, 1) := by decide +kernel
theorem dX6_isConsistent_8 : decode cX6_isConsistent 8 = .ok (.getfield 21, 3) := by decide +kernel
theorem dX6_isConsistent_11 : decode cX6_isConsistent 11 = .ok (.getfield 149, 3) := by decide +kernel
theorem dX6_isConsistent_14 : decode cX6_isConsistent 14 = .ok (.invokevirtual 299, 3) := by decide +kernel
theorem dX6_isConsistent_17 : decode cX6_isConsistent 17 = .ok (.aload_n 0, 1) := by decide +kernel
theorem dX6_isConsistent_18 : decode cX6_isConsistent 18 = .ok (.getfield 21, 3) := by decide +kernel
theorem dX6_isConsistent_21 : decode cX6_isConsistent 21 = .ok (.getfield 281, 3) := by decide +kernel
theorem dX6_isConsistent_24 : decode cX6_isConsistent 24 = .ok (.if_icmp .ne 20, 3) := by decide +kernel
theorem dX6_isConsistent_27 : decode cX6_isConsistent 27 = .ok (.aload_n 0, 1) := by decide +kernel
theorem dX6_isConsistent_28 : decode cX6_isConsistent 28 = .ok (.getfield 21, 3) := by decide +kernel
theorem dX6_isConsistent_31 : decode cX6_isConsistent 31 = .ok (.getfield 149, 3) := by decide +kernel
theorem dX6_isConsistent_34 : decode cX6_isConsistent 34 = .ok (.invokevirtual 302, 3) := by decide +kernel
theorem dX6_isConsistent_37 : decode cX6_isConsistent 37 = .ok (.ifCond .eq 7, 3) := by decide +kernel
theorem dX6_isConsistent_40 : decode cX6_isConsistent 40 = .ok (.iconst 1, 1) := by decide +kernel
theorem dX6_isConsistent_41 : decode cX6_isConsistent 41 = .ok (.goto 4, 3) := by decide +kernel
theorem dX6_isConsistent_44 : decode cX6_isConsistent 44 = .ok (.iconst 0, 1) := by decide +kernel
theorem dX6_isConsistent_45 : decode cX6_isConsistent 45 = .ok (.ireturn, 1) := by decide +kernel
theorem dX6_distancesAgree_0 : decode cX6_distancesAgree 0 = .ok (.aload_n 0, 1) := by decide +kernel
theorem dX6_distancesAgree_1 : decode cX6_distancesAgree 1 = .ok (.getfield 10, 3) := by decide +kernel
theorem dX6_distancesAgree_4 : decode cX6_distancesAgree 4 = .ok (.aload_n 0, 1) := by decide +kernel
theorem dX6_distancesAgree_5 : decode cX6_distancesAgree 5 = .ok (.getfield 21, 3) := by decide +kernel
theorem dX6_distancesAgree_8 : decode cX6_distancesAgree 8 = .ok (.getfield 149, 3) := by decide +kernel
theorem dX6_distancesAgree_11 : decode cX6_distancesAgree 11 = .ok (.invokevirtual 206, 3) := by decide +kernel
theorem dX6_distancesAgree_14 : decode cX6_distancesAgree 14 = .ok (.iconst 0, 1) := by decide +kernel
theorem dX6_distancesAgree_15 : decode cX6_distancesAgree 15 = .ok (.istore_n 1, 1) := by decide +kernel
theorem dX6_distancesAgree_16 : decode cX6_distancesAgree 16 = .ok (.iload_n 1, 1) := by decide +kernel
theorem dX6_distancesAgree_17 : decode cX6_distancesAgree 17 = .ok (.bipush 8, 2) := by decide +kernel
theorem dX6_distancesAgree_19 : decode cX6_distancesAgree 19 = .ok (.if_icmp .ge 60, 3) := by decide +kernel
theorem dX6_distancesAgree_22 : decode cX6_distancesAgree 22 = .ok (.aload_n 0, 1) := by decide +kernel
theorem dX6_distancesAgree_23 : decode cX6_distancesAgree 23 = .ok (.getfield 10, 3) := by decide +kernel
theorem dX6_distancesAgree_26 : decode cX6_distancesAgree 26 = .ok (.iload_n 1, 1) := by decide +kernel
theorem dX6_distancesAgree_27 : decode cX6_distancesAgree 27 = .ok (.aload_n 0, 1) := by decide +kernel
theorem dX6_distancesAgree_28 : decode cX6_distancesAgree 28 = .ok (.getfield 21, 3) := by decide +kernel
theorem dX6_distancesAgree_31 : decode cX6_distancesAgree 31 = .ok (.getfield 149, 3) := by decide +kernel
theorem dX6_distancesAgree_34 : decode cX6_distancesAgree 34 = .ok (.invokevirtual 196, 3) := by decide +kernel
theorem dX6_distancesAgree_37 : decode cX6_distancesAgree 37 = .ok (.iconst 0, 1) := by decide +kernel
