theorem dX0_init_0 : decode cX0_init 0 = .ok (.aload_n 0, 1) := by decide +kernel
theorem dX0_init_1 : decode cX0_init 1 = .ok (.invokespecial 3, 3) := by decide +kernel
theorem dX0_init_4 : decode cX0_init 4 = .ok (.aload_n 0, 1) := by decide +kernel
theorem dX0_init_5 : decode cX0_init 5 = .ok (.bipush 8, 2) := by decide +kernel
theorem dX0_init_7 : decode cX0_init 7 = .ok (.newarray .int, 2) := by decide +kernel
theorem dX0_init_9 : decode cX0_init 9 = .ok (.putfield 11, 3) := by decide +kernel
theorem dX0_init_12 : decode cX0_init 12 = .ok (.aload_n 0, 1) := by decide +kernel
theorem dX0_init_13 : decode cX0_init 13 = .ok (.bipush 8, 2) := by decide +kernel
theorem dX0_init_15 : decode cX0_init 15 = .ok (.newarray .boolean, 2) := by decide +kernel
theorem dX0_init_17 : decode cX0_init 17 = .ok (.putfield 15, 3) := by decide +kernel
theorem dX0_init_20 : decode cX0_init 20 = .ok (.aload_n 0, 1) := by decide +kernel
theorem dX0_init_21 : decode cX0_init 21 = .ok (.iconst 0, 1) := by decide +kernel
theorem dX0_init_22 : decode cX0_init 22 = .ok (.putfield 19, 3) := by decide +kernel
theorem dX0_init_25 : decode cX0_init 25 = .ok (.return_, 1) := by decide +kernel
theorem dX0_clear_0 : decode cX0_clear 0 = .ok (.aload_n 0, 1) := by decide +kernel
theorem dX0_clear_1 : decode cX0_clear 1 = .ok (.iconst 0, 1) := by decide +kernel
theorem dX0_clear_2 : decode cX0_clear 2 = .ok (.putfield 19, 3) := by decide +kernel
theorem dX0_clear_5 : decode cX0_clear 5 = .ok (.return_, 1) := by decide +kernel
theorem dX0_addPart_0 : decode cX0_addPart 0 = .ok (.aload_n 0, 1) := by decide +kernel
theorem dX0_addPart_1 : decode cX0_addPart 1 = .ok (.getfield 19, 3) := by decide +kernel
theorem dX0_addPart_4 : decode cX0_addPart 4 = .ok (.bipush 8, 2) := by decide +kernel
theorem dX0_addPart_6 : decode cX0_addPart 6 = .ok (.if_icmp .ge 33, 3) := by decide +kernel
theorem dX0_addPart_9 : decode cX0_addPart 9 = .ok (.aload_n 0, 1) := by decide +kernel
theorem dX0_addPart_10 : decode cX0_addPart 10 = .ok (.getfield 11, 3) := by decide +kernel
theorem dX0_addPart_13 : decode cX0_addPart 13 = .ok (.aload_n 0, 1) := by decide +kernel
theorem dX0_addPart_14 : decode cX0_addPart 14 = .ok (.getfield 19, 3) := by decide +kernel
theorem dX0_addPart_17 : decode cX0_addPart 17 = .ok (.iload_n 1, 1) := by decide +kernel
theorem dX0_addPart_18 : decode cX0_addPart 18 = .ok (.iastore, 1) := by decide +kernel
theorem dX0_addPart_19 : decode cX0_addPart 19 = .ok (.aload_n 0, 1) := by decide +kernel
theorem dX0_addPart_20 : decode cX0_addPart 20 = .ok (.getfield 15, 3) := by decide +kernel
theorem dX0_addPart_23 : decode cX0_addPart 23 = .ok (.aload_n 0, 1) := by decide +kernel
theorem dX0_addPart_24 : decode cX0_addPart 24 = .ok (.getfield 19, 3) := by decide +kernel
theorem dX0_addPart_27 : decode cX0_addPart 27 = .ok (.iload_n 2, 1) := by decide +kernel
theorem dX0_addPart_28 : decode cX0_addPart 28 = .ok (.bastore, 1) := by decide +kernel
theorem dX0_addPart_29 : decode cX0_addPart 29 = .ok (.aload_n 0, 1) := by decide +kernel
theorem dX0_addPart_30 : decode cX0_addPart 30 = .ok (.dup, 1) := by decide +kernel
theorem dX0_addPart_31 : decode cX0_addPart 31 = .ok (.getfield 19, 3) := by decide +kernel
theorem dX0_addPart_34 : decode cX0_addPart 34 = .ok (.iconst 1, 1) := by decide +kernel
theorem dX0_addPart_35 : decode cX0_addPart 35 = .ok (.iadd, 1) := by decide +kernel
theorem dX0_addPart_36 : decode cX0_addPart 36 = .ok (.putfield 19, 3) := by decide +kernel
theorem dX0_addPart_39 : decode cX0_addPart 39 = .ok (.return_, 1) := by decide +kernel
theorem dX0_lengthOf_0 : decode cX0_lengthOf 0 = .ok (.iload_n 1, 1) := by decide +kernel
theorem dX0_lengthOf_1 : decode cX0_lengthOf 1 = .ok (.ifCond .lt 26, 3) := by decide +kernel
theorem dX0_lengthOf_4 : decode cX0_lengthOf 4 = .ok (.iload_n 1, 1) := by decide +kernel
theorem dX0_lengthOf_5 : decode cX0_lengthOf 5 = .ok (.aload_n 0, 1) := by decide +kernel
theorem dX0_lengthOf_6 : decode cX0_lengthOf 6 = .ok (.getfield 19, 3) := by decide +kernel
theorem dX0_lengthOf_9 : decode cX0_lengthOf 9 = .ok (.if_icmp .ge 18, 3) := by decide +kernel
theorem dX0_lengthOf_12 : decode cX0_lengthOf 12 = .ok (.iload_n 1, 1) := by decide +kernel
theorem dX0_lengthOf_13 : decode cX0_lengthOf 13 = .ok (.bipush 8, 2) := by decide +kernel
theorem dX0_lengthOf_15 : decode cX0_lengthOf 15 = .ok (.if_icmp .ge 12, 3) := by decide +kernel
theorem dX0_lengthOf_18 : decode cX0_lengthOf 18 = .ok (.aload_n 0, 1) := by decide +kernel
theorem dX0_lengthOf_19 : decode cX0_lengthOf 19 = .ok (.getfield 11, 3) := by decide +kernel
theorem dX0_lengthOf_22 : decode cX0_lengthOf 22 = .ok (.iload_n 1, 1) := by decide +kernel
theorem dX0_lengthOf_23 : decode cX0_lengthOf 23 = .ok (.iaload, 1) := by decide +kernel
theorem dX0_lengthOf_24 : decode cX0_lengthOf 24 = .ok (.goto 4, 3) := by decide +kernel
theorem dX0_lengthOf_27 : decode cX0_lengthOf 27 = .ok (.iconst 0, 1) := by decide +kernel
theorem dX0_lengthOf_28 : decode cX0_lengthOf 28 = .ok (.ireturn, 1) := by decide +kernel
theorem dX0_flagsOf_0 : decode cX0_flagsOf 0 = .ok (.iload_n 1, 1) := by decide +kernel
theorem dX0_flagsOf_1 : decode cX0_flagsOf 1 = .ok (.ifCond .lt 30, 3) := by decide +kernel
theorem dX0_flagsOf_4 : decode cX0_flagsOf 4 = .ok (.iload_n 1, 1) := by decide +kernel
theorem dX0_flagsOf_5 : decode cX0_flagsOf 5 = .ok (.aload_n 0, 1) := by decide +kernel
theorem dX0_flagsOf_6 : decode cX0_flagsOf 6 = .ok (.getfield 19, 3) := by decide +kernel
theorem dX0_flagsOf_9 : decode cX0_flagsOf 9 = .ok (.if_icmp .ge 22, 3) := by decide +kernel
theorem dX0_flagsOf_12 : decode cX0_flagsOf 12 = .ok (.iload_n 1, 1) := by decide +kernel
theorem dX0_flagsOf_13 : decode cX0_flagsOf 13 = .ok (.bipush 8, 2) := by decide +kernel
theorem dX0_flagsOf_15 : decode cX0_flagsOf 15 = .ok (.if_icmp .ge 16, 3) := by decide +kernel
theorem dX0_flagsOf_18 : decode cX0_flagsOf 18 = .ok (.aload_n 0, 1) := by decide +kernel
theorem dX0_flagsOf_19 : decode cX0_flagsOf 19 = .ok (.getfield 15, 3) := by decide +kernel
theorem dX0_flagsOf_22 : decode cX0_flagsOf 22 = .ok (.iload_n 1, 1) := by decide +kernel
theorem dX0_flagsOf_23 : decode cX0_flagsOf 23 = .ok (.baload, 1) := by decide +kernel
theorem dX0_flagsOf_24 : decode cX0_flagsOf 24 = .ok (.ifCond .eq 7, 3) := by decide +kernel
theorem dX0_flagsOf_27 : decode cX0_flagsOf 27 = .ok (.iconst 1, 1) := by decide +kernel
theorem dX0_flagsOf_28 : decode cX0_flagsOf 28 = .ok (.goto 4, 3) := by decide +kernel
theorem dX0_flagsOf_31 : decode cX0_flagsOf 31 = .ok (.iconst 0, 1) := by decide +kernel
theorem dX0_flagsOf_32 : decode cX0_flagsOf 32 = .ok (.istore_n 2, 1) := by decide +kernel
theorem dX0_flagsOf_33 : decode cX0_flagsOf 33 = .ok (.iload_n 2, 1) := by decide +kernel
theorem dX0_flagsOf_34 : decode cX0_flagsOf 34 = .ok (.ifCond .eq 7, 3) := by decide +kernel
theorem dX0_flagsOf_37 : decode cX0_flagsOf 37 = .ok (.iconst 2, 1) := by decide +kernel
theorem dX0_flagsOf_38 : decode cX0_flagsOf 38 = .ok (.goto 4, 3) := by decide +kernel
theorem dX0_flagsOf_41 : decode cX0_flagsOf 41 = .ok (.iconst 0, 1) := by decide +kernel
theorem dX0_flagsOf_42 : decode cX0_flagsOf 42 = .ok (.iload_n 1, 1) := by decide +kernel
theorem dX0_flagsOf_43 : decode cX0_flagsOf 43 = .ok (.aload_n 0, 1) := by decide +kernel
theorem dX0_flagsOf_44 : decode cX0_flagsOf 44 = .ok (.getfield 19, 3) := by decide +kernel
theorem dX0_flagsOf_47 : decode cX0_flagsOf 47 = .ok (.iconst 1, 1) := by decide +kernel
theorem dX0_flagsOf_48 : decode cX0_flagsOf 48 = .ok (.isub, 1) := by decide +kernel
theorem dX0_flagsOf_49 : decode cX0_flagsOf 49 = .ok (.if_icmp .ge 7, 3) := by decide +kernel
theorem dX0_flagsOf_52 : decode cX0_flagsOf 52 = .ok (.iconst 1, 1) := by decide +kernel
theorem dX0_flagsOf_53 : decode cX0_flagsOf 53 = .ok (.goto 4, 3) := by decide +kernel
theorem dX0_flagsOf_56 : decode cX0_flagsOf 56 = .ok (.iconst 0, 1) := by decide +kernel
theorem dX0_flagsOf_57 : decode cX0_flagsOf 57 = .ok (.ior, 1) := by decide +kernel
theorem dX0_flagsOf_58 : decode cX0_flagsOf 58 = .ok (.ireturn, 1) := by decide +kernel
theorem dX0_readFrom_0 : decode cX0_readFrom 0 = .ok (.aload_n 0, 1) := by decide +kernel
theorem dX0_readFrom_1 : decode cX0_readFrom 1 = .ok (.invokevirtual 25, 3) := by decide +kernel
theorem dX0_readFrom_4 : decode cX0_readFrom 4 = .ok (.aload_n 1, 1) := by decide +kernel
theorem dX0_readFrom_5 : decode cX0_readFrom 5 = .ok (.getfield 28, 3) := by decide +kernel
theorem dX0_readFrom_8 : decode cX0_readFrom 8 = .ok (.bipush 60, 2) := by decide +kernel
theorem dX0_readFrom_10 : decode cX0_readFrom 10 = .ok (.if_icmp .le 6, 3) := by decide +kernel
theorem dX0_readFrom_13 : decode cX0_readFrom 13 = .ok (.bipush 60, 2) := by decide +kernel
theorem dX0_readFrom_15 : decode cX0_readFrom 15 = .ok (.ireturn, 1) := by decide +kernel
theorem dX0_readFrom_16 : decode cX0_readFrom 16 = .ok (.aload_n 1, 1) := by decide +kernel
theorem dX0_readFrom_17 : decode cX0_readFrom 17 = .ok (.iconst 0, 1) := by decide +kernel
theorem dX0_readFrom_18 : decode cX0_readFrom 18 = .ok (.putfield 31, 3) := by decide +kernel
theorem dX0_readFrom_21 : decode cX0_readFrom 21 = .ok (.iconst 0, 1) := by decide +kernel
theorem dX0_readFrom_22 : decode cX0_readFrom 22 = .ok (.istore_n 2, 1) := by decide +kernel
theorem dX0_readFrom_23 : decode cX0_readFrom 23 = .ok (.iload_n 2, 1) := by decide +kernel
theorem dX0_readFrom_24 : decode cX0_readFrom 24 = .ok (.bipush 8, 2) := by decide +kernel
theorem dX0_readFrom_26 : decode cX0_readFrom 26 = .ok (.if_icmp .gt 52, 3) := by decide +kernel
theorem dX0_readFrom_29 : decode cX0_readFrom 29 = .ok (.aload_n 1, 1) := by decide +kernel
theorem dX0_readFrom_30 : decode cX0_readFrom 30 = .ok (.invokevirtual 34, 3) := by decide +kernel
theorem dX0_readFrom_33 : decode cX0_readFrom 33 = .ok (.iload_n 2, 1) := by decide +kernel
theorem dX0_readFrom_34 : decode cX0_readFrom 34 = .ok (.ifCond .le 12, 3) := by decide +kernel
theorem dX0_readFrom_37 : decode cX0_readFrom 37 = .ok (.aload_n 1, 1) := by decide +kernel
theorem dX0_readFrom_38 : decode cX0_readFrom 38 = .ok (.invokevirtual 37, 3) := by decide +kernel
theorem dX0_readFrom_41 : decode cX0_readFrom 41 = .ok (.ifCond .eq 5, 3) := by decide +kernel
theorem dX0_readFrom_44 : decode cX0_readFrom 44 = .ok (.iconst (-1), 1) := by decide +kernel
theorem dX0_readFrom_45 : decode cX0_readFrom 45 = .ok (.ireturn, 1) := by decide +kernel
theorem dX0_readFrom_46 : decode cX0_readFrom 46 = .ok (.iload_n 2, 1) := by decide +kernel
theorem dX0_readFrom_47 : decode cX0_readFrom 47 = .ok (.bipush 8, 2) := by decide +kernel
theorem dX0_readFrom_49 : decode cX0_readFrom 49 = .ok (.if_icmp .ge 11, 3) := by decide +kernel
theorem dX0_readFrom_52 : decode cX0_readFrom 52 = .ok (.aload_n 0, 1) := by decide +kernel
theorem dX0_readFrom_53 : decode cX0_readFrom 53 = .ok (.aload_n 1, 1) := by decide +kernel
theorem dX0_readFrom_54 : decode cX0_readFrom 54 = .ok (.invokevirtual 41, 3) := by decide +kernel
theorem dX0_readFrom_57 : decode cX0_readFrom 57 = .ok (.goto 7, 3) := by decide +kernel
theorem dX0_readFrom_60 : decode cX0_readFrom 60 = .ok (.aload_n 1, 1) := by decide +kernel
theorem dX0_readFrom_61 : decode cX0_readFrom 61 = .ok (.getfield 31, 3) := by decide +kernel
theorem dX0_readFrom_64 : decode cX0_readFrom 64 = .ok (.istore_n 3, 1) := by decide +kernel
theorem dX0_readFrom_65 : decode cX0_readFrom 65 = .ok (.iload_n 3, 1) := by decide +kernel
theorem dX0_readFrom_66 : decode cX0_readFrom 66 = .ok (.iconst (-1), 1) := by decide +kernel
theorem dX0_readFrom_67 : decode cX0_readFrom 67 = .ok (.if_icmp .eq 5, 3) := by decide +kernel
theorem dX0_readFrom_70 : decode cX0_readFrom 70 = .ok (.iload_n 3, 1) := by decide +kernel
theorem dX0_readFrom_71 : decode cX0_readFrom 71 = .ok (.ireturn, 1) := by decide +kernel
theorem dX0_readFrom_72 : decode cX0_readFrom 72 = .ok (.iinc 2 1, 3) := by decide +kernel
theorem dX0_readFrom_75 : decode cX0_readFrom 75 = .ok (.goto (-52), 3) := by decide +kernel
theorem dX0_readFrom_78 : decode cX0_readFrom 78 = .ok (.aload_n 1, 1) := by decide +kernel
theorem dX0_readFrom_79 : decode cX0_readFrom 79 = .ok (.getfield 31, 3) := by decide +kernel
theorem dX0_readFrom_82 : decode cX0_readFrom 82 = .ok (.ireturn, 1) := by decide +kernel
theorem dX0_readPart_0 : decode cX0_readPart 0 = .ok (.aload_n 1, 1) := by decide +kernel
theorem dX0_readPart_1 : decode cX0_readPart 1 = .ok (.invokevirtual 45, 3) := by decide +kernel
theorem dX0_readPart_4 : decode cX0_readPart 4 = .ok (.bipush 119, 2) := by decide +kernel
theorem dX0_readPart_6 : decode cX0_readPart 6 = .ok (.if_icmp .ne 7, 3) := by decide +kernel
theorem dX0_readPart_9 : decode cX0_readPart 9 = .ok (.iconst 1, 1) := by decide +kernel
theorem dX0_readPart_10 : decode cX0_readPart 10 = .ok (.goto 4, 3) := by decide +kernel
theorem dX0_readPart_13 : decode cX0_readPart 13 = .ok (.iconst 0, 1) := by decide +kernel
theorem dX0_readPart_14 : decode cX0_readPart 14 = .ok (.istore_n 2, 1) := by decide +kernel
theorem dX0_readPart_15 : decode cX0_readPart 15 = .ok (.iload_n 2, 1) := by decide +kernel
theorem dX0_readPart_16 : decode cX0_readPart 16 = .ok (.ifCond .ne 17, 3) := by decide +kernel
theorem dX0_readPart_19 : decode cX0_readPart 19 = .ok (.aload_n 1, 1) := by decide +kernel
theorem dX0_readPart_20 : decode cX0_readPart 20 = .ok (.invokevirtual 45, 3) := by decide +kernel
theorem dX0_readPart_23 : decode cX0_readPart 23 = .ok (.bipush 114, 2) := by decide +kernel
theorem dX0_readPart_25 : decode cX0_readPart 25 = .ok (.if_icmp .eq 8, 3) := by decide +kernel
theorem dX0_readPart_28 : decode cX0_readPart 28 = .ok (.aload_n 1, 1) := by decide +kernel
theorem dX0_readPart_29 : decode cX0_readPart 29 = .ok (.getfield 31, 3) := by decide +kernel
theorem dX0_readPart_32 : decode cX0_readPart 32 = .ok (.ireturn, 1) := by decide +kernel
theorem dX0_readPart_33 : decode cX0_readPart 33 = .ok (.aload_n 1, 1) := by decide +kernel
theorem dX0_readPart_34 : decode cX0_readPart 34 = .ok (.dup, 1) := by decide +kernel
theorem dX0_readPart_35 : decode cX0_readPart 35 = .ok (.getfield 31, 3) := by decide +kernel
theorem dX0_readPart_38 : decode cX0_readPart 38 = .ok (.iconst 1, 1) := by decide +kernel
theorem dX0_readPart_39 : decode cX0_readPart 39 = .ok (.iadd, 1) := by decide +kernel
theorem dX0_readPart_40 : decode cX0_readPart 40 = .ok (.putfield 31, 3) := by decide +kernel
theorem dX0_readPart_43 : decode cX0_readPart 43 = .ok (.aload_n 1, 1) := by decide +kernel
theorem dX0_readPart_44 : decode cX0_readPart 44 = .ok (.invokevirtual 34, 3) := by decide +kernel
theorem dX0_readPart_47 : decode cX0_readPart 47 = .ok (.aload_n 1, 1) := by decide +kernel
theorem dX0_readPart_48 : decode cX0_readPart 48 = .ok (.getfield 31, 3) := by decide +kernel
theorem dX0_readPart_51 : decode cX0_readPart 51 = .ok (.istore_n 3, 1) := by decide +kernel
theorem dX0_readPart_52 : decode cX0_readPart 52 = .ok (.aload_n 1, 1) := by decide +kernel
theorem dX0_readPart_53 : decode cX0_readPart 53 = .ok (.invokevirtual 49, 3) := by decide +kernel
theorem dX0_readPart_56 : decode cX0_readPart 56 = .ok (.ifCond .ne 5, 3) := by decide +kernel
theorem dX0_readPart_59 : decode cX0_readPart 59 = .ok (.iload_n 3, 1) := by decide +kernel
theorem dX0_readPart_60 : decode cX0_readPart 60 = .ok (.ireturn, 1) := by decide +kernel
theorem dX0_readPart_61 : decode cX0_readPart 61 = .ok (.aload_n 1, 1) := by decide +kernel
theorem dX0_readPart_62 : decode cX0_readPart 62 = .ok (.sipush 999, 3) := by decide +kernel
theorem dX0_readPart_65 : decode cX0_readPart 65 = .ok (.invokevirtual 52, 3) := by decide +kernel
theorem dX0_readPart_68 : decode cX0_readPart 68 = .ok (.istore 4, 2) := by decide +kernel
theorem dX0_readPart_70 : decode cX0_readPart 70 = .ok (.iload 4, 2) := by decide +kernel
theorem dX0_readPart_72 : decode cX0_readPart 72 = .ok (.sipush 999, 3) := by decide +kernel
theorem dX0_readPart_75 : decode cX0_readPart 75 = .ok (.if_icmp .le 5, 3) := by decide +kernel
theorem dX0_readPart_78 : decode cX0_readPart 78 = .ok (.iload_n 3, 1) := by decide +kernel
theorem dX0_readPart_79 : decode cX0_readPart 79 = .ok (.ireturn, 1) := by decide +kernel
theorem dX0_readPart_80 : decode cX0_readPart 80 = .ok (.aload_n 0, 1) := by decide +kernel
theorem dX0_readPart_81 : decode cX0_readPart 81 = .ok (.iload 4, 2) := by decide +kernel
theorem dX0_readPart_83 : decode cX0_readPart 83 = .ok (.iload_n 2, 1) := by decide +kernel
theorem dX0_readPart_84 : decode cX0_readPart 84 = .ok (.invokevirtual 56, 3) := by decide +kernel
theorem dX0_readPart_87 : decode cX0_readPart 87 = .ok (.iconst (-1), 1) := by decide +kernel
theorem dX0_readPart_88 : decode cX0_readPart 88 = .ok (.ireturn, 1) := by decide +kernel
theorem dX1_init_0 : decode cX1_init 0 = .ok (.aload_n 0, 1) := by decide +kernel
theorem dX1_init_1 : decode cX1_init 1 = .ok (.invokespecial 3, 3) := by decide +kernel
theorem dX1_init_4 : decode cX1_init 4 = .ok (.aload_n 0, 1) := by decide +kernel
theorem dX1_init_5 : decode cX1_init 5 = .ok (.bipush 8, 2) := by decide +kernel
theorem dX1_init_7 : decode cX1_init 7 = .ok (.newarray .int, 2) := by decide +kernel
theorem dX1_init_9 : decode cX1_init 9 = .ok (.putfield 11, 3) := by decide +kernel
theorem dX1_init_12 : decode cX1_init 12 = .ok (.aload_n 0, 1) := by decide +kernel
theorem dX1_init_13 : decode cX1_init 13 = .ok (.iconst 5, 1) := by decide +kernel
theorem dX1_init_14 : decode cX1_init 14 = .ok (.newarray .int, 2) := by decide +kernel
theorem dX1_init_16 : decode cX1_init 16 = .ok (.putfield 15, 3) := by decide +kernel
theorem dX1_init_19 : decode cX1_init 19 = .ok (.aload_n 0, 1) := by decide +kernel
theorem dX1_init_20 : decode cX1_init 20 = .ok (.bipush 8, 2) := by decide +kernel
theorem dX1_init_22 : decode cX1_init 22 = .ok (.newarray .int, 2) := by decide +kernel
theorem dX1_init_24 : decode cX1_init 24 = .ok (.putfield 18, 3) := by decide +kernel
theorem dX1_init_27 : decode cX1_init 27 = .ok (.aload_n 0, 1) := by decide +kernel
theorem dX1_init_28 : decode cX1_init 28 = .ok (.iconst 0, 1) := by decide +kernel
theorem dX1_init_29 : decode cX1_init 29 = .ok (.putfield 21, 3) := by decide +kernel
theorem dX1_init_32 : decode cX1_init 32 = .ok (.aload_n 0, 1) := by decide +kernel
theorem dX1_init_33 : decode cX1_init 33 = .ok (.iconst 0, 1) := by decide +kernel
theorem dX1_init_34 : decode cX1_init 34 = .ok (.putfield 25, 3) := by decide +kernel
theorem dX1_init_37 : decode cX1_init 37 = .ok (.return_, 1) := by decide +kernel
theorem dX1_lengthOf_0 : decode cX1_lengthOf 0 = .ok (.iload_n 1, 1) := by decide +kernel
theorem dX1_lengthOf_1 : decode cX1_lengthOf 1 = .ok (.ifCond .ne 10, 3) := by decide +kernel
theorem dX1_lengthOf_4 : decode cX1_lengthOf 4 = .ok (.aload_n 0, 1) := by decide +kernel
theorem dX1_lengthOf_5 : decode cX1_lengthOf 5 = .ok (.getfield 21, 3) := by decide +kernel
theorem dX1_lengthOf_8 : decode cX1_lengthOf 8 = .ok (.goto 7, 3) := by decide +kernel
theorem dX1_lengthOf_11 : decode cX1_lengthOf 11 = .ok (.aload_n 0, 1) := by decide +kernel
theorem dX1_lengthOf_12 : decode cX1_lengthOf 12 = .ok (.getfield 25, 3) := by decide +kernel
theorem dX1_lengthOf_15 : decode cX1_lengthOf 15 = .ok (.ireturn, 1) := by decide +kernel
theorem dX1_readFrom_0 : decode cX1_readFrom 0 = .ok (.aload_n 1, 1) := by decide +kernel
theorem dX1_readFrom_1 : decode cX1_readFrom 1 = .ok (.getfield 28, 3) := by decide +kernel
theorem dX1_readFrom_4 : decode cX1_readFrom 4 = .ok (.bipush 80, 2) := by decide +kernel
theorem dX1_readFrom_6 : decode cX1_readFrom 6 = .ok (.if_icmp .le 6, 3) := by decide +kernel
theorem dX1_readFrom_9 : decode cX1_readFrom 9 = .ok (.bipush 80, 2) := by decide +kernel
theorem dX1_readFrom_11 : decode cX1_readFrom 11 = .ok (.ireturn, 1) := by decide +kernel
theorem dX1_readFrom_12 : decode cX1_readFrom 12 = .ok (.iload_n 2, 1) := by decide +kernel
theorem dX1_readFrom_13 : decode cX1_readFrom 13 = .ok (.ifCond .ne 8, 3) := by decide +kernel
theorem dX1_readFrom_16 : decode cX1_readFrom 16 = .ok (.bipush 8, 2) := by decide +kernel
theorem dX1_readFrom_18 : decode cX1_readFrom 18 = .ok (.goto 4, 3) := by decide +kernel
theorem dX1_readFrom_21 : decode cX1_readFrom 21 = .ok (.iconst 5, 1) := by decide +kernel
theorem dX1_readFrom_22 : decode cX1_readFrom 22 = .ok (.istore_n 3, 1) := by decide +kernel
theorem dX1_readFrom_23 : decode cX1_readFrom 23 = .ok (.aload_n 1, 1) := by decide +kernel
theorem dX1_readFrom_24 : decode cX1_readFrom 24 = .ok (.iconst 0, 1) := by decide +kernel
theorem dX1_readFrom_25 : decode cX1_readFrom 25 = .ok (.putfield 33, 3) := by decide +kernel
theorem dX1_readFrom_28 : decode cX1_readFrom 28 = .ok (.iconst 0, 1) := by decide +kernel
theorem dX1_readFrom_29 : decode cX1_readFrom 29 = .ok (.istore 4, 2) := by decide +kernel
theorem dX1_readFrom_31 : decode cX1_readFrom 31 = .ok (.iload 4, 2) := by decide +kernel
theorem dX1_readFrom_33 : decode cX1_readFrom 33 = .ok (.iload_n 3, 1) := by decide +kernel
theorem dX1_readFrom_34 : decode cX1_readFrom 34 = .ok (.if_icmp .gt 61, 3) := by decide +kernel
theorem dX1_readFrom_37 : decode cX1_readFrom 37 = .ok (.aload_n 1, 1) := by decide +kernel
theorem dX1_readFrom_38 : decode cX1_readFrom 38 = .ok (.invokevirtual 36, 3) := by decide +kernel
theorem dX1_readFrom_41 : decode cX1_readFrom 41 = .ok (.aload_n 1, 1) := by decide +kernel
theorem dX1_readFrom_42 : decode cX1_readFrom 42 = .ok (.invokevirtual 39, 3) := by decide +kernel
theorem dX1_readFrom_45 : decode cX1_readFrom 45 = .ok (.ifCond .eq 12, 3) := by decide +kernel
theorem dX1_readFrom_48 : decode cX1_readFrom 48 = .ok (.aload_n 0, 1) := by decide +kernel
theorem dX1_readFrom_49 : decode cX1_readFrom 49 = .ok (.iload_n 2, 1) := by decide +kernel
theorem dX1_readFrom_50 : decode cX1_readFrom 50 = .ok (.iload 4, 2) := by decide +kernel
theorem dX1_readFrom_52 : decode cX1_readFrom 52 = .ok (.invokevirtual 43, 3) := by decide +kernel
theorem dX1_readFrom_55 : decode cX1_readFrom 55 = .ok (.iconst (-1), 1) := by decide +kernel
theorem dX1_readFrom_56 : decode cX1_readFrom 56 = .ok (.ireturn, 1) := by decide +kernel
theorem dX1_readFrom_57 : decode cX1_readFrom 57 = .ok (.iload 4, 2) := by decide +kernel
theorem dX1_readFrom_59 : decode cX1_readFrom 59 = .ok (.iload_n 3, 1) := by decide +kernel
theorem dX1_readFrom_60 : decode cX1_readFrom 60 = .ok (.if_icmp .ge 14, 3) := by decide +kernel
theorem dX1_readFrom_63 : decode cX1_readFrom 63 = .ok (.aload_n 0, 1) := by decide +kernel
theorem dX1_readFrom_64 : decode cX1_readFrom 64 = .ok (.aload_n 1, 1) := by decide +kernel
theorem dX1_readFrom_65 : decode cX1_readFrom 65 = .ok (.iload_n 2, 1) := by decide +kernel
theorem dX1_readFrom_66 : decode cX1_readFrom 66 = .ok (.iload 4, 2) := by decide +kernel
theorem dX1_readFrom_68 : decode cX1_readFrom 68 = .ok (.invokevirtual 47, 3) := by decide +kernel
theorem dX1_readFrom_71 : decode cX1_readFrom 71 = .ok (.goto 7, 3) := by decide +kernel
theorem dX1_readFrom_74 : decode cX1_readFrom 74 = .ok (.aload_n 1, 1) := by decide +kernel
theorem dX1_readFrom_75 : decode cX1_readFrom 75 = .ok (.getfield 33, 3) := by decide +kernel
theorem dX1_readFrom_78 : decode cX1_readFrom 78 = .ok (.istore 5, 2) := by decide +kernel
theorem dX1_readFrom_80 : decode cX1_readFrom 80 = .ok (.iload 5, 2) := by decide +kernel
theorem dX1_readFrom_82 : decode cX1_readFrom 82 = .ok (.iconst (-1), 1) := by decide +kernel
theorem dX1_readFrom_83 : decode cX1_readFrom 83 = .ok (.if_icmp .eq 6, 3) := by decide +kernel
theorem dX1_readFrom_86 : decode cX1_readFrom 86 = .ok (.iload 5, 2) := by decide +kernel
theorem dX1_readFrom_88 : decode cX1_readFrom 88 = .ok (.ireturn, 1) := by decide +kernel
theorem dX1_readFrom_89 : decode cX1_readFrom 89 = .ok (.iinc 4 1, 3) := by decide +kernel
theorem dX1_readFrom_92 : decode cX1_readFrom 92 = .ok (.goto (-61), 3) := by decide +kernel
theorem dX1_readFrom_95 : decode cX1_readFrom 95 = .ok (.aload_n 1, 1) := by decide +kernel
theorem dX1_readFrom_96 : decode cX1_readFrom 96 = .ok (.getfield 33, 3) := by decide +kernel
theorem dX1_readFrom_99 : decode cX1_readFrom 99 = .ok (.ireturn, 1) := by decide +kernel
theorem dX1_readStep_0 : decode cX1_readStep 0 = .ok (.aload_n 1, 1) := by decide +kernel
theorem dX1_readStep_1 : decode cX1_readStep 1 = .ok (.getfield 33, 3) := by decide +kernel
theorem dX1_readStep_4 : decode cX1_readStep 4 = .ok (.istore 4, 2) := by decide +kernel
theorem dX1_readStep_6 : decode cX1_readStep 6 = .ok (.aload_n 1, 1) := by decide +kernel
theorem dX1_readStep_7 : decode cX1_readStep 7 = .ok (.invokevirtual 51, 3) := by decide +kernel
theorem dX1_readStep_10 : decode cX1_readStep 10 = .ok (.iload_n 2, 1) := by decide +kernel
theorem dX1_readStep_11 : decode cX1_readStep 11 = .ok (.ifCond .ne 12, 3) := by decide +kernel
theorem dX1_readStep_14 : decode cX1_readStep 14 = .ok (.aload_n 1, 1) := by decide +kernel
theorem dX1_readStep_15 : decode cX1_readStep 15 = .ok (.iload 4, 2) := by decide +kernel
theorem dX1_readStep_17 : decode cX1_readStep 17 = .ok (.invokestatic 54, 3) := by decide +kernel
theorem dX1_readStep_20 : decode cX1_readStep 20 = .ok (.goto 9, 3) := by decide +kernel
theorem dX1_readStep_23 : decode cX1_readStep 23 = .ok (.aload_n 1, 1) := by decide +kernel
theorem dX1_readStep_24 : decode cX1_readStep 24 = .ok (.iload 4, 2) := by decide +kernel
theorem dX1_readStep_26 : decode cX1_readStep 26 = .ok (.invokestatic 58, 3) := by decide +kernel
theorem dX1_readStep_29 : decode cX1_readStep 29 = .ok (.istore 5, 2) := by decide +kernel
theorem dX1_readStep_31 : decode cX1_readStep 31 = .ok (.iload 5, 2) := by decide +kernel
theorem dX1_readStep_33 : decode cX1_readStep 33 = .ok (.iconst (-1), 1) := by decide +kernel
theorem dX1_readStep_34 : decode cX1_readStep 34 = .ok (.if_icmp .eq 16, 3) := by decide +kernel
theorem dX1_readStep_37 : decode cX1_readStep 37 = .ok (.iload_n 3, 1) := by decide +kernel
theorem dX1_readStep_38 : decode cX1_readStep 38 = .ok (.ifCond .lt 12, 3) := by decide +kernel
theorem dX1_readStep_41 : decode cX1_readStep 41 = .ok (.iload_n 3, 1) := by decide +kernel
theorem dX1_readStep_42 : decode cX1_readStep 42 = .ok (.aload_n 0, 1) := by decide +kernel
theorem dX1_readStep_43 : decode cX1_readStep 43 = .ok (.getfield 18, 3) := by decide +kernel
theorem dX1_readStep_46 : decode cX1_readStep 46 = .ok (.arraylength, 1) := by decide +kernel
theorem dX1_readStep_47 : decode cX1_readStep 47 = .ok (.if_icmp .lt 6, 3) := by decide +kernel
theorem dX1_readStep_50 : decode cX1_readStep 50 = .ok (.iload 4, 2) := by decide +kernel
theorem dX1_readStep_52 : decode cX1_readStep 52 = .ok (.ireturn, 1) := by decide +kernel
theorem dX1_readStep_53 : decode cX1_readStep 53 = .ok (.aload_n 0, 1) := by decide +kernel
theorem dX1_readStep_54 : decode cX1_readStep 54 = .ok (.getfield 18, 3) := by decide +kernel
theorem dX1_readStep_57 : decode cX1_readStep 57 = .ok (.iload_n 3, 1) := by decide +kernel
theorem dX1_readStep_58 : decode cX1_readStep 58 = .ok (.iload 5, 2) := by decide +kernel
theorem dX1_readStep_60 : decode cX1_readStep 60 = .ok (.iastore, 1) := by decide +kernel
theorem dX1_readStep_61 : decode cX1_readStep 61 = .ok (.aload_n 1, 1) := by decide +kernel
theorem dX1_readStep_62 : decode cX1_readStep 62 = .ok (.invokevirtual 36, 3) := by decide +kernel
theorem dX1_readStep_65 : decode cX1_readStep 65 = .ok (.aload_n 1, 1) := by decide +kernel
theorem dX1_readStep_66 : decode cX1_readStep 66 = .ok (.invokevirtual 61, 3) := by decide +kernel
theorem dX1_readStep_69 : decode cX1_readStep 69 = .ok (.bipush 59, 2) := by decide +kernel
theorem dX1_readStep_71 : decode cX1_readStep 71 = .ok (.if_icmp .eq 8, 3) := by decide +kernel
theorem dX1_readStep_74 : decode cX1_readStep 74 = .ok (.aload_n 1, 1) := by decide +kernel
theorem dX1_readStep_75 : decode cX1_readStep 75 = .ok (.getfield 33, 3) := by decide +kernel
theorem dX1_readStep_78 : decode cX1_readStep 78 = .ok (.ireturn, 1) := by decide +kernel
theorem dX1_readStep_79 : decode cX1_readStep 79 = .ok (.aload_n 1, 1) := by decide +kernel
theorem dX1_readStep_80 : decode cX1_readStep 80 = .ok (.dup, 1) := by decide +kernel
theorem dX1_readStep_81 : decode cX1_readStep 81 = .ok (.getfield 33, 3) := by decide +kernel
theorem dX1_readStep_84 : decode cX1_readStep 84 = .ok (.iconst 1, 1) := by decide +kernel
theorem dX1_readStep_85 : decode cX1_readStep 85 = .ok (.iadd, 1) := by decide +kernel
theorem dX1_readStep_86 : decode cX1_readStep 86 = .ok (.putfield 33, 3) := by decide +kernel
theorem dX1_readStep_89 : decode cX1_readStep 89 = .ok (.iconst (-1), 1) := by decide +kernel
theorem dX1_readStep_90 : decode cX1_readStep 90 = .ok (.ireturn, 1) := by decide +kernel
theorem dX1_driverStep_0 : decode cX1_driverStep 0 = .ok (.aload_n 0, 1) := by decide +kernel
theorem dX1_driverStep_1 : decode cX1_driverStep 1 = .ok (.getfield 33, 3) := by decide +kernel
theorem dX1_driverStep_4 : decode cX1_driverStep 4 = .ok (.istore_n 2, 1) := by decide +kernel
theorem dX1_driverStep_5 : decode cX1_driverStep 5 = .ok (.aload_n 0, 1) := by decide +kernel
theorem dX1_driverStep_6 : decode cX1_driverStep 6 = .ok (.iload_n 1, 1) := by decide +kernel
theorem dX1_driverStep_7 : decode cX1_driverStep 7 = .ok (.iload_n 2, 1) := by decide +kernel
theorem dX1_driverStep_8 : decode cX1_driverStep 8 = .ok (.ldc 65, 2) := by decide +kernel
theorem dX1_driverStep_10 : decode cX1_driverStep 10 = .ok (.invokevirtual 67, 3) := by decide +kernel
theorem dX1_driverStep_13 : decode cX1_driverStep 13 = .ok (.ifCond .eq 5, 3) := by decide +kernel
theorem dX1_driverStep_16 : decode cX1_driverStep 16 = .ok (.iconst 1, 1) := by decide +kernel
theorem dX1_driverStep_17 : decode cX1_driverStep 17 = .ok (.ireturn, 1) := by decide +kernel
theorem dX1_driverStep_18 : decode cX1_driverStep 18 = .ok (.aload_n 0, 1) := by decide +kernel
theorem dX1_driverStep_19 : decode cX1_driverStep 19 = .ok (.iload_n 1, 1) := by decide +kernel
theorem dX1_driverStep_20 : decode cX1_driverStep 20 = .ok (.iload_n 2, 1) := by decide +kernel
theorem dX1_driverStep_21 : decode cX1_driverStep 21 = .ok (.ldc 71, 2) := by decide +kernel
theorem dX1_driverStep_23 : decode cX1_driverStep 23 = .ok (.invokevirtual 67, 3) := by decide +kernel
theorem dX1_driverStep_26 : decode cX1_driverStep 26 = .ok (.ifCond .eq 5, 3) := by decide +kernel
theorem dX1_driverStep_29 : decode cX1_driverStep 29 = .ok (.iconst 2, 1) := by decide +kernel
theorem dX1_driverStep_30 : decode cX1_driverStep 30 = .ok (.ireturn, 1) := by decide +kernel
theorem dX1_driverStep_31 : decode cX1_driverStep 31 = .ok (.aload_n 0, 1) := by decide +kernel
theorem dX1_driverStep_32 : decode cX1_driverStep 32 = .ok (.iload_n 1, 1) := by decide +kernel
theorem dX1_driverStep_33 : decode cX1_driverStep 33 = .ok (.iload_n 2, 1) := by decide +kernel
theorem dX1_driverStep_34 : decode cX1_driverStep 34 = .ok (.ldc 73, 2) := by decide +kernel
theorem dX1_driverStep_36 : decode cX1_driverStep 36 = .ok (.invokevirtual 67, 3) := by decide +kernel
theorem dX1_driverStep_39 : decode cX1_driverStep 39 = .ok (.ifCond .eq 5, 3) := by decide +kernel
theorem dX1_driverStep_42 : decode cX1_driverStep 42 = .ok (.iconst 3, 1) := by decide +kernel
theorem dX1_driverStep_43 : decode cX1_driverStep 43 = .ok (.ireturn, 1) := by decide +kernel
theorem dX1_driverStep_44 : decode cX1_driverStep 44 = .ok (.aload_n 0, 1) := by decide +kernel
theorem dX1_driverStep_45 : decode cX1_driverStep 45 = .ok (.iload_n 1, 1) := by decide +kernel
theorem dX1_driverStep_46 : decode cX1_driverStep 46 = .ok (.iload_n 2, 1) := by decide +kernel
theorem dX1_driverStep_47 : decode cX1_driverStep 47 = .ok (.ldc 75, 2) := by decide +kernel
theorem dX1_driverStep_49 : decode cX1_driverStep 49 = .ok (.invokevirtual 67, 3) := by decide +kernel
theorem dX1_driverStep_52 : decode cX1_driverStep 52 = .ok (.ifCond .eq 7, 3) := by decide +kernel
theorem dX1_driverStep_55 : decode cX1_driverStep 55 = .ok (.iconst 4, 1) := by decide +kernel
theorem dX1_driverStep_56 : decode cX1_driverStep 56 = .ok (.goto 4, 3) := by decide +kernel
theorem dX1_driverStep_59 : decode cX1_driverStep 59 = .ok (.iconst (-1), 1) := by decide +kernel
theorem dX1_driverStep_60 : decode cX1_driverStep 60 = .ok (.ireturn, 1) := by decide +kernel
theorem dX1_deviceStep_0 : decode cX1_deviceStep 0 = .ok (.aload_n 0, 1) := by decide +kernel
theorem dX1_deviceStep_1 : decode cX1_deviceStep 1 = .ok (.getfield 33, 3) := by decide +kernel
theorem dX1_deviceStep_4 : decode cX1_deviceStep 4 = .ok (.istore_n 2, 1) := by decide +kernel
theorem dX1_deviceStep_5 : decode cX1_deviceStep 5 = .ok (.aload_n 0, 1) := by decide +kernel
theorem dX1_deviceStep_6 : decode cX1_deviceStep 6 = .ok (.iload_n 1, 1) := by decide +kernel
theorem dX1_deviceStep_7 : decode cX1_deviceStep 7 = .ok (.iload_n 2, 1) := by decide +kernel
theorem dX1_deviceStep_8 : decode cX1_deviceStep 8 = .ok (.ldc 77, 2) := by decide +kernel
theorem dX1_deviceStep_10 : decode cX1_deviceStep 10 = .ok (.invokevirtual 67, 3) := by decide +kernel
theorem dX1_deviceStep_13 : decode cX1_deviceStep 13 = .ok (.ifCond .eq 5, 3) := by decide +kernel
theorem dX1_deviceStep_16 : decode cX1_deviceStep 16 = .ok (.iconst 5, 1) := by decide +kernel
theorem dX1_deviceStep_17 : decode cX1_deviceStep 17 = .ok (.ireturn, 1) := by decide +kernel
theorem dX1_deviceStep_18 : decode cX1_deviceStep 18 = .ok (.aload_n 0, 1) := by decide +kernel
theorem dX1_deviceStep_19 : decode cX1_deviceStep 19 = .ok (.iload_n 1, 1) := by decide +kernel
theorem dX1_deviceStep_20 : decode cX1_deviceStep 20 = .ok (.iload_n 2, 1) := by decide +kernel
theorem dX1_deviceStep_21 : decode cX1_deviceStep 21 = .ok (.ldc 79, 2) := by decide +kernel
theorem dX1_deviceStep_23 : decode cX1_deviceStep 23 = .ok (.invokevirtual 67, 3) := by decide +kernel
theorem dX1_deviceStep_26 : decode cX1_deviceStep 26 = .ok (.ifCond .eq 6, 3) := by decide +kernel
theorem dX1_deviceStep_29 : decode cX1_deviceStep 29 = .ok (.bipush 6, 2) := by decide +kernel
theorem dX1_deviceStep_31 : decode cX1_deviceStep 31 = .ok (.ireturn, 1) := by decide +kernel
theorem dX1_deviceStep_32 : decode cX1_deviceStep 32 = .ok (.aload_n 0, 1) := by decide +kernel
theorem dX1_deviceStep_33 : decode cX1_deviceStep 33 = .ok (.iload_n 1, 1) := by decide +kernel
theorem dX1_deviceStep_34 : decode cX1_deviceStep 34 = .ok (.iload_n 2, 1) := by decide +kernel
theorem dX1_deviceStep_35 : decode cX1_deviceStep 35 = .ok (.ldc 81, 2) := by decide +kernel
theorem dX1_deviceStep_37 : decode cX1_deviceStep 37 = .ok (.invokevirtual 67, 3) := by decide +kernel
theorem dX1_deviceStep_40 : decode cX1_deviceStep 40 = .ok (.ifCond .eq 6, 3) := by decide +kernel
theorem dX1_deviceStep_43 : decode cX1_deviceStep 43 = .ok (.bipush 7, 2) := by decide +kernel
theorem dX1_deviceStep_45 : decode cX1_deviceStep 45 = .ok (.ireturn, 1) := by decide +kernel
theorem dX1_deviceStep_46 : decode cX1_deviceStep 46 = .ok (.aload_n 0, 1) := by decide +kernel
theorem dX1_deviceStep_47 : decode cX1_deviceStep 47 = .ok (.iload_n 1, 1) := by decide +kernel
theorem dX1_deviceStep_48 : decode cX1_deviceStep 48 = .ok (.iload_n 2, 1) := by decide +kernel
theorem dX1_deviceStep_49 : decode cX1_deviceStep 49 = .ok (.ldc 83, 2) := by decide +kernel
theorem dX1_deviceStep_51 : decode cX1_deviceStep 51 = .ok (.invokevirtual 67, 3) := by decide +kernel
theorem dX1_deviceStep_54 : decode cX1_deviceStep 54 = .ok (.ifCond .eq 8, 3) := by decide +kernel
theorem dX1_deviceStep_57 : decode cX1_deviceStep 57 = .ok (.bipush 8, 2) := by decide +kernel
theorem dX1_deviceStep_59 : decode cX1_deviceStep 59 = .ok (.goto 4, 3) := by decide +kernel
theorem dX1_deviceStep_62 : decode cX1_deviceStep 62 = .ok (.iconst (-1), 1) := by decide +kernel
theorem dX1_deviceStep_63 : decode cX1_deviceStep 63 = .ok (.ireturn, 1) := by decide +kernel
theorem dX1_take_0 : decode cX1_take 0 = .ok (.iload_n 1, 1) := by decide +kernel
theorem dX1_take_1 : decode cX1_take 1 = .ok (.ifCond .ne 30, 3) := by decide +kernel
theorem dX1_take_4 : decode cX1_take 4 = .ok (.aload_n 0, 1) := by decide +kernel
theorem dX1_take_5 : decode cX1_take 5 = .ok (.getfield 18, 3) := by decide +kernel
theorem dX1_take_8 : decode cX1_take 8 = .ok (.iconst 0, 1) := by decide +kernel
theorem dX1_take_9 : decode cX1_take 9 = .ok (.aload_n 0, 1) := by decide +kernel
theorem dX1_take_10 : decode cX1_take 10 = .ok (.getfield 11, 3) := by decide +kernel
theorem dX1_take_13 : decode cX1_take 13 = .ok (.iconst 0, 1) := by decide +kernel
theorem dX1_take_14 : decode cX1_take 14 = .ok (.iload_n 2, 1) := by decide +kernel
theorem dX1_take_15 : decode cX1_take 15 = .ok (.bipush 8, 2) := by decide +kernel
theorem dX1_take_17 : decode cX1_take 17 = .ok (.invokestatic 85, 3) := by decide +kernel
theorem dX1_take_20 : decode cX1_take 20 = .ok (.invokestatic 91, 3) := by decide +kernel
theorem dX1_take_23 : decode cX1_take 23 = .ok (.aload_n 0, 1) := by decide +kernel
theorem dX1_take_24 : decode cX1_take 24 = .ok (.iload_n 2, 1) := by decide +kernel
theorem dX1_take_25 : decode cX1_take 25 = .ok (.putfield 21, 3) := by decide +kernel
theorem dX1_take_28 : decode cX1_take 28 = .ok (.goto 26, 3) := by decide +kernel
theorem dX1_take_31 : decode cX1_take 31 = .ok (.aload_n 0, 1) := by decide +kernel
theorem dX1_take_32 : decode cX1_take 32 = .ok (.getfield 18, 3) := by decide +kernel
theorem dX1_take_35 : decode cX1_take 35 = .ok (.iconst 0, 1) := by decide +kernel
theorem dX1_take_36 : decode cX1_take 36 = .ok (.aload_n 0, 1) := by decide +kernel
theorem dX1_take_37 : decode cX1_take 37 = .ok (.getfield 15, 3) := by decide +kernel
theorem dX1_take_40 : decode cX1_take 40 = .ok (.iconst 0, 1) := by decide +kernel
theorem dX1_take_41 : decode cX1_take 41 = .ok (.iload_n 2, 1) := by decide +kernel
theorem dX1_take_42 : decode cX1_take 42 = .ok (.iconst 5, 1) := by decide +kernel
theorem dX1_take_43 : decode cX1_take 43 = .ok (.invokestatic 85, 3) := by decide +kernel
theorem dX1_take_46 : decode cX1_take 46 = .ok (.invokestatic 91, 3) := by decide +kernel
theorem dX1_take_49 : decode cX1_take 49 = .ok (.aload_n 0, 1) := by decide +kernel
theorem dX1_take_50 : decode cX1_take 50 = .ok (.iload_n 2, 1) := by decide +kernel
theorem dX1_take_51 : decode cX1_take 51 = .ok (.putfield 25, 3) := by decide +kernel
theorem dX1_take_54 : decode cX1_take 54 = .ok (.return_, 1) := by decide +kernel
theorem dX1_go_0 : decode cX1_go 0 = .ok (.iload_n 2, 1) := by decide +kernel
theorem dX1_go_1 : decode cX1_go 1 = .ok (.ifCond .ne 18, 3) := by decide +kernel
theorem dX1_go_4 : decode cX1_go 4 = .ok (.aload_n 0, 1) := by decide +kernel
theorem dX1_go_5 : decode cX1_go 5 = .ok (.aload_n 1, 1) := by decide +kernel
theorem dX1_go_6 : decode cX1_go 6 = .ok (.invokevirtual 97, 3) := by decide +kernel
theorem dX1_go_9 : decode cX1_go 9 = .ok (.ifCond .eq 10, 3) := by decide +kernel
theorem dX1_go_12 : decode cX1_go 12 = .ok (.aload_n 0, 1) := by decide +kernel
theorem dX1_go_13 : decode cX1_go 13 = .ok (.aload_n 1, 1) := by decide +kernel
theorem dX1_go_14 : decode cX1_go 14 = .ok (.invokevirtual 101, 3) := by decide +kernel
theorem dX1_go_17 : decode cX1_go 17 = .ok (.iconst 1, 1) := by decide +kernel
theorem dX1_go_18 : decode cX1_go 18 = .ok (.ireturn, 1) := by decide +kernel
theorem dX1_go_19 : decode cX1_go 19 = .ok (.iload_n 2, 1) := by decide +kernel
theorem dX1_go_20 : decode cX1_go 20 = .ok (.iconst 1, 1) := by decide +kernel
theorem dX1_go_21 : decode cX1_go 21 = .ok (.if_icmp .ne 18, 3) := by decide +kernel
theorem dX1_go_24 : decode cX1_go 24 = .ok (.aload_n 0, 1) := by decide +kernel
theorem dX1_go_25 : decode cX1_go 25 = .ok (.aload_n 1, 1) := by decide +kernel
theorem dX1_go_26 : decode cX1_go 26 = .ok (.invokevirtual 105, 3) := by decide +kernel
theorem dX1_go_29 : decode cX1_go 29 = .ok (.ifCond .eq 10, 3) := by decide +kernel
theorem dX1_go_32 : decode cX1_go 32 = .ok (.aload_n 0, 1) := by decide +kernel
theorem dX1_go_33 : decode cX1_go 33 = .ok (.aload_n 1, 1) := by decide +kernel
theorem dX1_go_34 : decode cX1_go 34 = .ok (.invokevirtual 108, 3) := by decide +kernel
theorem dX1_go_37 : decode cX1_go 37 = .ok (.iconst 1, 1) := by decide +kernel
theorem dX1_go_38 : decode cX1_go 38 = .ok (.ireturn, 1) := by decide +kernel
theorem dX1_go_39 : decode cX1_go 39 = .ok (.iconst 0, 1) := by decide +kernel
theorem dX1_go_40 : decode cX1_go 40 = .ok (.ireturn, 1) := by decide +kernel
theorem dX1_isMissed_0 : decode cX1_isMissed 0 = .ok (.aload_n 0, 1) := by decide +kernel
theorem dX1_isMissed_1 : decode cX1_isMissed 1 = .ok (.aload_n 1, 1) := by decide +kernel
theorem dX1_isMissed_2 : decode cX1_isMissed 2 = .ok (.invokevirtual 111, 3) := by decide +kernel
theorem dX1_isMissed_5 : decode cX1_isMissed 5 = .ok (.ifCond .eq 26, 3) := by decide +kernel
theorem dX1_isMissed_8 : decode cX1_isMissed 8 = .ok (.aload_n 0, 1) := by decide +kernel
theorem dX1_isMissed_9 : decode cX1_isMissed 9 = .ok (.aload_n 1, 1) := by decide +kernel
theorem dX1_isMissed_10 : decode cX1_isMissed 10 = .ok (.invokevirtual 105, 3) := by decide +kernel
theorem dX1_isMissed_13 : decode cX1_isMissed 13 = .ok (.ifCond .ne 18, 3) := by decide +kernel
theorem dX1_isMissed_16 : decode cX1_isMissed 16 = .ok (.aload_n 1, 1) := by decide +kernel
theorem dX1_isMissed_17 : decode cX1_isMissed 17 = .ok (.getfield 114, 3) := by decide +kernel
theorem dX1_isMissed_20 : decode cX1_isMissed 20 = .ok (.aload_n 1, 1) := by decide +kernel
theorem dX1_isMissed_21 : decode cX1_isMissed 21 = .ok (.getfield 119, 3) := by decide +kernel
theorem dX1_isMissed_24 : decode cX1_isMissed 24 = .ok (.if_icmp .eq 7, 3) := by decide +kernel
theorem dX1_isMissed_27 : decode cX1_isMissed 27 = .ok (.iconst 1, 1) := by decide +kernel
theorem dX1_isMissed_28 : decode cX1_isMissed 28 = .ok (.goto 4, 3) := by decide +kernel
theorem dX1_isMissed_31 : decode cX1_isMissed 31 = .ok (.iconst 0, 1) := by decide +kernel
theorem dX1_isMissed_32 : decode cX1_isMissed 32 = .ok (.ireturn, 1) := by decide +kernel
theorem dX1_isDriven_0 : decode cX1_isDriven 0 = .ok (.aload_n 1, 1) := by decide +kernel
theorem dX1_isDriven_1 : decode cX1_isDriven 1 = .ok (.getfield 122, 3) := by decide +kernel
theorem dX1_isDriven_4 : decode cX1_isDriven 4 = .ok (.aload_n 0, 1) := by decide +kernel
theorem dX1_isDriven_5 : decode cX1_isDriven 5 = .ok (.getfield 21, 3) := by decide +kernel
theorem dX1_isDriven_8 : decode cX1_isDriven 8 = .ok (.if_icmp .lt 7, 3) := by decide +kernel
theorem dX1_isDriven_11 : decode cX1_isDriven 11 = .ok (.iconst 1, 1) := by decide +kernel
theorem dX1_isDriven_12 : decode cX1_isDriven 12 = .ok (.goto 4, 3) := by decide +kernel
theorem dX1_isDriven_15 : decode cX1_isDriven 15 = .ok (.iconst 0, 1) := by decide +kernel
theorem dX1_isDriven_16 : decode cX1_isDriven 16 = .ok (.ireturn, 1) := by decide +kernel
theorem dX1_canDrive_0 : decode cX1_canDrive 0 = .ok (.aload_n 1, 1) := by decide +kernel
theorem dX1_canDrive_1 : decode cX1_canDrive 1 = .ok (.getfield 122, 3) := by decide +kernel
theorem dX1_canDrive_4 : decode cX1_canDrive 4 = .ok (.ifCond .lt 27, 3) := by decide +kernel
theorem dX1_canDrive_7 : decode cX1_canDrive 7 = .ok (.aload_n 1, 1) := by decide +kernel
theorem dX1_canDrive_8 : decode cX1_canDrive 8 = .ok (.getfield 122, 3) := by decide +kernel
theorem dX1_canDrive_11 : decode cX1_canDrive 11 = .ok (.aload_n 0, 1) := by decide +kernel
theorem dX1_canDrive_12 : decode cX1_canDrive 12 = .ok (.getfield 21, 3) := by decide +kernel
theorem dX1_canDrive_15 : decode cX1_canDrive 15 = .ok (.if_icmp .ge 16, 3) := by decide +kernel
theorem dX1_canDrive_18 : decode cX1_canDrive 18 = .ok (.aload_n 1, 1) := by decide +kernel
theorem dX1_canDrive_19 : decode cX1_canDrive 19 = .ok (.getfield 122, 3) := by decide +kernel
theorem dX1_canDrive_22 : decode cX1_canDrive 22 = .ok (.bipush 8, 2) := by decide +kernel
theorem dX1_canDrive_24 : decode cX1_canDrive 24 = .ok (.if_icmp .ge 7, 3) := by decide +kernel
theorem dX1_canDrive_27 : decode cX1_canDrive 27 = .ok (.iconst 1, 1) := by decide +kernel
theorem dX1_canDrive_28 : decode cX1_canDrive 28 = .ok (.goto 4, 3) := by decide +kernel
theorem dX1_canDrive_31 : decode cX1_canDrive 31 = .ok (.iconst 0, 1) := by decide +kernel
theorem dX1_canDrive_32 : decode cX1_canDrive 32 = .ok (.ireturn, 1) := by decide +kernel
theorem dX1_canServe_0 : decode cX1_canServe 0 = .ok (.aload_n 1, 1) := by decide +kernel
theorem dX1_canServe_1 : decode cX1_canServe 1 = .ok (.getfield 125, 3) := by decide +kernel
theorem dX1_canServe_4 : decode cX1_canServe 4 = .ok (.ifCond .lt 26, 3) := by decide +kernel
theorem dX1_canServe_7 : decode cX1_canServe 7 = .ok (.aload_n 1, 1) := by decide +kernel
theorem dX1_canServe_8 : decode cX1_canServe 8 = .ok (.getfield 125, 3) := by decide +kernel
theorem dX1_canServe_11 : decode cX1_canServe 11 = .ok (.aload_n 0, 1) := by decide +kernel
theorem dX1_canServe_12 : decode cX1_canServe 12 = .ok (.getfield 25, 3) := by decide +kernel
theorem dX1_canServe_15 : decode cX1_canServe 15 = .ok (.if_icmp .ge 15, 3) := by decide +kernel
theorem dX1_canServe_18 : decode cX1_canServe 18 = .ok (.aload_n 1, 1) := by decide +kernel
theorem dX1_canServe_19 : decode cX1_canServe 19 = .ok (.getfield 125, 3) := by decide +kernel
theorem dX1_canServe_22 : decode cX1_canServe 22 = .ok (.iconst 5, 1) := by decide +kernel
theorem dX1_canServe_23 : decode cX1_canServe 23 = .ok (.if_icmp .ge 7, 3) := by decide +kernel
theorem dX1_canServe_26 : decode cX1_canServe 26 = .ok (.iconst 1, 1) := by decide +kernel
theorem dX1_canServe_27 : decode cX1_canServe 27 = .ok (.goto 4, 3) := by decide +kernel
theorem dX1_canServe_30 : decode cX1_canServe 30 = .ok (.iconst 0, 1) := by decide +kernel
theorem dX1_canServe_31 : decode cX1_canServe 31 = .ok (.istore_n 2, 1) := by decide +kernel
theorem dX1_canServe_32 : decode cX1_canServe 32 = .ok (.iload_n 2, 1) := by decide +kernel
theorem dX1_canServe_33 : decode cX1_canServe 33 = .ok (.ifCond .eq 29, 3) := by decide +kernel
theorem dX1_canServe_36 : decode cX1_canServe 36 = .ok (.aload_n 0, 1) := by decide +kernel
theorem dX1_canServe_37 : decode cX1_canServe 37 = .ok (.getfield 15, 3) := by decide +kernel
theorem dX1_canServe_40 : decode cX1_canServe 40 = .ok (.aload_n 1, 1) := by decide +kernel
theorem dX1_canServe_41 : decode cX1_canServe 41 = .ok (.getfield 125, 3) := by decide +kernel
theorem dX1_canServe_44 : decode cX1_canServe 44 = .ok (.iaload, 1) := by decide +kernel
theorem dX1_canServe_45 : decode cX1_canServe 45 = .ok (.bipush 8, 2) := by decide +kernel
theorem dX1_canServe_47 : decode cX1_canServe 47 = .ok (.if_icmp .ne 11, 3) := by decide +kernel
theorem dX1_canServe_50 : decode cX1_canServe 50 = .ok (.aload_n 1, 1) := by decide +kernel
theorem dX1_canServe_51 : decode cX1_canServe 51 = .ok (.getfield 128, 3) := by decide +kernel
theorem dX1_canServe_54 : decode cX1_canServe 54 = .ok (.iconst 1, 1) := by decide +kernel
theorem dX1_canServe_55 : decode cX1_canServe 55 = .ok (.if_icmp .ne 7, 3) := by decide +kernel
theorem dX1_canServe_58 : decode cX1_canServe 58 = .ok (.iconst 1, 1) := by decide +kernel
theorem dX1_canServe_59 : decode cX1_canServe 59 = .ok (.goto 4, 3) := by decide +kernel
theorem dX1_canServe_62 : decode cX1_canServe 62 = .ok (.iconst 0, 1) := by decide +kernel
theorem dX1_canServe_63 : decode cX1_canServe 63 = .ok (.ireturn, 1) := by decide +kernel
theorem dX1_drive_0 : decode cX1_drive 0 = .ok (.aload_n 0, 1) := by decide +kernel
theorem dX1_drive_1 : decode cX1_drive 1 = .ok (.getfield 11, 3) := by decide +kernel
theorem dX1_drive_4 : decode cX1_drive 4 = .ok (.aload_n 1, 1) := by decide +kernel
theorem dX1_drive_5 : decode cX1_drive 5 = .ok (.getfield 122, 3) := by decide +kernel
theorem dX1_drive_8 : decode cX1_drive 8 = .ok (.iaload, 1) := by decide +kernel
theorem dX1_drive_9 : decode cX1_drive 9 = .ok (.tableswitch 86 1 3 #[27, 40, 51], 27) := by decide +kernel
theorem dX1_drive_36 : decode cX1_drive 36 = .ok (.aload_n 1, 1) := by decide +kernel
theorem dX1_drive_37 : decode cX1_drive 37 = .ok (.dup, 1) := by decide +kernel
theorem dX1_drive_38 : decode cX1_drive 38 = .ok (.getfield 119, 3) := by decide +kernel
theorem dX1_drive_41 : decode cX1_drive 41 = .ok (.iconst 1, 1) := by decide +kernel
theorem dX1_drive_42 : decode cX1_drive 42 = .ok (.iadd, 1) := by decide +kernel
theorem dX1_drive_43 : decode cX1_drive 43 = .ok (.putfield 119, 3) := by decide +kernel
theorem dX1_drive_46 : decode cX1_drive 46 = .ok (.goto 53, 3) := by decide +kernel
theorem dX1_drive_49 : decode cX1_drive 49 = .ok (.aload_n 1, 1) := by decide +kernel
theorem dX1_drive_50 : decode cX1_drive 50 = .ok (.aload_n 1, 1) := by decide +kernel
theorem dX1_drive_51 : decode cX1_drive 51 = .ok (.getfield 131, 3) := by decide +kernel
theorem dX1_drive_54 : decode cX1_drive 54 = .ok (.putfield 134, 3) := by decide +kernel
theorem dX1_drive_57 : decode cX1_drive 57 = .ok (.goto 42, 3) := by decide +kernel
theorem dX1_drive_60 : decode cX1_drive 60 = .ok (.aload_n 1, 1) := by decide +kernel
theorem dX1_drive_61 : decode cX1_drive 61 = .ok (.getfield 134, 3) := by decide +kernel
theorem dX1_drive_64 : decode cX1_drive 64 = .ok (.aload_n 1, 1) := by decide +kernel
theorem dX1_drive_65 : decode cX1_drive 65 = .ok (.getfield 137, 3) := by decide +kernel
theorem dX1_drive_68 : decode cX1_drive 68 = .ok (.aload_n 1, 1) := by decide +kernel
theorem dX1_drive_69 : decode cX1_drive 69 = .ok (.getfield 119, 3) := by decide +kernel
theorem dX1_drive_72 : decode cX1_drive 72 = .ok (.bipush 16, 2) := by decide +kernel
theorem dX1_drive_74 : decode cX1_drive 74 = .ok (.invokestatic 140, 3) := by decide +kernel
theorem dX1_drive_77 : decode cX1_drive 77 = .ok (.ifCond .eq 7, 3) := by decide +kernel
theorem dX1_drive_80 : decode cX1_drive 80 = .ok (.aload_n 1, 1) := by decide +kernel
theorem dX1_drive_81 : decode cX1_drive 81 = .ok (.invokestatic 146, 3) := by decide +kernel
theorem dX1_drive_84 : decode cX1_drive 84 = .ok (.aload_n 1, 1) := by decide +kernel
theorem dX1_drive_85 : decode cX1_drive 85 = .ok (.aload_n 1, 1) := by decide +kernel
theorem dX1_drive_86 : decode cX1_drive 86 = .ok (.getfield 119, 3) := by decide +kernel
theorem dX1_drive_89 : decode cX1_drive 89 = .ok (.putfield 137, 3) := by decide +kernel
theorem dX1_drive_92 : decode cX1_drive 92 = .ok (.goto 7, 3) := by decide +kernel
theorem dX1_drive_95 : decode cX1_drive 95 = .ok (.aload_n 1, 1) := by decide +kernel
theorem dX1_drive_96 : decode cX1_drive 96 = .ok (.invokestatic 146, 3) := by decide +kernel
theorem dX1_drive_99 : decode cX1_drive 99 = .ok (.aload_n 1, 1) := by decide +kernel
theorem dX1_drive_100 : decode cX1_drive 100 = .ok (.dup, 1) := by decide +kernel
theorem dX1_drive_101 : decode cX1_drive 101 = .ok (.getfield 122, 3) := by decide +kernel
theorem dX1_drive_104 : decode cX1_drive 104 = .ok (.iconst 1, 1) := by decide +kernel
theorem dX1_drive_105 : decode cX1_drive 105 = .ok (.iadd, 1) := by decide +kernel
theorem dX1_drive_106 : decode cX1_drive 106 = .ok (.putfield 122, 3) := by decide +kernel
theorem dX1_drive_109 : decode cX1_drive 109 = .ok (.return_, 1) := by decide +kernel
theorem dX1_send_0 : decode cX1_send 0 = .ok (.aload_n 0, 1) := by decide +kernel
theorem dX1_send_1 : decode cX1_send 1 = .ok (.iconst 1, 1) := by decide +kernel
theorem dX1_send_2 : decode cX1_send 2 = .ok (.putfield 128, 3) := by decide +kernel
theorem dX1_send_5 : decode cX1_send 5 = .ok (.aload_n 0, 1) := by decide +kernel
theorem dX1_send_6 : decode cX1_send 6 = .ok (.dup, 1) := by decide +kernel
theorem dX1_send_7 : decode cX1_send 7 = .ok (.getfield 149, 3) := by decide +kernel
theorem dX1_send_10 : decode cX1_send 10 = .ok (.iconst 1, 1) := by decide +kernel
theorem dX1_send_11 : decode cX1_send 11 = .ok (.iadd, 1) := by decide +kernel
theorem dX1_send_12 : decode cX1_send 12 = .ok (.putfield 149, 3) := by decide +kernel
theorem dX1_send_15 : decode cX1_send 15 = .ok (.return_, 1) := by decide +kernel
theorem dX1_serve_0 : decode cX1_serve 0 = .ok (.iconst 0, 1) := by decide +kernel
theorem dX1_serve_1 : decode cX1_serve 1 = .ok (.istore_n 2, 1) := by decide +kernel
theorem dX1_serve_2 : decode cX1_serve 2 = .ok (.aload_n 0, 1) := by decide +kernel
theorem dX1_serve_3 : decode cX1_serve 3 = .ok (.getfield 15, 3) := by decide +kernel
theorem dX1_serve_6 : decode cX1_serve 6 = .ok (.aload_n 1, 1) := by decide +kernel
theorem dX1_serve_7 : decode cX1_serve 7 = .ok (.getfield 125, 3) := by decide +kernel
theorem dX1_serve_10 : decode cX1_serve 10 = .ok (.iaload, 1) := by decide +kernel
theorem dX1_serve_11 : decode cX1_serve 11 = .ok (.tableswitch 67 5 7 #[25, 36, 47], 25) := by decide +kernel
theorem dX1_serve_36 : decode cX1_serve 36 = .ok (.aload_n 1, 1) := by decide +kernel
theorem dX1_serve_37 : decode cX1_serve 37 = .ok (.aload_n 1, 1) := by decide +kernel
theorem dX1_serve_38 : decode cX1_serve 38 = .ok (.getfield 119, 3) := by decide +kernel
theorem dX1_serve_41 : decode cX1_serve 41 = .ok (.putfield 114, 3) := by decide +kernel
theorem dX1_serve_44 : decode cX1_serve 44 = .ok (.goto 39, 3) := by decide +kernel
theorem dX1_serve_47 : decode cX1_serve 47 = .ok (.aload_n 1, 1) := by decide +kernel
theorem dX1_serve_48 : decode cX1_serve 48 = .ok (.aload_n 1, 1) := by decide +kernel
theorem dX1_serve_49 : decode cX1_serve 49 = .ok (.getfield 114, 3) := by decide +kernel
theorem dX1_serve_52 : decode cX1_serve 52 = .ok (.putfield 131, 3) := by decide +kernel
theorem dX1_serve_55 : decode cX1_serve 55 = .ok (.goto 28, 3) := by decide +kernel
theorem dX1_serve_58 : decode cX1_serve 58 = .ok (.aload_n 1, 1) := by decide +kernel
theorem dX1_serve_59 : decode cX1_serve 59 = .ok (.getfield 114, 3) := by decide +kernel
theorem dX1_serve_62 : decode cX1_serve 62 = .ok (.aload_n 1, 1) := by decide +kernel
theorem dX1_serve_63 : decode cX1_serve 63 = .ok (.getfield 119, 3) := by decide +kernel
theorem dX1_serve_66 : decode cX1_serve 66 = .ok (.if_icmp .eq 7, 3) := by decide +kernel
theorem dX1_serve_69 : decode cX1_serve 69 = .ok (.iconst 1, 1) := by decide +kernel
theorem dX1_serve_70 : decode cX1_serve 70 = .ok (.goto 4, 3) := by decide +kernel
theorem dX1_serve_73 : decode cX1_serve 73 = .ok (.iconst 0, 1) := by decide +kernel
theorem dX1_serve_74 : decode cX1_serve 74 = .ok (.istore_n 2, 1) := by decide +kernel
theorem dX1_serve_75 : decode cX1_serve 75 = .ok (.goto 8, 3) := by decide +kernel
theorem dX1_serve_78 : decode cX1_serve 78 = .ok (.aload_n 1, 1) := by decide +kernel
theorem dX1_serve_79 : decode cX1_serve 79 = .ok (.iconst 0, 1) := by decide +kernel
theorem dX1_serve_80 : decode cX1_serve 80 = .ok (.putfield 128, 3) := by decide +kernel
theorem dX1_serve_83 : decode cX1_serve 83 = .ok (.aload_n 1, 1) := by decide +kernel
theorem dX1_serve_84 : decode cX1_serve 84 = .ok (.iload_n 2, 1) := by decide +kernel
theorem dX1_serve_85 : decode cX1_serve 85 = .ok (.ifCond .ne 16, 3) := by decide +kernel
theorem dX1_serve_88 : decode cX1_serve 88 = .ok (.aload_n 1, 1) := by decide +kernel
theorem dX1_serve_89 : decode cX1_serve 89 = .ok (.getfield 125, 3) := by decide +kernel
theorem dX1_serve_92 : decode cX1_serve 92 = .ok (.iconst 1, 1) := by decide +kernel
theorem dX1_serve_93 : decode cX1_serve 93 = .ok (.iadd, 1) := by decide +kernel
theorem dX1_serve_94 : decode cX1_serve 94 = .ok (.aload_n 0, 1) := by decide +kernel
theorem dX1_serve_95 : decode cX1_serve 95 = .ok (.getfield 25, 3) := by decide +kernel
theorem dX1_serve_98 : decode cX1_serve 98 = .ok (.if_icmp .lt 7, 3) := by decide +kernel
theorem dX1_serve_101 : decode cX1_serve 101 = .ok (.iconst 0, 1) := by decide +kernel
theorem dX1_serve_102 : decode cX1_serve 102 = .ok (.goto 9, 3) := by decide +kernel
theorem dX1_serve_105 : decode cX1_serve 105 = .ok (.aload_n 1, 1) := by decide +kernel
theorem dX1_serve_106 : decode cX1_serve 106 = .ok (.getfield 125, 3) := by decide +kernel
theorem dX1_serve_109 : decode cX1_serve 109 = .ok (.iconst 1, 1) := by decide +kernel
theorem dX1_serve_110 : decode cX1_serve 110 = .ok (.iadd, 1) := by decide +kernel
theorem dX1_serve_111 : decode cX1_serve 111 = .ok (.putfield 125, 3) := by decide +kernel
theorem dX1_serve_114 : decode cX1_serve 114 = .ok (.return_, 1) := by decide +kernel
theorem dX2_init_0 : decode cX2_init 0 = .ok (.aload_n 0, 1) := by decide +kernel
theorem dX2_init_1 : decode cX2_init 1 = .ok (.invokespecial 3, 3) := by decide +kernel
theorem dX2_init_4 : decode cX2_init 4 = .ok (.aload_n 0, 1) := by decide +kernel
theorem dX2_init_5 : decode cX2_init 5 = .ok (.bipush 22, 2) := by decide +kernel
theorem dX2_init_7 : decode cX2_init 7 = .ok (.newarray .int, 2) := by decide +kernel
theorem dX2_init_9 : decode cX2_init 9 = .ok (.putfield 11, 3) := by decide +kernel
theorem dX2_init_12 : decode cX2_init 12 = .ok (.aload_n 0, 1) := by decide +kernel
theorem dX2_init_13 : decode cX2_init 13 = .ok (.bipush 120, 2) := by decide +kernel
theorem dX2_init_15 : decode cX2_init 15 = .ok (.newarray .int, 2) := by decide +kernel
theorem dX2_init_17 : decode cX2_init 17 = .ok (.putfield 15, 3) := by decide +kernel
theorem dX2_init_20 : decode cX2_init 20 = .ok (.aload_n 0, 1) := by decide +kernel
theorem dX2_init_21 : decode cX2_init 21 = .ok (.iconst 5, 1) := by decide +kernel
theorem dX2_init_22 : decode cX2_init 22 = .ok (.newarray .int, 2) := by decide +kernel
theorem dX2_init_24 : decode cX2_init 24 = .ok (.putfield 18, 3) := by decide +kernel
theorem dX2_init_27 : decode cX2_init 27 = .ok (.aload_n 0, 1) := by decide +kernel
theorem dX2_init_28 : decode cX2_init 28 = .ok (.bipush 24, 2) := by decide +kernel
theorem dX2_init_30 : decode cX2_init 30 = .ok (.newarray .int, 2) := by decide +kernel
theorem dX2_init_32 : decode cX2_init 32 = .ok (.putfield 21, 3) := by decide +kernel
theorem dX2_init_35 : decode cX2_init 35 = .ok (.aload_n 0, 1) := by decide +kernel
theorem dX2_init_36 : decode cX2_init 36 = .ok (.bipush 8, 2) := by decide +kernel
theorem dX2_init_38 : decode cX2_init 38 = .ok (.newarray .int, 2) := by decide +kernel
theorem dX2_init_40 : decode cX2_init 40 = .ok (.putfield 24, 3) := by decide +kernel
theorem dX2_init_43 : decode cX2_init 43 = .ok (.aload_n 0, 1) := by decide +kernel
theorem dX2_init_44 : decode cX2_init 44 = .ok (.iconst 5, 1) := by decide +kernel
theorem dX2_init_45 : decode cX2_init 45 = .ok (.newarray .int, 2) := by decide +kernel
theorem dX2_init_47 : decode cX2_init 47 = .ok (.putfield 27, 3) := by decide +kernel
theorem dX2_init_50 : decode cX2_init 50 = .ok (.aload_n 0, 1) := by decide +kernel
theorem dX2_init_51 : decode cX2_init 51 = .ok (.sipush 4000, 3) := by decide +kernel
theorem dX2_init_54 : decode cX2_init 54 = .ok (.newarray .int, 2) := by decide +kernel
theorem dX2_init_56 : decode cX2_init 56 = .ok (.putfield 30, 3) := by decide +kernel
theorem dX2_init_59 : decode cX2_init 59 = .ok (.aload_n 0, 1) := by decide +kernel
theorem dX2_init_60 : decode cX2_init 60 = .ok (.iconst 0, 1) := by decide +kernel
theorem dX2_init_61 : decode cX2_init 61 = .ok (.iconst 4, 1) := by decide +kernel
theorem dX2_init_62 : decode cX2_init 62 = .ok (.iconst 0, 1) := by decide +kernel
theorem dX2_init_63 : decode cX2_init 63 = .ok (.invokevirtual 33, 3) := by decide +kernel
theorem dX2_init_66 : decode cX2_init 66 = .ok (.return_, 1) := by decide +kernel
theorem dX2_begin_0 : decode cX2_begin 0 = .ok (.aload_n 0, 1) := by decide +kernel
theorem dX2_begin_1 : decode cX2_begin 1 = .ok (.getfield 11, 3) := by decide +kernel
theorem dX2_begin_4 : decode cX2_begin 4 = .ok (.iconst 0, 1) := by decide +kernel
theorem dX2_begin_5 : decode cX2_begin 5 = .ok (.invokestatic 37, 3) := by decide +kernel
theorem dX2_begin_8 : decode cX2_begin 8 = .ok (.aload_n 0, 1) := by decide +kernel
theorem dX2_begin_9 : decode cX2_begin 9 = .ok (.getfield 11, 3) := by decide +kernel
theorem dX2_begin_12 : decode cX2_begin 12 = .ok (.bipush 18, 2) := by decide +kernel
theorem dX2_begin_14 : decode cX2_begin 14 = .ok (.iload_n 1, 1) := by decide +kernel
theorem dX2_begin_15 : decode cX2_begin 15 = .ok (.iastore, 1) := by decide +kernel
theorem dX2_begin_16 : decode cX2_begin 16 = .ok (.aload_n 0, 1) := by decide +kernel
theorem dX2_begin_17 : decode cX2_begin 17 = .ok (.getfield 11, 3) := by decide +kernel
theorem dX2_begin_20 : decode cX2_begin 20 = .ok (.bipush 19, 2) := by decide +kernel
theorem dX2_begin_22 : decode cX2_begin 22 = .ok (.iload_n 2, 1) := by decide +kernel
theorem dX2_begin_23 : decode cX2_begin 23 = .ok (.iastore, 1) := by decide +kernel
theorem dX2_begin_24 : decode cX2_begin 24 = .ok (.aload_n 0, 1) := by decide +kernel
theorem dX2_begin_25 : decode cX2_begin 25 = .ok (.getfield 11, 3) := by decide +kernel
theorem dX2_begin_28 : decode cX2_begin 28 = .ok (.bipush 20, 2) := by decide +kernel
theorem dX2_begin_30 : decode cX2_begin 30 = .ok (.iload_n 3, 1) := by decide +kernel
theorem dX2_begin_31 : decode cX2_begin 31 = .ok (.iastore, 1) := by decide +kernel
theorem dX2_begin_32 : decode cX2_begin 32 = .ok (.aload_n 0, 1) := by decide +kernel
theorem dX2_begin_33 : decode cX2_begin 33 = .ok (.getfield 11, 3) := by decide +kernel
theorem dX2_begin_36 : decode cX2_begin 36 = .ok (.bipush 21, 2) := by decide +kernel
theorem dX2_begin_38 : decode cX2_begin 38 = .ok (.iload_n 1, 1) := by decide +kernel
theorem dX2_begin_39 : decode cX2_begin 39 = .ok (.iconst 1, 1) := by decide +kernel
theorem dX2_begin_40 : decode cX2_begin 40 = .ok (.if_icmp .ne 9, 3) := by decide +kernel
theorem dX2_begin_43 : decode cX2_begin 43 = .ok (.iconst 2, 1) := by decide +kernel
theorem dX2_begin_44 : decode cX2_begin 44 = .ok (.iload_n 2, 1) := by decide +kernel
theorem dX2_begin_45 : decode cX2_begin 45 = .ok (.imul, 1) := by decide +kernel
theorem dX2_begin_46 : decode cX2_begin 46 = .ok (.goto 5, 3) := by decide +kernel
theorem dX2_begin_49 : decode cX2_begin 49 = .ok (.bipush 16, 2) := by decide +kernel
theorem dX2_begin_51 : decode cX2_begin 51 = .ok (.iastore, 1) := by decide +kernel
theorem dX2_begin_52 : decode cX2_begin 52 = .ok (.aload_n 0, 1) := by decide +kernel
theorem dX2_begin_53 : decode cX2_begin 53 = .ok (.getfield 18, 3) := by decide +kernel
theorem dX2_begin_56 : decode cX2_begin 56 = .ok (.iconst 0, 1) := by decide +kernel
theorem dX2_begin_57 : decode cX2_begin 57 = .ok (.invokestatic 37, 3) := by decide +kernel
theorem dX2_begin_60 : decode cX2_begin 60 = .ok (.aload_n 0, 1) := by decide +kernel
theorem dX2_begin_61 : decode cX2_begin 61 = .ok (.getfield 18, 3) := by decide +kernel
theorem dX2_begin_64 : decode cX2_begin 64 = .ok (.iconst 0, 1) := by decide +kernel
theorem dX2_begin_65 : decode cX2_begin 65 = .ok (.iload_n 2, 1) := by decide +kernel
theorem dX2_begin_66 : decode cX2_begin 66 = .ok (.iastore, 1) := by decide +kernel
theorem dX2_begin_67 : decode cX2_begin 67 = .ok (.aload_n 0, 1) := by decide +kernel
theorem dX2_begin_68 : decode cX2_begin 68 = .ok (.invokevirtual 43, 3) := by decide +kernel
theorem dX2_begin_71 : decode cX2_begin 71 = .ok (.return_, 1) := by decide +kernel
theorem dX2_copyFrom_0 : decode cX2_copyFrom 0 = .ok (.aload_n 1, 1) := by decide +kernel
theorem dX2_copyFrom_1 : decode cX2_copyFrom 1 = .ok (.getfield 11, 3) := by decide +kernel
theorem dX2_copyFrom_4 : decode cX2_copyFrom 4 = .ok (.iconst 0, 1) := by decide +kernel
theorem dX2_copyFrom_5 : decode cX2_copyFrom 5 = .ok (.aload_n 0, 1) := by decide +kernel
theorem dX2_copyFrom_6 : decode cX2_copyFrom 6 = .ok (.getfield 11, 3) := by decide +kernel
theorem dX2_copyFrom_9 : decode cX2_copyFrom 9 = .ok (.iconst 0, 1) := by decide +kernel
theorem dX2_copyFrom_10 : decode cX2_copyFrom 10 = .ok (.bipush 22, 2) := by decide +kernel
theorem dX2_copyFrom_12 : decode cX2_copyFrom 12 = .ok (.invokestatic 46, 3) := by decide +kernel
theorem dX2_copyFrom_15 : decode cX2_copyFrom 15 = .ok (.aload_n 1, 1) := by decide +kernel
theorem dX2_copyFrom_16 : decode cX2_copyFrom 16 = .ok (.getfield 15, 3) := by decide +kernel
theorem dX2_copyFrom_19 : decode cX2_copyFrom 19 = .ok (.iconst 0, 1) := by decide +kernel
theorem dX2_copyFrom_20 : decode cX2_copyFrom 20 = .ok (.aload_n 0, 1) := by decide +kernel
theorem dX2_copyFrom_21 : decode cX2_copyFrom 21 = .ok (.getfield 15, 3) := by decide +kernel
theorem dX2_copyFrom_24 : decode cX2_copyFrom 24 = .ok (.iconst 0, 1) := by decide +kernel
theorem dX2_copyFrom_25 : decode cX2_copyFrom 25 = .ok (.aload_n 0, 1) := by decide +kernel
theorem dX2_copyFrom_26 : decode cX2_copyFrom 26 = .ok (.getfield 15, 3) := by decide +kernel
theorem dX2_copyFrom_29 : decode cX2_copyFrom 29 = .ok (.arraylength, 1) := by decide +kernel
theorem dX2_copyFrom_30 : decode cX2_copyFrom 30 = .ok (.invokestatic 46, 3) := by decide +kernel
theorem dX2_copyFrom_33 : decode cX2_copyFrom 33 = .ok (.aload_n 1, 1) := by decide +kernel
theorem dX2_copyFrom_34 : decode cX2_copyFrom 34 = .ok (.getfield 18, 3) := by decide +kernel
theorem dX2_copyFrom_37 : decode cX2_copyFrom 37 = .ok (.iconst 0, 1) := by decide +kernel
theorem dX2_copyFrom_38 : decode cX2_copyFrom 38 = .ok (.aload_n 0, 1) := by decide +kernel
theorem dX2_copyFrom_39 : decode cX2_copyFrom 39 = .ok (.getfield 18, 3) := by decide +kernel
theorem dX2_copyFrom_42 : decode cX2_copyFrom 42 = .ok (.iconst 0, 1) := by decide +kernel
theorem dX2_copyFrom_43 : decode cX2_copyFrom 43 = .ok (.iconst 5, 1) := by decide +kernel
theorem dX2_copyFrom_44 : decode cX2_copyFrom 44 = .ok (.invokestatic 46, 3) := by decide +kernel
theorem dX2_copyFrom_47 : decode cX2_copyFrom 47 = .ok (.aload_n 1, 1) := by decide +kernel
theorem dX2_copyFrom_48 : decode cX2_copyFrom 48 = .ok (.getfield 21, 3) := by decide +kernel
theorem dX2_copyFrom_51 : decode cX2_copyFrom 51 = .ok (.iconst 0, 1) := by decide +kernel
theorem dX2_copyFrom_52 : decode cX2_copyFrom 52 = .ok (.aload_n 0, 1) := by decide +kernel
theorem dX2_copyFrom_53 : decode cX2_copyFrom 53 = .ok (.getfield 21, 3) := by decide +kernel
theorem dX2_copyFrom_56 : decode cX2_copyFrom 56 = .ok (.iconst 0, 1) := by decide +kernel
theorem dX2_copyFrom_57 : decode cX2_copyFrom 57 = .ok (.aload_n 0, 1) := by decide +kernel
theorem dX2_copyFrom_58 : decode cX2_copyFrom 58 = .ok (.getfield 21, 3) := by decide +kernel
theorem dX2_copyFrom_61 : decode cX2_copyFrom 61 = .ok (.arraylength, 1) := by decide +kernel
theorem dX2_copyFrom_62 : decode cX2_copyFrom 62 = .ok (.invokestatic 46, 3) := by decide +kernel
theorem dX2_copyFrom_65 : decode cX2_copyFrom 65 = .ok (.aload_n 1, 1) := by decide +kernel
theorem dX2_copyFrom_66 : decode cX2_copyFrom 66 = .ok (.getfield 24, 3) := by decide +kernel
theorem dX2_copyFrom_69 : decode cX2_copyFrom 69 = .ok (.iconst 0, 1) := by decide +kernel
theorem dX2_copyFrom_70 : decode cX2_copyFrom 70 = .ok (.aload_n 0, 1) := by decide +kernel
theorem dX2_copyFrom_71 : decode cX2_copyFrom 71 = .ok (.getfield 24, 3) := by decide +kernel
theorem dX2_copyFrom_74 : decode cX2_copyFrom 74 = .ok (.iconst 0, 1) := by decide +kernel
theorem dX2_copyFrom_75 : decode cX2_copyFrom 75 = .ok (.bipush 8, 2) := by decide +kernel
theorem dX2_copyFrom_77 : decode cX2_copyFrom 77 = .ok (.invokestatic 46, 3) := by decide +kernel
theorem dX2_copyFrom_80 : decode cX2_copyFrom 80 = .ok (.aload_n 1, 1) := by decide +kernel
theorem dX2_copyFrom_81 : decode cX2_copyFrom 81 = .ok (.getfield 27, 3) := by decide +kernel
theorem dX2_copyFrom_84 : decode cX2_copyFrom 84 = .ok (.iconst 0, 1) := by decide +kernel
theorem dX2_copyFrom_85 : decode cX2_copyFrom 85 = .ok (.aload_n 0, 1) := by decide +kernel
theorem dX2_copyFrom_86 : decode cX2_copyFrom 86 = .ok (.getfield 27, 3) := by decide +kernel
theorem dX2_copyFrom_89 : decode cX2_copyFrom 89 = .ok (.iconst 0, 1) := by decide +kernel
theorem dX2_copyFrom_90 : decode cX2_copyFrom 90 = .ok (.iconst 5, 1) := by decide +kernel
theorem dX2_copyFrom_91 : decode cX2_copyFrom 91 = .ok (.invokestatic 46, 3) := by decide +kernel
theorem dX2_copyFrom_94 : decode cX2_copyFrom 94 = .ok (.aload_n 1, 1) := by decide +kernel
theorem dX2_copyFrom_95 : decode cX2_copyFrom 95 = .ok (.getfield 11, 3) := by decide +kernel
theorem dX2_copyFrom_98 : decode cX2_copyFrom 98 = .ok (.iconst 5, 1) := by decide +kernel
theorem dX2_copyFrom_99 : decode cX2_copyFrom 99 = .ok (.iaload, 1) := by decide +kernel
theorem dX2_copyFrom_100 : decode cX2_copyFrom 100 = .ok (.sipush 500, 3) := by decide +kernel
theorem dX2_copyFrom_103 : decode cX2_copyFrom 103 = .ok (.invokestatic 52, 3) := by decide +kernel
theorem dX2_copyFrom_106 : decode cX2_copyFrom 106 = .ok (.bipush 8, 2) := by decide +kernel
theorem dX2_copyFrom_108 : decode cX2_copyFrom 108 = .ok (.imul, 1) := by decide +kernel
theorem dX2_copyFrom_109 : decode cX2_copyFrom 109 = .ok (.istore_n 2, 1) := by decide +kernel
theorem dX2_copyFrom_110 : decode cX2_copyFrom 110 = .ok (.aload_n 1, 1) := by decide +kernel
theorem dX2_copyFrom_111 : decode cX2_copyFrom 111 = .ok (.getfield 30, 3) := by decide +kernel
theorem dX2_copyFrom_114 : decode cX2_copyFrom 114 = .ok (.iconst 0, 1) := by decide +kernel
theorem dX2_copyFrom_115 : decode cX2_copyFrom 115 = .ok (.aload_n 0, 1) := by decide +kernel
theorem dX2_copyFrom_116 : decode cX2_copyFrom 116 = .ok (.getfield 30, 3) := by decide +kernel
theorem dX2_copyFrom_119 : decode cX2_copyFrom 119 = .ok (.iconst 0, 1) := by decide +kernel
theorem dX2_copyFrom_120 : decode cX2_copyFrom 120 = .ok (.iload_n 2, 1) := by decide +kernel
theorem dX2_copyFrom_121 : decode cX2_copyFrom 121 = .ok (.invokestatic 46, 3) := by decide +kernel
theorem dX2_copyFrom_124 : decode cX2_copyFrom 124 = .ok (.return_, 1) := by decide +kernel
theorem dX2_clearTransport_0 : decode cX2_clearTransport 0 = .ok (.aload_n 0, 1) := by decide +kernel
theorem dX2_clearTransport_1 : decode cX2_clearTransport 1 = .ok (.getfield 11, 3) := by decide +kernel
theorem dX2_clearTransport_4 : decode cX2_clearTransport 4 = .ok (.iconst 0, 1) := by decide +kernel
theorem dX2_clearTransport_5 : decode cX2_clearTransport 5 = .ok (.iconst 0, 1) := by decide +kernel
theorem dX2_clearTransport_6 : decode cX2_clearTransport 6 = .ok (.iastore, 1) := by decide +kernel
theorem dX2_clearTransport_7 : decode cX2_clearTransport 7 = .ok (.aload_n 0, 1) := by decide +kernel
theorem dX2_clearTransport_8 : decode cX2_clearTransport 8 = .ok (.getfield 11, 3) := by decide +kernel
theorem dX2_clearTransport_11 : decode cX2_clearTransport 11 = .ok (.iconst 1, 1) := by decide +kernel
theorem dX2_clearTransport_12 : decode cX2_clearTransport 12 = .ok (.iconst 0, 1) := by decide +kernel
theorem dX2_clearTransport_13 : decode cX2_clearTransport 13 = .ok (.iastore, 1) := by decide +kernel
theorem dX2_clearTransport_14 : decode cX2_clearTransport 14 = .ok (.aload_n 0, 1) := by decide +kernel
theorem dX2_clearTransport_15 : decode cX2_clearTransport 15 = .ok (.getfield 11, 3) := by decide +kernel
theorem dX2_clearTransport_18 : decode cX2_clearTransport 18 = .ok (.iconst 2, 1) := by decide +kernel
theorem dX2_clearTransport_19 : decode cX2_clearTransport 19 = .ok (.iconst 0, 1) := by decide +kernel
theorem dX2_clearTransport_20 : decode cX2_clearTransport 20 = .ok (.iastore, 1) := by decide +kernel
theorem dX2_clearTransport_21 : decode cX2_clearTransport 21 = .ok (.aload_n 0, 1) := by decide +kernel
theorem dX2_clearTransport_22 : decode cX2_clearTransport 22 = .ok (.getfield 11, 3) := by decide +kernel
theorem dX2_clearTransport_25 : decode cX2_clearTransport 25 = .ok (.iconst 3, 1) := by decide +kernel
theorem dX2_clearTransport_26 : decode cX2_clearTransport 26 = .ok (.iconst 0, 1) := by decide +kernel
theorem dX2_clearTransport_27 : decode cX2_clearTransport 27 = .ok (.iastore, 1) := by decide +kernel
theorem dX2_clearTransport_28 : decode cX2_clearTransport 28 = .ok (.aload_n 0, 1) := by decide +kernel
theorem dX2_clearTransport_29 : decode cX2_clearTransport 29 = .ok (.getfield 11, 3) := by decide +kernel
theorem dX2_clearTransport_32 : decode cX2_clearTransport 32 = .ok (.iconst 4, 1) := by decide +kernel
theorem dX2_clearTransport_33 : decode cX2_clearTransport 33 = .ok (.aload_n 0, 1) := by decide +kernel
theorem dX2_clearTransport_34 : decode cX2_clearTransport 34 = .ok (.getfield 11, 3) := by decide +kernel
theorem dX2_clearTransport_37 : decode cX2_clearTransport 37 = .ok (.bipush 19, 2) := by decide +kernel
theorem dX2_clearTransport_39 : decode cX2_clearTransport 39 = .ok (.iaload, 1) := by decide +kernel
theorem dX2_clearTransport_40 : decode cX2_clearTransport 40 = .ok (.iastore, 1) := by decide +kernel
theorem dX2_clearTransport_41 : decode cX2_clearTransport 41 = .ok (.aload_n 0, 1) := by decide +kernel
theorem dX2_clearTransport_42 : decode cX2_clearTransport 42 = .ok (.getfield 11, 3) := by decide +kernel
theorem dX2_clearTransport_45 : decode cX2_clearTransport 45 = .ok (.bipush 6, 2) := by decide +kernel
theorem dX2_clearTransport_47 : decode cX2_clearTransport 47 = .ok (.iconst 0, 1) := by decide +kernel
theorem dX2_clearTransport_48 : decode cX2_clearTransport 48 = .ok (.iastore, 1) := by decide +kernel
theorem dX2_clearTransport_49 : decode cX2_clearTransport 49 = .ok (.aload_n 0, 1) := by decide +kernel
theorem dX2_clearTransport_50 : decode cX2_clearTransport 50 = .ok (.getfield 11, 3) := by decide +kernel
theorem dX2_clearTransport_53 : decode cX2_clearTransport 53 = .ok (.bipush 7, 2) := by decide +kernel
theorem dX2_clearTransport_55 : decode cX2_clearTransport 55 = .ok (.iconst 0, 1) := by decide +kernel
theorem dX2_clearTransport_56 : decode cX2_clearTransport 56 = .ok (.iastore, 1) := by decide +kernel
theorem dX2_clearTransport_57 : decode cX2_clearTransport 57 = .ok (.aload_n 0, 1) := by decide +kernel
theorem dX2_clearTransport_58 : decode cX2_clearTransport 58 = .ok (.getfield 11, 3) := by decide +kernel
theorem dX2_clearTransport_61 : decode cX2_clearTransport 61 = .ok (.bipush 10, 2) := by decide +kernel
theorem dX2_clearTransport_63 : decode cX2_clearTransport 63 = .ok (.iconst 0, 1) := by decide +kernel
theorem dX2_clearTransport_64 : decode cX2_clearTransport 64 = .ok (.iastore, 1) := by decide +kernel
theorem dX2_clearTransport_65 : decode cX2_clearTransport 65 = .ok (.aload_n 0, 1) := by decide +kernel
theorem dX2_clearTransport_66 : decode cX2_clearTransport 66 = .ok (.getfield 11, 3) := by decide +kernel
theorem dX2_clearTransport_69 : decode cX2_clearTransport 69 = .ok (.bipush 11, 2) := by decide +kernel
theorem dX2_clearTransport_71 : decode cX2_clearTransport 71 = .ok (.iconst 0, 1) := by decide +kernel
theorem dX2_clearTransport_72 : decode cX2_clearTransport 72 = .ok (.iastore, 1) := by decide +kernel
theorem dX2_clearTransport_73 : decode cX2_clearTransport 73 = .ok (.aload_n 0, 1) := by decide +kernel
theorem dX2_clearTransport_74 : decode cX2_clearTransport 74 = .ok (.getfield 11, 3) := by decide +kernel
theorem dX2_clearTransport_77 : decode cX2_clearTransport 77 = .ok (.bipush 12, 2) := by decide +kernel
theorem dX2_clearTransport_79 : decode cX2_clearTransport 79 = .ok (.iconst (-1), 1) := by decide +kernel
theorem dX2_clearTransport_80 : decode cX2_clearTransport 80 = .ok (.iastore, 1) := by decide +kernel
theorem dX2_clearTransport_81 : decode cX2_clearTransport 81 = .ok (.aload_n 0, 1) := by decide +kernel
theorem dX2_clearTransport_82 : decode cX2_clearTransport 82 = .ok (.getfield 11, 3) := by decide +kernel
theorem dX2_clearTransport_85 : decode cX2_clearTransport 85 = .ok (.bipush 13, 2) := by decide +kernel
theorem dX2_clearTransport_87 : decode cX2_clearTransport 87 = .ok (.iconst (-1), 1) := by decide +kernel
theorem dX2_clearTransport_88 : decode cX2_clearTransport 88 = .ok (.iastore, 1) := by decide +kernel
theorem dX2_clearTransport_89 : decode cX2_clearTransport 89 = .ok (.aload_n 0, 1) := by decide +kernel
theorem dX2_clearTransport_90 : decode cX2_clearTransport 90 = .ok (.getfield 11, 3) := by decide +kernel
theorem dX2_clearTransport_93 : decode cX2_clearTransport 93 = .ok (.bipush 14, 2) := by decide +kernel
theorem dX2_clearTransport_95 : decode cX2_clearTransport 95 = .ok (.iconst 0, 1) := by decide +kernel
theorem dX2_clearTransport_96 : decode cX2_clearTransport 96 = .ok (.iastore, 1) := by decide +kernel
theorem dX2_clearTransport_97 : decode cX2_clearTransport 97 = .ok (.aload_n 0, 1) := by decide +kernel
theorem dX2_clearTransport_98 : decode cX2_clearTransport 98 = .ok (.getfield 11, 3) := by decide +kernel
theorem dX2_clearTransport_101 : decode cX2_clearTransport 101 = .ok (.bipush 15, 2) := by decide +kernel
theorem dX2_clearTransport_103 : decode cX2_clearTransport 103 = .ok (.iconst 0, 1) := by decide +kernel
theorem dX2_clearTransport_104 : decode cX2_clearTransport 104 = .ok (.iastore, 1) := by decide +kernel
theorem dX2_clearTransport_105 : decode cX2_clearTransport 105 = .ok (.aload_n 0, 1) := by decide +kernel
theorem dX2_clearTransport_106 : decode cX2_clearTransport 106 = .ok (.getfield 11, 3) := by decide +kernel
theorem dX2_clearTransport_109 : decode cX2_clearTransport 109 = .ok (.bipush 16, 2) := by decide +kernel
theorem dX2_clearTransport_111 : decode cX2_clearTransport 111 = .ok (.iconst 0, 1) := by decide +kernel
theorem dX2_clearTransport_112 : decode cX2_clearTransport 112 = .ok (.iastore, 1) := by decide +kernel
theorem dX2_clearTransport_113 : decode cX2_clearTransport 113 = .ok (.aload_n 0, 1) := by decide +kernel
theorem dX2_clearTransport_114 : decode cX2_clearTransport 114 = .ok (.getfield 11, 3) := by decide +kernel
theorem dX2_clearTransport_117 : decode cX2_clearTransport 117 = .ok (.bipush 17, 2) := by decide +kernel
theorem dX2_clearTransport_119 : decode cX2_clearTransport 119 = .ok (.iconst 0, 1) := by decide +kernel
theorem dX2_clearTransport_120 : decode cX2_clearTransport 120 = .ok (.iastore, 1) := by decide +kernel
theorem dX2_clearTransport_121 : decode cX2_clearTransport 121 = .ok (.iconst 0, 1) := by decide +kernel
theorem dX2_clearTransport_122 : decode cX2_clearTransport 122 = .ok (.istore_n 1, 1) := by decide +kernel
theorem dX2_clearTransport_123 : decode cX2_clearTransport 123 = .ok (.iload_n 1, 1) := by decide +kernel
theorem dX2_clearTransport_124 : decode cX2_clearTransport 124 = .ok (.aload_n 0, 1) := by decide +kernel
theorem dX2_clearTransport_125 : decode cX2_clearTransport 125 = .ok (.getfield 11, 3) := by decide +kernel
theorem dX2_clearTransport_128 : decode cX2_clearTransport 128 = .ok (.bipush 19, 2) := by decide +kernel
theorem dX2_clearTransport_130 : decode cX2_clearTransport 130 = .ok (.iaload, 1) := by decide +kernel
theorem dX2_clearTransport_131 : decode cX2_clearTransport 131 = .ok (.if_icmp .ge 18, 3) := by decide +kernel
theorem dX2_clearTransport_134 : decode cX2_clearTransport 134 = .ok (.aload_n 0, 1) := by decide +kernel
theorem dX2_clearTransport_135 : decode cX2_clearTransport 135 = .ok (.iconst 0, 1) := by decide +kernel
theorem dX2_clearTransport_136 : decode cX2_clearTransport 136 = .ok (.iload_n 1, 1) := by decide +kernel
theorem dX2_clearTransport_137 : decode cX2_clearTransport 137 = .ok (.iconst 0, 1) := by decide +kernel
theorem dX2_clearTransport_138 : decode cX2_clearTransport 138 = .ok (.iconst 0, 1) := by decide +kernel
theorem dX2_clearTransport_139 : decode cX2_clearTransport 139 = .ok (.iconst 0, 1) := by decide +kernel
theorem dX2_clearTransport_140 : decode cX2_clearTransport 140 = .ok (.invokevirtual 58, 3) := by decide +kernel
theorem dX2_clearTransport_143 : decode cX2_clearTransport 143 = .ok (.iinc 1 1, 3) := by decide +kernel
theorem dX2_clearTransport_146 : decode cX2_clearTransport 146 = .ok (.goto (-23), 3) := by decide +kernel
theorem dX2_clearTransport_149 : decode cX2_clearTransport 149 = .ok (.aload_n 0, 1) := by decide +kernel
theorem dX2_clearTransport_150 : decode cX2_clearTransport 150 = .ok (.getfield 21, 3) := by decide +kernel
theorem dX2_clearTransport_153 : decode cX2_clearTransport 153 = .ok (.iconst (-1), 1) := by decide +kernel
theorem dX2_clearTransport_154 : decode cX2_clearTransport 154 = .ok (.invokestatic 37, 3) := by decide +kernel
theorem dX2_clearTransport_157 : decode cX2_clearTransport 157 = .ok (.aload_n 0, 1) := by decide +kernel
theorem dX2_clearTransport_158 : decode cX2_clearTransport 158 = .ok (.getfield 24, 3) := by decide +kernel
theorem dX2_clearTransport_161 : decode cX2_clearTransport 161 = .ok (.iconst (-1), 1) := by decide +kernel
theorem dX2_clearTransport_162 : decode cX2_clearTransport 162 = .ok (.invokestatic 37, 3) := by decide +kernel
theorem dX2_clearTransport_165 : decode cX2_clearTransport 165 = .ok (.aload_n 0, 1) := by decide +kernel
theorem dX2_clearTransport_166 : decode cX2_clearTransport 166 = .ok (.getfield 27, 3) := by decide +kernel
theorem dX2_clearTransport_169 : decode cX2_clearTransport 169 = .ok (.iconst (-1), 1) := by decide +kernel
theorem dX2_clearTransport_170 : decode cX2_clearTransport 170 = .ok (.invokestatic 37, 3) := by decide +kernel
theorem dX2_clearTransport_173 : decode cX2_clearTransport 173 = .ok (.return_, 1) := by decide +kernel
theorem dX2_isPacked_0 : decode cX2_isPacked 0 = .ok (.aload_n 0, 1) := by decide +kernel
theorem dX2_isPacked_1 : decode cX2_isPacked 1 = .ok (.getfield 11, 3) := by decide +kernel
theorem dX2_isPacked_4 : decode cX2_isPacked 4 = .ok (.bipush 18, 2) := by decide +kernel
theorem dX2_isPacked_6 : decode cX2_isPacked 6 = .ok (.iaload, 1) := by decide +kernel
theorem dX2_isPacked_7 : decode cX2_isPacked 7 = .ok (.iconst 1, 1) := by decide +kernel
theorem dX2_isPacked_8 : decode cX2_isPacked 8 = .ok (.if_icmp .ne 7, 3) := by decide +kernel
theorem dX2_isPacked_11 : decode cX2_isPacked 11 = .ok (.iconst 1, 1) := by decide +kernel
theorem dX2_isPacked_12 : decode cX2_isPacked 12 = .ok (.goto 4, 3) := by decide +kernel
theorem dX2_isPacked_15 : decode cX2_isPacked 15 = .ok (.iconst 0, 1) := by decide +kernel
theorem dX2_isPacked_16 : decode cX2_isPacked 16 = .ok (.ireturn, 1) := by decide +kernel
theorem dX2_hasFeature_0 : decode cX2_hasFeature 0 = .ok (.aload_n 0, 1) := by decide +kernel
theorem dX2_hasFeature_1 : decode cX2_hasFeature 1 = .ok (.getfield 11, 3) := by decide +kernel
theorem dX2_hasFeature_4 : decode cX2_hasFeature 4 = .ok (.bipush 20, 2) := by decide +kernel
theorem dX2_hasFeature_6 : decode cX2_hasFeature 6 = .ok (.iaload, 1) := by decide +kernel
theorem dX2_hasFeature_7 : decode cX2_hasFeature 7 = .ok (.iload_n 1, 1) := by decide +kernel
theorem dX2_hasFeature_8 : decode cX2_hasFeature 8 = .ok (.iand, 1) := by decide +kernel
theorem dX2_hasFeature_9 : decode cX2_hasFeature 9 = .ok (.ifCond .eq 7, 3) := by decide +kernel
theorem dX2_hasFeature_12 : decode cX2_hasFeature 12 = .ok (.iconst 1, 1) := by decide +kernel
theorem dX2_hasFeature_13 : decode cX2_hasFeature 13 = .ok (.goto 4, 3) := by decide +kernel
theorem dX2_hasFeature_16 : decode cX2_hasFeature 16 = .ok (.iconst 0, 1) := by decide +kernel
theorem dX2_hasFeature_17 : decode cX2_hasFeature 17 = .ok (.ireturn, 1) := by decide +kernel
theorem dX2_places_0 : decode cX2_places 0 = .ok (.aload_n 0, 1) := by decide +kernel
theorem dX2_places_1 : decode cX2_places 1 = .ok (.getfield 11, 3) := by decide +kernel
theorem dX2_places_4 : decode cX2_places 4 = .ok (.bipush 19, 2) := by decide +kernel
theorem dX2_places_6 : decode cX2_places 6 = .ok (.iaload, 1) := by decide +kernel
theorem dX2_places_7 : decode cX2_places 7 = .ok (.ireturn, 1) := by decide +kernel
theorem dX2_wrapsAt_0 : decode cX2_wrapsAt 0 = .ok (.aload_n 0, 1) := by decide +kernel
theorem dX2_wrapsAt_1 : decode cX2_wrapsAt 1 = .ok (.getfield 11, 3) := by decide +kernel
theorem dX2_wrapsAt_4 : decode cX2_wrapsAt 4 = .ok (.bipush 21, 2) := by decide +kernel
theorem dX2_wrapsAt_6 : decode cX2_wrapsAt 6 = .ok (.iaload, 1) := by decide +kernel
theorem dX2_wrapsAt_7 : decode cX2_wrapsAt 7 = .ok (.ireturn, 1) := by decide +kernel
theorem dX2_placeOf_0 : decode cX2_placeOf 0 = .ok (.iload_n 1, 1) := by decide +kernel
theorem dX2_placeOf_1 : decode cX2_placeOf 1 = .ok (.aload_n 0, 1) := by decide +kernel
theorem dX2_placeOf_2 : decode cX2_placeOf 2 = .ok (.getfield 11, 3) := by decide +kernel
theorem dX2_placeOf_5 : decode cX2_placeOf 5 = .ok (.bipush 19, 2) := by decide +kernel
theorem dX2_placeOf_7 : decode cX2_placeOf 7 = .ok (.iaload, 1) := by decide +kernel
theorem dX2_placeOf_8 : decode cX2_placeOf 8 = .ok (.iconst 1, 1) := by decide +kernel
theorem dX2_placeOf_9 : decode cX2_placeOf 9 = .ok (.isub, 1) := by decide +kernel
theorem dX2_placeOf_10 : decode cX2_placeOf 10 = .ok (.iand, 1) := by decide +kernel
theorem dX2_placeOf_11 : decode cX2_placeOf 11 = .ok (.ireturn, 1) := by decide +kernel
theorem dX2_moved_0 : decode cX2_moved 0 = .ok (.iload_n 1, 1) := by decide +kernel
theorem dX2_moved_1 : decode cX2_moved 1 = .ok (.iload_n 2, 1) := by decide +kernel
theorem dX2_moved_2 : decode cX2_moved 2 = .ok (.iadd, 1) := by decide +kernel
theorem dX2_moved_3 : decode cX2_moved 3 = .ok (.aload_n 0, 1) := by decide +kernel
theorem dX2_moved_4 : decode cX2_moved 4 = .ok (.getfield 11, 3) := by decide +kernel
theorem dX2_moved_7 : decode cX2_moved 7 = .ok (.bipush 21, 2) := by decide +kernel
theorem dX2_moved_9 : decode cX2_moved 9 = .ok (.iaload, 1) := by decide +kernel
theorem dX2_moved_10 : decode cX2_moved 10 = .ok (.iconst 1, 1) := by decide +kernel
theorem dX2_moved_11 : decode cX2_moved 11 = .ok (.isub, 1) := by decide +kernel
theorem dX2_moved_12 : decode cX2_moved 12 = .ok (.iand, 1) := by decide +kernel
theorem dX2_moved_13 : decode cX2_moved 13 = .ok (.ireturn, 1) := by decide +kernel
theorem dX2_wrapOf_0 : decode cX2_wrapOf 0 = .ok (.iload_n 1, 1) := by decide +kernel
theorem dX2_wrapOf_1 : decode cX2_wrapOf 1 = .ok (.aload_n 0, 1) := by decide +kernel
theorem dX2_wrapOf_2 : decode cX2_wrapOf 2 = .ok (.getfield 11, 3) := by decide +kernel
theorem dX2_wrapOf_5 : decode cX2_wrapOf 5 = .ok (.bipush 19, 2) := by decide +kernel
theorem dX2_wrapOf_7 : decode cX2_wrapOf 7 = .ok (.iaload, 1) := by decide +kernel
theorem dX2_wrapOf_8 : decode cX2_wrapOf 8 = .ok (.if_icmp .ge 7, 3) := by decide +kernel
theorem dX2_wrapOf_11 : decode cX2_wrapOf 11 = .ok (.iconst 1, 1) := by decide +kernel
theorem dX2_wrapOf_12 : decode cX2_wrapOf 12 = .ok (.goto 4, 3) := by decide +kernel
theorem dX2_wrapOf_15 : decode cX2_wrapOf 15 = .ok (.iconst 0, 1) := by decide +kernel
theorem dX2_wrapOf_16 : decode cX2_wrapOf 16 = .ok (.ireturn, 1) := by decide +kernel
theorem dX2_isPassed_0 : decode cX2_isPassed 0 = .ok (.iload_n 2, 1) := by decide +kernel
theorem dX2_isPassed_1 : decode cX2_isPassed 1 = .ok (.iload_n 0, 1) := by decide +kernel
theorem dX2_isPassed_2 : decode cX2_isPassed 2 = .ok (.isub, 1) := by decide +kernel
theorem dX2_isPassed_3 : decode cX2_isPassed 3 = .ok (.iconst 1, 1) := by decide +kernel
theorem dX2_isPassed_4 : decode cX2_isPassed 4 = .ok (.isub, 1) := by decide +kernel
theorem dX2_isPassed_5 : decode cX2_isPassed 5 = .ok (.iload_n 3, 1) := by decide +kernel
theorem dX2_isPassed_6 : decode cX2_isPassed 6 = .ok (.iconst 1, 1) := by decide +kernel
theorem dX2_isPassed_7 : decode cX2_isPassed 7 = .ok (.isub, 1) := by decide +kernel
theorem dX2_isPassed_8 : decode cX2_isPassed 8 = .ok (.iand, 1) := by decide +kernel
theorem dX2_isPassed_9 : decode cX2_isPassed 9 = .ok (.iload_n 2, 1) := by decide +kernel
theorem dX2_isPassed_10 : decode cX2_isPassed 10 = .ok (.iload_n 1, 1) := by decide +kernel
theorem dX2_isPassed_11 : decode cX2_isPassed 11 = .ok (.isub, 1) := by decide +kernel
theorem dX2_isPassed_12 : decode cX2_isPassed 12 = .ok (.iload_n 3, 1) := by decide +kernel
theorem dX2_isPassed_13 : decode cX2_isPassed 13 = .ok (.iconst 1, 1) := by decide +kernel
theorem dX2_isPassed_14 : decode cX2_isPassed 14 = .ok (.isub, 1) := by decide +kernel
theorem dX2_isPassed_15 : decode cX2_isPassed 15 = .ok (.iand, 1) := by decide +kernel
theorem dX2_isPassed_16 : decode cX2_isPassed 16 = .ok (.if_icmp .ge 7, 3) := by decide +kernel
theorem dX2_isPassed_19 : decode cX2_isPassed 19 = .ok (.iconst 1, 1) := by decide +kernel
theorem dX2_isPassed_20 : decode cX2_isPassed 20 = .ok (.goto 4, 3) := by decide +kernel
theorem dX2_isPassed_23 : decode cX2_isPassed 23 = .ok (.iconst 0, 1) := by decide +kernel
theorem dX2_isPassed_24 : decode cX2_isPassed 24 = .ok (.ireturn, 1) := by decide +kernel
theorem dX2_sizeOf_0 : decode cX2_sizeOf 0 = .ok (.iload_n 1, 1) := by decide +kernel
theorem dX2_sizeOf_1 : decode cX2_sizeOf 1 = .ok (.ifCond .lt 17, 3) := by decide +kernel
theorem dX2_sizeOf_4 : decode cX2_sizeOf 4 = .ok (.iload_n 1, 1) := by decide +kernel
theorem dX2_sizeOf_5 : decode cX2_sizeOf 5 = .ok (.iconst 5, 1) := by decide +kernel
theorem dX2_sizeOf_6 : decode cX2_sizeOf 6 = .ok (.if_icmp .ge 12, 3) := by decide +kernel
theorem dX2_sizeOf_9 : decode cX2_sizeOf 9 = .ok (.aload_n 0, 1) := by decide +kernel
theorem dX2_sizeOf_10 : decode cX2_sizeOf 10 = .ok (.getfield 18, 3) := by decide +kernel
theorem dX2_sizeOf_13 : decode cX2_sizeOf 13 = .ok (.iload_n 1, 1) := by decide +kernel
theorem dX2_sizeOf_14 : decode cX2_sizeOf 14 = .ok (.iaload, 1) := by decide +kernel
theorem dX2_sizeOf_15 : decode cX2_sizeOf 15 = .ok (.goto 4, 3) := by decide +kernel
theorem dX2_sizeOf_18 : decode cX2_sizeOf 18 = .ok (.iconst (-1), 1) := by decide +kernel
theorem dX2_sizeOf_19 : decode cX2_sizeOf 19 = .ok (.ireturn, 1) := by decide +kernel
theorem dX2_cell_0 : decode cX2_cell 0 = .ok (.iload_n 1, 1) := by decide +kernel
theorem dX2_cell_1 : decode cX2_cell 1 = .ok (.ifCond .lt 31, 3) := by decide +kernel
theorem dX2_cell_4 : decode cX2_cell 4 = .ok (.iload_n 1, 1) := by decide +kernel
theorem dX2_cell_5 : decode cX2_cell 5 = .ok (.iconst 5, 1) := by decide +kernel
theorem dX2_cell_6 : decode cX2_cell 6 = .ok (.if_icmp .ge 26, 3) := by decide +kernel
theorem dX2_cell_9 : decode cX2_cell 9 = .ok (.iload_n 2, 1) := by decide +kernel
theorem dX2_cell_10 : decode cX2_cell 10 = .ok (.ifCond .lt 22, 3) := by decide +kernel
theorem dX2_cell_13 : decode cX2_cell 13 = .ok (.iload_n 2, 1) := by decide +kernel
theorem dX2_cell_14 : decode cX2_cell 14 = .ok (.bipush 8, 2) := by decide +kernel
theorem dX2_cell_16 : decode cX2_cell 16 = .ok (.if_icmp .ge 16, 3) := by decide +kernel
theorem dX2_cell_19 : decode cX2_cell 19 = .ok (.iload_n 3, 1) := by decide +kernel
theorem dX2_cell_20 : decode cX2_cell 20 = .ok (.ifCond .lt 12, 3) := by decide +kernel
theorem dX2_cell_23 : decode cX2_cell 23 = .ok (.iload_n 3, 1) := by decide +kernel
theorem dX2_cell_24 : decode cX2_cell 24 = .ok (.iconst 2, 1) := by decide +kernel
theorem dX2_cell_25 : decode cX2_cell 25 = .ok (.if_icmp .gt 7, 3) := by decide +kernel
theorem dX2_cell_28 : decode cX2_cell 28 = .ok (.iconst 1, 1) := by decide +kernel
theorem dX2_cell_29 : decode cX2_cell 29 = .ok (.goto 4, 3) := by decide +kernel
theorem dX2_cell_32 : decode cX2_cell 32 = .ok (.iconst 0, 1) := by decide +kernel
theorem dX2_cell_33 : decode cX2_cell 33 = .ok (.istore 4, 2) := by decide +kernel
theorem dX2_cell_35 : decode cX2_cell 35 = .ok (.iload 4, 2) := by decide +kernel
theorem dX2_cell_37 : decode cX2_cell 37 = .ok (.ifCond .eq 31, 3) := by decide +kernel
theorem dX2_cell_40 : decode cX2_cell 40 = .ok (.iload_n 2, 1) := by decide +kernel
theorem dX2_cell_41 : decode cX2_cell 41 = .ok (.aload_n 0, 1) := by decide +kernel
theorem dX2_cell_42 : decode cX2_cell 42 = .ok (.getfield 18, 3) := by decide +kernel
theorem dX2_cell_45 : decode cX2_cell 45 = .ok (.iload_n 1, 1) := by decide +kernel
theorem dX2_cell_46 : decode cX2_cell 46 = .ok (.iaload, 1) := by decide +kernel
theorem dX2_cell_47 : decode cX2_cell 47 = .ok (.if_icmp .ge 21, 3) := by decide +kernel
theorem dX2_cell_50 : decode cX2_cell 50 = .ok (.aload_n 0, 1) := by decide +kernel
theorem dX2_cell_51 : decode cX2_cell 51 = .ok (.getfield 15, 3) := by decide +kernel
theorem dX2_cell_54 : decode cX2_cell 54 = .ok (.iload_n 1, 1) := by decide +kernel
theorem dX2_cell_55 : decode cX2_cell 55 = .ok (.bipush 8, 2) := by decide +kernel
theorem dX2_cell_57 : decode cX2_cell 57 = .ok (.imul, 1) := by decide +kernel
theorem dX2_cell_58 : decode cX2_cell 58 = .ok (.iload_n 2, 1) := by decide +kernel
theorem dX2_cell_59 : decode cX2_cell 59 = .ok (.iadd, 1) := by decide +kernel
theorem dX2_cell_60 : decode cX2_cell 60 = .ok (.iconst 3, 1) := by decide +kernel
theorem dX2_cell_61 : decode cX2_cell 61 = .ok (.imul, 1) := by decide +kernel
theorem dX2_cell_62 : decode cX2_cell 62 = .ok (.iload_n 3, 1) := by decide +kernel
theorem dX2_cell_63 : decode cX2_cell 63 = .ok (.iadd, 1) := by decide +kernel
theorem dX2_cell_64 : decode cX2_cell 64 = .ok (.iaload, 1) := by decide +kernel
theorem dX2_cell_65 : decode cX2_cell 65 = .ok (.goto 4, 3) := by decide +kernel
theorem dX2_cell_68 : decode cX2_cell 68 = .ok (.iconst (-1), 1) := by decide +kernel
theorem dX2_cell_69 : decode cX2_cell 69 = .ok (.ireturn, 1) := by decide +kernel
theorem dX2_putCell_0 : decode cX2_putCell 0 = .ok (.iload_n 1, 1) := by decide +kernel
theorem dX2_putCell_1 : decode cX2_putCell 1 = .ok (.ifCond .lt 31, 3) := by decide +kernel
theorem dX2_putCell_4 : decode cX2_putCell 4 = .ok (.iload_n 1, 1) := by decide +kernel
theorem dX2_putCell_5 : decode cX2_putCell 5 = .ok (.iconst 5, 1) := by decide +kernel
theorem dX2_putCell_6 : decode cX2_putCell 6 = .ok (.if_icmp .ge 26, 3) := by decide +kernel
theorem dX2_putCell_9 : decode cX2_putCell 9 = .ok (.iload_n 2, 1) := by decide +kernel
theorem dX2_putCell_10 : decode cX2_putCell 10 = .ok (.ifCond .lt 22, 3) := by decide +kernel
theorem dX2_putCell_13 : decode cX2_putCell 13 = .ok (.iload_n 2, 1) := by decide +kernel
theorem dX2_putCell_14 : decode cX2_putCell 14 = .ok (.bipush 8, 2) := by decide +kernel
theorem dX2_putCell_16 : decode cX2_putCell 16 = .ok (.if_icmp .ge 16, 3) := by decide +kernel
theorem dX2_putCell_19 : decode cX2_putCell 19 = .ok (.iload_n 3, 1) := by decide +kernel
theorem dX2_putCell_20 : decode cX2_putCell 20 = .ok (.ifCond .lt 12, 3) := by decide +kernel
theorem dX2_putCell_23 : decode cX2_putCell 23 = .ok (.iload_n 3, 1) := by decide +kernel
theorem dX2_putCell_24 : decode cX2_putCell 24 = .ok (.iconst 2, 1) := by decide +kernel
theorem dX2_putCell_25 : decode cX2_putCell 25 = .ok (.if_icmp .gt 7, 3) := by decide +kernel
theorem dX2_putCell_28 : decode cX2_putCell 28 = .ok (.iconst 1, 1) := by decide +kernel
theorem dX2_putCell_29 : decode cX2_putCell 29 = .ok (.goto 4, 3) := by decide +kernel
theorem dX2_putCell_32 : decode cX2_putCell 32 = .ok (.iconst 0, 1) := by decide +kernel
theorem dX2_putCell_33 : decode cX2_putCell 33 = .ok (.istore 5, 2) := by decide +kernel
theorem dX2_putCell_35 : decode cX2_putCell 35 = .ok (.iload 5, 2) := by decide +kernel
theorem dX2_putCell_37 : decode cX2_putCell 37 = .ok (.ifCond .eq 30, 3) := by decide +kernel
theorem dX2_putCell_40 : decode cX2_putCell 40 = .ok (.iload_n 2, 1) := by decide +kernel
theorem dX2_putCell_41 : decode cX2_putCell 41 = .ok (.aload_n 0, 1) := by decide +kernel
theorem dX2_putCell_42 : decode cX2_putCell 42 = .ok (.getfield 18, 3) := by decide +kernel
theorem dX2_putCell_45 : decode cX2_putCell 45 = .ok (.iload_n 1, 1) := by decide +kernel
theorem dX2_putCell_46 : decode cX2_putCell 46 = .ok (.iaload, 1) := by decide +kernel
theorem dX2_putCell_47 : decode cX2_putCell 47 = .ok (.if_icmp .ge 20, 3) := by decide +kernel
theorem dX2_putCell_50 : decode cX2_putCell 50 = .ok (.aload_n 0, 1) := by decide +kernel
theorem dX2_putCell_51 : decode cX2_putCell 51 = .ok (.getfield 15, 3) := by decide +kernel
theorem dX2_putCell_54 : decode cX2_putCell 54 = .ok (.iload_n 1, 1) := by decide +kernel
theorem dX2_putCell_55 : decode cX2_putCell 55 = .ok (.bipush 8, 2) := by decide +kernel
theorem dX2_putCell_57 : decode cX2_putCell 57 = .ok (.imul, 1) := by decide +kernel
theorem dX2_putCell_58 : decode cX2_putCell 58 = .ok (.iload_n 2, 1) := by decide +kernel
theorem dX2_putCell_59 : decode cX2_putCell 59 = .ok (.iadd, 1) := by decide +kernel
theorem dX2_putCell_60 : decode cX2_putCell 60 = .ok (.iconst 3, 1) := by decide +kernel
theorem dX2_putCell_61 : decode cX2_putCell 61 = .ok (.imul, 1) := by decide +kernel
theorem dX2_putCell_62 : decode cX2_putCell 62 = .ok (.iload_n 3, 1) := by decide +kernel
theorem dX2_putCell_63 : decode cX2_putCell 63 = .ok (.iadd, 1) := by decide +kernel
theorem dX2_putCell_64 : decode cX2_putCell 64 = .ok (.iload 4, 2) := by decide +kernel
theorem dX2_putCell_66 : decode cX2_putCell 66 = .ok (.iastore, 1) := by decide +kernel
theorem dX2_putCell_67 : decode cX2_putCell 67 = .ok (.return_, 1) := by decide +kernel
theorem dX2_putDescriptor_0 : decode cX2_putDescriptor 0 = .ok (.aload_n 0, 1) := by decide +kernel
theorem dX2_putDescriptor_1 : decode cX2_putDescriptor 1 = .ok (.iload_n 1, 1) := by decide +kernel
theorem dX2_putDescriptor_2 : decode cX2_putDescriptor 2 = .ok (.iload_n 2, 1) := by decide +kernel
theorem dX2_putDescriptor_3 : decode cX2_putDescriptor 3 = .ok (.iconst 0, 1) := by decide +kernel
theorem dX2_putDescriptor_4 : decode cX2_putDescriptor 4 = .ok (.iload_n 3, 1) := by decide +kernel
theorem dX2_putDescriptor_5 : decode cX2_putDescriptor 5 = .ok (.invokevirtual 62, 3) := by decide +kernel
theorem dX2_putDescriptor_8 : decode cX2_putDescriptor 8 = .ok (.aload_n 0, 1) := by decide +kernel
theorem dX2_putDescriptor_9 : decode cX2_putDescriptor 9 = .ok (.iload_n 1, 1) := by decide +kernel
theorem dX2_putDescriptor_10 : decode cX2_putDescriptor 10 = .ok (.iload_n 2, 1) := by decide +kernel
theorem dX2_putDescriptor_11 : decode cX2_putDescriptor 11 = .ok (.iconst 1, 1) := by decide +kernel
theorem dX2_putDescriptor_12 : decode cX2_putDescriptor 12 = .ok (.iload 4, 2) := by decide +kernel
theorem dX2_putDescriptor_14 : decode cX2_putDescriptor 14 = .ok (.invokevirtual 62, 3) := by decide +kernel
theorem dX2_putDescriptor_17 : decode cX2_putDescriptor 17 = .ok (.aload_n 0, 1) := by decide +kernel
theorem dX2_putDescriptor_18 : decode cX2_putDescriptor 18 = .ok (.iload_n 1, 1) := by decide +kernel
theorem dX2_putDescriptor_19 : decode cX2_putDescriptor 19 = .ok (.iload_n 2, 1) := by decide +kernel
theorem dX2_putDescriptor_20 : decode cX2_putDescriptor 20 = .ok (.iconst 2, 1) := by decide +kernel
theorem dX2_putDescriptor_21 : decode cX2_putDescriptor 21 = .ok (.iload 5, 2) := by decide +kernel
theorem dX2_putDescriptor_23 : decode cX2_putDescriptor 23 = .ok (.invokevirtual 62, 3) := by decide +kernel
theorem dX2_putDescriptor_26 : decode cX2_putDescriptor 26 = .ok (.return_, 1) := by decide +kernel
theorem dX2_rowAt_0 : decode cX2_rowAt 0 = .ok (.iload_n 1, 1) := by decide +kernel
theorem dX2_rowAt_1 : decode cX2_rowAt 1 = .ok (.ifCond .lt 30, 3) := by decide +kernel
theorem dX2_rowAt_4 : decode cX2_rowAt 4 = .ok (.iload_n 1, 1) := by decide +kernel
theorem dX2_rowAt_5 : decode cX2_rowAt 5 = .ok (.aload_n 0, 1) := by decide +kernel
theorem dX2_rowAt_6 : decode cX2_rowAt 6 = .ok (.invokevirtual 66, 3) := by decide +kernel
theorem dX2_rowAt_9 : decode cX2_rowAt 9 = .ok (.if_icmp .ge 22, 3) := by decide +kernel
theorem dX2_rowAt_12 : decode cX2_rowAt 12 = .ok (.iload_n 1, 1) := by decide +kernel
theorem dX2_rowAt_13 : decode cX2_rowAt 13 = .ok (.bipush 8, 2) := by decide +kernel
theorem dX2_rowAt_15 : decode cX2_rowAt 15 = .ok (.if_icmp .ge 16, 3) := by decide +kernel
theorem dX2_rowAt_18 : decode cX2_rowAt 18 = .ok (.iload_n 2, 1) := by decide +kernel
theorem dX2_rowAt_19 : decode cX2_rowAt 19 = .ok (.ifCond .lt 12, 3) := by decide +kernel
theorem dX2_rowAt_22 : decode cX2_rowAt 22 = .ok (.iload_n 2, 1) := by decide +kernel
theorem dX2_rowAt_23 : decode cX2_rowAt 23 = .ok (.iconst 2, 1) := by decide +kernel
theorem dX2_rowAt_24 : decode cX2_rowAt 24 = .ok (.if_icmp .gt 7, 3) := by decide +kernel
theorem dX2_rowAt_27 : decode cX2_rowAt 27 = .ok (.iconst 1, 1) := by decide +kernel
theorem dX2_rowAt_28 : decode cX2_rowAt 28 = .ok (.goto 4, 3) := by decide +kernel
theorem dX2_rowAt_31 : decode cX2_rowAt 31 = .ok (.iconst 0, 1) := by decide +kernel
theorem dX2_rowAt_32 : decode cX2_rowAt 32 = .ok (.istore_n 3, 1) := by decide +kernel
theorem dX2_rowAt_33 : decode cX2_rowAt 33 = .ok (.iload_n 3, 1) := by decide +kernel
theorem dX2_rowAt_34 : decode cX2_rowAt 34 = .ok (.ifCond .eq 23, 3) := by decide +kernel
theorem dX2_rowAt_37 : decode cX2_rowAt 37 = .ok (.aload_n 0, 1) := by decide +kernel
theorem dX2_rowAt_38 : decode cX2_rowAt 38 = .ok (.invokevirtual 70, 3) := by decide +kernel
theorem dX2_rowAt_41 : decode cX2_rowAt 41 = .ok (.ifCond .ne 16, 3) := by decide +kernel
theorem dX2_rowAt_44 : decode cX2_rowAt 44 = .ok (.aload_n 0, 1) := by decide +kernel
theorem dX2_rowAt_45 : decode cX2_rowAt 45 = .ok (.getfield 21, 3) := by decide +kernel
theorem dX2_rowAt_48 : decode cX2_rowAt 48 = .ok (.iload_n 1, 1) := by decide +kernel
theorem dX2_rowAt_49 : decode cX2_rowAt 49 = .ok (.iconst 3, 1) := by decide +kernel
theorem dX2_rowAt_50 : decode cX2_rowAt 50 = .ok (.imul, 1) := by decide +kernel
theorem dX2_rowAt_51 : decode cX2_rowAt 51 = .ok (.iload_n 2, 1) := by decide +kernel
theorem dX2_rowAt_52 : decode cX2_rowAt 52 = .ok (.iadd, 1) := by decide +kernel
theorem dX2_rowAt_53 : decode cX2_rowAt 53 = .ok (.iaload, 1) := by decide +kernel
theorem dX2_rowAt_54 : decode cX2_rowAt 54 = .ok (.goto 4, 3) := by decide +kernel
theorem dX2_rowAt_57 : decode cX2_rowAt 57 = .ok (.iconst (-1), 1) := by decide +kernel
theorem dX2_rowAt_58 : decode cX2_rowAt 58 = .ok (.ireturn, 1) := by decide +kernel
theorem dX2_putRow_0 : decode cX2_putRow 0 = .ok (.iload_n 1, 1) := by decide +kernel
theorem dX2_putRow_1 : decode cX2_putRow 1 = .ok (.ifCond .lt 29, 3) := by decide +kernel
theorem dX2_putRow_4 : decode cX2_putRow 4 = .ok (.iload_n 1, 1) := by decide +kernel
theorem dX2_putRow_5 : decode cX2_putRow 5 = .ok (.bipush 8, 2) := by decide +kernel
theorem dX2_putRow_7 : decode cX2_putRow 7 = .ok (.if_icmp .ge 23, 3) := by decide +kernel
theorem dX2_putRow_10 : decode cX2_putRow 10 = .ok (.iload_n 2, 1) := by decide +kernel
theorem dX2_putRow_11 : decode cX2_putRow 11 = .ok (.ifCond .lt 19, 3) := by decide +kernel
theorem dX2_putRow_14 : decode cX2_putRow 14 = .ok (.iload_n 2, 1) := by decide +kernel
theorem dX2_putRow_15 : decode cX2_putRow 15 = .ok (.iconst 2, 1) := by decide +kernel
theorem dX2_putRow_16 : decode cX2_putRow 16 = .ok (.if_icmp .gt 14, 3) := by decide +kernel
theorem dX2_putRow_19 : decode cX2_putRow 19 = .ok (.aload_n 0, 1) := by decide +kernel
theorem dX2_putRow_20 : decode cX2_putRow 20 = .ok (.getfield 21, 3) := by decide +kernel
theorem dX2_putRow_23 : decode cX2_putRow 23 = .ok (.iload_n 1, 1) := by decide +kernel
theorem dX2_putRow_24 : decode cX2_putRow 24 = .ok (.iconst 3, 1) := by decide +kernel
theorem dX2_putRow_25 : decode cX2_putRow 25 = .ok (.imul, 1) := by decide +kernel
theorem dX2_putRow_26 : decode cX2_putRow 26 = .ok (.iload_n 2, 1) := by decide +kernel
theorem dX2_putRow_27 : decode cX2_putRow 27 = .ok (.iadd, 1) := by decide +kernel
theorem dX2_putRow_28 : decode cX2_putRow 28 = .ok (.iload_n 3, 1) := by decide +kernel
theorem dX2_putRow_29 : decode cX2_putRow 29 = .ok (.iastore, 1) := by decide +kernel
theorem dX2_putRow_30 : decode cX2_putRow 30 = .ok (.return_, 1) := by decide +kernel
theorem dX2_ofBuffer_0 : decode cX2_ofBuffer 0 = .ok (.iload_n 1, 1) := by decide +kernel
theorem dX2_ofBuffer_1 : decode cX2_ofBuffer 1 = .ok (.ifCond .lt 34, 3) := by decide +kernel
theorem dX2_ofBuffer_4 : decode cX2_ofBuffer 4 = .ok (.iload_n 1, 1) := by decide +kernel
theorem dX2_ofBuffer_5 : decode cX2_ofBuffer 5 = .ok (.aload_n 0, 1) := by decide +kernel
theorem dX2_ofBuffer_6 : decode cX2_ofBuffer 6 = .ok (.getfield 11, 3) := by decide +kernel
theorem dX2_ofBuffer_9 : decode cX2_ofBuffer 9 = .ok (.iconst 5, 1) := by decide +kernel
theorem dX2_ofBuffer_10 : decode cX2_ofBuffer 10 = .ok (.iaload, 1) := by decide +kernel
theorem dX2_ofBuffer_11 : decode cX2_ofBuffer 11 = .ok (.if_icmp .ge 24, 3) := by decide +kernel
theorem dX2_ofBuffer_14 : decode cX2_ofBuffer 14 = .ok (.iload_n 1, 1) := by decide +kernel
theorem dX2_ofBuffer_15 : decode cX2_ofBuffer 15 = .ok (.sipush 500, 3) := by decide +kernel
theorem dX2_ofBuffer_18 : decode cX2_ofBuffer 18 = .ok (.if_icmp .ge 17, 3) := by decide +kernel
theorem dX2_ofBuffer_21 : decode cX2_ofBuffer 21 = .ok (.iload_n 2, 1) := by decide +kernel
theorem dX2_ofBuffer_22 : decode cX2_ofBuffer 22 = .ok (.ifCond .lt 13, 3) := by decide +kernel
theorem dX2_ofBuffer_25 : decode cX2_ofBuffer 25 = .ok (.iload_n 2, 1) := by decide +kernel
theorem dX2_ofBuffer_26 : decode cX2_ofBuffer 26 = .ok (.bipush 8, 2) := by decide +kernel
theorem dX2_ofBuffer_28 : decode cX2_ofBuffer 28 = .ok (.if_icmp .ge 7, 3) := by decide +kernel
theorem dX2_ofBuffer_31 : decode cX2_ofBuffer 31 = .ok (.iconst 1, 1) := by decide +kernel
theorem dX2_ofBuffer_32 : decode cX2_ofBuffer 32 = .ok (.goto 4, 3) := by decide +kernel
theorem dX2_ofBuffer_35 : decode cX2_ofBuffer 35 = .ok (.iconst 0, 1) := by decide +kernel
theorem dX2_ofBuffer_36 : decode cX2_ofBuffer 36 = .ok (.istore_n 3, 1) := by decide +kernel
theorem dX2_ofBuffer_37 : decode cX2_ofBuffer 37 = .ok (.iload_n 3, 1) := by decide +kernel
theorem dX2_ofBuffer_38 : decode cX2_ofBuffer 38 = .ok (.ifCond .eq 17, 3) := by decide +kernel
theorem dX2_ofBuffer_41 : decode cX2_ofBuffer 41 = .ok (.aload_n 0, 1) := by decide +kernel
theorem dX2_ofBuffer_42 : decode cX2_ofBuffer 42 = .ok (.getfield 30, 3) := by decide +kernel
theorem dX2_ofBuffer_45 : decode cX2_ofBuffer 45 = .ok (.iload_n 1, 1) := by decide +kernel
theorem dX2_ofBuffer_46 : decode cX2_ofBuffer 46 = .ok (.bipush 8, 2) := by decide +kernel
theorem dX2_ofBuffer_48 : decode cX2_ofBuffer 48 = .ok (.imul, 1) := by decide +kernel
theorem dX2_ofBuffer_49 : decode cX2_ofBuffer 49 = .ok (.iload_n 2, 1) := by decide +kernel
theorem dX2_ofBuffer_50 : decode cX2_ofBuffer 50 = .ok (.iadd, 1) := by decide +kernel
theorem dX2_ofBuffer_51 : decode cX2_ofBuffer 51 = .ok (.iaload, 1) := by decide +kernel
theorem dX2_ofBuffer_52 : decode cX2_ofBuffer 52 = .ok (.goto 4, 3) := by decide +kernel
theorem dX2_ofBuffer_55 : decode cX2_ofBuffer 55 = .ok (.iconst (-1), 1) := by decide +kernel
theorem dX2_ofBuffer_56 : decode cX2_ofBuffer 56 = .ok (.ireturn, 1) := by decide +kernel
theorem dX2_putBuffer_0 : decode cX2_putBuffer 0 = .ok (.iload_n 1, 1) := by decide +kernel
theorem dX2_putBuffer_1 : decode cX2_putBuffer 1 = .ok (.ifCond .lt 32, 3) := by decide +kernel
theorem dX2_putBuffer_4 : decode cX2_putBuffer 4 = .ok (.iload_n 1, 1) := by decide +kernel
theorem dX2_putBuffer_5 : decode cX2_putBuffer 5 = .ok (.sipush 500, 3) := by decide +kernel
theorem dX2_putBuffer_8 : decode cX2_putBuffer 8 = .ok (.if_icmp .ge 25, 3) := by decide +kernel
theorem dX2_putBuffer_11 : decode cX2_putBuffer 11 = .ok (.iload_n 2, 1) := by decide +kernel
theorem dX2_putBuffer_12 : decode cX2_putBuffer 12 = .ok (.ifCond .lt 21, 3) := by decide +kernel
theorem dX2_putBuffer_15 : decode cX2_putBuffer 15 = .ok (.iload_n 2, 1) := by decide +kernel
theorem dX2_putBuffer_16 : decode cX2_putBuffer 16 = .ok (.bipush 8, 2) := by decide +kernel
theorem dX2_putBuffer_18 : decode cX2_putBuffer 18 = .ok (.if_icmp .ge 15, 3) := by decide +kernel
theorem dX2_putBuffer_21 : decode cX2_putBuffer 21 = .ok (.aload_n 0, 1) := by decide +kernel
theorem dX2_putBuffer_22 : decode cX2_putBuffer 22 = .ok (.getfield 30, 3) := by decide +kernel
theorem dX2_putBuffer_25 : decode cX2_putBuffer 25 = .ok (.iload_n 1, 1) := by decide +kernel
theorem dX2_putBuffer_26 : decode cX2_putBuffer 26 = .ok (.bipush 8, 2) := by decide +kernel
theorem dX2_putBuffer_28 : decode cX2_putBuffer 28 = .ok (.imul, 1) := by decide +kernel
theorem dX2_putBuffer_29 : decode cX2_putBuffer 29 = .ok (.iload_n 2, 1) := by decide +kernel
theorem dX2_putBuffer_30 : decode cX2_putBuffer 30 = .ok (.iadd, 1) := by decide +kernel
theorem dX2_putBuffer_31 : decode cX2_putBuffer 31 = .ok (.iload_n 3, 1) := by decide +kernel
theorem dX2_putBuffer_32 : decode cX2_putBuffer 32 = .ok (.iastore, 1) := by decide +kernel
theorem dX2_putBuffer_33 : decode cX2_putBuffer 33 = .ok (.return_, 1) := by decide +kernel
theorem dX2_isMarked_0 : decode cX2_isMarked 0 = .ok (.aload_n 0, 1) := by decide +kernel
theorem dX2_isMarked_1 : decode cX2_isMarked 1 = .ok (.iconst 0, 1) := by decide +kernel
theorem dX2_isMarked_2 : decode cX2_isMarked 2 = .ok (.aload_n 0, 1) := by decide +kernel
theorem dX2_isMarked_3 : decode cX2_isMarked 3 = .ok (.iload_n 1, 1) := by decide +kernel
theorem dX2_isMarked_4 : decode cX2_isMarked 4 = .ok (.invokevirtual 74, 3) := by decide +kernel
theorem dX2_isMarked_7 : decode cX2_isMarked 7 = .ok (.iconst 1, 1) := by decide +kernel
theorem dX2_isMarked_8 : decode cX2_isMarked 8 = .ok (.invokevirtual 78, 3) := by decide +kernel
theorem dX2_isMarked_11 : decode cX2_isMarked 11 = .ok (.istore_n 3, 1) := by decide +kernel
theorem dX2_isMarked_12 : decode cX2_isMarked 12 = .ok (.aload_n 0, 1) := by decide +kernel
theorem dX2_isMarked_13 : decode cX2_isMarked 13 = .ok (.iload_n 1, 1) := by decide +kernel
theorem dX2_isMarked_14 : decode cX2_isMarked 14 = .ok (.invokevirtual 82, 3) := by decide +kernel
theorem dX2_isMarked_17 : decode cX2_isMarked 17 = .ok (.istore 4, 2) := by decide +kernel
theorem dX2_isMarked_19 : decode cX2_isMarked 19 = .ok (.iload_n 3, 1) := by decide +kernel
theorem dX2_isMarked_20 : decode cX2_isMarked 20 = .ok (.bipush 8, 2) := by decide +kernel
theorem dX2_isMarked_22 : decode cX2_isMarked 22 = .ok (.iand, 1) := by decide +kernel
theorem dX2_isMarked_23 : decode cX2_isMarked 23 = .ok (.ifCond .eq 7, 3) := by decide +kernel
theorem dX2_isMarked_26 : decode cX2_isMarked 26 = .ok (.iconst 1, 1) := by decide +kernel
theorem dX2_isMarked_27 : decode cX2_isMarked 27 = .ok (.goto 4, 3) := by decide +kernel
theorem dX2_isMarked_30 : decode cX2_isMarked 30 = .ok (.iconst 0, 1) := by decide +kernel
theorem dX2_isMarked_31 : decode cX2_isMarked 31 = .ok (.istore 5, 2) := by decide +kernel
theorem dX2_isMarked_33 : decode cX2_isMarked 33 = .ok (.iload_n 3, 1) := by decide +kernel
theorem dX2_isMarked_34 : decode cX2_isMarked 34 = .ok (.bipush 16, 2) := by decide +kernel
theorem dX2_isMarked_36 : decode cX2_isMarked 36 = .ok (.iand, 1) := by decide +kernel
theorem dX2_isMarked_37 : decode cX2_isMarked 37 = .ok (.ifCond .eq 7, 3) := by decide +kernel
theorem dX2_isMarked_40 : decode cX2_isMarked 40 = .ok (.iconst 1, 1) := by decide +kernel
theorem dX2_isMarked_41 : decode cX2_isMarked 41 = .ok (.goto 4, 3) := by decide +kernel
theorem dX2_isMarked_44 : decode cX2_isMarked 44 = .ok (.iconst 0, 1) := by decide +kernel
theorem dX2_isMarked_45 : decode cX2_isMarked 45 = .ok (.istore 6, 2) := by decide +kernel
theorem dX2_isMarked_47 : decode cX2_isMarked 47 = .ok (.iload 5, 2) := by decide +kernel
theorem dX2_isMarked_49 : decode cX2_isMarked 49 = .ok (.iload 4, 2) := by decide +kernel
theorem dX2_isMarked_51 : decode cX2_isMarked 51 = .ok (.if_icmp .ne 31, 3) := by decide +kernel
theorem dX2_isMarked_54 : decode cX2_isMarked 54 = .ok (.iload 6, 2) := by decide +kernel
theorem dX2_isMarked_56 : decode cX2_isMarked 56 = .ok (.iload_n 2, 1) := by decide +kernel
theorem dX2_isMarked_57 : decode cX2_isMarked 57 = .ok (.ifCond .eq 8, 3) := by decide +kernel
theorem dX2_isMarked_60 : decode cX2_isMarked 60 = .ok (.iload 4, 2) := by decide +kernel
theorem dX2_isMarked_62 : decode cX2_isMarked 62 = .ok (.goto 13, 3) := by decide +kernel
theorem dX2_isMarked_65 : decode cX2_isMarked 65 = .ok (.iload 4, 2) := by decide +kernel
theorem dX2_isMarked_67 : decode cX2_isMarked 67 = .ok (.ifCond .ne 7, 3) := by decide +kernel
theorem dX2_isMarked_70 : decode cX2_isMarked 70 = .ok (.iconst 1, 1) := by decide +kernel
theorem dX2_isMarked_71 : decode cX2_isMarked 71 = .ok (.goto 4, 3) := by decide +kernel
theorem dX2_isMarked_74 : decode cX2_isMarked 74 = .ok (.iconst 0, 1) := by decide +kernel
theorem dX2_isMarked_75 : decode cX2_isMarked 75 = .ok (.if_icmp .ne 7, 3) := by decide +kernel
theorem dX2_isMarked_78 : decode cX2_isMarked 78 = .ok (.iconst 1, 1) := by decide +kernel
theorem dX2_isMarked_79 : decode cX2_isMarked 79 = .ok (.goto 4, 3) := by decide +kernel
theorem dX2_isMarked_82 : decode cX2_isMarked 82 = .ok (.iconst 0, 1) := by decide +kernel
theorem dX2_isMarked_83 : decode cX2_isMarked 83 = .ok (.ireturn, 1) := by decide +kernel
theorem dX2_lay_0 : decode cX2_lay 0 = .ok (.aload_n 0, 1) := by decide +kernel
theorem dX2_lay_1 : decode cX2_lay 1 = .ok (.getfield 11, 3) := by decide +kernel
theorem dX2_lay_4 : decode cX2_lay 4 = .ok (.bipush 7, 2) := by decide +kernel
theorem dX2_lay_6 : decode cX2_lay 6 = .ok (.iaload, 1) := by decide +kernel
theorem dX2_lay_7 : decode cX2_lay 7 = .ok (.ifCond .eq 6, 3) := by decide +kernel
theorem dX2_lay_10 : decode cX2_lay 10 = .ok (.bipush (-3), 2) := by decide +kernel
theorem dX2_lay_12 : decode cX2_lay 12 = .ok (.ireturn, 1) := by decide +kernel
theorem dX2_lay_13 : decode cX2_lay 13 = .ok (.iload_n 2, 1) := by decide +kernel
theorem dX2_lay_14 : decode cX2_lay 14 = .ok (.ifCond .eq 14, 3) := by decide +kernel
theorem dX2_lay_17 : decode cX2_lay 17 = .ok (.aload_n 0, 1) := by decide +kernel
theorem dX2_lay_18 : decode cX2_lay 18 = .ok (.iconst 2, 1) := by decide +kernel
theorem dX2_lay_19 : decode cX2_lay 19 = .ok (.invokevirtual 86, 3) := by decide +kernel
theorem dX2_lay_22 : decode cX2_lay 22 = .ok (.ifCond .ne 6, 3) := by decide +kernel
theorem dX2_lay_25 : decode cX2_lay 25 = .ok (.bipush (-4), 2) := by decide +kernel
theorem dX2_lay_27 : decode cX2_lay 27 = .ok (.ireturn, 1) := by decide +kernel
theorem dX2_lay_28 : decode cX2_lay 28 = .ok (.iload_n 2, 1) := by decide +kernel
theorem dX2_lay_29 : decode cX2_lay 29 = .ok (.ifCond .eq 7, 3) := by decide +kernel
theorem dX2_lay_32 : decode cX2_lay 32 = .ok (.iconst 1, 1) := by decide +kernel
theorem dX2_lay_33 : decode cX2_lay 33 = .ok (.goto 7, 3) := by decide +kernel
theorem dX2_lay_36 : decode cX2_lay 36 = .ok (.aload_n 1, 1) := by decide +kernel
theorem dX2_lay_37 : decode cX2_lay 37 = .ok (.getfield 89, 3) := by decide +kernel
theorem dX2_lay_40 : decode cX2_lay 40 = .ok (.istore_n 3, 1) := by decide +kernel
theorem dX2_lay_41 : decode cX2_lay 41 = .ok (.aload_n 0, 1) := by decide +kernel
theorem dX2_lay_42 : decode cX2_lay 42 = .ok (.invokevirtual 95, 3) := by decide +kernel
theorem dX2_lay_45 : decode cX2_lay 45 = .ok (.istore 4, 2) := by decide +kernel
theorem dX2_lay_47 : decode cX2_lay 47 = .ok (.aload_n 0, 1) := by decide +kernel
theorem dX2_lay_48 : decode cX2_lay 48 = .ok (.getfield 11, 3) := by decide +kernel
theorem dX2_lay_51 : decode cX2_lay 51 = .ok (.iconst 4, 1) := by decide +kernel
theorem dX2_lay_52 : decode cX2_lay 52 = .ok (.iaload, 1) := by decide +kernel
theorem dX2_lay_53 : decode cX2_lay 53 = .ok (.iload_n 3, 1) := by decide +kernel
theorem dX2_lay_54 : decode cX2_lay 54 = .ok (.if_icmp .lt 9, 3) := by decide +kernel
theorem dX2_lay_57 : decode cX2_lay 57 = .ok (.iload 4, 2) := by decide +kernel
theorem dX2_lay_59 : decode cX2_lay 59 = .ok (.iconst (-1), 1) := by decide +kernel
theorem dX2_lay_60 : decode cX2_lay 60 = .ok (.if_icmp .ne 6, 3) := by decide +kernel
theorem dX2_lay_63 : decode cX2_lay 63 = .ok (.bipush (-5), 2) := by decide +kernel
theorem dX2_lay_65 : decode cX2_lay 65 = .ok (.ireturn, 1) := by decide +kernel
theorem dX2_lay_66 : decode cX2_lay 66 = .ok (.iload_n 2, 1) := by decide +kernel
theorem dX2_lay_67 : decode cX2_lay 67 = .ok (.ifCond .eq 12, 3) := by decide +kernel
theorem dX2_lay_70 : decode cX2_lay 70 = .ok (.aload_n 0, 1) := by decide +kernel
theorem dX2_lay_71 : decode cX2_lay 71 = .ok (.iload 4, 2) := by decide +kernel
theorem dX2_lay_73 : decode cX2_lay 73 = .ok (.invokevirtual 98, 3) := by decide +kernel
theorem dX2_lay_76 : decode cX2_lay 76 = .ok (.goto 4, 3) := by decide +kernel
theorem dX2_lay_79 : decode cX2_lay 79 = .ok (.iconst (-1), 1) := by decide +kernel
theorem dX2_lay_80 : decode cX2_lay 80 = .ok (.istore 5, 2) := by decide +kernel
theorem dX2_lay_82 : decode cX2_lay 82 = .ok (.iload_n 2, 1) := by decide +kernel
theorem dX2_lay_83 : decode cX2_lay 83 = .ok (.ifCond .eq 12, 3) := by decide +kernel
theorem dX2_lay_86 : decode cX2_lay 86 = .ok (.iload 5, 2) := by decide +kernel
theorem dX2_lay_88 : decode cX2_lay 88 = .ok (.iconst (-1), 1) := by decide +kernel
theorem dX2_lay_89 : decode cX2_lay 89 = .ok (.if_icmp .ne 6, 3) := by decide +kernel
theorem dX2_lay_92 : decode cX2_lay 92 = .ok (.bipush (-6), 2) := by decide +kernel
theorem dX2_lay_94 : decode cX2_lay 94 = .ok (.ireturn, 1) := by decide +kernel
theorem dX2_lay_95 : decode cX2_lay 95 = .ok (.aload_n 0, 1) := by decide +kernel
theorem dX2_lay_96 : decode cX2_lay 96 = .ok (.getfield 11, 3) := by decide +kernel
theorem dX2_lay_99 : decode cX2_lay 99 = .ok (.iconst 5, 1) := by decide +kernel
theorem dX2_lay_100 : decode cX2_lay 100 = .ok (.iaload, 1) := by decide +kernel
theorem dX2_lay_101 : decode cX2_lay 101 = .ok (.sipush 500, 3) := by decide +kernel
theorem dX2_lay_104 : decode cX2_lay 104 = .ok (.if_icmp .lt 6, 3) := by decide +kernel
theorem dX2_lay_107 : decode cX2_lay 107 = .ok (.bipush (-7), 2) := by decide +kernel
theorem dX2_lay_109 : decode cX2_lay 109 = .ok (.ireturn, 1) := by decide +kernel
theorem dX2_lay_110 : decode cX2_lay 110 = .ok (.aload_n 0, 1) := by decide +kernel
theorem dX2_lay_111 : decode cX2_lay 111 = .ok (.getfield 11, 3) := by decide +kernel
theorem dX2_lay_114 : decode cX2_lay 114 = .ok (.iconst 5, 1) := by decide +kernel
theorem dX2_lay_115 : decode cX2_lay 115 = .ok (.iaload, 1) := by decide +kernel
theorem dX2_lay_116 : decode cX2_lay 116 = .ok (.istore 6, 2) := by decide +kernel
theorem dX2_lay_118 : decode cX2_lay 118 = .ok (.aload_n 0, 1) := by decide +kernel
theorem dX2_lay_119 : decode cX2_lay 119 = .ok (.iload 6, 2) := by decide +kernel
theorem dX2_lay_121 : decode cX2_lay 121 = .ok (.aload_n 1, 1) := by decide +kernel
theorem dX2_lay_122 : decode cX2_lay 122 = .ok (.getfield 89, 3) := by decide +kernel
theorem dX2_lay_125 : decode cX2_lay 125 = .ok (.iload 4, 2) := by decide +kernel
theorem dX2_lay_127 : decode cX2_lay 127 = .ok (.iload 5, 2) := by decide +kernel
theorem dX2_lay_129 : decode cX2_lay 129 = .ok (.iload_n 3, 1) := by decide +kernel
theorem dX2_lay_130 : decode cX2_lay 130 = .ok (.invokevirtual 101, 3) := by decide +kernel
theorem dX2_lay_133 : decode cX2_lay 133 = .ok (.iload_n 2, 1) := by decide +kernel
theorem dX2_lay_134 : decode cX2_lay 134 = .ok (.ifCond .eq 12, 3) := by decide +kernel
theorem dX2_lay_137 : decode cX2_lay 137 = .ok (.aload_n 0, 1) := by decide +kernel
theorem dX2_lay_138 : decode cX2_lay 138 = .ok (.iload 6, 2) := by decide +kernel
theorem dX2_lay_140 : decode cX2_lay 140 = .ok (.iload 5, 2) := by decide +kernel
theorem dX2_lay_142 : decode cX2_lay 142 = .ok (.aload_n 1, 1) := by decide +kernel
theorem dX2_lay_143 : decode cX2_lay 143 = .ok (.invokevirtual 104, 3) := by decide +kernel
theorem dX2_lay_146 : decode cX2_lay 146 = .ok (.aload_n 0, 1) := by decide +kernel
theorem dX2_lay_147 : decode cX2_lay 147 = .ok (.invokevirtual 70, 3) := by decide +kernel
theorem dX2_lay_150 : decode cX2_lay 150 = .ok (.ifCond .eq 14, 3) := by decide +kernel
theorem dX2_lay_153 : decode cX2_lay 153 = .ok (.aload_n 0, 1) := by decide +kernel
theorem dX2_lay_154 : decode cX2_lay 154 = .ok (.iload 6, 2) := by decide +kernel
theorem dX2_lay_156 : decode cX2_lay 156 = .ok (.aload_n 1, 1) := by decide +kernel
theorem dX2_lay_157 : decode cX2_lay 157 = .ok (.iload_n 3, 1) := by decide +kernel
theorem dX2_lay_158 : decode cX2_lay 158 = .ok (.invokevirtual 108, 3) := by decide +kernel
theorem dX2_lay_161 : decode cX2_lay 161 = .ok (.goto 11, 3) := by decide +kernel
theorem dX2_lay_164 : decode cX2_lay 164 = .ok (.aload_n 0, 1) := by decide +kernel
theorem dX2_lay_165 : decode cX2_lay 165 = .ok (.iload 6, 2) := by decide +kernel
theorem dX2_lay_167 : decode cX2_lay 167 = .ok (.aload_n 1, 1) := by decide +kernel
theorem dX2_lay_168 : decode cX2_lay 168 = .ok (.iload_n 3, 1) := by decide +kernel
theorem dX2_lay_169 : decode cX2_lay 169 = .ok (.invokevirtual 112, 3) := by decide +kernel
theorem dX2_lay_172 : decode cX2_lay 172 = .ok (.iload 6, 2) := by decide +kernel
theorem dX2_lay_174 : decode cX2_lay 174 = .ok (.ireturn, 1) := by decide +kernel
theorem dX2_leastFreeId_0 : decode cX2_leastFreeId 0 = .ok (.iconst 0, 1) := by decide +kernel
theorem dX2_leastFreeId_1 : decode cX2_leastFreeId 1 = .ok (.istore_n 1, 1) := by decide +kernel
theorem dX2_leastFreeId_2 : decode cX2_leastFreeId 2 = .ok (.iload_n 1, 1) := by decide +kernel
theorem dX2_leastFreeId_3 : decode cX2_leastFreeId 3 = .ok (.aload_n 0, 1) := by decide +kernel
theorem dX2_leastFreeId_4 : decode cX2_leastFreeId 4 = .ok (.invokevirtual 66, 3) := by decide +kernel
theorem dX2_leastFreeId_7 : decode cX2_leastFreeId 7 = .ok (.if_icmp .ge 27, 3) := by decide +kernel
theorem dX2_leastFreeId_10 : decode cX2_leastFreeId 10 = .ok (.iload_n 1, 1) := by decide +kernel
theorem dX2_leastFreeId_11 : decode cX2_leastFreeId 11 = .ok (.bipush 8, 2) := by decide +kernel
theorem dX2_leastFreeId_13 : decode cX2_leastFreeId 13 = .ok (.if_icmp .ge 21, 3) := by decide +kernel
theorem dX2_leastFreeId_16 : decode cX2_leastFreeId 16 = .ok (.aload_n 0, 1) := by decide +kernel
theorem dX2_leastFreeId_17 : decode cX2_leastFreeId 17 = .ok (.getfield 24, 3) := by decide +kernel
theorem dX2_leastFreeId_20 : decode cX2_leastFreeId 20 = .ok (.iload_n 1, 1) := by decide +kernel
theorem dX2_leastFreeId_21 : decode cX2_leastFreeId 21 = .ok (.iaload, 1) := by decide +kernel
theorem dX2_leastFreeId_22 : decode cX2_leastFreeId 22 = .ok (.iconst (-1), 1) := by decide +kernel
theorem dX2_leastFreeId_23 : decode cX2_leastFreeId 23 = .ok (.if_icmp .ne 5, 3) := by decide +kernel
theorem dX2_leastFreeId_26 : decode cX2_leastFreeId 26 = .ok (.iload_n 1, 1) := by decide +kernel
theorem dX2_leastFreeId_27 : decode cX2_leastFreeId 27 = .ok (.ireturn, 1) := by decide +kernel
theorem dX2_leastFreeId_28 : decode cX2_leastFreeId 28 = .ok (.iinc 1 1, 3) := by decide +kernel
theorem dX2_leastFreeId_31 : decode cX2_leastFreeId 31 = .ok (.goto (-29), 3) := by decide +kernel
theorem dX2_leastFreeId_34 : decode cX2_leastFreeId 34 = .ok (.iconst (-1), 1) := by decide +kernel
theorem dX2_leastFreeId_35 : decode cX2_leastFreeId 35 = .ok (.ireturn, 1) := by decide +kernel
theorem dX2_freeTableFor_0 : decode cX2_freeTableFor 0 = .ok (.aload_n 0, 1) := by decide +kernel
theorem dX2_freeTableFor_1 : decode cX2_freeTableFor 1 = .ok (.invokevirtual 70, 3) := by decide +kernel
theorem dX2_freeTableFor_4 : decode cX2_freeTableFor 4 = .ok (.ifCond .eq 24, 3) := by decide +kernel
theorem dX2_freeTableFor_7 : decode cX2_freeTableFor 7 = .ok (.iload_n 1, 1) := by decide +kernel
theorem dX2_freeTableFor_8 : decode cX2_freeTableFor 8 = .ok (.invokestatic 115, 3) := by decide +kernel
theorem dX2_freeTableFor_11 : decode cX2_freeTableFor 11 = .ok (.istore_n 2, 1) := by decide +kernel
theorem dX2_freeTableFor_12 : decode cX2_freeTableFor 12 = .ok (.aload_n 0, 1) := by decide +kernel
theorem dX2_freeTableFor_13 : decode cX2_freeTableFor 13 = .ok (.getfield 27, 3) := by decide +kernel
theorem dX2_freeTableFor_16 : decode cX2_freeTableFor 16 = .ok (.iload_n 2, 1) := by decide +kernel
theorem dX2_freeTableFor_17 : decode cX2_freeTableFor 17 = .ok (.iaload, 1) := by decide +kernel
theorem dX2_freeTableFor_18 : decode cX2_freeTableFor 18 = .ok (.iconst (-1), 1) := by decide +kernel
theorem dX2_freeTableFor_19 : decode cX2_freeTableFor 19 = .ok (.if_icmp .ne 7, 3) := by decide +kernel
theorem dX2_freeTableFor_22 : decode cX2_freeTableFor 22 = .ok (.iload_n 2, 1) := by decide +kernel
theorem dX2_freeTableFor_23 : decode cX2_freeTableFor 23 = .ok (.goto 4, 3) := by decide +kernel
theorem dX2_freeTableFor_26 : decode cX2_freeTableFor 26 = .ok (.iconst (-1), 1) := by decide +kernel
theorem dX2_freeTableFor_27 : decode cX2_freeTableFor 27 = .ok (.ireturn, 1) := by decide +kernel
theorem dX2_freeTableFor_28 : decode cX2_freeTableFor 28 = .ok (.iconst 1, 1) := by decide +kernel
theorem dX2_freeTableFor_29 : decode cX2_freeTableFor 29 = .ok (.istore_n 2, 1) := by decide +kernel
theorem dX2_freeTableFor_30 : decode cX2_freeTableFor 30 = .ok (.iload_n 2, 1) := by decide +kernel
theorem dX2_freeTableFor_31 : decode cX2_freeTableFor 31 = .ok (.iconst 5, 1) := by decide +kernel
theorem dX2_freeTableFor_32 : decode cX2_freeTableFor 32 = .ok (.if_icmp .ge 21, 3) := by decide +kernel
theorem dX2_freeTableFor_35 : decode cX2_freeTableFor 35 = .ok (.aload_n 0, 1) := by decide +kernel
theorem dX2_freeTableFor_36 : decode cX2_freeTableFor 36 = .ok (.getfield 27, 3) := by decide +kernel
theorem dX2_freeTableFor_39 : decode cX2_freeTableFor 39 = .ok (.iload_n 2, 1) := by decide +kernel
theorem dX2_freeTableFor_40 : decode cX2_freeTableFor 40 = .ok (.iaload, 1) := by decide +kernel
theorem dX2_freeTableFor_41 : decode cX2_freeTableFor 41 = .ok (.iconst (-1), 1) := by decide +kernel
theorem dX2_freeTableFor_42 : decode cX2_freeTableFor 42 = .ok (.if_icmp .ne 5, 3) := by decide +kernel
theorem dX2_freeTableFor_45 : decode cX2_freeTableFor 45 = .ok (.iload_n 2, 1) := by decide +kernel
theorem dX2_freeTableFor_46 : decode cX2_freeTableFor 46 = .ok (.ireturn, 1) := by decide +kernel
theorem dX2_freeTableFor_47 : decode cX2_freeTableFor 47 = .ok (.iinc 2 1, 3) := by decide +kernel
theorem dX2_freeTableFor_50 : decode cX2_freeTableFor 50 = .ok (.goto (-20), 3) := by decide +kernel
theorem dX2_freeTableFor_53 : decode cX2_freeTableFor 53 = .ok (.iconst (-1), 1) := by decide +kernel
theorem dX2_freeTableFor_54 : decode cX2_freeTableFor 54 = .ok (.ireturn, 1) := by decide +kernel
theorem dX2_tableOfId_0 : decode cX2_tableOfId 0 = .ok (.iload_n 0, 1) := by decide +kernel
theorem dX2_tableOfId_1 : decode cX2_tableOfId 1 = .ok (.iconst 3, 1) := by decide +kernel
theorem dX2_tableOfId_2 : decode cX2_tableOfId 2 = .ok (.iand, 1) := by decide +kernel
theorem dX2_tableOfId_3 : decode cX2_tableOfId 3 = .ok (.iconst 1, 1) := by decide +kernel
theorem dX2_tableOfId_4 : decode cX2_tableOfId 4 = .ok (.iadd, 1) := by decide +kernel
theorem dX2_tableOfId_5 : decode cX2_tableOfId 5 = .ok (.ireturn, 1) := by decide +kernel
theorem dX2_noteBuffer_0 : decode cX2_noteBuffer 0 = .ok (.aload_n 0, 1) := by decide +kernel
theorem dX2_noteBuffer_1 : decode cX2_noteBuffer 1 = .ok (.getfield 11, 3) := by decide +kernel
theorem dX2_noteBuffer_4 : decode cX2_noteBuffer 4 = .ok (.iconst 5, 1) := by decide +kernel
theorem dX2_noteBuffer_5 : decode cX2_noteBuffer 5 = .ok (.dup2, 1) := by decide +kernel
theorem dX2_noteBuffer_6 : decode cX2_noteBuffer 6 = .ok (.iaload, 1) := by decide +kernel
theorem dX2_noteBuffer_7 : decode cX2_noteBuffer 7 = .ok (.iconst 1, 1) := by decide +kernel
theorem dX2_noteBuffer_8 : decode cX2_noteBuffer 8 = .ok (.iadd, 1) := by decide +kernel
theorem dX2_noteBuffer_9 : decode cX2_noteBuffer 9 = .ok (.iastore, 1) := by decide +kernel
theorem dX2_noteBuffer_10 : decode cX2_noteBuffer 10 = .ok (.aload_n 0, 1) := by decide +kernel
theorem dX2_noteBuffer_11 : decode cX2_noteBuffer 11 = .ok (.getfield 11, 3) := by decide +kernel
theorem dX2_noteBuffer_14 : decode cX2_noteBuffer 14 = .ok (.bipush 6, 2) := by decide +kernel
theorem dX2_noteBuffer_16 : decode cX2_noteBuffer 16 = .ok (.dup2, 1) := by decide +kernel
theorem dX2_noteBuffer_17 : decode cX2_noteBuffer 17 = .ok (.iaload, 1) := by decide +kernel
theorem dX2_noteBuffer_18 : decode cX2_noteBuffer 18 = .ok (.iconst 1, 1) := by decide +kernel
theorem dX2_noteBuffer_19 : decode cX2_noteBuffer 19 = .ok (.iadd, 1) := by decide +kernel
theorem dX2_noteBuffer_20 : decode cX2_noteBuffer 20 = .ok (.iastore, 1) := by decide +kernel
theorem dX2_noteBuffer_21 : decode cX2_noteBuffer 21 = .ok (.aload_n 0, 1) := by decide +kernel
theorem dX2_noteBuffer_22 : decode cX2_noteBuffer 22 = .ok (.getfield 11, 3) := by decide +kernel
theorem dX2_noteBuffer_25 : decode cX2_noteBuffer 25 = .ok (.iconst 4, 1) := by decide +kernel
theorem dX2_noteBuffer_26 : decode cX2_noteBuffer 26 = .ok (.dup2, 1) := by decide +kernel
theorem dX2_noteBuffer_27 : decode cX2_noteBuffer 27 = .ok (.iaload, 1) := by decide +kernel
theorem dX2_noteBuffer_28 : decode cX2_noteBuffer 28 = .ok (.iload 5, 2) := by decide +kernel
theorem dX2_noteBuffer_30 : decode cX2_noteBuffer 30 = .ok (.isub, 1) := by decide +kernel
theorem dX2_noteBuffer_31 : decode cX2_noteBuffer 31 = .ok (.iastore, 1) := by decide +kernel
theorem dX2_noteBuffer_32 : decode cX2_noteBuffer 32 = .ok (.aload_n 0, 1) := by decide +kernel
theorem dX2_noteBuffer_33 : decode cX2_noteBuffer 33 = .ok (.iload_n 1, 1) := by decide +kernel
theorem dX2_noteBuffer_34 : decode cX2_noteBuffer 34 = .ok (.iconst 0, 1) := by decide +kernel
theorem dX2_noteBuffer_35 : decode cX2_noteBuffer 35 = .ok (.iconst 0, 1) := by decide +kernel
theorem dX2_noteBuffer_36 : decode cX2_noteBuffer 36 = .ok (.invokevirtual 118, 3) := by decide +kernel
theorem dX2_noteBuffer_39 : decode cX2_noteBuffer 39 = .ok (.aload_n 0, 1) := by decide +kernel
theorem dX2_noteBuffer_40 : decode cX2_noteBuffer 40 = .ok (.iload_n 1, 1) := by decide +kernel
theorem dX2_noteBuffer_41 : decode cX2_noteBuffer 41 = .ok (.iconst 1, 1) := by decide +kernel
theorem dX2_noteBuffer_42 : decode cX2_noteBuffer 42 = .ok (.iload_n 2, 1) := by decide +kernel
theorem dX2_noteBuffer_43 : decode cX2_noteBuffer 43 = .ok (.invokevirtual 118, 3) := by decide +kernel
theorem dX2_noteBuffer_46 : decode cX2_noteBuffer 46 = .ok (.aload_n 0, 1) := by decide +kernel
theorem dX2_noteBuffer_47 : decode cX2_noteBuffer 47 = .ok (.iload_n 1, 1) := by decide +kernel
theorem dX2_noteBuffer_48 : decode cX2_noteBuffer 48 = .ok (.iconst 2, 1) := by decide +kernel
theorem dX2_noteBuffer_49 : decode cX2_noteBuffer 49 = .ok (.iload_n 3, 1) := by decide +kernel
theorem dX2_noteBuffer_50 : decode cX2_noteBuffer 50 = .ok (.invokevirtual 118, 3) := by decide +kernel
theorem dX2_noteBuffer_53 : decode cX2_noteBuffer 53 = .ok (.aload_n 0, 1) := by decide +kernel
theorem dX2_noteBuffer_54 : decode cX2_noteBuffer 54 = .ok (.iload_n 1, 1) := by decide +kernel
theorem dX2_noteBuffer_55 : decode cX2_noteBuffer 55 = .ok (.iconst 3, 1) := by decide +kernel
theorem dX2_noteBuffer_56 : decode cX2_noteBuffer 56 = .ok (.iload 4, 2) := by decide +kernel
theorem dX2_noteBuffer_58 : decode cX2_noteBuffer 58 = .ok (.invokevirtual 118, 3) := by decide +kernel
theorem dX2_noteBuffer_61 : decode cX2_noteBuffer 61 = .ok (.aload_n 0, 1) := by decide +kernel
theorem dX2_noteBuffer_62 : decode cX2_noteBuffer 62 = .ok (.iload_n 1, 1) := by decide +kernel
theorem dX2_noteBuffer_63 : decode cX2_noteBuffer 63 = .ok (.iconst 4, 1) := by decide +kernel
theorem dX2_noteBuffer_64 : decode cX2_noteBuffer 64 = .ok (.iconst (-1), 1) := by decide +kernel
theorem dX2_noteBuffer_65 : decode cX2_noteBuffer 65 = .ok (.invokevirtual 118, 3) := by decide +kernel
theorem dX2_noteBuffer_68 : decode cX2_noteBuffer 68 = .ok (.aload_n 0, 1) := by decide +kernel
theorem dX2_noteBuffer_69 : decode cX2_noteBuffer 69 = .ok (.iload_n 1, 1) := by decide +kernel
theorem dX2_noteBuffer_70 : decode cX2_noteBuffer 70 = .ok (.iconst 5, 1) := by decide +kernel
theorem dX2_noteBuffer_71 : decode cX2_noteBuffer 71 = .ok (.iconst (-1), 1) := by decide +kernel
theorem dX2_noteBuffer_72 : decode cX2_noteBuffer 72 = .ok (.invokevirtual 118, 3) := by decide +kernel
theorem dX2_noteBuffer_75 : decode cX2_noteBuffer 75 = .ok (.aload_n 0, 1) := by decide +kernel
theorem dX2_noteBuffer_76 : decode cX2_noteBuffer 76 = .ok (.iload_n 1, 1) := by decide +kernel
theorem dX2_noteBuffer_77 : decode cX2_noteBuffer 77 = .ok (.bipush 6, 2) := by decide +kernel
theorem dX2_noteBuffer_79 : decode cX2_noteBuffer 79 = .ok (.iconst (-1), 1) := by decide +kernel
theorem dX2_noteBuffer_80 : decode cX2_noteBuffer 80 = .ok (.invokevirtual 118, 3) := by decide +kernel
theorem dX2_noteBuffer_83 : decode cX2_noteBuffer 83 = .ok (.aload_n 0, 1) := by decide +kernel
theorem dX2_noteBuffer_84 : decode cX2_noteBuffer 84 = .ok (.iload_n 1, 1) := by decide +kernel
theorem dX2_noteBuffer_85 : decode cX2_noteBuffer 85 = .ok (.bipush 7, 2) := by decide +kernel
theorem dX2_noteBuffer_87 : decode cX2_noteBuffer 87 = .ok (.iload 5, 2) := by decide +kernel
theorem dX2_noteBuffer_89 : decode cX2_noteBuffer 89 = .ok (.invokevirtual 118, 3) := by decide +kernel
theorem dX2_noteBuffer_92 : decode cX2_noteBuffer 92 = .ok (.return_, 1) := by decide +kernel
theorem dX2_layTable_0 : decode cX2_layTable 0 = .ok (.iload_n 2, 1) := by decide +kernel
theorem dX2_layTable_1 : decode cX2_layTable 1 = .ok (.iconst 1, 1) := by decide +kernel
theorem dX2_layTable_2 : decode cX2_layTable 2 = .ok (.if_icmp .lt 8, 3) := by decide +kernel
theorem dX2_layTable_5 : decode cX2_layTable 5 = .ok (.iload_n 2, 1) := by decide +kernel
theorem dX2_layTable_6 : decode cX2_layTable 6 = .ok (.iconst 5, 1) := by decide +kernel
theorem dX2_layTable_7 : decode cX2_layTable 7 = .ok (.if_icmp .lt 4, 3) := by decide +kernel
theorem dX2_layTable_10 : decode cX2_layTable 10 = .ok (.return_, 1) := by decide +kernel
theorem dX2_layTable_11 : decode cX2_layTable 11 = .ok (.aload_n 0, 1) := by decide +kernel
theorem dX2_layTable_12 : decode cX2_layTable 12 = .ok (.getfield 27, 3) := by decide +kernel
theorem dX2_layTable_15 : decode cX2_layTable 15 = .ok (.iload_n 2, 1) := by decide +kernel
theorem dX2_layTable_16 : decode cX2_layTable 16 = .ok (.iload_n 1, 1) := by decide +kernel
theorem dX2_layTable_17 : decode cX2_layTable 17 = .ok (.iastore, 1) := by decide +kernel
theorem dX2_layTable_18 : decode cX2_layTable 18 = .ok (.aload_n 0, 1) := by decide +kernel
theorem dX2_layTable_19 : decode cX2_layTable 19 = .ok (.getfield 18, 3) := by decide +kernel
theorem dX2_layTable_22 : decode cX2_layTable 22 = .ok (.iload_n 2, 1) := by decide +kernel
theorem dX2_layTable_23 : decode cX2_layTable 23 = .ok (.aload_n 3, 1) := by decide +kernel
theorem dX2_layTable_24 : decode cX2_layTable 24 = .ok (.getfield 89, 3) := by decide +kernel
theorem dX2_layTable_27 : decode cX2_layTable 27 = .ok (.iastore, 1) := by decide +kernel
theorem dX2_layTable_28 : decode cX2_layTable 28 = .ok (.iconst 0, 1) := by decide +kernel
theorem dX2_layTable_29 : decode cX2_layTable 29 = .ok (.istore 4, 2) := by decide +kernel
theorem dX2_layTable_31 : decode cX2_layTable 31 = .ok (.iload 4, 2) := by decide +kernel
theorem dX2_layTable_33 : decode cX2_layTable 33 = .ok (.aload_n 3, 1) := by decide +kernel
theorem dX2_layTable_34 : decode cX2_layTable 34 = .ok (.getfield 89, 3) := by decide +kernel
theorem dX2_layTable_37 : decode cX2_layTable 37 = .ok (.if_icmp .ge 51, 3) := by decide +kernel
theorem dX2_layTable_40 : decode cX2_layTable 40 = .ok (.iload 4, 2) := by decide +kernel
theorem dX2_layTable_42 : decode cX2_layTable 42 = .ok (.aload_n 3, 1) := by decide +kernel
theorem dX2_layTable_43 : decode cX2_layTable 43 = .ok (.getfield 89, 3) := by decide +kernel
theorem dX2_layTable_46 : decode cX2_layTable 46 = .ok (.iconst 1, 1) := by decide +kernel
theorem dX2_layTable_47 : decode cX2_layTable 47 = .ok (.isub, 1) := by decide +kernel
theorem dX2_layTable_48 : decode cX2_layTable 48 = .ok (.if_icmp .ge 10, 3) := by decide +kernel
theorem dX2_layTable_51 : decode cX2_layTable 51 = .ok (.iload 4, 2) := by decide +kernel
theorem dX2_layTable_53 : decode cX2_layTable 53 = .ok (.iconst 1, 1) := by decide +kernel
theorem dX2_layTable_54 : decode cX2_layTable 54 = .ok (.iadd, 1) := by decide +kernel
theorem dX2_layTable_55 : decode cX2_layTable 55 = .ok (.goto 4, 3) := by decide +kernel
theorem dX2_layTable_58 : decode cX2_layTable 58 = .ok (.iconst 0, 1) := by decide +kernel
theorem dX2_layTable_59 : decode cX2_layTable 59 = .ok (.istore 5, 2) := by decide +kernel
theorem dX2_layTable_61 : decode cX2_layTable 61 = .ok (.aload_n 0, 1) := by decide +kernel
theorem dX2_layTable_62 : decode cX2_layTable 62 = .ok (.iload_n 2, 1) := by decide +kernel
theorem dX2_layTable_63 : decode cX2_layTable 63 = .ok (.iload 4, 2) := by decide +kernel
theorem dX2_layTable_65 : decode cX2_layTable 65 = .ok (.aload_n 3, 1) := by decide +kernel
theorem dX2_layTable_66 : decode cX2_layTable 66 = .ok (.iload 4, 2) := by decide +kernel
theorem dX2_layTable_68 : decode cX2_layTable 68 = .ok (.invokevirtual 121, 3) := by decide +kernel
theorem dX2_layTable_71 : decode cX2_layTable 71 = .ok (.aload_n 3, 1) := by decide +kernel
theorem dX2_layTable_72 : decode cX2_layTable 72 = .ok (.iload 4, 2) := by decide +kernel
theorem dX2_layTable_74 : decode cX2_layTable 74 = .ok (.invokevirtual 124, 3) := by decide +kernel
theorem dX2_layTable_77 : decode cX2_layTable 77 = .ok (.iload 5, 2) := by decide +kernel
theorem dX2_layTable_79 : decode cX2_layTable 79 = .ok (.invokevirtual 58, 3) := by decide +kernel
theorem dX2_layTable_82 : decode cX2_layTable 82 = .ok (.iinc 4 1, 3) := by decide +kernel
theorem dX2_layTable_85 : decode cX2_layTable 85 = .ok (.goto (-54), 3) := by decide +kernel
theorem dX2_layTable_88 : decode cX2_layTable 88 = .ok (.return_, 1) := by decide +kernel
theorem dX2_laySplit_0 : decode cX2_laySplit 0 = .ok (.aload_n 0, 1) := by decide +kernel
theorem dX2_laySplit_1 : decode cX2_laySplit 1 = .ok (.iload_n 1, 1) := by decide +kernel
theorem dX2_laySplit_2 : decode cX2_laySplit 2 = .ok (.iconst 3, 1) := by decide +kernel
theorem dX2_laySplit_3 : decode cX2_laySplit 3 = .ok (.invokevirtual 127, 3) := by decide +kernel
theorem dX2_laySplit_6 : decode cX2_laySplit 6 = .ok (.istore 4, 2) := by decide +kernel
theorem dX2_laySplit_8 : decode cX2_laySplit 8 = .ok (.iconst (-1), 1) := by decide +kernel
theorem dX2_laySplit_9 : decode cX2_laySplit 9 = .ok (.istore 5, 2) := by decide +kernel
theorem dX2_laySplit_11 : decode cX2_laySplit 11 = .ok (.iconst 0, 1) := by decide +kernel
theorem dX2_laySplit_12 : decode cX2_laySplit 12 = .ok (.istore 6, 2) := by decide +kernel
theorem dX2_laySplit_14 : decode cX2_laySplit 14 = .ok (.iconst 0, 1) := by decide +kernel
theorem dX2_laySplit_15 : decode cX2_laySplit 15 = .ok (.istore 7, 2) := by decide +kernel
theorem dX2_laySplit_17 : decode cX2_laySplit 17 = .ok (.iload 7, 2) := by decide +kernel
theorem dX2_laySplit_19 : decode cX2_laySplit 19 = .ok (.aload_n 0, 1) := by decide +kernel
theorem dX2_laySplit_20 : decode cX2_laySplit 20 = .ok (.invokevirtual 66, 3) := by decide +kernel
theorem dX2_laySplit_23 : decode cX2_laySplit 23 = .ok (.if_icmp .ge 104, 3) := by decide +kernel
theorem dX2_laySplit_26 : decode cX2_laySplit 26 = .ok (.iload 7, 2) := by decide +kernel
theorem dX2_laySplit_28 : decode cX2_laySplit 28 = .ok (.bipush 8, 2) := by decide +kernel
theorem dX2_laySplit_30 : decode cX2_laySplit 30 = .ok (.if_icmp .ge 97, 3) := by decide +kernel
theorem dX2_laySplit_33 : decode cX2_laySplit 33 = .ok (.iload 6, 2) := by decide +kernel
theorem dX2_laySplit_35 : decode cX2_laySplit 35 = .ok (.iload_n 3, 1) := by decide +kernel
theorem dX2_laySplit_36 : decode cX2_laySplit 36 = .ok (.if_icmp .ge 91, 3) := by decide +kernel
theorem dX2_laySplit_39 : decode cX2_laySplit 39 = .ok (.aload_n 0, 1) := by decide +kernel
theorem dX2_laySplit_40 : decode cX2_laySplit 40 = .ok (.getfield 24, 3) := by decide +kernel
theorem dX2_laySplit_43 : decode cX2_laySplit 43 = .ok (.iload 7, 2) := by decide +kernel
theorem dX2_laySplit_45 : decode cX2_laySplit 45 = .ok (.iaload, 1) := by decide +kernel
theorem dX2_laySplit_46 : decode cX2_laySplit 46 = .ok (.iconst (-1), 1) := by decide +kernel
theorem dX2_laySplit_47 : decode cX2_laySplit 47 = .ok (.if_icmp .eq 6, 3) := by decide +kernel
theorem dX2_laySplit_50 : decode cX2_laySplit 50 = .ok (.goto 71, 3) := by decide +kernel
theorem dX2_laySplit_53 : decode cX2_laySplit 53 = .ok (.aload_n 0, 1) := by decide +kernel
theorem dX2_laySplit_54 : decode cX2_laySplit 54 = .ok (.getfield 24, 3) := by decide +kernel
theorem dX2_laySplit_57 : decode cX2_laySplit 57 = .ok (.iload 7, 2) := by decide +kernel
theorem dX2_laySplit_59 : decode cX2_laySplit 59 = .ok (.iload_n 1, 1) := by decide +kernel
theorem dX2_laySplit_60 : decode cX2_laySplit 60 = .ok (.iastore, 1) := by decide +kernel
theorem dX2_laySplit_61 : decode cX2_laySplit 61 = .ok (.iload 4, 2) := by decide +kernel
theorem dX2_laySplit_63 : decode cX2_laySplit 63 = .ok (.iconst (-1), 1) := by decide +kernel
theorem dX2_laySplit_64 : decode cX2_laySplit 64 = .ok (.if_icmp .ne 26, 3) := by decide +kernel
theorem dX2_laySplit_67 : decode cX2_laySplit 67 = .ok (.aload_n 0, 1) := by decide +kernel
theorem dX2_laySplit_68 : decode cX2_laySplit 68 = .ok (.iconst 0, 1) := by decide +kernel
theorem dX2_laySplit_69 : decode cX2_laySplit 69 = .ok (.iload 7, 2) := by decide +kernel
theorem dX2_laySplit_71 : decode cX2_laySplit 71 = .ok (.aload_n 2, 1) := by decide +kernel
theorem dX2_laySplit_72 : decode cX2_laySplit 72 = .ok (.iload 6, 2) := by decide +kernel
theorem dX2_laySplit_74 : decode cX2_laySplit 74 = .ok (.invokevirtual 121, 3) := by decide +kernel
theorem dX2_laySplit_77 : decode cX2_laySplit 77 = .ok (.aload_n 2, 1) := by decide +kernel
theorem dX2_laySplit_78 : decode cX2_laySplit 78 = .ok (.iload 6, 2) := by decide +kernel
theorem dX2_laySplit_80 : decode cX2_laySplit 80 = .ok (.invokevirtual 124, 3) := by decide +kernel
theorem dX2_laySplit_83 : decode cX2_laySplit 83 = .ok (.iconst 0, 1) := by decide +kernel
theorem dX2_laySplit_84 : decode cX2_laySplit 84 = .ok (.invokevirtual 58, 3) := by decide +kernel
theorem dX2_laySplit_87 : decode cX2_laySplit 87 = .ok (.goto 17, 3) := by decide +kernel
theorem dX2_laySplit_90 : decode cX2_laySplit 90 = .ok (.aload_n 0, 1) := by decide +kernel
theorem dX2_laySplit_91 : decode cX2_laySplit 91 = .ok (.iconst 0, 1) := by decide +kernel
theorem dX2_laySplit_92 : decode cX2_laySplit 92 = .ok (.iload 7, 2) := by decide +kernel
theorem dX2_laySplit_94 : decode cX2_laySplit 94 = .ok (.aload_n 2, 1) := by decide +kernel
theorem dX2_laySplit_95 : decode cX2_laySplit 95 = .ok (.getfield 89, 3) := by decide +kernel
theorem dX2_laySplit_98 : decode cX2_laySplit 98 = .ok (.iconst 4, 1) := by decide +kernel
theorem dX2_laySplit_99 : decode cX2_laySplit 99 = .ok (.iload 4, 2) := by decide +kernel
theorem dX2_laySplit_101 : decode cX2_laySplit 101 = .ok (.invokevirtual 58, 3) := by decide +kernel
theorem dX2_laySplit_104 : decode cX2_laySplit 104 = .ok (.aload_n 0, 1) := by decide +kernel
theorem dX2_laySplit_105 : decode cX2_laySplit 105 = .ok (.iconst 0, 1) := by decide +kernel
theorem dX2_laySplit_106 : decode cX2_laySplit 106 = .ok (.iload 5, 2) := by decide +kernel
theorem dX2_laySplit_108 : decode cX2_laySplit 108 = .ok (.iconst 2, 1) := by decide +kernel
theorem dX2_laySplit_109 : decode cX2_laySplit 109 = .ok (.iload 7, 2) := by decide +kernel
theorem dX2_laySplit_111 : decode cX2_laySplit 111 = .ok (.invokevirtual 62, 3) := by decide +kernel
theorem dX2_laySplit_114 : decode cX2_laySplit 114 = .ok (.iload 7, 2) := by decide +kernel
theorem dX2_laySplit_116 : decode cX2_laySplit 116 = .ok (.istore 5, 2) := by decide +kernel
theorem dX2_laySplit_118 : decode cX2_laySplit 118 = .ok (.iinc 6 1, 3) := by decide +kernel
theorem dX2_laySplit_121 : decode cX2_laySplit 121 = .ok (.iinc 7 1, 3) := by decide +kernel
theorem dX2_laySplit_124 : decode cX2_laySplit 124 = .ok (.goto (-107), 3) := by decide +kernel
theorem dX2_laySplit_127 : decode cX2_laySplit 127 = .ok (.aload_n 0, 1) := by decide +kernel
theorem dX2_laySplit_128 : decode cX2_laySplit 128 = .ok (.aload_n 0, 1) := by decide +kernel
theorem dX2_laySplit_129 : decode cX2_laySplit 129 = .ok (.aload_n 0, 1) := by decide +kernel
theorem dX2_laySplit_130 : decode cX2_laySplit 130 = .ok (.getfield 11, 3) := by decide +kernel
theorem dX2_laySplit_133 : decode cX2_laySplit 133 = .ok (.iconst 0, 1) := by decide +kernel
theorem dX2_laySplit_134 : decode cX2_laySplit 134 = .ok (.iaload, 1) := by decide +kernel
theorem dX2_laySplit_135 : decode cX2_laySplit 135 = .ok (.invokevirtual 74, 3) := by decide +kernel
theorem dX2_laySplit_138 : decode cX2_laySplit 138 = .ok (.iconst 0, 1) := by decide +kernel
theorem dX2_laySplit_139 : decode cX2_laySplit 139 = .ok (.aload_n 0, 1) := by decide +kernel
theorem dX2_laySplit_140 : decode cX2_laySplit 140 = .ok (.iload_n 1, 1) := by decide +kernel
theorem dX2_laySplit_141 : decode cX2_laySplit 141 = .ok (.iconst 2, 1) := by decide +kernel
theorem dX2_laySplit_142 : decode cX2_laySplit 142 = .ok (.invokevirtual 127, 3) := by decide +kernel
theorem dX2_laySplit_145 : decode cX2_laySplit 145 = .ok (.invokevirtual 130, 3) := by decide +kernel
theorem dX2_laySplit_148 : decode cX2_laySplit 148 = .ok (.aload_n 0, 1) := by decide +kernel
theorem dX2_laySplit_149 : decode cX2_laySplit 149 = .ok (.getfield 11, 3) := by decide +kernel
theorem dX2_laySplit_152 : decode cX2_laySplit 152 = .ok (.iconst 0, 1) := by decide +kernel
theorem dX2_laySplit_153 : decode cX2_laySplit 153 = .ok (.aload_n 0, 1) := by decide +kernel
theorem dX2_laySplit_154 : decode cX2_laySplit 154 = .ok (.aload_n 0, 1) := by decide +kernel
theorem dX2_laySplit_155 : decode cX2_laySplit 155 = .ok (.getfield 11, 3) := by decide +kernel
theorem dX2_laySplit_158 : decode cX2_laySplit 158 = .ok (.iconst 0, 1) := by decide +kernel
theorem dX2_laySplit_159 : decode cX2_laySplit 159 = .ok (.iaload, 1) := by decide +kernel
theorem dX2_laySplit_160 : decode cX2_laySplit 160 = .ok (.iconst 1, 1) := by decide +kernel
theorem dX2_laySplit_161 : decode cX2_laySplit 161 = .ok (.invokevirtual 133, 3) := by decide +kernel
theorem dX2_laySplit_164 : decode cX2_laySplit 164 = .ok (.iastore, 1) := by decide +kernel
theorem dX2_laySplit_165 : decode cX2_laySplit 165 = .ok (.return_, 1) := by decide +kernel
theorem dX2_layPacked_0 : decode cX2_layPacked 0 = .ok (.aload_n 0, 1) := by decide +kernel
theorem dX2_layPacked_1 : decode cX2_layPacked 1 = .ok (.iload_n 1, 1) := by decide +kernel
theorem dX2_layPacked_2 : decode cX2_layPacked 2 = .ok (.iconst 2, 1) := by decide +kernel
theorem dX2_layPacked_3 : decode cX2_layPacked 3 = .ok (.invokevirtual 127, 3) := by decide +kernel
theorem dX2_layPacked_6 : decode cX2_layPacked 6 = .ok (.istore 4, 2) := by decide +kernel
theorem dX2_layPacked_8 : decode cX2_layPacked 8 = .ok (.aload_n 0, 1) := by decide +kernel
theorem dX2_layPacked_9 : decode cX2_layPacked 9 = .ok (.iload_n 1, 1) := by decide +kernel
theorem dX2_layPacked_10 : decode cX2_layPacked 10 = .ok (.iconst 3, 1) := by decide +kernel
theorem dX2_layPacked_11 : decode cX2_layPacked 11 = .ok (.invokevirtual 127, 3) := by decide +kernel
theorem dX2_layPacked_14 : decode cX2_layPacked 14 = .ok (.iconst (-1), 1) := by decide +kernel
theorem dX2_layPacked_15 : decode cX2_layPacked 15 = .ok (.if_icmp .eq 7, 3) := by decide +kernel
theorem dX2_layPacked_18 : decode cX2_layPacked 18 = .ok (.iconst 1, 1) := by decide +kernel
theorem dX2_layPacked_19 : decode cX2_layPacked 19 = .ok (.goto 4, 3) := by decide +kernel
theorem dX2_layPacked_22 : decode cX2_layPacked 22 = .ok (.iconst 0, 1) := by decide +kernel
theorem dX2_layPacked_23 : decode cX2_layPacked 23 = .ok (.istore 5, 2) := by decide +kernel
theorem dX2_layPacked_25 : decode cX2_layPacked 25 = .ok (.iload 4, 2) := by decide +kernel
theorem dX2_layPacked_27 : decode cX2_layPacked 27 = .ok (.ifCond .lt 18, 3) := by decide +kernel
theorem dX2_layPacked_30 : decode cX2_layPacked 30 = .ok (.iload 4, 2) := by decide +kernel
theorem dX2_layPacked_32 : decode cX2_layPacked 32 = .ok (.bipush 8, 2) := by decide +kernel
theorem dX2_layPacked_34 : decode cX2_layPacked 34 = .ok (.if_icmp .ge 11, 3) := by decide +kernel
theorem dX2_layPacked_37 : decode cX2_layPacked 37 = .ok (.aload_n 0, 1) := by decide +kernel
theorem dX2_layPacked_38 : decode cX2_layPacked 38 = .ok (.getfield 24, 3) := by decide +kernel
theorem dX2_layPacked_41 : decode cX2_layPacked 41 = .ok (.iload 4, 2) := by decide +kernel
theorem dX2_layPacked_43 : decode cX2_layPacked 43 = .ok (.iload_n 1, 1) := by decide +kernel
theorem dX2_layPacked_44 : decode cX2_layPacked 44 = .ok (.iastore, 1) := by decide +kernel
theorem dX2_layPacked_45 : decode cX2_layPacked 45 = .ok (.iconst 0, 1) := by decide +kernel
theorem dX2_layPacked_46 : decode cX2_layPacked 46 = .ok (.istore 6, 2) := by decide +kernel
theorem dX2_layPacked_48 : decode cX2_layPacked 48 = .ok (.iload 6, 2) := by decide +kernel
theorem dX2_layPacked_50 : decode cX2_layPacked 50 = .ok (.iload_n 3, 1) := by decide +kernel
theorem dX2_layPacked_51 : decode cX2_layPacked 51 = .ok (.if_icmp .ge 98, 3) := by decide +kernel
theorem dX2_layPacked_54 : decode cX2_layPacked 54 = .ok (.aload_n 0, 1) := by decide +kernel
theorem dX2_layPacked_55 : decode cX2_layPacked 55 = .ok (.aload_n 0, 1) := by decide +kernel
theorem dX2_layPacked_56 : decode cX2_layPacked 56 = .ok (.getfield 11, 3) := by decide +kernel
theorem dX2_layPacked_59 : decode cX2_layPacked 59 = .ok (.iconst 0, 1) := by decide +kernel
theorem dX2_layPacked_60 : decode cX2_layPacked 60 = .ok (.iaload, 1) := by decide +kernel
theorem dX2_layPacked_61 : decode cX2_layPacked 61 = .ok (.iload 6, 2) := by decide +kernel
theorem dX2_layPacked_63 : decode cX2_layPacked 63 = .ok (.invokevirtual 133, 3) := by decide +kernel
theorem dX2_layPacked_66 : decode cX2_layPacked 66 = .ok (.istore 7, 2) := by decide +kernel
theorem dX2_layPacked_68 : decode cX2_layPacked 68 = .ok (.aload_n 0, 1) := by decide +kernel
theorem dX2_layPacked_69 : decode cX2_layPacked 69 = .ok (.iload 7, 2) := by decide +kernel
theorem dX2_layPacked_71 : decode cX2_layPacked 71 = .ok (.invokevirtual 82, 3) := by decide +kernel
theorem dX2_layPacked_74 : decode cX2_layPacked 74 = .ok (.ifCond .eq 8, 3) := by decide +kernel
theorem dX2_layPacked_77 : decode cX2_layPacked 77 = .ok (.bipush 8, 2) := by decide +kernel
theorem dX2_layPacked_79 : decode cX2_layPacked 79 = .ok (.goto 5, 3) := by decide +kernel
theorem dX2_layPacked_82 : decode cX2_layPacked 82 = .ok (.bipush 16, 2) := by decide +kernel
theorem dX2_layPacked_84 : decode cX2_layPacked 84 = .ok (.istore 8, 2) := by decide +kernel
theorem dX2_layPacked_86 : decode cX2_layPacked 86 = .ok (.iload 5, 2) := by decide +kernel
theorem dX2_layPacked_88 : decode cX2_layPacked 88 = .ok (.ifCond .eq 10, 3) := by decide +kernel
theorem dX2_layPacked_91 : decode cX2_layPacked 91 = .ok (.aload_n 2, 1) := by decide +kernel
theorem dX2_layPacked_92 : decode cX2_layPacked 92 = .ok (.getfield 89, 3) := by decide +kernel
theorem dX2_layPacked_95 : decode cX2_layPacked 95 = .ok (.goto 9, 3) := by decide +kernel
theorem dX2_layPacked_98 : decode cX2_layPacked 98 = .ok (.aload_n 2, 1) := by decide +kernel
theorem dX2_layPacked_99 : decode cX2_layPacked 99 = .ok (.iload 6, 2) := by decide +kernel
theorem dX2_layPacked_101 : decode cX2_layPacked 101 = .ok (.invokevirtual 121, 3) := by decide +kernel
theorem dX2_layPacked_104 : decode cX2_layPacked 104 = .ok (.istore 9, 2) := by decide +kernel
theorem dX2_layPacked_106 : decode cX2_layPacked 106 = .ok (.iload 5, 2) := by decide +kernel
theorem dX2_layPacked_108 : decode cX2_layPacked 108 = .ok (.ifCond .eq 7, 3) := by decide +kernel
theorem dX2_layPacked_111 : decode cX2_layPacked 111 = .ok (.iconst 4, 1) := by decide +kernel
theorem dX2_layPacked_112 : decode cX2_layPacked 112 = .ok (.goto 9, 3) := by decide +kernel
theorem dX2_layPacked_115 : decode cX2_layPacked 115 = .ok (.aload_n 2, 1) := by decide +kernel
theorem dX2_layPacked_116 : decode cX2_layPacked 116 = .ok (.iload 6, 2) := by decide +kernel
theorem dX2_layPacked_118 : decode cX2_layPacked 118 = .ok (.invokevirtual 124, 3) := by decide +kernel
theorem dX2_layPacked_121 : decode cX2_layPacked 121 = .ok (.istore 10, 2) := by decide +kernel
theorem dX2_layPacked_123 : decode cX2_layPacked 123 = .ok (.aload_n 0, 1) := by decide +kernel
theorem dX2_layPacked_124 : decode cX2_layPacked 124 = .ok (.iconst 0, 1) := by decide +kernel
theorem dX2_layPacked_125 : decode cX2_layPacked 125 = .ok (.aload_n 0, 1) := by decide +kernel
theorem dX2_layPacked_126 : decode cX2_layPacked 126 = .ok (.iload 7, 2) := by decide +kernel
theorem dX2_layPacked_128 : decode cX2_layPacked 128 = .ok (.invokevirtual 74, 3) := by decide +kernel
theorem dX2_layPacked_131 : decode cX2_layPacked 131 = .ok (.iload 9, 2) := by decide +kernel
theorem dX2_layPacked_133 : decode cX2_layPacked 133 = .ok (.iload 10, 2) := by decide +kernel
theorem dX2_layPacked_135 : decode cX2_layPacked 135 = .ok (.iload 8, 2) := by decide +kernel
theorem dX2_layPacked_137 : decode cX2_layPacked 137 = .ok (.ior, 1) := by decide +kernel
theorem dX2_layPacked_138 : decode cX2_layPacked 138 = .ok (.iload 4, 2) := by decide +kernel
theorem dX2_layPacked_140 : decode cX2_layPacked 140 = .ok (.invokevirtual 58, 3) := by decide +kernel
theorem dX2_layPacked_143 : decode cX2_layPacked 143 = .ok (.iinc 6 1, 3) := by decide +kernel
theorem dX2_layPacked_146 : decode cX2_layPacked 146 = .ok (.goto (-98), 3) := by decide +kernel
theorem dX2_layPacked_149 : decode cX2_layPacked 149 = .ok (.aload_n 0, 1) := by decide +kernel
theorem dX2_layPacked_150 : decode cX2_layPacked 150 = .ok (.getfield 11, 3) := by decide +kernel
theorem dX2_layPacked_153 : decode cX2_layPacked 153 = .ok (.iconst 0, 1) := by decide +kernel
theorem dX2_layPacked_154 : decode cX2_layPacked 154 = .ok (.aload_n 0, 1) := by decide +kernel
theorem dX2_layPacked_155 : decode cX2_layPacked 155 = .ok (.aload_n 0, 1) := by decide +kernel
theorem dX2_layPacked_156 : decode cX2_layPacked 156 = .ok (.getfield 11, 3) := by decide +kernel
theorem dX2_layPacked_159 : decode cX2_layPacked 159 = .ok (.iconst 0, 1) := by decide +kernel
theorem dX2_layPacked_160 : decode cX2_layPacked 160 = .ok (.iaload, 1) := by decide +kernel
theorem dX2_layPacked_161 : decode cX2_layPacked 161 = .ok (.iload_n 3, 1) := by decide +kernel
theorem dX2_layPacked_162 : decode cX2_layPacked 162 = .ok (.invokevirtual 133, 3) := by decide +kernel
theorem dX2_layPacked_165 : decode cX2_layPacked 165 = .ok (.iastore, 1) := by decide +kernel
theorem dX2_layPacked_166 : decode cX2_layPacked 166 = .ok (.return_, 1) := by decide +kernel
theorem dX2_take_0 : decode cX2_take 0 = .ok (.aload_n 0, 1) := by decide +kernel
theorem dX2_take_1 : decode cX2_take 1 = .ok (.getfield 11, 3) := by decide +kernel
theorem dX2_take_4 : decode cX2_take 4 = .ok (.bipush 7, 2) := by decide +kernel
theorem dX2_take_6 : decode cX2_take 6 = .ok (.iaload, 1) := by decide +kernel
theorem dX2_take_7 : decode cX2_take 7 = .ok (.ifCond .eq 6, 3) := by decide +kernel
theorem dX2_take_10 : decode cX2_take 10 = .ok (.bipush (-2), 2) := by decide +kernel
theorem dX2_take_12 : decode cX2_take 12 = .ok (.ireturn, 1) := by decide +kernel
theorem dX2_take_13 : decode cX2_take 13 = .ok (.aload_n 0, 1) := by decide +kernel
theorem dX2_take_14 : decode cX2_take 14 = .ok (.invokevirtual 70, 3) := by decide +kernel
theorem dX2_take_17 : decode cX2_take 17 = .ok (.ifCond .eq 17, 3) := by decide +kernel
theorem dX2_take_20 : decode cX2_take 20 = .ok (.aload_n 0, 1) := by decide +kernel
theorem dX2_take_21 : decode cX2_take 21 = .ok (.aload_n 0, 1) := by decide +kernel
theorem dX2_take_22 : decode cX2_take 22 = .ok (.getfield 11, 3) := by decide +kernel
theorem dX2_take_25 : decode cX2_take 25 = .ok (.iconst 1, 1) := by decide +kernel
theorem dX2_take_26 : decode cX2_take 26 = .ok (.iaload, 1) := by decide +kernel
theorem dX2_take_27 : decode cX2_take 27 = .ok (.iconst 0, 1) := by decide +kernel
theorem dX2_take_28 : decode cX2_take 28 = .ok (.invokevirtual 136, 3) := by decide +kernel
theorem dX2_take_31 : decode cX2_take 31 = .ok (.goto 23, 3) := by decide +kernel
theorem dX2_take_34 : decode cX2_take 34 = .ok (.aload_n 0, 1) := by decide +kernel
theorem dX2_take_35 : decode cX2_take 35 = .ok (.getfield 11, 3) := by decide +kernel
theorem dX2_take_38 : decode cX2_take 38 = .ok (.iconst 1, 1) := by decide +kernel
theorem dX2_take_39 : decode cX2_take 39 = .ok (.iaload, 1) := by decide +kernel
theorem dX2_take_40 : decode cX2_take 40 = .ok (.aload_n 0, 1) := by decide +kernel
theorem dX2_take_41 : decode cX2_take 41 = .ok (.getfield 11, 3) := by decide +kernel
theorem dX2_take_44 : decode cX2_take 44 = .ok (.iconst 0, 1) := by decide +kernel
theorem dX2_take_45 : decode cX2_take 45 = .ok (.iaload, 1) := by decide +kernel
theorem dX2_take_46 : decode cX2_take 46 = .ok (.if_icmp .eq 7, 3) := by decide +kernel
theorem dX2_take_49 : decode cX2_take 49 = .ok (.iconst 1, 1) := by decide +kernel
theorem dX2_take_50 : decode cX2_take 50 = .ok (.goto 4, 3) := by decide +kernel
theorem dX2_take_53 : decode cX2_take 53 = .ok (.iconst 0, 1) := by decide +kernel
theorem dX2_take_54 : decode cX2_take 54 = .ok (.istore_n 2, 1) := by decide +kernel
theorem dX2_take_55 : decode cX2_take 55 = .ok (.iload_n 2, 1) := by decide +kernel
theorem dX2_take_56 : decode cX2_take 56 = .ok (.ifCond .ne 5, 3) := by decide +kernel
theorem dX2_take_59 : decode cX2_take 59 = .ok (.iconst (-1), 1) := by decide +kernel
theorem dX2_take_60 : decode cX2_take 60 = .ok (.ireturn, 1) := by decide +kernel
theorem dX2_take_61 : decode cX2_take 61 = .ok (.aload_n 0, 1) := by decide +kernel
theorem dX2_take_62 : decode cX2_take 62 = .ok (.invokevirtual 70, 3) := by decide +kernel
theorem dX2_take_65 : decode cX2_take 65 = .ok (.ifCond .eq 12, 3) := by decide +kernel
theorem dX2_take_68 : decode cX2_take 68 = .ok (.aload_n 0, 1) := by decide +kernel
theorem dX2_take_69 : decode cX2_take 69 = .ok (.getfield 11, 3) := by decide +kernel
theorem dX2_take_72 : decode cX2_take 72 = .ok (.iconst 1, 1) := by decide +kernel
theorem dX2_take_73 : decode cX2_take 73 = .ok (.iaload, 1) := by decide +kernel
theorem dX2_take_74 : decode cX2_take 74 = .ok (.goto 18, 3) := by decide +kernel
theorem dX2_take_77 : decode cX2_take 77 = .ok (.aload_n 0, 1) := by decide +kernel
theorem dX2_take_78 : decode cX2_take 78 = .ok (.aload_n 0, 1) := by decide +kernel
theorem dX2_take_79 : decode cX2_take 79 = .ok (.aload_n 0, 1) := by decide +kernel
theorem dX2_take_80 : decode cX2_take 80 = .ok (.getfield 11, 3) := by decide +kernel
theorem dX2_take_83 : decode cX2_take 83 = .ok (.iconst 1, 1) := by decide +kernel
theorem dX2_take_84 : decode cX2_take 84 = .ok (.iaload, 1) := by decide +kernel
theorem dX2_take_85 : decode cX2_take 85 = .ok (.invokevirtual 74, 3) := by decide +kernel
theorem dX2_take_88 : decode cX2_take 88 = .ok (.iconst 0, 1) := by decide +kernel
theorem dX2_take_89 : decode cX2_take 89 = .ok (.invokevirtual 140, 3) := by decide +kernel
theorem dX2_take_92 : decode cX2_take 92 = .ok (.istore_n 3, 1) := by decide +kernel
theorem dX2_take_93 : decode cX2_take 93 = .ok (.aload_n 1, 1) := by decide +kernel
theorem dX2_take_94 : decode cX2_take 94 = .ok (.aload_n 0, 1) := by decide +kernel
theorem dX2_take_95 : decode cX2_take 95 = .ok (.iload_n 3, 1) := by decide +kernel
theorem dX2_take_96 : decode cX2_take 96 = .ok (.invokevirtual 143, 3) := by decide +kernel
theorem dX2_take_99 : decode cX2_take 99 = .ok (.aload_n 0, 1) := by decide +kernel
theorem dX2_take_100 : decode cX2_take 100 = .ok (.aload_n 0, 1) := by decide +kernel
theorem dX2_take_101 : decode cX2_take 101 = .ok (.invokevirtual 70, 3) := by decide +kernel
theorem dX2_take_104 : decode cX2_take 104 = .ok (.ifCond .eq 10, 3) := by decide +kernel
theorem dX2_take_107 : decode cX2_take 107 = .ok (.aload_n 1, 1) := by decide +kernel
theorem dX2_take_108 : decode cX2_take 108 = .ok (.getfield 149, 3) := by decide +kernel
theorem dX2_take_111 : decode cX2_take 111 = .ok (.goto 4, 3) := by decide +kernel
theorem dX2_take_114 : decode cX2_take 114 = .ok (.iload_n 3, 1) := by decide +kernel
theorem dX2_take_115 : decode cX2_take 115 = .ok (.iconst 0, 1) := by decide +kernel
theorem dX2_take_116 : decode cX2_take 116 = .ok (.invokevirtual 152, 3) := by decide +kernel
theorem dX2_take_119 : decode cX2_take 119 = .ok (.istore 4, 2) := by decide +kernel
theorem dX2_take_121 : decode cX2_take 121 = .ok (.aload_n 1, 1) := by decide +kernel
theorem dX2_take_122 : decode cX2_take 122 = .ok (.getfield 155, 3) := by decide +kernel
theorem dX2_take_125 : decode cX2_take 125 = .ok (.ifCond .ne 14, 3) := by decide +kernel
theorem dX2_take_128 : decode cX2_take 128 = .ok (.iload 4, 2) := by decide +kernel
theorem dX2_take_130 : decode cX2_take 130 = .ok (.iconst (-1), 1) := by decide +kernel
theorem dX2_take_131 : decode cX2_take 131 = .ok (.if_icmp .ne 8, 3) := by decide +kernel
theorem dX2_take_134 : decode cX2_take 134 = .ok (.bipush 7, 2) := by decide +kernel
theorem dX2_take_136 : decode cX2_take 136 = .ok (.goto 7, 3) := by decide +kernel
theorem dX2_take_139 : decode cX2_take 139 = .ok (.aload_n 1, 1) := by decide +kernel
theorem dX2_take_140 : decode cX2_take 140 = .ok (.getfield 155, 3) := by decide +kernel
theorem dX2_take_143 : decode cX2_take 143 = .ok (.istore 5, 2) := by decide +kernel
theorem dX2_take_145 : decode cX2_take 145 = .ok (.iload 5, 2) := by decide +kernel
theorem dX2_take_147 : decode cX2_take 147 = .ok (.ifCond .eq 18, 3) := by decide +kernel
theorem dX2_take_150 : decode cX2_take 150 = .ok (.aload_n 0, 1) := by decide +kernel
theorem dX2_take_151 : decode cX2_take 151 = .ok (.getfield 11, 3) := by decide +kernel
theorem dX2_take_154 : decode cX2_take 154 = .ok (.bipush 7, 2) := by decide +kernel
theorem dX2_take_156 : decode cX2_take 156 = .ok (.iload 5, 2) := by decide +kernel
theorem dX2_take_158 : decode cX2_take 158 = .ok (.iastore, 1) := by decide +kernel
theorem dX2_take_159 : decode cX2_take 159 = .ok (.bipush (-10), 2) := by decide +kernel
theorem dX2_take_161 : decode cX2_take 161 = .ok (.iload 5, 2) := by decide +kernel
theorem dX2_take_163 : decode cX2_take 163 = .ok (.isub, 1) := by decide +kernel
theorem dX2_take_164 : decode cX2_take 164 = .ok (.ireturn, 1) := by decide +kernel
theorem dX2_take_165 : decode cX2_take 165 = .ok (.aload_n 0, 1) := by decide +kernel
theorem dX2_take_166 : decode cX2_take 166 = .ok (.iload 4, 2) := by decide +kernel
theorem dX2_take_168 : decode cX2_take 168 = .ok (.iconst 0, 1) := by decide +kernel
theorem dX2_take_169 : decode cX2_take 169 = .ok (.iconst 1, 1) := by decide +kernel
theorem dX2_take_170 : decode cX2_take 170 = .ok (.invokevirtual 118, 3) := by decide +kernel
theorem dX2_take_173 : decode cX2_take 173 = .ok (.aload_n 0, 1) := by decide +kernel
theorem dX2_take_174 : decode cX2_take 174 = .ok (.iload 4, 2) := by decide +kernel
theorem dX2_take_176 : decode cX2_take 176 = .ok (.iconst 4, 1) := by decide +kernel
theorem dX2_take_177 : decode cX2_take 177 = .ok (.aload_n 1, 1) := by decide +kernel
theorem dX2_take_178 : decode cX2_take 178 = .ok (.getfield 158, 3) := by decide +kernel
theorem dX2_take_181 : decode cX2_take 181 = .ok (.invokevirtual 118, 3) := by decide +kernel
theorem dX2_take_184 : decode cX2_take 184 = .ok (.aload_n 0, 1) := by decide +kernel
theorem dX2_take_185 : decode cX2_take 185 = .ok (.iload 4, 2) := by decide +kernel
theorem dX2_take_187 : decode cX2_take 187 = .ok (.iconst 5, 1) := by decide +kernel
theorem dX2_take_188 : decode cX2_take 188 = .ok (.aload_n 1, 1) := by decide +kernel
theorem dX2_take_189 : decode cX2_take 189 = .ok (.getfield 161, 3) := by decide +kernel
theorem dX2_take_192 : decode cX2_take 192 = .ok (.invokevirtual 118, 3) := by decide +kernel
theorem dX2_take_195 : decode cX2_take 195 = .ok (.aload_n 0, 1) := by decide +kernel
theorem dX2_take_196 : decode cX2_take 196 = .ok (.getfield 11, 3) := by decide +kernel
theorem dX2_take_199 : decode cX2_take 199 = .ok (.iconst 1, 1) := by decide +kernel
theorem dX2_take_200 : decode cX2_take 200 = .ok (.aload_n 0, 1) := by decide +kernel
theorem dX2_take_201 : decode cX2_take 201 = .ok (.aload_n 0, 1) := by decide +kernel
theorem dX2_take_202 : decode cX2_take 202 = .ok (.getfield 11, 3) := by decide +kernel
theorem dX2_take_205 : decode cX2_take 205 = .ok (.iconst 1, 1) := by decide +kernel
theorem dX2_take_206 : decode cX2_take 206 = .ok (.iaload, 1) := by decide +kernel
theorem dX2_take_207 : decode cX2_take 207 = .ok (.aload_n 0, 1) := by decide +kernel
theorem dX2_take_208 : decode cX2_take 208 = .ok (.invokevirtual 70, 3) := by decide +kernel
theorem dX2_take_211 : decode cX2_take 211 = .ok (.ifCond .eq 10, 3) := by decide +kernel
theorem dX2_take_214 : decode cX2_take 214 = .ok (.aload_n 1, 1) := by decide +kernel
theorem dX2_take_215 : decode cX2_take 215 = .ok (.getfield 164, 3) := by decide +kernel
theorem dX2_take_218 : decode cX2_take 218 = .ok (.goto 4, 3) := by decide +kernel
theorem dX2_take_221 : decode cX2_take 221 = .ok (.iconst 1, 1) := by decide +kernel
theorem dX2_take_222 : decode cX2_take 222 = .ok (.invokevirtual 133, 3) := by decide +kernel
theorem dX2_take_225 : decode cX2_take 225 = .ok (.iastore, 1) := by decide +kernel
theorem dX2_take_226 : decode cX2_take 226 = .ok (.iload 4, 2) := by decide +kernel
theorem dX2_take_228 : decode cX2_take 228 = .ok (.ireturn, 1) := by decide +kernel
theorem dX2_holderOf_0 : decode cX2_holderOf 0 = .ok (.iload_n 1, 1) := by decide +kernel
theorem dX2_holderOf_1 : decode cX2_holderOf 1 = .ok (.ifCond .lt 17, 3) := by decide +kernel
theorem dX2_holderOf_4 : decode cX2_holderOf 4 = .ok (.iload_n 1, 1) := by decide +kernel
theorem dX2_holderOf_5 : decode cX2_holderOf 5 = .ok (.aload_n 0, 1) := by decide +kernel
theorem dX2_holderOf_6 : decode cX2_holderOf 6 = .ok (.invokevirtual 66, 3) := by decide +kernel
theorem dX2_holderOf_9 : decode cX2_holderOf 9 = .ok (.if_icmp .ge 9, 3) := by decide +kernel
theorem dX2_holderOf_12 : decode cX2_holderOf 12 = .ok (.iload_n 1, 1) := by decide +kernel
theorem dX2_holderOf_13 : decode cX2_holderOf 13 = .ok (.bipush 8, 2) := by decide +kernel
theorem dX2_holderOf_15 : decode cX2_holderOf 15 = .ok (.if_icmp .lt 5, 3) := by decide +kernel
theorem dX2_holderOf_18 : decode cX2_holderOf 18 = .ok (.iconst (-1), 1) := by decide +kernel
theorem dX2_holderOf_19 : decode cX2_holderOf 19 = .ok (.ireturn, 1) := by decide +kernel
theorem dX2_holderOf_20 : decode cX2_holderOf 20 = .ok (.aload_n 0, 1) := by decide +kernel
theorem dX2_holderOf_21 : decode cX2_holderOf 21 = .ok (.getfield 24, 3) := by decide +kernel
theorem dX2_holderOf_24 : decode cX2_holderOf 24 = .ok (.iload_n 1, 1) := by decide +kernel
theorem dX2_holderOf_25 : decode cX2_holderOf 25 = .ok (.iaload, 1) := by decide +kernel
theorem dX2_holderOf_26 : decode cX2_holderOf 26 = .ok (.istore_n 3, 1) := by decide +kernel
theorem dX2_holderOf_27 : decode cX2_holderOf 27 = .ok (.aload_n 0, 1) := by decide +kernel
theorem dX2_holderOf_28 : decode cX2_holderOf 28 = .ok (.iload_n 3, 1) := by decide +kernel
theorem dX2_holderOf_29 : decode cX2_holderOf 29 = .ok (.iconst 2, 1) := by decide +kernel
theorem dX2_holderOf_30 : decode cX2_holderOf 30 = .ok (.invokevirtual 127, 3) := by decide +kernel
theorem dX2_holderOf_33 : decode cX2_holderOf 33 = .ok (.iload_n 1, 1) := by decide +kernel
theorem dX2_holderOf_34 : decode cX2_holderOf 34 = .ok (.if_icmp .ne 17, 3) := by decide +kernel
theorem dX2_holderOf_37 : decode cX2_holderOf 37 = .ok (.aload_n 0, 1) := by decide +kernel
theorem dX2_holderOf_38 : decode cX2_holderOf 38 = .ok (.iload_n 3, 1) := by decide +kernel
theorem dX2_holderOf_39 : decode cX2_holderOf 39 = .ok (.iconst 0, 1) := by decide +kernel
theorem dX2_holderOf_40 : decode cX2_holderOf 40 = .ok (.invokevirtual 127, 3) := by decide +kernel
theorem dX2_holderOf_43 : decode cX2_holderOf 43 = .ok (.iload_n 2, 1) := by decide +kernel
theorem dX2_holderOf_44 : decode cX2_holderOf 44 = .ok (.if_icmp .ne 7, 3) := by decide +kernel
theorem dX2_holderOf_47 : decode cX2_holderOf 47 = .ok (.iload_n 3, 1) := by decide +kernel
theorem dX2_holderOf_48 : decode cX2_holderOf 48 = .ok (.goto 4, 3) := by decide +kernel
theorem dX2_holderOf_51 : decode cX2_holderOf 51 = .ok (.iconst (-1), 1) := by decide +kernel
theorem dX2_holderOf_52 : decode cX2_holderOf 52 = .ok (.ireturn, 1) := by decide +kernel
theorem dX2_firstFetched_0 : decode cX2_firstFetched 0 = .ok (.iconst (-1), 1) := by decide +kernel
theorem dX2_firstFetched_1 : decode cX2_firstFetched 1 = .ok (.istore_n 1, 1) := by decide +kernel
theorem dX2_firstFetched_2 : decode cX2_firstFetched 2 = .ok (.iconst 0, 1) := by decide +kernel
theorem dX2_firstFetched_3 : decode cX2_firstFetched 3 = .ok (.istore_n 2, 1) := by decide +kernel
theorem dX2_firstFetched_4 : decode cX2_firstFetched 4 = .ok (.iload_n 2, 1) := by decide +kernel
theorem dX2_firstFetched_5 : decode cX2_firstFetched 5 = .ok (.aload_n 0, 1) := by decide +kernel
theorem dX2_firstFetched_6 : decode cX2_firstFetched 6 = .ok (.invokevirtual 66, 3) := by decide +kernel
theorem dX2_firstFetched_9 : decode cX2_firstFetched 9 = .ok (.if_icmp .ge 33, 3) := by decide +kernel
theorem dX2_firstFetched_12 : decode cX2_firstFetched 12 = .ok (.aload_n 0, 1) := by decide +kernel
theorem dX2_firstFetched_13 : decode cX2_firstFetched 13 = .ok (.iload_n 2, 1) := by decide +kernel
theorem dX2_firstFetched_14 : decode cX2_firstFetched 14 = .ok (.iconst 1, 1) := by decide +kernel
theorem dX2_firstFetched_15 : decode cX2_firstFetched 15 = .ok (.invokevirtual 152, 3) := by decide +kernel
theorem dX2_firstFetched_18 : decode cX2_firstFetched 18 = .ok (.istore_n 3, 1) := by decide +kernel
theorem dX2_firstFetched_19 : decode cX2_firstFetched 19 = .ok (.iload_n 3, 1) := by decide +kernel
theorem dX2_firstFetched_20 : decode cX2_firstFetched 20 = .ok (.iconst (-1), 1) := by decide +kernel
theorem dX2_firstFetched_21 : decode cX2_firstFetched 21 = .ok (.if_icmp .eq 15, 3) := by decide +kernel
theorem dX2_firstFetched_24 : decode cX2_firstFetched 24 = .ok (.iload_n 1, 1) := by decide +kernel
theorem dX2_firstFetched_25 : decode cX2_firstFetched 25 = .ok (.iconst (-1), 1) := by decide +kernel
theorem dX2_firstFetched_26 : decode cX2_firstFetched 26 = .ok (.if_icmp .eq 8, 3) := by decide +kernel
theorem dX2_firstFetched_29 : decode cX2_firstFetched 29 = .ok (.iload_n 3, 1) := by decide +kernel
theorem dX2_firstFetched_30 : decode cX2_firstFetched 30 = .ok (.iload_n 1, 1) := by decide +kernel
theorem dX2_firstFetched_31 : decode cX2_firstFetched 31 = .ok (.if_icmp .ge 5, 3) := by decide +kernel
theorem dX2_firstFetched_34 : decode cX2_firstFetched 34 = .ok (.iload_n 3, 1) := by decide +kernel
theorem dX2_firstFetched_35 : decode cX2_firstFetched 35 = .ok (.istore_n 1, 1) := by decide +kernel
theorem dX2_firstFetched_36 : decode cX2_firstFetched 36 = .ok (.iinc 2 1, 3) := by decide +kernel
theorem dX2_firstFetched_39 : decode cX2_firstFetched 39 = .ok (.goto (-35), 3) := by decide +kernel
theorem dX2_firstFetched_42 : decode cX2_firstFetched 42 = .ok (.iload_n 1, 1) := by decide +kernel
theorem dX2_firstFetched_43 : decode cX2_firstFetched 43 = .ok (.ireturn, 1) := by decide +kernel
theorem dX2_firstOpen_0 : decode cX2_firstOpen 0 = .ok (.iconst (-1), 1) := by decide +kernel
theorem dX2_firstOpen_1 : decode cX2_firstOpen 1 = .ok (.istore_n 1, 1) := by decide +kernel
theorem dX2_firstOpen_2 : decode cX2_firstOpen 2 = .ok (.iconst 0, 1) := by decide +kernel
theorem dX2_firstOpen_3 : decode cX2_firstOpen 3 = .ok (.istore_n 2, 1) := by decide +kernel
theorem dX2_firstOpen_4 : decode cX2_firstOpen 4 = .ok (.iload_n 2, 1) := by decide +kernel
theorem dX2_firstOpen_5 : decode cX2_firstOpen 5 = .ok (.aload_n 0, 1) := by decide +kernel
theorem dX2_firstOpen_6 : decode cX2_firstOpen 6 = .ok (.invokevirtual 66, 3) := by decide +kernel
theorem dX2_firstOpen_9 : decode cX2_firstOpen 9 = .ok (.if_icmp .ge 39, 3) := by decide +kernel
theorem dX2_firstOpen_12 : decode cX2_firstOpen 12 = .ok (.iload_n 2, 1) := by decide +kernel
theorem dX2_firstOpen_13 : decode cX2_firstOpen 13 = .ok (.bipush 8, 2) := by decide +kernel
theorem dX2_firstOpen_15 : decode cX2_firstOpen 15 = .ok (.if_icmp .ge 33, 3) := by decide +kernel
theorem dX2_firstOpen_18 : decode cX2_firstOpen 18 = .ok (.aload_n 0, 1) := by decide +kernel
theorem dX2_firstOpen_19 : decode cX2_firstOpen 19 = .ok (.getfield 24, 3) := by decide +kernel
theorem dX2_firstOpen_22 : decode cX2_firstOpen 22 = .ok (.iload_n 2, 1) := by decide +kernel
theorem dX2_firstOpen_23 : decode cX2_firstOpen 23 = .ok (.iaload, 1) := by decide +kernel
theorem dX2_firstOpen_24 : decode cX2_firstOpen 24 = .ok (.istore_n 3, 1) := by decide +kernel
theorem dX2_firstOpen_25 : decode cX2_firstOpen 25 = .ok (.iload_n 3, 1) := by decide +kernel
theorem dX2_firstOpen_26 : decode cX2_firstOpen 26 = .ok (.iconst (-1), 1) := by decide +kernel
theorem dX2_firstOpen_27 : decode cX2_firstOpen 27 = .ok (.if_icmp .eq 15, 3) := by decide +kernel
theorem dX2_firstOpen_30 : decode cX2_firstOpen 30 = .ok (.iload_n 1, 1) := by decide +kernel
theorem dX2_firstOpen_31 : decode cX2_firstOpen 31 = .ok (.iconst (-1), 1) := by decide +kernel
theorem dX2_firstOpen_32 : decode cX2_firstOpen 32 = .ok (.if_icmp .eq 8, 3) := by decide +kernel
theorem dX2_firstOpen_35 : decode cX2_firstOpen 35 = .ok (.iload_n 3, 1) := by decide +kernel
theorem dX2_firstOpen_36 : decode cX2_firstOpen 36 = .ok (.iload_n 1, 1) := by decide +kernel
theorem dX2_firstOpen_37 : decode cX2_firstOpen 37 = .ok (.if_icmp .ge 5, 3) := by decide +kernel
theorem dX2_firstOpen_40 : decode cX2_firstOpen 40 = .ok (.iload_n 3, 1) := by decide +kernel
theorem dX2_firstOpen_41 : decode cX2_firstOpen 41 = .ok (.istore_n 1, 1) := by decide +kernel
theorem dX2_firstOpen_42 : decode cX2_firstOpen 42 = .ok (.iinc 2 1, 3) := by decide +kernel
theorem dX2_firstOpen_45 : decode cX2_firstOpen 45 = .ok (.goto (-41), 3) := by decide +kernel
theorem dX2_firstOpen_48 : decode cX2_firstOpen 48 = .ok (.iload_n 1, 1) := by decide +kernel
theorem dX2_firstOpen_49 : decode cX2_firstOpen 49 = .ok (.ireturn, 1) := by decide +kernel
theorem dX2_use_0 : decode cX2_use 0 = .ok (.aload_n 0, 1) := by decide +kernel
theorem dX2_use_1 : decode cX2_use 1 = .ok (.iconst 1, 1) := by decide +kernel
theorem dX2_use_2 : decode cX2_use 2 = .ok (.invokevirtual 86, 3) := by decide +kernel
theorem dX2_use_5 : decode cX2_use 5 = .ok (.istore 4, 2) := by decide +kernel
theorem dX2_use_7 : decode cX2_use 7 = .ok (.aload_n 0, 1) := by decide +kernel
theorem dX2_use_8 : decode cX2_use 8 = .ok (.iload_n 1, 1) := by decide +kernel
theorem dX2_use_9 : decode cX2_use 9 = .ok (.iconst 0, 1) := by decide +kernel
theorem dX2_use_10 : decode cX2_use 10 = .ok (.invokevirtual 127, 3) := by decide +kernel
theorem dX2_use_13 : decode cX2_use 13 = .ok (.iconst 1, 1) := by decide +kernel
theorem dX2_use_14 : decode cX2_use 14 = .ok (.if_icmp .eq 5, 3) := by decide +kernel
theorem dX2_use_17 : decode cX2_use 17 = .ok (.iconst (-1), 1) := by decide +kernel
theorem dX2_use_18 : decode cX2_use 18 = .ok (.ireturn, 1) := by decide +kernel
theorem dX2_use_19 : decode cX2_use 19 = .ok (.iload_n 2, 1) := by decide +kernel
theorem dX2_use_20 : decode cX2_use 20 = .ok (.ifCond .lt 13, 3) := by decide +kernel
theorem dX2_use_23 : decode cX2_use 23 = .ok (.iload_n 2, 1) := by decide +kernel
theorem dX2_use_24 : decode cX2_use 24 = .ok (.aload_n 0, 1) := by decide +kernel
theorem dX2_use_25 : decode cX2_use 25 = .ok (.iload_n 1, 1) := by decide +kernel
theorem dX2_use_26 : decode cX2_use 26 = .ok (.iconst 4, 1) := by decide +kernel
theorem dX2_use_27 : decode cX2_use 27 = .ok (.invokevirtual 127, 3) := by decide +kernel
theorem dX2_use_30 : decode cX2_use 30 = .ok (.if_icmp .le 6, 3) := by decide +kernel
theorem dX2_use_33 : decode cX2_use 33 = .ok (.bipush (-2), 2) := by decide +kernel
theorem dX2_use_35 : decode cX2_use 35 = .ok (.ireturn, 1) := by decide +kernel
theorem dX2_use_36 : decode cX2_use 36 = .ok (.iload_n 3, 1) := by decide +kernel
theorem dX2_use_37 : decode cX2_use 37 = .ok (.ifCond .eq 11, 3) := by decide +kernel
theorem dX2_use_40 : decode cX2_use 40 = .ok (.iload 4, 2) := by decide +kernel
theorem dX2_use_42 : decode cX2_use 42 = .ok (.ifCond .ne 22, 3) := by decide +kernel
theorem dX2_use_45 : decode cX2_use 45 = .ok (.goto 16, 3) := by decide +kernel
theorem dX2_use_48 : decode cX2_use 48 = .ok (.iload 4, 2) := by decide +kernel
theorem dX2_use_50 : decode cX2_use 50 = .ok (.ifCond .eq 14, 3) := by decide +kernel
theorem dX2_use_53 : decode cX2_use 53 = .ok (.aload_n 0, 1) := by decide +kernel
theorem dX2_use_54 : decode cX2_use 54 = .ok (.invokevirtual 166, 3) := by decide +kernel
theorem dX2_use_57 : decode cX2_use 57 = .ok (.iload_n 1, 1) := by decide +kernel
theorem dX2_use_58 : decode cX2_use 58 = .ok (.if_icmp .eq 6, 3) := by decide +kernel
theorem dX2_use_61 : decode cX2_use 61 = .ok (.bipush (-3), 2) := by decide +kernel
theorem dX2_use_63 : decode cX2_use 63 = .ok (.ireturn, 1) := by decide +kernel
theorem dX2_use_64 : decode cX2_use 64 = .ok (.aload_n 0, 1) := by decide +kernel
theorem dX2_use_65 : decode cX2_use 65 = .ok (.getfield 11, 3) := by decide +kernel
theorem dX2_use_68 : decode cX2_use 68 = .ok (.bipush 7, 2) := by decide +kernel
theorem dX2_use_70 : decode cX2_use 70 = .ok (.iaload, 1) := by decide +kernel
theorem dX2_use_71 : decode cX2_use 71 = .ok (.ifCond .eq 6, 3) := by decide +kernel
theorem dX2_use_74 : decode cX2_use 74 = .ok (.bipush (-4), 2) := by decide +kernel
theorem dX2_use_76 : decode cX2_use 76 = .ok (.ireturn, 1) := by decide +kernel
theorem dX2_use_77 : decode cX2_use 77 = .ok (.aload_n 0, 1) := by decide +kernel
theorem dX2_use_78 : decode cX2_use 78 = .ok (.iload_n 1, 1) := by decide +kernel
theorem dX2_use_79 : decode cX2_use 79 = .ok (.iload_n 2, 1) := by decide +kernel
theorem dX2_use_80 : decode cX2_use 80 = .ok (.invokevirtual 169, 3) := by decide +kernel
theorem dX2_use_83 : decode cX2_use 83 = .ok (.aload_n 0, 1) := by decide +kernel
theorem dX2_use_84 : decode cX2_use 84 = .ok (.iload_n 1, 1) := by decide +kernel
theorem dX2_use_85 : decode cX2_use 85 = .ok (.bipush 6, 2) := by decide +kernel
theorem dX2_use_87 : decode cX2_use 87 = .ok (.iload_n 2, 1) := by decide +kernel
theorem dX2_use_88 : decode cX2_use 88 = .ok (.invokevirtual 118, 3) := by decide +kernel
theorem dX2_use_91 : decode cX2_use 91 = .ok (.aload_n 0, 1) := by decide +kernel
theorem dX2_use_92 : decode cX2_use 92 = .ok (.iload_n 1, 1) := by decide +kernel
theorem dX2_use_93 : decode cX2_use 93 = .ok (.iload_n 3, 1) := by decide +kernel
theorem dX2_use_94 : decode cX2_use 94 = .ok (.invokevirtual 173, 3) := by decide +kernel
theorem dX2_use_97 : decode cX2_use 97 = .ok (.istore 5, 2) := by decide +kernel
theorem dX2_use_99 : decode cX2_use 99 = .ok (.iload_n 3, 1) := by decide +kernel
theorem dX2_use_100 : decode cX2_use 100 = .ok (.ifCond .eq 8, 3) := by decide +kernel
theorem dX2_use_103 : decode cX2_use 103 = .ok (.iload 5, 2) := by decide +kernel
theorem dX2_use_105 : decode cX2_use 105 = .ok (.goto 4, 3) := by decide +kernel
theorem dX2_use_108 : decode cX2_use 108 = .ok (.iconst 0, 1) := by decide +kernel
theorem dX2_use_109 : decode cX2_use 109 = .ok (.ireturn, 1) := by decide +kernel
theorem dX2_tellUsed_0 : decode cX2_tellUsed 0 = .ok (.aload_n 0, 1) := by decide +kernel
theorem dX2_tellUsed_1 : decode cX2_tellUsed 1 = .ok (.getfield 11, 3) := by decide +kernel
theorem dX2_tellUsed_4 : decode cX2_tellUsed 4 = .ok (.iconst 2, 1) := by decide +kernel
theorem dX2_tellUsed_5 : decode cX2_tellUsed 5 = .ok (.iaload, 1) := by decide +kernel
theorem dX2_tellUsed_6 : decode cX2_tellUsed 6 = .ok (.istore_n 3, 1) := by decide +kernel
theorem dX2_tellUsed_7 : decode cX2_tellUsed 7 = .ok (.aload_n 0, 1) := by decide +kernel
theorem dX2_tellUsed_8 : decode cX2_tellUsed 8 = .ok (.iload_n 3, 1) := by decide +kernel
theorem dX2_tellUsed_9 : decode cX2_tellUsed 9 = .ok (.invokevirtual 74, 3) := by decide +kernel
theorem dX2_tellUsed_12 : decode cX2_tellUsed 12 = .ok (.istore 4, 2) := by decide +kernel
theorem dX2_tellUsed_14 : decode cX2_tellUsed 14 = .ok (.aload_n 0, 1) := by decide +kernel
theorem dX2_tellUsed_15 : decode cX2_tellUsed 15 = .ok (.iload_n 1, 1) := by decide +kernel
theorem dX2_tellUsed_16 : decode cX2_tellUsed 16 = .ok (.iconst 2, 1) := by decide +kernel
theorem dX2_tellUsed_17 : decode cX2_tellUsed 17 = .ok (.invokevirtual 127, 3) := by decide +kernel
theorem dX2_tellUsed_20 : decode cX2_tellUsed 20 = .ok (.istore 5, 2) := by decide +kernel
theorem dX2_tellUsed_22 : decode cX2_tellUsed 22 = .ok (.aload_n 0, 1) := by decide +kernel
theorem dX2_tellUsed_23 : decode cX2_tellUsed 23 = .ok (.invokevirtual 70, 3) := by decide +kernel
theorem dX2_tellUsed_26 : decode cX2_tellUsed 26 = .ok (.ifCond .eq 30, 3) := by decide +kernel
theorem dX2_tellUsed_29 : decode cX2_tellUsed 29 = .ok (.aload_n 0, 1) := by decide +kernel
theorem dX2_tellUsed_30 : decode cX2_tellUsed 30 = .ok (.iconst 0, 1) := by decide +kernel
theorem dX2_tellUsed_31 : decode cX2_tellUsed 31 = .ok (.iload 4, 2) := by decide +kernel
theorem dX2_tellUsed_33 : decode cX2_tellUsed 33 = .ok (.iload_n 2, 1) := by decide +kernel
theorem dX2_tellUsed_34 : decode cX2_tellUsed 34 = .ok (.aload_n 0, 1) := by decide +kernel
theorem dX2_tellUsed_35 : decode cX2_tellUsed 35 = .ok (.iload_n 3, 1) := by decide +kernel
theorem dX2_tellUsed_36 : decode cX2_tellUsed 36 = .ok (.invokevirtual 82, 3) := by decide +kernel
theorem dX2_tellUsed_39 : decode cX2_tellUsed 39 = .ok (.ifCond .eq 8, 3) := by decide +kernel
theorem dX2_tellUsed_42 : decode cX2_tellUsed 42 = .ok (.bipush 24, 2) := by decide +kernel
theorem dX2_tellUsed_44 : decode cX2_tellUsed 44 = .ok (.goto 4, 3) := by decide +kernel
theorem dX2_tellUsed_47 : decode cX2_tellUsed 47 = .ok (.iconst 0, 1) := by decide +kernel
theorem dX2_tellUsed_48 : decode cX2_tellUsed 48 = .ok (.iload 5, 2) := by decide +kernel
theorem dX2_tellUsed_50 : decode cX2_tellUsed 50 = .ok (.invokevirtual 58, 3) := by decide +kernel
theorem dX2_tellUsed_53 : decode cX2_tellUsed 53 = .ok (.goto 20, 3) := by decide +kernel
theorem dX2_tellUsed_56 : decode cX2_tellUsed 56 = .ok (.aload_n 0, 1) := by decide +kernel
theorem dX2_tellUsed_57 : decode cX2_tellUsed 57 = .ok (.iload 4, 2) := by decide +kernel
theorem dX2_tellUsed_59 : decode cX2_tellUsed 59 = .ok (.iconst 1, 1) := by decide +kernel
theorem dX2_tellUsed_60 : decode cX2_tellUsed 60 = .ok (.iload 5, 2) := by decide +kernel
theorem dX2_tellUsed_62 : decode cX2_tellUsed 62 = .ok (.invokevirtual 130, 3) := by decide +kernel
theorem dX2_tellUsed_65 : decode cX2_tellUsed 65 = .ok (.aload_n 0, 1) := by decide +kernel
theorem dX2_tellUsed_66 : decode cX2_tellUsed 66 = .ok (.iload 4, 2) := by decide +kernel
theorem dX2_tellUsed_68 : decode cX2_tellUsed 68 = .ok (.iconst 2, 1) := by decide +kernel
theorem dX2_tellUsed_69 : decode cX2_tellUsed 69 = .ok (.iload_n 2, 1) := by decide +kernel
theorem dX2_tellUsed_70 : decode cX2_tellUsed 70 = .ok (.invokevirtual 130, 3) := by decide +kernel
theorem dX2_tellUsed_73 : decode cX2_tellUsed 73 = .ok (.return_, 1) := by decide +kernel
theorem dX2_strideOf_0 : decode cX2_strideOf 0 = .ok (.aload_n 0, 1) := by decide +kernel
theorem dX2_strideOf_1 : decode cX2_strideOf 1 = .ok (.invokevirtual 70, 3) := by decide +kernel
theorem dX2_strideOf_4 : decode cX2_strideOf 4 = .ok (.ifCond .eq 13, 3) := by decide +kernel
theorem dX2_strideOf_7 : decode cX2_strideOf 7 = .ok (.aload_n 0, 1) := by decide +kernel
theorem dX2_strideOf_8 : decode cX2_strideOf 8 = .ok (.iload_n 1, 1) := by decide +kernel
theorem dX2_strideOf_9 : decode cX2_strideOf 9 = .ok (.bipush 7, 2) := by decide +kernel
theorem dX2_strideOf_11 : decode cX2_strideOf 11 = .ok (.invokevirtual 127, 3) := by decide +kernel
theorem dX2_strideOf_14 : decode cX2_strideOf 14 = .ok (.goto 4, 3) := by decide +kernel
theorem dX2_strideOf_17 : decode cX2_strideOf 17 = .ok (.iconst 1, 1) := by decide +kernel
theorem dX2_strideOf_18 : decode cX2_strideOf 18 = .ok (.ireturn, 1) := by decide +kernel
theorem dX2_moveUsed_0 : decode cX2_moveUsed 0 = .ok (.iconst 0, 1) := by decide +kernel
theorem dX2_moveUsed_1 : decode cX2_moveUsed 1 = .ok (.istore_n 3, 1) := by decide +kernel
theorem dX2_moveUsed_2 : decode cX2_moveUsed 2 = .ok (.iconst 0, 1) := by decide +kernel
theorem dX2_moveUsed_3 : decode cX2_moveUsed 3 = .ok (.istore 4, 2) := by decide +kernel
theorem dX2_moveUsed_5 : decode cX2_moveUsed 5 = .ok (.iload 4, 2) := by decide +kernel
theorem dX2_moveUsed_7 : decode cX2_moveUsed 7 = .ok (.aload_n 0, 1) := by decide +kernel
theorem dX2_moveUsed_8 : decode cX2_moveUsed 8 = .ok (.invokevirtual 66, 3) := by decide +kernel
theorem dX2_moveUsed_11 : decode cX2_moveUsed 11 = .ok (.if_icmp .ge 76, 3) := by decide +kernel
theorem dX2_moveUsed_14 : decode cX2_moveUsed 14 = .ok (.aload_n 0, 1) := by decide +kernel
theorem dX2_moveUsed_15 : decode cX2_moveUsed 15 = .ok (.iload 4, 2) := by decide +kernel
theorem dX2_moveUsed_17 : decode cX2_moveUsed 17 = .ok (.iconst 1, 1) := by decide +kernel
theorem dX2_moveUsed_18 : decode cX2_moveUsed 18 = .ok (.invokevirtual 152, 3) := by decide +kernel
theorem dX2_moveUsed_21 : decode cX2_moveUsed 21 = .ok (.istore 5, 2) := by decide +kernel
theorem dX2_moveUsed_23 : decode cX2_moveUsed 23 = .ok (.iload 5, 2) := by decide +kernel
theorem dX2_moveUsed_25 : decode cX2_moveUsed 25 = .ok (.iconst (-1), 1) := by decide +kernel
theorem dX2_moveUsed_26 : decode cX2_moveUsed 26 = .ok (.if_icmp .eq 55, 3) := by decide +kernel
theorem dX2_moveUsed_29 : decode cX2_moveUsed 29 = .ok (.iload_n 2, 1) := by decide +kernel
theorem dX2_moveUsed_30 : decode cX2_moveUsed 30 = .ok (.ifCond .eq 12, 3) := by decide +kernel
theorem dX2_moveUsed_33 : decode cX2_moveUsed 33 = .ok (.iload 5, 2) := by decide +kernel
theorem dX2_moveUsed_35 : decode cX2_moveUsed 35 = .ok (.iload_n 1, 1) := by decide +kernel
theorem dX2_moveUsed_36 : decode cX2_moveUsed 36 = .ok (.if_icmp .gt 45, 3) := by decide +kernel
theorem dX2_moveUsed_39 : decode cX2_moveUsed 39 = .ok (.goto 9, 3) := by decide +kernel
theorem dX2_moveUsed_42 : decode cX2_moveUsed 42 = .ok (.iload 5, 2) := by decide +kernel
theorem dX2_moveUsed_44 : decode cX2_moveUsed 44 = .ok (.iload_n 1, 1) := by decide +kernel
theorem dX2_moveUsed_45 : decode cX2_moveUsed 45 = .ok (.if_icmp .ne 36, 3) := by decide +kernel
theorem dX2_moveUsed_48 : decode cX2_moveUsed 48 = .ok (.aload_n 0, 1) := by decide +kernel
theorem dX2_moveUsed_49 : decode cX2_moveUsed 49 = .ok (.iload 5, 2) := by decide +kernel
theorem dX2_moveUsed_51 : decode cX2_moveUsed 51 = .ok (.iconst 0, 1) := by decide +kernel
theorem dX2_moveUsed_52 : decode cX2_moveUsed 52 = .ok (.iconst 2, 1) := by decide +kernel
theorem dX2_moveUsed_53 : decode cX2_moveUsed 53 = .ok (.invokevirtual 118, 3) := by decide +kernel
theorem dX2_moveUsed_56 : decode cX2_moveUsed 56 = .ok (.aload_n 0, 1) := by decide +kernel
theorem dX2_moveUsed_57 : decode cX2_moveUsed 57 = .ok (.getfield 11, 3) := by decide +kernel
theorem dX2_moveUsed_60 : decode cX2_moveUsed 60 = .ok (.iconst 2, 1) := by decide +kernel
theorem dX2_moveUsed_61 : decode cX2_moveUsed 61 = .ok (.aload_n 0, 1) := by decide +kernel
theorem dX2_moveUsed_62 : decode cX2_moveUsed 62 = .ok (.aload_n 0, 1) := by decide +kernel
theorem dX2_moveUsed_63 : decode cX2_moveUsed 63 = .ok (.getfield 11, 3) := by decide +kernel
theorem dX2_moveUsed_66 : decode cX2_moveUsed 66 = .ok (.iconst 2, 1) := by decide +kernel
theorem dX2_moveUsed_67 : decode cX2_moveUsed 67 = .ok (.iaload, 1) := by decide +kernel
theorem dX2_moveUsed_68 : decode cX2_moveUsed 68 = .ok (.aload_n 0, 1) := by decide +kernel
theorem dX2_moveUsed_69 : decode cX2_moveUsed 69 = .ok (.iload 5, 2) := by decide +kernel
theorem dX2_moveUsed_71 : decode cX2_moveUsed 71 = .ok (.invokevirtual 177, 3) := by decide +kernel
theorem dX2_moveUsed_74 : decode cX2_moveUsed 74 = .ok (.invokevirtual 133, 3) := by decide +kernel
theorem dX2_moveUsed_77 : decode cX2_moveUsed 77 = .ok (.iastore, 1) := by decide +kernel
theorem dX2_moveUsed_78 : decode cX2_moveUsed 78 = .ok (.iinc 3 1, 3) := by decide +kernel
theorem dX2_moveUsed_81 : decode cX2_moveUsed 81 = .ok (.iinc 4 1, 3) := by decide +kernel
theorem dX2_moveUsed_84 : decode cX2_moveUsed 84 = .ok (.goto (-79), 3) := by decide +kernel
theorem dX2_moveUsed_87 : decode cX2_moveUsed 87 = .ok (.iload_n 3, 1) := by decide +kernel
theorem dX2_moveUsed_88 : decode cX2_moveUsed 88 = .ok (.ireturn, 1) := by decide +kernel
theorem dX2_gather_0 : decode cX2_gather 0 = .ok (.aload_n 0, 1) := by decide +kernel
theorem dX2_gather_1 : decode cX2_gather 1 = .ok (.getfield 11, 3) := by decide +kernel
theorem dX2_gather_4 : decode cX2_gather 4 = .ok (.bipush 12, 2) := by decide +kernel
theorem dX2_gather_6 : decode cX2_gather 6 = .ok (.iaload, 1) := by decide +kernel
theorem dX2_gather_7 : decode cX2_gather 7 = .ok (.iconst (-1), 1) := by decide +kernel
theorem dX2_gather_8 : decode cX2_gather 8 = .ok (.if_icmp .ne 132, 3) := by decide +kernel
theorem dX2_gather_11 : decode cX2_gather 11 = .ok (.aload_n 0, 1) := by decide +kernel
theorem dX2_gather_12 : decode cX2_gather 12 = .ok (.getfield 11, 3) := by decide +kernel
theorem dX2_gather_15 : decode cX2_gather 15 = .ok (.iconst 3, 1) := by decide +kernel
theorem dX2_gather_16 : decode cX2_gather 16 = .ok (.iaload, 1) := by decide +kernel
theorem dX2_gather_17 : decode cX2_gather 17 = .ok (.istore_n 1, 1) := by decide +kernel
theorem dX2_gather_18 : decode cX2_gather 18 = .ok (.aload_n 0, 1) := by decide +kernel
theorem dX2_gather_19 : decode cX2_gather 19 = .ok (.iload_n 1, 1) := by decide +kernel
theorem dX2_gather_20 : decode cX2_gather 20 = .ok (.invokevirtual 74, 3) := by decide +kernel
theorem dX2_gather_23 : decode cX2_gather 23 = .ok (.istore_n 2, 1) := by decide +kernel
theorem dX2_gather_24 : decode cX2_gather 24 = .ok (.aload_n 0, 1) := by decide +kernel
theorem dX2_gather_25 : decode cX2_gather 25 = .ok (.invokevirtual 70, 3) := by decide +kernel
theorem dX2_gather_28 : decode cX2_gather 28 = .ok (.ifCond .eq 12, 3) := by decide +kernel
theorem dX2_gather_31 : decode cX2_gather 31 = .ok (.aload_n 0, 1) := by decide +kernel
theorem dX2_gather_32 : decode cX2_gather 32 = .ok (.iload_n 1, 1) := by decide +kernel
theorem dX2_gather_33 : decode cX2_gather 33 = .ok (.iconst 1, 1) := by decide +kernel
theorem dX2_gather_34 : decode cX2_gather 34 = .ok (.invokevirtual 136, 3) := by decide +kernel
theorem dX2_gather_37 : decode cX2_gather 37 = .ok (.goto 18, 3) := by decide +kernel
theorem dX2_gather_40 : decode cX2_gather 40 = .ok (.iload_n 1, 1) := by decide +kernel
theorem dX2_gather_41 : decode cX2_gather 41 = .ok (.aload_n 0, 1) := by decide +kernel
theorem dX2_gather_42 : decode cX2_gather 42 = .ok (.getfield 11, 3) := by decide +kernel
theorem dX2_gather_45 : decode cX2_gather 45 = .ok (.iconst 2, 1) := by decide +kernel
theorem dX2_gather_46 : decode cX2_gather 46 = .ok (.iaload, 1) := by decide +kernel
theorem dX2_gather_47 : decode cX2_gather 47 = .ok (.if_icmp .eq 7, 3) := by decide +kernel
theorem dX2_gather_50 : decode cX2_gather 50 = .ok (.iconst 1, 1) := by decide +kernel
theorem dX2_gather_51 : decode cX2_gather 51 = .ok (.goto 4, 3) := by decide +kernel
theorem dX2_gather_54 : decode cX2_gather 54 = .ok (.iconst 0, 1) := by decide +kernel
theorem dX2_gather_55 : decode cX2_gather 55 = .ok (.istore_n 3, 1) := by decide +kernel
theorem dX2_gather_56 : decode cX2_gather 56 = .ok (.iload_n 3, 1) := by decide +kernel
theorem dX2_gather_57 : decode cX2_gather 57 = .ok (.ifCond .ne 5, 3) := by decide +kernel
theorem dX2_gather_60 : decode cX2_gather 60 = .ok (.iconst (-1), 1) := by decide +kernel
theorem dX2_gather_61 : decode cX2_gather 61 = .ok (.ireturn, 1) := by decide +kernel
theorem dX2_gather_62 : decode cX2_gather 62 = .ok (.aload_n 0, 1) := by decide +kernel
theorem dX2_gather_63 : decode cX2_gather 63 = .ok (.aload_n 0, 1) := by decide +kernel
theorem dX2_gather_64 : decode cX2_gather 64 = .ok (.invokevirtual 70, 3) := by decide +kernel
theorem dX2_gather_67 : decode cX2_gather 67 = .ok (.ifCond .eq 13, 3) := by decide +kernel
theorem dX2_gather_70 : decode cX2_gather 70 = .ok (.aload_n 0, 1) := by decide +kernel
theorem dX2_gather_71 : decode cX2_gather 71 = .ok (.iconst 0, 1) := by decide +kernel
theorem dX2_gather_72 : decode cX2_gather 72 = .ok (.iload_n 2, 1) := by decide +kernel
theorem dX2_gather_73 : decode cX2_gather 73 = .ok (.iconst 2, 1) := by decide +kernel
theorem dX2_gather_74 : decode cX2_gather 74 = .ok (.invokevirtual 78, 3) := by decide +kernel
theorem dX2_gather_77 : decode cX2_gather 77 = .ok (.goto 9, 3) := by decide +kernel
theorem dX2_gather_80 : decode cX2_gather 80 = .ok (.aload_n 0, 1) := by decide +kernel
theorem dX2_gather_81 : decode cX2_gather 81 = .ok (.iload_n 2, 1) := by decide +kernel
theorem dX2_gather_82 : decode cX2_gather 82 = .ok (.iconst 1, 1) := by decide +kernel
theorem dX2_gather_83 : decode cX2_gather 83 = .ok (.invokevirtual 140, 3) := by decide +kernel
theorem dX2_gather_86 : decode cX2_gather 86 = .ok (.iconst 2, 1) := by decide +kernel
theorem dX2_gather_87 : decode cX2_gather 87 = .ok (.invokevirtual 152, 3) := by decide +kernel
theorem dX2_gather_90 : decode cX2_gather 90 = .ok (.istore 4, 2) := by decide +kernel
theorem dX2_gather_92 : decode cX2_gather 92 = .ok (.iload 4, 2) := by decide +kernel
theorem dX2_gather_94 : decode cX2_gather 94 = .ok (.iconst (-1), 1) := by decide +kernel
theorem dX2_gather_95 : decode cX2_gather 95 = .ok (.if_icmp .ne 6, 3) := by decide +kernel
theorem dX2_gather_98 : decode cX2_gather 98 = .ok (.bipush (-2), 2) := by decide +kernel
theorem dX2_gather_100 : decode cX2_gather 100 = .ok (.ireturn, 1) := by decide +kernel
theorem dX2_gather_101 : decode cX2_gather 101 = .ok (.aload_n 0, 1) := by decide +kernel
theorem dX2_gather_102 : decode cX2_gather 102 = .ok (.getfield 11, 3) := by decide +kernel
theorem dX2_gather_105 : decode cX2_gather 105 = .ok (.bipush 12, 2) := by decide +kernel
theorem dX2_gather_107 : decode cX2_gather 107 = .ok (.iload 4, 2) := by decide +kernel
theorem dX2_gather_109 : decode cX2_gather 109 = .ok (.iastore, 1) := by decide +kernel
theorem dX2_gather_110 : decode cX2_gather 110 = .ok (.aload_n 0, 1) := by decide +kernel
theorem dX2_gather_111 : decode cX2_gather 111 = .ok (.getfield 11, 3) := by decide +kernel
theorem dX2_gather_114 : decode cX2_gather 114 = .ok (.bipush 13, 2) := by decide +kernel
theorem dX2_gather_116 : decode cX2_gather 116 = .ok (.aload_n 0, 1) := by decide +kernel
theorem dX2_gather_117 : decode cX2_gather 117 = .ok (.invokevirtual 70, 3) := by decide +kernel
theorem dX2_gather_120 : decode cX2_gather 120 = .ok (.ifCond .eq 13, 3) := by decide +kernel
theorem dX2_gather_123 : decode cX2_gather 123 = .ok (.aload_n 0, 1) := by decide +kernel
theorem dX2_gather_124 : decode cX2_gather 124 = .ok (.iconst 0, 1) := by decide +kernel
theorem dX2_gather_125 : decode cX2_gather 125 = .ok (.iload_n 2, 1) := by decide +kernel
theorem dX2_gather_126 : decode cX2_gather 126 = .ok (.iconst 0, 1) := by decide +kernel
theorem dX2_gather_127 : decode cX2_gather 127 = .ok (.invokevirtual 78, 3) := by decide +kernel
theorem dX2_gather_130 : decode cX2_gather 130 = .ok (.goto 9, 3) := by decide +kernel
theorem dX2_gather_133 : decode cX2_gather 133 = .ok (.aload_n 0, 1) := by decide +kernel
theorem dX2_gather_134 : decode cX2_gather 134 = .ok (.iload_n 2, 1) := by decide +kernel
theorem dX2_gather_135 : decode cX2_gather 135 = .ok (.iconst 2, 1) := by decide +kernel
theorem dX2_gather_136 : decode cX2_gather 136 = .ok (.invokevirtual 140, 3) := by decide +kernel
theorem dX2_gather_139 : decode cX2_gather 139 = .ok (.iastore, 1) := by decide +kernel
theorem dX2_gather_140 : decode cX2_gather 140 = .ok (.aload_n 0, 1) := by decide +kernel
theorem dX2_gather_141 : decode cX2_gather 141 = .ok (.iconst 1, 1) := by decide +kernel
theorem dX2_gather_142 : decode cX2_gather 142 = .ok (.invokevirtual 86, 3) := by decide +kernel
theorem dX2_gather_145 : decode cX2_gather 145 = .ok (.ifCond .eq 10, 3) := by decide +kernel
theorem dX2_gather_148 : decode cX2_gather 148 = .ok (.aload_n 0, 1) := by decide +kernel
theorem dX2_gather_149 : decode cX2_gather 149 = .ok (.invokevirtual 180, 3) := by decide +kernel
theorem dX2_gather_152 : decode cX2_gather 152 = .ok (.goto 10, 3) := by decide +kernel
theorem dX2_gather_155 : decode cX2_gather 155 = .ok (.aload_n 0, 1) := by decide +kernel
theorem dX2_gather_156 : decode cX2_gather 156 = .ok (.getfield 11, 3) := by decide +kernel
theorem dX2_gather_159 : decode cX2_gather 159 = .ok (.bipush 12, 2) := by decide +kernel
theorem dX2_gather_161 : decode cX2_gather 161 = .ok (.iaload, 1) := by decide +kernel
theorem dX2_gather_162 : decode cX2_gather 162 = .ok (.istore_n 1, 1) := by decide +kernel
theorem dX2_gather_163 : decode cX2_gather 163 = .ok (.iload_n 1, 1) := by decide +kernel
theorem dX2_gather_164 : decode cX2_gather 164 = .ok (.aload_n 0, 1) := by decide +kernel
theorem dX2_gather_165 : decode cX2_gather 165 = .ok (.getfield 11, 3) := by decide +kernel
theorem dX2_gather_168 : decode cX2_gather 168 = .ok (.bipush 12, 2) := by decide +kernel
theorem dX2_gather_170 : decode cX2_gather 170 = .ok (.iaload, 1) := by decide +kernel
theorem dX2_gather_171 : decode cX2_gather 171 = .ok (.if_icmp .ne 11, 3) := by decide +kernel
theorem dX2_gather_174 : decode cX2_gather 174 = .ok (.aload_n 0, 1) := by decide +kernel
theorem dX2_gather_175 : decode cX2_gather 175 = .ok (.getfield 11, 3) := by decide +kernel
theorem dX2_gather_178 : decode cX2_gather 178 = .ok (.bipush 12, 2) := by decide +kernel
theorem dX2_gather_180 : decode cX2_gather 180 = .ok (.iconst (-1), 1) := by decide +kernel
theorem dX2_gather_181 : decode cX2_gather 181 = .ok (.iastore, 1) := by decide +kernel
theorem dX2_gather_182 : decode cX2_gather 182 = .ok (.aload_n 0, 1) := by decide +kernel
theorem dX2_gather_183 : decode cX2_gather 183 = .ok (.iload_n 1, 1) := by decide +kernel
theorem dX2_gather_184 : decode cX2_gather 184 = .ok (.invokevirtual 183, 3) := by decide +kernel
theorem dX2_gather_187 : decode cX2_gather 187 = .ok (.iload_n 1, 1) := by decide +kernel
theorem dX2_gather_188 : decode cX2_gather 188 = .ok (.ireturn, 1) := by decide +kernel
theorem dX2_lengthGathered_0 : decode cX2_lengthGathered 0 = .ok (.aload_n 0, 1) := by decide +kernel
theorem dX2_lengthGathered_1 : decode cX2_lengthGathered 1 = .ok (.getfield 11, 3) := by decide +kernel
theorem dX2_lengthGathered_4 : decode cX2_lengthGathered 4 = .ok (.bipush 12, 2) := by decide +kernel
theorem dX2_lengthGathered_6 : decode cX2_lengthGathered 6 = .ok (.iaload, 1) := by decide +kernel
theorem dX2_lengthGathered_7 : decode cX2_lengthGathered 7 = .ok (.iconst (-1), 1) := by decide +kernel
theorem dX2_lengthGathered_8 : decode cX2_lengthGathered 8 = .ok (.if_icmp .ne 13, 3) := by decide +kernel
theorem dX2_lengthGathered_11 : decode cX2_lengthGathered 11 = .ok (.aload_n 0, 1) := by decide +kernel
theorem dX2_lengthGathered_12 : decode cX2_lengthGathered 12 = .ok (.getfield 11, 3) := by decide +kernel
theorem dX2_lengthGathered_15 : decode cX2_lengthGathered 15 = .ok (.bipush 13, 2) := by decide +kernel
theorem dX2_lengthGathered_17 : decode cX2_lengthGathered 17 = .ok (.iaload, 1) := by decide +kernel
theorem dX2_lengthGathered_18 : decode cX2_lengthGathered 18 = .ok (.goto 4, 3) := by decide +kernel
theorem dX2_lengthGathered_21 : decode cX2_lengthGathered 21 = .ok (.iconst (-1), 1) := by decide +kernel
theorem dX2_lengthGathered_22 : decode cX2_lengthGathered 22 = .ok (.ireturn, 1) := by decide +kernel
theorem dX2_release_0 : decode cX2_release 0 = .ok (.aload_n 0, 1) := by decide +kernel
theorem dX2_release_1 : decode cX2_release 1 = .ok (.iload_n 1, 1) := by decide +kernel
theorem dX2_release_2 : decode cX2_release 2 = .ok (.iconst 0, 1) := by decide +kernel
theorem dX2_release_3 : decode cX2_release 3 = .ok (.iconst 3, 1) := by decide +kernel
theorem dX2_release_4 : decode cX2_release 4 = .ok (.invokevirtual 118, 3) := by decide +kernel
theorem dX2_release_7 : decode cX2_release 7 = .ok (.aload_n 0, 1) := by decide +kernel
theorem dX2_release_8 : decode cX2_release 8 = .ok (.getfield 11, 3) := by decide +kernel
theorem dX2_release_11 : decode cX2_release 11 = .ok (.iconst 3, 1) := by decide +kernel
theorem dX2_release_12 : decode cX2_release 12 = .ok (.aload_n 0, 1) := by decide +kernel
theorem dX2_release_13 : decode cX2_release 13 = .ok (.aload_n 0, 1) := by decide +kernel
theorem dX2_release_14 : decode cX2_release 14 = .ok (.getfield 11, 3) := by decide +kernel
theorem dX2_release_17 : decode cX2_release 17 = .ok (.iconst 3, 1) := by decide +kernel
theorem dX2_release_18 : decode cX2_release 18 = .ok (.iaload, 1) := by decide +kernel
theorem dX2_release_19 : decode cX2_release 19 = .ok (.aload_n 0, 1) := by decide +kernel
theorem dX2_release_20 : decode cX2_release 20 = .ok (.iload_n 1, 1) := by decide +kernel
theorem dX2_release_21 : decode cX2_release 21 = .ok (.invokevirtual 177, 3) := by decide +kernel
theorem dX2_release_24 : decode cX2_release 24 = .ok (.invokevirtual 133, 3) := by decide +kernel
theorem dX2_release_27 : decode cX2_release 27 = .ok (.iastore, 1) := by decide +kernel
theorem dX2_release_28 : decode cX2_release 28 = .ok (.aload_n 0, 1) := by decide +kernel
theorem dX2_release_29 : decode cX2_release 29 = .ok (.getfield 11, 3) := by decide +kernel
theorem dX2_release_32 : decode cX2_release 32 = .ok (.iconst 4, 1) := by decide +kernel
theorem dX2_release_33 : decode cX2_release 33 = .ok (.dup2, 1) := by decide +kernel
theorem dX2_release_34 : decode cX2_release 34 = .ok (.iaload, 1) := by decide +kernel
theorem dX2_release_35 : decode cX2_release 35 = .ok (.aload_n 0, 1) := by decide +kernel
theorem dX2_release_36 : decode cX2_release 36 = .ok (.iload_n 1, 1) := by decide +kernel
theorem dX2_release_37 : decode cX2_release 37 = .ok (.bipush 7, 2) := by decide +kernel
theorem dX2_release_39 : decode cX2_release 39 = .ok (.invokevirtual 127, 3) := by decide +kernel
theorem dX2_release_42 : decode cX2_release 42 = .ok (.iadd, 1) := by decide +kernel
theorem dX2_release_43 : decode cX2_release 43 = .ok (.iastore, 1) := by decide +kernel
theorem dX2_release_44 : decode cX2_release 44 = .ok (.aload_n 0, 1) := by decide +kernel
theorem dX2_release_45 : decode cX2_release 45 = .ok (.getfield 11, 3) := by decide +kernel
theorem dX2_release_48 : decode cX2_release 48 = .ok (.bipush 6, 2) := by decide +kernel
theorem dX2_release_50 : decode cX2_release 50 = .ok (.dup2, 1) := by decide +kernel
theorem dX2_release_51 : decode cX2_release 51 = .ok (.iaload, 1) := by decide +kernel
theorem dX2_release_52 : decode cX2_release 52 = .ok (.iconst 1, 1) := by decide +kernel
theorem dX2_release_53 : decode cX2_release 53 = .ok (.isub, 1) := by decide +kernel
theorem dX2_release_54 : decode cX2_release 54 = .ok (.iastore, 1) := by decide +kernel
theorem dX2_release_55 : decode cX2_release 55 = .ok (.iconst 0, 1) := by decide +kernel
theorem dX2_release_56 : decode cX2_release 56 = .ok (.istore_n 2, 1) := by decide +kernel
theorem dX2_release_57 : decode cX2_release 57 = .ok (.iload_n 2, 1) := by decide +kernel
theorem dX2_release_58 : decode cX2_release 58 = .ok (.bipush 8, 2) := by decide +kernel
theorem dX2_release_60 : decode cX2_release 60 = .ok (.if_icmp .ge 26, 3) := by decide +kernel
theorem dX2_release_63 : decode cX2_release 63 = .ok (.aload_n 0, 1) := by decide +kernel
theorem dX2_release_64 : decode cX2_release 64 = .ok (.getfield 24, 3) := by decide +kernel
theorem dX2_release_67 : decode cX2_release 67 = .ok (.iload_n 2, 1) := by decide +kernel
theorem dX2_release_68 : decode cX2_release 68 = .ok (.iaload, 1) := by decide +kernel
theorem dX2_release_69 : decode cX2_release 69 = .ok (.iload_n 1, 1) := by decide +kernel
theorem dX2_release_70 : decode cX2_release 70 = .ok (.if_icmp .ne 10, 3) := by decide +kernel
theorem dX2_release_73 : decode cX2_release 73 = .ok (.aload_n 0, 1) := by decide +kernel
theorem dX2_release_74 : decode cX2_release 74 = .ok (.getfield 24, 3) := by decide +kernel
theorem dX2_release_77 : decode cX2_release 77 = .ok (.iload_n 2, 1) := by decide +kernel
theorem dX2_release_78 : decode cX2_release 78 = .ok (.iconst (-1), 1) := by decide +kernel
theorem dX2_release_79 : decode cX2_release 79 = .ok (.iastore, 1) := by decide +kernel
theorem dX2_release_80 : decode cX2_release 80 = .ok (.iinc 2 1, 3) := by decide +kernel
theorem dX2_release_83 : decode cX2_release 83 = .ok (.goto (-26), 3) := by decide +kernel
theorem dX2_release_86 : decode cX2_release 86 = .ok (.iconst 1, 1) := by decide +kernel
theorem dX2_release_87 : decode cX2_release 87 = .ok (.istore_n 2, 1) := by decide +kernel
theorem dX2_release_88 : decode cX2_release 88 = .ok (.iload_n 2, 1) := by decide +kernel
theorem dX2_release_89 : decode cX2_release 89 = .ok (.iconst 5, 1) := by decide +kernel
theorem dX2_release_90 : decode cX2_release 90 = .ok (.if_icmp .ge 26, 3) := by decide +kernel
theorem dX2_release_93 : decode cX2_release 93 = .ok (.aload_n 0, 1) := by decide +kernel
theorem dX2_release_94 : decode cX2_release 94 = .ok (.getfield 27, 3) := by decide +kernel
theorem dX2_release_97 : decode cX2_release 97 = .ok (.iload_n 2, 1) := by decide +kernel
theorem dX2_release_98 : decode cX2_release 98 = .ok (.iaload, 1) := by decide +kernel
theorem dX2_release_99 : decode cX2_release 99 = .ok (.iload_n 1, 1) := by decide +kernel
theorem dX2_release_100 : decode cX2_release 100 = .ok (.if_icmp .ne 10, 3) := by decide +kernel
theorem dX2_release_103 : decode cX2_release 103 = .ok (.aload_n 0, 1) := by decide +kernel
theorem dX2_release_104 : decode cX2_release 104 = .ok (.getfield 27, 3) := by decide +kernel
theorem dX2_release_107 : decode cX2_release 107 = .ok (.iload_n 2, 1) := by decide +kernel
theorem dX2_release_108 : decode cX2_release 108 = .ok (.iconst (-1), 1) := by decide +kernel
theorem dX2_release_109 : decode cX2_release 109 = .ok (.iastore, 1) := by decide +kernel
theorem dX2_release_110 : decode cX2_release 110 = .ok (.iinc 2 1, 3) := by decide +kernel
theorem dX2_release_113 : decode cX2_release 113 = .ok (.goto (-25), 3) := by decide +kernel
theorem dX2_release_116 : decode cX2_release 116 = .ok (.return_, 1) := by decide +kernel
theorem dX2_notifyDevice_0 : decode cX2_notifyDevice 0 = .ok (.aload_n 0, 1) := by decide +kernel
theorem dX2_notifyDevice_1 : decode cX2_notifyDevice 1 = .ok (.aload_n 0, 1) := by decide +kernel
theorem dX2_notifyDevice_2 : decode cX2_notifyDevice 2 = .ok (.getfield 11, 3) := by decide +kernel
