theorem dX8_event_61 : decode cX8_event 61 = .ok (.invokevirtual 147, 3) := by decide +kernel
theorem dX8_event_64 : decode cX8_event 64 = .ok (.iastore, 1) := by decide +kernel
theorem dX8_event_65 : decode cX8_event 65 = .ok (.aload_n 0, 1) := by decide +kernel
theorem dX8_event_66 : decode cX8_event 66 = .ok (.getfield 13, 3) := by decide +kernel
theorem dX8_event_69 : decode cX8_event 69 = .ok (.iload_n 3, 1) := by decide +kernel
theorem dX8_event_70 : decode cX8_event 70 = .ok (.iaload, 1) := by decide +kernel
theorem dX8_event_71 : decode cX8_event 71 = .ok (.ireturn, 1) := by decide +kernel
theorem dX8_hush_0 : decode cX8_hush 0 = .ok (.iload_n 1, 1) := by decide +kernel
theorem dX8_hush_1 : decode cX8_hush 1 = .ok (.iconst 0, 1) := by decide +kernel
theorem dX8_hush_2 : decode cX8_hush 2 = .ok (.iconst 1, 1) := by decide +kernel
theorem dX8_hush_3 : decode cX8_hush 3 = .ok (.invokestatic 93, 3) := by decide +kernel
theorem dX8_hush_6 : decode cX8_hush 6 = .ok (.ifCond .eq 12, 3) := by decide +kernel
theorem dX8_hush_9 : decode cX8_hush 9 = .ok (.iload_n 2, 1) := by decide +kernel
theorem dX8_hush_10 : decode cX8_hush 10 = .ok (.iconst 0, 1) := by decide +kernel
theorem dX8_hush_11 : decode cX8_hush 11 = .ok (.iconst 1, 1) := by decide +kernel
theorem dX8_hush_12 : decode cX8_hush 12 = .ok (.invokestatic 93, 3) := by decide +kernel
theorem dX8_hush_15 : decode cX8_hush 15 = .ok (.ifCond .ne 5, 3) := by decide +kernel
theorem dX8_hush_18 : decode cX8_hush 18 = .ok (.iconst (-1), 1) := by decide +kernel
theorem dX8_hush_19 : decode cX8_hush 19 = .ok (.ireturn, 1) := by decide +kernel
theorem dX8_hush_20 : decode cX8_hush 20 = .ok (.aload_n 0, 1) := by decide +kernel
theorem dX8_hush_21 : decode cX8_hush 21 = .ok (.getfield 13, 3) := by decide +kernel
theorem dX8_hush_24 : decode cX8_hush 24 = .ok (.bipush 11, 2) := by decide +kernel
theorem dX8_hush_26 : decode cX8_hush 26 = .ok (.iload_n 1, 1) := by decide +kernel
theorem dX8_hush_27 : decode cX8_hush 27 = .ok (.iadd, 1) := by decide +kernel
theorem dX8_hush_28 : decode cX8_hush 28 = .ok (.iload_n 2, 1) := by decide +kernel
theorem dX8_hush_29 : decode cX8_hush 29 = .ok (.iastore, 1) := by decide +kernel
theorem dX8_hush_30 : decode cX8_hush 30 = .ok (.iconst 0, 1) := by decide +kernel
theorem dX8_hush_31 : decode cX8_hush 31 = .ok (.ireturn, 1) := by decide +kernel
theorem dX8_due_0 : decode cX8_due 0 = .ok (.aload_n 0, 1) := by decide +kernel
theorem dX8_due_1 : decode cX8_due 1 = .ok (.invokevirtual 89, 3) := by decide +kernel
theorem dX8_due_4 : decode cX8_due 4 = .ok (.istore 4, 2) := by decide +kernel
theorem dX8_due_6 : decode cX8_due 6 = .ok (.iload_n 1, 1) := by decide +kernel
theorem dX8_due_7 : decode cX8_due 7 = .ok (.iconst 0, 1) := by decide +kernel
theorem dX8_due_8 : decode cX8_due 8 = .ok (.iload 4, 2) := by decide +kernel
theorem dX8_due_10 : decode cX8_due 10 = .ok (.iconst 1, 1) := by decide +kernel
theorem dX8_due_11 : decode cX8_due 11 = .ok (.isub, 1) := by decide +kernel
theorem dX8_due_12 : decode cX8_due 12 = .ok (.invokestatic 93, 3) := by decide +kernel
theorem dX8_due_15 : decode cX8_due 15 = .ok (.ifCond .eq 38, 3) := by decide +kernel
theorem dX8_due_18 : decode cX8_due 18 = .ok (.iload_n 2, 1) := by decide +kernel
theorem dX8_due_19 : decode cX8_due 19 = .ok (.iconst 0, 1) := by decide +kernel
theorem dX8_due_20 : decode cX8_due 20 = .ok (.iload 4, 2) := by decide +kernel
theorem dX8_due_22 : decode cX8_due 22 = .ok (.iconst 1, 1) := by decide +kernel
theorem dX8_due_23 : decode cX8_due 23 = .ok (.isub, 1) := by decide +kernel
theorem dX8_due_24 : decode cX8_due 24 = .ok (.invokestatic 93, 3) := by decide +kernel
theorem dX8_due_27 : decode cX8_due 27 = .ok (.ifCond .eq 26, 3) := by decide +kernel
theorem dX8_due_30 : decode cX8_due 30 = .ok (.iload_n 3, 1) := by decide +kernel
theorem dX8_due_31 : decode cX8_due 31 = .ok (.iconst 0, 1) := by decide +kernel
theorem dX8_due_32 : decode cX8_due 32 = .ok (.iload 4, 2) := by decide +kernel
theorem dX8_due_34 : decode cX8_due 34 = .ok (.iconst 1, 1) := by decide +kernel
theorem dX8_due_35 : decode cX8_due 35 = .ok (.isub, 1) := by decide +kernel
theorem dX8_due_36 : decode cX8_due 36 = .ok (.invokestatic 93, 3) := by decide +kernel
theorem dX8_due_39 : decode cX8_due 39 = .ok (.ifCond .eq 14, 3) := by decide +kernel
theorem dX8_due_42 : decode cX8_due 42 = .ok (.iload_n 1, 1) := by decide +kernel
theorem dX8_due_43 : decode cX8_due 43 = .ok (.iload_n 2, 1) := by decide +kernel
theorem dX8_due_44 : decode cX8_due 44 = .ok (.iload_n 3, 1) := by decide +kernel
theorem dX8_due_45 : decode cX8_due 45 = .ok (.iload 4, 2) := by decide +kernel
theorem dX8_due_47 : decode cX8_due 47 = .ok (.invokestatic 259, 3) := by decide +kernel
theorem dX8_due_50 : decode cX8_due 50 = .ok (.goto 4, 3) := by decide +kernel
theorem dX8_due_53 : decode cX8_due 53 = .ok (.iconst (-1), 1) := by decide +kernel
theorem dX8_due_54 : decode cX8_due 54 = .ok (.ireturn, 1) := by decide +kernel
theorem dX8_reset_0 : decode cX8_reset 0 = .ok (.aload_n 0, 1) := by decide +kernel
theorem dX8_reset_1 : decode cX8_reset 1 = .ok (.iconst 0, 1) := by decide +kernel
theorem dX8_reset_2 : decode cX8_reset 2 = .ok (.putfield 267, 3) := by decide +kernel
theorem dX8_reset_5 : decode cX8_reset 5 = .ok (.iconst 0, 1) := by decide +kernel
theorem dX8_reset_6 : decode cX8_reset 6 = .ok (.istore_n 1, 1) := by decide +kernel
theorem dX8_reset_7 : decode cX8_reset 7 = .ok (.iload_n 1, 1) := by decide +kernel
theorem dX8_reset_8 : decode cX8_reset 8 = .ok (.aload_n 0, 1) := by decide +kernel
theorem dX8_reset_9 : decode cX8_reset 9 = .ok (.getfield 13, 3) := by decide +kernel
theorem dX8_reset_12 : decode cX8_reset 12 = .ok (.bipush 16, 2) := by decide +kernel
theorem dX8_reset_14 : decode cX8_reset 14 = .ok (.iaload, 1) := by decide +kernel
theorem dX8_reset_15 : decode cX8_reset 15 = .ok (.if_icmp .ge 51, 3) := by decide +kernel
theorem dX8_reset_18 : decode cX8_reset 18 = .ok (.aload_n 0, 1) := by decide +kernel
theorem dX8_reset_19 : decode cX8_reset 19 = .ok (.iload_n 1, 1) := by decide +kernel
theorem dX8_reset_20 : decode cX8_reset 20 = .ok (.invokevirtual 101, 3) := by decide +kernel
theorem dX8_reset_23 : decode cX8_reset 23 = .ok (.ifCond .ne 6, 3) := by decide +kernel
theorem dX8_reset_26 : decode cX8_reset 26 = .ok (.goto 34, 3) := by decide +kernel
theorem dX8_reset_29 : decode cX8_reset 29 = .ok (.aload_n 0, 1) := by decide +kernel
theorem dX8_reset_30 : decode cX8_reset 30 = .ok (.getfield 13, 3) := by decide +kernel
theorem dX8_reset_33 : decode cX8_reset 33 = .ok (.iload_n 1, 1) := by decide +kernel
theorem dX8_reset_34 : decode cX8_reset 34 = .ok (.iconst 0, 1) := by decide +kernel
theorem dX8_reset_35 : decode cX8_reset 35 = .ok (.invokestatic 97, 3) := by decide +kernel
theorem dX8_reset_38 : decode cX8_reset 38 = .ok (.iconst 4, 1) := by decide +kernel
theorem dX8_reset_39 : decode cX8_reset 39 = .ok (.iastore, 1) := by decide +kernel
theorem dX8_reset_40 : decode cX8_reset 40 = .ok (.aload_n 0, 1) := by decide +kernel
theorem dX8_reset_41 : decode cX8_reset 41 = .ok (.getfield 37, 3) := by decide +kernel
theorem dX8_reset_44 : decode cX8_reset 44 = .ok (.aload_n 0, 1) := by decide +kernel
theorem dX8_reset_45 : decode cX8_reset 45 = .ok (.getfield 267, 3) := by decide +kernel
theorem dX8_reset_48 : decode cX8_reset 48 = .ok (.iload_n 1, 1) := by decide +kernel
theorem dX8_reset_49 : decode cX8_reset 49 = .ok (.iastore, 1) := by decide +kernel
theorem dX8_reset_50 : decode cX8_reset 50 = .ok (.aload_n 0, 1) := by decide +kernel
theorem dX8_reset_51 : decode cX8_reset 51 = .ok (.dup, 1) := by decide +kernel
theorem dX8_reset_52 : decode cX8_reset 52 = .ok (.getfield 267, 3) := by decide +kernel
theorem dX8_reset_55 : decode cX8_reset 55 = .ok (.iconst 1, 1) := by decide +kernel
theorem dX8_reset_56 : decode cX8_reset 56 = .ok (.iadd, 1) := by decide +kernel
theorem dX8_reset_57 : decode cX8_reset 57 = .ok (.putfield 267, 3) := by decide +kernel
theorem dX8_reset_60 : decode cX8_reset 60 = .ok (.iinc 1 1, 3) := by decide +kernel
theorem dX8_reset_63 : decode cX8_reset 63 = .ok (.goto (-56), 3) := by decide +kernel
theorem dX8_reset_66 : decode cX8_reset 66 = .ok (.iconst 3, 1) := by decide +kernel
theorem dX8_reset_67 : decode cX8_reset 67 = .ok (.istore_n 1, 1) := by decide +kernel
theorem dX8_reset_68 : decode cX8_reset 68 = .ok (.iload_n 1, 1) := by decide +kernel
theorem dX8_reset_69 : decode cX8_reset 69 = .ok (.bipush 14, 2) := by decide +kernel
theorem dX8_reset_71 : decode cX8_reset 71 = .ok (.if_icmp .ge 16, 3) := by decide +kernel
theorem dX8_reset_74 : decode cX8_reset 74 = .ok (.aload_n 0, 1) := by decide +kernel
theorem dX8_reset_75 : decode cX8_reset 75 = .ok (.getfield 13, 3) := by decide +kernel
theorem dX8_reset_78 : decode cX8_reset 78 = .ok (.iload_n 1, 1) := by decide +kernel
theorem dX8_reset_79 : decode cX8_reset 79 = .ok (.iconst 0, 1) := by decide +kernel
theorem dX8_reset_80 : decode cX8_reset 80 = .ok (.iastore, 1) := by decide +kernel
theorem dX8_reset_81 : decode cX8_reset 81 = .ok (.iinc 1 1, 3) := by decide +kernel
theorem dX8_reset_84 : decode cX8_reset 84 = .ok (.goto (-16), 3) := by decide +kernel
theorem dX8_reset_87 : decode cX8_reset 87 = .ok (.bipush 24, 2) := by decide +kernel
theorem dX8_reset_89 : decode cX8_reset 89 = .ok (.istore_n 1, 1) := by decide +kernel
theorem dX8_reset_90 : decode cX8_reset 90 = .ok (.iload_n 1, 1) := by decide +kernel
theorem dX8_reset_91 : decode cX8_reset 91 = .ok (.bipush 48, 2) := by decide +kernel
theorem dX8_reset_93 : decode cX8_reset 93 = .ok (.if_icmp .ge 16, 3) := by decide +kernel
theorem dX8_reset_96 : decode cX8_reset 96 = .ok (.aload_n 0, 1) := by decide +kernel
theorem dX8_reset_97 : decode cX8_reset 97 = .ok (.getfield 13, 3) := by decide +kernel
theorem dX8_reset_100 : decode cX8_reset 100 = .ok (.iload_n 1, 1) := by decide +kernel
theorem dX8_reset_101 : decode cX8_reset 101 = .ok (.iconst 0, 1) := by decide +kernel
theorem dX8_reset_102 : decode cX8_reset 102 = .ok (.iastore, 1) := by decide +kernel
theorem dX8_reset_103 : decode cX8_reset 103 = .ok (.iinc 1 1, 3) := by decide +kernel
theorem dX8_reset_106 : decode cX8_reset 106 = .ok (.goto (-16), 3) := by decide +kernel
theorem dX8_reset_109 : decode cX8_reset 109 = .ok (.aload_n 0, 1) := by decide +kernel
theorem dX8_reset_110 : decode cX8_reset 110 = .ok (.getfield 13, 3) := by decide +kernel
theorem dX8_reset_113 : decode cX8_reset 113 = .ok (.bipush 17, 2) := by decide +kernel
theorem dX8_reset_115 : decode cX8_reset 115 = .ok (.iconst (-1), 1) := by decide +kernel
theorem dX8_reset_116 : decode cX8_reset 116 = .ok (.iastore, 1) := by decide +kernel
theorem dX8_reset_117 : decode cX8_reset 117 = .ok (.aload_n 0, 1) := by decide +kernel
theorem dX8_reset_118 : decode cX8_reset 118 = .ok (.invokevirtual 78, 3) := by decide +kernel
theorem dX8_reset_121 : decode cX8_reset 121 = .ok (.aload_n 0, 1) := by decide +kernel
theorem dX8_reset_122 : decode cX8_reset 122 = .ok (.getfield 267, 3) := by decide +kernel
theorem dX8_reset_125 : decode cX8_reset 125 = .ok (.ireturn, 1) := by decide +kernel
theorem dX8_drained_0 : decode cX8_drained 0 = .ok (.iload_n 1, 1) := by decide +kernel
theorem dX8_drained_1 : decode cX8_drained 1 = .ok (.iconst 0, 1) := by decide +kernel
theorem dX8_drained_2 : decode cX8_drained 2 = .ok (.aload_n 0, 1) := by decide +kernel
theorem dX8_drained_3 : decode cX8_drained 3 = .ok (.getfield 267, 3) := by decide +kernel
theorem dX8_drained_6 : decode cX8_drained 6 = .ok (.iconst 1, 1) := by decide +kernel
theorem dX8_drained_7 : decode cX8_drained 7 = .ok (.isub, 1) := by decide +kernel
theorem dX8_drained_8 : decode cX8_drained 8 = .ok (.invokestatic 93, 3) := by decide +kernel
theorem dX8_drained_11 : decode cX8_drained 11 = .ok (.ifCond .eq 12, 3) := by decide +kernel
theorem dX8_drained_14 : decode cX8_drained 14 = .ok (.aload_n 0, 1) := by decide +kernel
theorem dX8_drained_15 : decode cX8_drained 15 = .ok (.getfield 37, 3) := by decide +kernel
theorem dX8_drained_18 : decode cX8_drained 18 = .ok (.iload_n 1, 1) := by decide +kernel
theorem dX8_drained_19 : decode cX8_drained 19 = .ok (.iaload, 1) := by decide +kernel
theorem dX8_drained_20 : decode cX8_drained 20 = .ok (.goto 4, 3) := by decide +kernel
theorem dX8_drained_23 : decode cX8_drained 23 = .ok (.iconst (-1), 1) := by decide +kernel
theorem dX8_drained_24 : decode cX8_drained 24 = .ok (.ireturn, 1) := by decide +kernel
theorem dX8_tableSize_0 : decode cX8_tableSize 0 = .ok (.iload_n 1, 1) := by decide +kernel
theorem dX8_tableSize_1 : decode cX8_tableSize 1 = .ok (.ifCond .ne 12, 3) := by decide +kernel
theorem dX8_tableSize_4 : decode cX8_tableSize 4 = .ok (.aload_n 0, 1) := by decide +kernel
theorem dX8_tableSize_5 : decode cX8_tableSize 5 = .ok (.getfield 13, 3) := by decide +kernel
theorem dX8_tableSize_8 : decode cX8_tableSize 8 = .ok (.iconst 1, 1) := by decide +kernel
theorem dX8_tableSize_9 : decode cX8_tableSize 9 = .ok (.iaload, 1) := by decide +kernel
theorem dX8_tableSize_10 : decode cX8_tableSize 10 = .ok (.goto 12, 3) := by decide +kernel
theorem dX8_tableSize_13 : decode cX8_tableSize 13 = .ok (.aload_n 0, 1) := by decide +kernel
theorem dX8_tableSize_14 : decode cX8_tableSize 14 = .ok (.getfield 13, 3) := by decide +kernel
theorem dX8_tableSize_17 : decode cX8_tableSize 17 = .ok (.bipush 19, 2) := by decide +kernel
theorem dX8_tableSize_19 : decode cX8_tableSize 19 = .ok (.iload_n 1, 1) := by decide +kernel
theorem dX8_tableSize_20 : decode cX8_tableSize 20 = .ok (.iadd, 1) := by decide +kernel
theorem dX8_tableSize_21 : decode cX8_tableSize 21 = .ok (.iaload, 1) := by decide +kernel
theorem dX8_tableSize_22 : decode cX8_tableSize 22 = .ok (.ireturn, 1) := by decide +kernel
theorem dX8_isDescriptor_0 : decode cX8_isDescriptor 0 = .ok (.iload_n 1, 1) := by decide +kernel
theorem dX8_isDescriptor_1 : decode cX8_isDescriptor 1 = .ok (.iconst 0, 1) := by decide +kernel
theorem dX8_isDescriptor_2 : decode cX8_isDescriptor 2 = .ok (.iconst 4, 1) := by decide +kernel
theorem dX8_isDescriptor_3 : decode cX8_isDescriptor 3 = .ok (.invokestatic 93, 3) := by decide +kernel
theorem dX8_isDescriptor_6 : decode cX8_isDescriptor 6 = .ok (.ifCond .eq 31, 3) := by decide +kernel
theorem dX8_isDescriptor_9 : decode cX8_isDescriptor 9 = .ok (.iload_n 2, 1) := by decide +kernel
theorem dX8_isDescriptor_10 : decode cX8_isDescriptor 10 = .ok (.iconst 0, 1) := by decide +kernel
theorem dX8_isDescriptor_11 : decode cX8_isDescriptor 11 = .ok (.aload_n 0, 1) := by decide +kernel
theorem dX8_isDescriptor_12 : decode cX8_isDescriptor 12 = .ok (.iload_n 1, 1) := by decide +kernel
theorem dX8_isDescriptor_13 : decode cX8_isDescriptor 13 = .ok (.invokevirtual 270, 3) := by decide +kernel
theorem dX8_isDescriptor_16 : decode cX8_isDescriptor 16 = .ok (.iconst 1, 1) := by decide +kernel
theorem dX8_isDescriptor_17 : decode cX8_isDescriptor 17 = .ok (.isub, 1) := by decide +kernel
theorem dX8_isDescriptor_18 : decode cX8_isDescriptor 18 = .ok (.invokestatic 93, 3) := by decide +kernel
theorem dX8_isDescriptor_21 : decode cX8_isDescriptor 21 = .ok (.ifCond .eq 16, 3) := by decide +kernel
theorem dX8_isDescriptor_24 : decode cX8_isDescriptor 24 = .ok (.iload_n 3, 1) := by decide +kernel
theorem dX8_isDescriptor_25 : decode cX8_isDescriptor 25 = .ok (.iconst 0, 1) := by decide +kernel
theorem dX8_isDescriptor_26 : decode cX8_isDescriptor 26 = .ok (.iconst 2, 1) := by decide +kernel
theorem dX8_isDescriptor_27 : decode cX8_isDescriptor 27 = .ok (.invokestatic 93, 3) := by decide +kernel
theorem dX8_isDescriptor_30 : decode cX8_isDescriptor 30 = .ok (.ifCond .eq 7, 3) := by decide +kernel
theorem dX8_isDescriptor_33 : decode cX8_isDescriptor 33 = .ok (.iconst 1, 1) := by decide +kernel
theorem dX8_isDescriptor_34 : decode cX8_isDescriptor 34 = .ok (.goto 4, 3) := by decide +kernel
theorem dX8_isDescriptor_37 : decode cX8_isDescriptor 37 = .ok (.iconst 0, 1) := by decide +kernel
theorem dX8_isDescriptor_38 : decode cX8_isDescriptor 38 = .ok (.ireturn, 1) := by decide +kernel
theorem dX8_spoil_0 : decode cX8_spoil 0 = .ok (.aload_n 0, 1) := by decide +kernel
theorem dX8_spoil_1 : decode cX8_spoil 1 = .ok (.iload_n 1, 1) := by decide +kernel
theorem dX8_spoil_2 : decode cX8_spoil 2 = .ok (.iload_n 2, 1) := by decide +kernel
theorem dX8_spoil_3 : decode cX8_spoil 3 = .ok (.iload_n 3, 1) := by decide +kernel
theorem dX8_spoil_4 : decode cX8_spoil 4 = .ok (.invokevirtual 273, 3) := by decide +kernel
theorem dX8_spoil_7 : decode cX8_spoil 7 = .ok (.ifCond .eq 34, 3) := by decide +kernel
theorem dX8_spoil_10 : decode cX8_spoil 10 = .ok (.iload 4, 2) := by decide +kernel
theorem dX8_spoil_12 : decode cX8_spoil 12 = .ok (.iconst 0, 1) := by decide +kernel
theorem dX8_spoil_13 : decode cX8_spoil 13 = .ok (.iload_n 3, 1) := by decide +kernel
theorem dX8_spoil_14 : decode cX8_spoil 14 = .ok (.ifCond .ne 9, 3) := by decide +kernel
theorem dX8_spoil_17 : decode cX8_spoil 17 = .ok (.sipush 999, 3) := by decide +kernel
theorem dX8_spoil_20 : decode cX8_spoil 20 = .ok (.goto 15, 3) := by decide +kernel
theorem dX8_spoil_23 : decode cX8_spoil 23 = .ok (.iload_n 3, 1) := by decide +kernel
theorem dX8_spoil_24 : decode cX8_spoil 24 = .ok (.iconst 1, 1) := by decide +kernel
theorem dX8_spoil_25 : decode cX8_spoil 25 = .ok (.if_icmp .ne 8, 3) := by decide +kernel
theorem dX8_spoil_28 : decode cX8_spoil 28 = .ok (.bipush 31, 2) := by decide +kernel
theorem dX8_spoil_30 : decode cX8_spoil 30 = .ok (.goto 5, 3) := by decide +kernel
theorem dX8_spoil_33 : decode cX8_spoil 33 = .ok (.bipush 99, 2) := by decide +kernel
theorem dX8_spoil_35 : decode cX8_spoil 35 = .ok (.invokestatic 93, 3) := by decide +kernel
theorem dX8_spoil_38 : decode cX8_spoil 38 = .ok (.ifCond .ne 5, 3) := by decide +kernel
theorem dX8_spoil_41 : decode cX8_spoil 41 = .ok (.iconst (-1), 1) := by decide +kernel
theorem dX8_spoil_42 : decode cX8_spoil 42 = .ok (.ireturn, 1) := by decide +kernel
theorem dX8_spoil_43 : decode cX8_spoil 43 = .ok (.aload_n 0, 1) := by decide +kernel
theorem dX8_spoil_44 : decode cX8_spoil 44 = .ok (.getfield 13, 3) := by decide +kernel
theorem dX8_spoil_47 : decode cX8_spoil 47 = .ok (.iload_n 1, 1) := by decide +kernel
theorem dX8_spoil_48 : decode cX8_spoil 48 = .ok (.iload_n 2, 1) := by decide +kernel
theorem dX8_spoil_49 : decode cX8_spoil 49 = .ok (.iload_n 3, 1) := by decide +kernel
theorem dX8_spoil_50 : decode cX8_spoil 50 = .ok (.invokestatic 126, 3) := by decide +kernel
theorem dX8_spoil_53 : decode cX8_spoil 53 = .ok (.iaload, 1) := by decide +kernel
theorem dX8_spoil_54 : decode cX8_spoil 54 = .ok (.istore 5, 2) := by decide +kernel
theorem dX8_spoil_56 : decode cX8_spoil 56 = .ok (.aload_n 0, 1) := by decide +kernel
theorem dX8_spoil_57 : decode cX8_spoil 57 = .ok (.getfield 13, 3) := by decide +kernel
theorem dX8_spoil_60 : decode cX8_spoil 60 = .ok (.iload_n 1, 1) := by decide +kernel
theorem dX8_spoil_61 : decode cX8_spoil 61 = .ok (.iload_n 2, 1) := by decide +kernel
theorem dX8_spoil_62 : decode cX8_spoil 62 = .ok (.iload_n 3, 1) := by decide +kernel
theorem dX8_spoil_63 : decode cX8_spoil 63 = .ok (.invokestatic 126, 3) := by decide +kernel
theorem dX8_spoil_66 : decode cX8_spoil 66 = .ok (.iload 4, 2) := by decide +kernel
theorem dX8_spoil_68 : decode cX8_spoil 68 = .ok (.iastore, 1) := by decide +kernel
theorem dX8_spoil_69 : decode cX8_spoil 69 = .ok (.iload 5, 2) := by decide +kernel
theorem dX8_spoil_71 : decode cX8_spoil 71 = .ok (.ireturn, 1) := by decide +kernel
theorem dX8_descriptor_0 : decode cX8_descriptor 0 = .ok (.aload_n 0, 1) := by decide +kernel
theorem dX8_descriptor_1 : decode cX8_descriptor 1 = .ok (.iload_n 1, 1) := by decide +kernel
theorem dX8_descriptor_2 : decode cX8_descriptor 2 = .ok (.iload_n 2, 1) := by decide +kernel
theorem dX8_descriptor_3 : decode cX8_descriptor 3 = .ok (.iload_n 3, 1) := by decide +kernel
theorem dX8_descriptor_4 : decode cX8_descriptor 4 = .ok (.invokevirtual 273, 3) := by decide +kernel
theorem dX8_descriptor_7 : decode cX8_descriptor 7 = .ok (.ifCond .eq 17, 3) := by decide +kernel
theorem dX8_descriptor_10 : decode cX8_descriptor 10 = .ok (.aload_n 0, 1) := by decide +kernel
theorem dX8_descriptor_11 : decode cX8_descriptor 11 = .ok (.getfield 13, 3) := by decide +kernel
theorem dX8_descriptor_14 : decode cX8_descriptor 14 = .ok (.iload_n 1, 1) := by decide +kernel
theorem dX8_descriptor_15 : decode cX8_descriptor 15 = .ok (.iload_n 2, 1) := by decide +kernel
theorem dX8_descriptor_16 : decode cX8_descriptor 16 = .ok (.iload_n 3, 1) := by decide +kernel
theorem dX8_descriptor_17 : decode cX8_descriptor 17 = .ok (.invokestatic 126, 3) := by decide +kernel
theorem dX8_descriptor_20 : decode cX8_descriptor 20 = .ok (.iaload, 1) := by decide +kernel
theorem dX8_descriptor_21 : decode cX8_descriptor 21 = .ok (.goto 4, 3) := by decide +kernel
theorem dX8_descriptor_24 : decode cX8_descriptor 24 = .ok (.iconst (-1), 1) := by decide +kernel
theorem dX8_descriptor_25 : decode cX8_descriptor 25 = .ok (.ireturn, 1) := by decide +kernel
theorem dX8_table_0 : decode cX8_table 0 = .ok (.iload_n 1, 1) := by decide +kernel
theorem dX8_table_1 : decode cX8_table 1 = .ok (.iconst 0, 1) := by decide +kernel
theorem dX8_table_2 : decode cX8_table 2 = .ok (.iconst 4, 1) := by decide +kernel
theorem dX8_table_3 : decode cX8_table 3 = .ok (.invokestatic 93, 3) := by decide +kernel
theorem dX8_table_6 : decode cX8_table 6 = .ok (.ifCond .eq 11, 3) := by decide +kernel
theorem dX8_table_9 : decode cX8_table 9 = .ok (.aload_n 0, 1) := by decide +kernel
theorem dX8_table_10 : decode cX8_table 10 = .ok (.iload_n 1, 1) := by decide +kernel
theorem dX8_table_11 : decode cX8_table 11 = .ok (.invokevirtual 270, 3) := by decide +kernel
theorem dX8_table_14 : decode cX8_table 14 = .ok (.goto 4, 3) := by decide +kernel
theorem dX8_table_17 : decode cX8_table 17 = .ok (.iconst (-1), 1) := by decide +kernel
theorem dX8_table_18 : decode cX8_table 18 = .ok (.ireturn, 1) := by decide +kernel
theorem dX8_row_0 : decode cX8_row 0 = .ok (.aload_n 0, 1) := by decide +kernel
theorem dX8_row_1 : decode cX8_row 1 = .ok (.invokevirtual 85, 3) := by decide +kernel
theorem dX8_row_4 : decode cX8_row 4 = .ok (.ifCond .ne 28, 3) := by decide +kernel
theorem dX8_row_7 : decode cX8_row 7 = .ok (.iload_n 1, 1) := by decide +kernel
theorem dX8_row_8 : decode cX8_row 8 = .ok (.iconst 0, 1) := by decide +kernel
theorem dX8_row_9 : decode cX8_row 9 = .ok (.aload_n 0, 1) := by decide +kernel
theorem dX8_row_10 : decode cX8_row 10 = .ok (.getfield 13, 3) := by decide +kernel
theorem dX8_row_13 : decode cX8_row 13 = .ok (.iconst 1, 1) := by decide +kernel
theorem dX8_row_14 : decode cX8_row 14 = .ok (.iaload, 1) := by decide +kernel
theorem dX8_row_15 : decode cX8_row 15 = .ok (.iconst 1, 1) := by decide +kernel
theorem dX8_row_16 : decode cX8_row 16 = .ok (.isub, 1) := by decide +kernel
theorem dX8_row_17 : decode cX8_row 17 = .ok (.invokestatic 93, 3) := by decide +kernel
theorem dX8_row_20 : decode cX8_row 20 = .ok (.ifCond .eq 12, 3) := by decide +kernel
theorem dX8_row_23 : decode cX8_row 23 = .ok (.iload_n 2, 1) := by decide +kernel
theorem dX8_row_24 : decode cX8_row 24 = .ok (.iconst 0, 1) := by decide +kernel
theorem dX8_row_25 : decode cX8_row 25 = .ok (.iconst 2, 1) := by decide +kernel
theorem dX8_row_26 : decode cX8_row 26 = .ok (.invokestatic 93, 3) := by decide +kernel
theorem dX8_row_29 : decode cX8_row 29 = .ok (.ifCond .ne 5, 3) := by decide +kernel
theorem dX8_row_32 : decode cX8_row 32 = .ok (.iconst (-1), 1) := by decide +kernel
theorem dX8_row_33 : decode cX8_row 33 = .ok (.ireturn, 1) := by decide +kernel
theorem dX8_row_34 : decode cX8_row 34 = .ok (.aload_n 0, 1) := by decide +kernel
theorem dX8_row_35 : decode cX8_row 35 = .ok (.getfield 13, 3) := by decide +kernel
theorem dX8_row_38 : decode cX8_row 38 = .ok (.iload_n 2, 1) := by decide +kernel
theorem dX8_row_39 : decode cX8_row 39 = .ok (.ifCond .ne 9, 3) := by decide +kernel
theorem dX8_row_42 : decode cX8_row 42 = .ok (.sipush 144, 3) := by decide +kernel
theorem dX8_row_45 : decode cX8_row 45 = .ok (.goto 17, 3) := by decide +kernel
theorem dX8_row_48 : decode cX8_row 48 = .ok (.iload_n 2, 1) := by decide +kernel
theorem dX8_row_49 : decode cX8_row 49 = .ok (.iconst 1, 1) := by decide +kernel
theorem dX8_row_50 : decode cX8_row 50 = .ok (.if_icmp .ne 9, 3) := by decide +kernel
theorem dX8_row_53 : decode cX8_row 53 = .ok (.sipush 152, 3) := by decide +kernel
theorem dX8_row_56 : decode cX8_row 56 = .ok (.goto 6, 3) := by decide +kernel
theorem dX8_row_59 : decode cX8_row 59 = .ok (.sipush 160, 3) := by decide +kernel
theorem dX8_row_62 : decode cX8_row 62 = .ok (.iload_n 1, 1) := by decide +kernel
theorem dX8_row_63 : decode cX8_row 63 = .ok (.iadd, 1) := by decide +kernel
theorem dX8_row_64 : decode cX8_row 64 = .ok (.iaload, 1) := by decide +kernel
theorem dX8_row_65 : decode cX8_row 65 = .ok (.ireturn, 1) := by decide +kernel
theorem dX8_buffer_0 : decode cX8_buffer 0 = .ok (.aload_n 0, 1) := by decide +kernel
theorem dX8_buffer_1 : decode cX8_buffer 1 = .ok (.iload_n 1, 1) := by decide +kernel
theorem dX8_buffer_2 : decode cX8_buffer 2 = .ok (.invokevirtual 237, 3) := by decide +kernel
theorem dX8_buffer_5 : decode cX8_buffer 5 = .ok (.ifCond .eq 26, 3) := by decide +kernel
theorem dX8_buffer_8 : decode cX8_buffer 8 = .ok (.iload_n 2, 1) := by decide +kernel
theorem dX8_buffer_9 : decode cX8_buffer 9 = .ok (.iconst 0, 1) := by decide +kernel
theorem dX8_buffer_10 : decode cX8_buffer 10 = .ok (.bipush 7, 2) := by decide +kernel
theorem dX8_buffer_12 : decode cX8_buffer 12 = .ok (.invokestatic 93, 3) := by decide +kernel
theorem dX8_buffer_15 : decode cX8_buffer 15 = .ok (.ifCond .eq 16, 3) := by decide +kernel
theorem dX8_buffer_18 : decode cX8_buffer 18 = .ok (.aload_n 0, 1) := by decide +kernel
theorem dX8_buffer_19 : decode cX8_buffer 19 = .ok (.getfield 13, 3) := by decide +kernel
theorem dX8_buffer_22 : decode cX8_buffer 22 = .ok (.iload_n 1, 1) := by decide +kernel
theorem dX8_buffer_23 : decode cX8_buffer 23 = .ok (.iload_n 2, 1) := by decide +kernel
theorem dX8_buffer_24 : decode cX8_buffer 24 = .ok (.invokestatic 97, 3) := by decide +kernel
theorem dX8_buffer_27 : decode cX8_buffer 27 = .ok (.iaload, 1) := by decide +kernel
theorem dX8_buffer_28 : decode cX8_buffer 28 = .ok (.goto 4, 3) := by decide +kernel
theorem dX8_buffer_31 : decode cX8_buffer 31 = .ok (.iconst (-1), 1) := by decide +kernel
theorem dX8_buffer_32 : decode cX8_buffer 32 = .ok (.ireturn, 1) := by decide +kernel
theorem dX8_outMany_0 : decode cX8_outMany 0 = .ok (.iconst 0, 1) := by decide +kernel
theorem dX8_outMany_1 : decode cX8_outMany 1 = .ok (.istore_n 1, 1) := by decide +kernel
theorem dX8_outMany_2 : decode cX8_outMany 2 = .ok (.iconst 0, 1) := by decide +kernel
theorem dX8_outMany_3 : decode cX8_outMany 3 = .ok (.istore_n 2, 1) := by decide +kernel
theorem dX8_outMany_4 : decode cX8_outMany 4 = .ok (.iload_n 2, 1) := by decide +kernel
theorem dX8_outMany_5 : decode cX8_outMany 5 = .ok (.aload_n 0, 1) := by decide +kernel
theorem dX8_outMany_6 : decode cX8_outMany 6 = .ok (.getfield 13, 3) := by decide +kernel
theorem dX8_outMany_9 : decode cX8_outMany 9 = .ok (.bipush 16, 2) := by decide +kernel
theorem dX8_outMany_11 : decode cX8_outMany 11 = .ok (.iaload, 1) := by decide +kernel
theorem dX8_outMany_12 : decode cX8_outMany 12 = .ok (.if_icmp .ge 25, 3) := by decide +kernel
theorem dX8_outMany_15 : decode cX8_outMany 15 = .ok (.iload_n 1, 1) := by decide +kernel
theorem dX8_outMany_16 : decode cX8_outMany 16 = .ok (.aload_n 0, 1) := by decide +kernel
theorem dX8_outMany_17 : decode cX8_outMany 17 = .ok (.iload_n 2, 1) := by decide +kernel
theorem dX8_outMany_18 : decode cX8_outMany 18 = .ok (.invokevirtual 101, 3) := by decide +kernel
theorem dX8_outMany_21 : decode cX8_outMany 21 = .ok (.ifCond .eq 7, 3) := by decide +kernel
theorem dX8_outMany_24 : decode cX8_outMany 24 = .ok (.iconst 1, 1) := by decide +kernel
theorem dX8_outMany_25 : decode cX8_outMany 25 = .ok (.goto 4, 3) := by decide +kernel
theorem dX8_outMany_28 : decode cX8_outMany 28 = .ok (.iconst 0, 1) := by decide +kernel
theorem dX8_outMany_29 : decode cX8_outMany 29 = .ok (.iadd, 1) := by decide +kernel
theorem dX8_outMany_30 : decode cX8_outMany 30 = .ok (.istore_n 1, 1) := by decide +kernel
theorem dX8_outMany_31 : decode cX8_outMany 31 = .ok (.iinc 2 1, 3) := by decide +kernel
theorem dX8_outMany_34 : decode cX8_outMany 34 = .ok (.goto (-30), 3) := by decide +kernel
theorem dX8_outMany_37 : decode cX8_outMany 37 = .ok (.iload_n 1, 1) := by decide +kernel
theorem dX8_outMany_38 : decode cX8_outMany 38 = .ok (.ireturn, 1) := by decide +kernel
theorem dX8_now_0 : decode cX8_now 0 = .ok (.iload_n 1, 1) := by decide +kernel
theorem dX8_now_1 : decode cX8_now 1 = .ok (.tableswitch 162 0 12 #[67, 74, 81, 88, 96, 101, 109, 114, 122, 130, 138, 146, 154], 67) := by decide +kernel
theorem dX8_now_68 : decode cX8_now 68 = .ok (.aload_n 0, 1) := by decide +kernel
theorem dX8_now_69 : decode cX8_now 69 = .ok (.getfield 13, 3) := by decide +kernel
theorem dX8_now_72 : decode cX8_now 72 = .ok (.iconst 3, 1) := by decide +kernel
theorem dX8_now_73 : decode cX8_now 73 = .ok (.iaload, 1) := by decide +kernel
theorem dX8_now_74 : decode cX8_now 74 = .ok (.ireturn, 1) := by decide +kernel
theorem dX8_now_75 : decode cX8_now 75 = .ok (.aload_n 0, 1) := by decide +kernel
theorem dX8_now_76 : decode cX8_now 76 = .ok (.getfield 13, 3) := by decide +kernel
theorem dX8_now_79 : decode cX8_now 79 = .ok (.iconst 4, 1) := by decide +kernel
theorem dX8_now_80 : decode cX8_now 80 = .ok (.iaload, 1) := by decide +kernel
theorem dX8_now_81 : decode cX8_now 81 = .ok (.ireturn, 1) := by decide +kernel
theorem dX8_now_82 : decode cX8_now 82 = .ok (.aload_n 0, 1) := by decide +kernel
theorem dX8_now_83 : decode cX8_now 83 = .ok (.getfield 13, 3) := by decide +kernel
theorem dX8_now_86 : decode cX8_now 86 = .ok (.iconst 5, 1) := by decide +kernel
theorem dX8_now_87 : decode cX8_now 87 = .ok (.iaload, 1) := by decide +kernel
theorem dX8_now_88 : decode cX8_now 88 = .ok (.ireturn, 1) := by decide +kernel
theorem dX8_now_89 : decode cX8_now 89 = .ok (.aload_n 0, 1) := by decide +kernel
theorem dX8_now_90 : decode cX8_now 90 = .ok (.getfield 13, 3) := by decide +kernel
theorem dX8_now_93 : decode cX8_now 93 = .ok (.bipush 6, 2) := by decide +kernel
theorem dX8_now_95 : decode cX8_now 95 = .ok (.iaload, 1) := by decide +kernel
theorem dX8_now_96 : decode cX8_now 96 = .ok (.ireturn, 1) := by decide +kernel
theorem dX8_now_97 : decode cX8_now 97 = .ok (.aload_n 0, 1) := by decide +kernel
theorem dX8_now_98 : decode cX8_now 98 = .ok (.invokevirtual 162, 3) := by decide +kernel
theorem dX8_now_101 : decode cX8_now 101 = .ok (.ireturn, 1) := by decide +kernel
theorem dX8_now_102 : decode cX8_now 102 = .ok (.aload_n 0, 1) := by decide +kernel
theorem dX8_now_103 : decode cX8_now 103 = .ok (.getfield 13, 3) := by decide +kernel
theorem dX8_now_106 : decode cX8_now 106 = .ok (.bipush 16, 2) := by decide +kernel
theorem dX8_now_108 : decode cX8_now 108 = .ok (.iaload, 1) := by decide +kernel
theorem dX8_now_109 : decode cX8_now 109 = .ok (.ireturn, 1) := by decide +kernel
theorem dX8_now_110 : decode cX8_now 110 = .ok (.aload_n 0, 1) := by decide +kernel
theorem dX8_now_111 : decode cX8_now 111 = .ok (.invokevirtual 276, 3) := by decide +kernel
theorem dX8_now_114 : decode cX8_now 114 = .ok (.ireturn, 1) := by decide +kernel
theorem dX8_now_115 : decode cX8_now 115 = .ok (.aload_n 0, 1) := by decide +kernel
theorem dX8_now_116 : decode cX8_now 116 = .ok (.getfield 13, 3) := by decide +kernel
theorem dX8_now_119 : decode cX8_now 119 = .ok (.bipush 13, 2) := by decide +kernel
theorem dX8_now_121 : decode cX8_now 121 = .ok (.iaload, 1) := by decide +kernel
theorem dX8_now_122 : decode cX8_now 122 = .ok (.ireturn, 1) := by decide +kernel
theorem dX8_now_123 : decode cX8_now 123 = .ok (.aload_n 0, 1) := by decide +kernel
theorem dX8_now_124 : decode cX8_now 124 = .ok (.getfield 13, 3) := by decide +kernel
theorem dX8_now_127 : decode cX8_now 127 = .ok (.bipush 14, 2) := by decide +kernel
theorem dX8_now_129 : decode cX8_now 129 = .ok (.iaload, 1) := by decide +kernel
theorem dX8_now_130 : decode cX8_now 130 = .ok (.ireturn, 1) := by decide +kernel
theorem dX8_now_131 : decode cX8_now 131 = .ok (.aload_n 0, 1) := by decide +kernel
theorem dX8_now_132 : decode cX8_now 132 = .ok (.getfield 13, 3) := by decide +kernel
theorem dX8_now_135 : decode cX8_now 135 = .ok (.bipush 15, 2) := by decide +kernel
theorem dX8_now_137 : decode cX8_now 137 = .ok (.iaload, 1) := by decide +kernel
theorem dX8_now_138 : decode cX8_now 138 = .ok (.ireturn, 1) := by decide +kernel
theorem dX8_now_139 : decode cX8_now 139 = .ok (.aload_n 0, 1) := by decide +kernel
theorem dX8_now_140 : decode cX8_now 140 = .ok (.getfield 13, 3) := by decide +kernel
theorem dX8_now_143 : decode cX8_now 143 = .ok (.bipush 9, 2) := by decide +kernel
theorem dX8_now_145 : decode cX8_now 145 = .ok (.iaload, 1) := by decide +kernel
theorem dX8_now_146 : decode cX8_now 146 = .ok (.ireturn, 1) := by decide +kernel
theorem dX8_now_147 : decode cX8_now 147 = .ok (.aload_n 0, 1) := by decide +kernel
theorem dX8_now_148 : decode cX8_now 148 = .ok (.getfield 13, 3) := by decide +kernel
theorem dX8_now_151 : decode cX8_now 151 = .ok (.bipush 10, 2) := by decide +kernel
theorem dX8_now_153 : decode cX8_now 153 = .ok (.iaload, 1) := by decide +kernel
theorem dX8_now_154 : decode cX8_now 154 = .ok (.ireturn, 1) := by decide +kernel
theorem dX8_now_155 : decode cX8_now 155 = .ok (.aload_n 0, 1) := by decide +kernel
theorem dX8_now_156 : decode cX8_now 156 = .ok (.getfield 13, 3) := by decide +kernel
theorem dX8_now_159 : decode cX8_now 159 = .ok (.bipush 17, 2) := by decide +kernel
theorem dX8_now_161 : decode cX8_now 161 = .ok (.iaload, 1) := by decide +kernel
theorem dX8_now_162 : decode cX8_now 162 = .ok (.ireturn, 1) := by decide +kernel
theorem dX8_now_163 : decode cX8_now 163 = .ok (.iconst (-1), 1) := by decide +kernel
theorem dX8_now_164 : decode cX8_now 164 = .ok (.ireturn, 1) := by decide +kernel
theorem dX8_wordAt_0 : decode cX8_wordAt 0 = .ok (.iconst 0, 1) := by decide +kernel
theorem dX8_wordAt_1 : decode cX8_wordAt 1 = .ok (.istore_n 3, 1) := by decide +kernel
theorem dX8_wordAt_2 : decode cX8_wordAt 2 = .ok (.iconst 0, 1) := by decide +kernel
theorem dX8_wordAt_3 : decode cX8_wordAt 3 = .ok (.istore 4, 2) := by decide +kernel
theorem dX8_wordAt_5 : decode cX8_wordAt 5 = .ok (.iconst 1, 1) := by decide +kernel
theorem dX8_wordAt_6 : decode cX8_wordAt 6 = .ok (.istore 5, 2) := by decide +kernel
theorem dX8_wordAt_8 : decode cX8_wordAt 8 = .ok (.iconst 0, 1) := by decide +kernel
theorem dX8_wordAt_9 : decode cX8_wordAt 9 = .ok (.istore 6, 2) := by decide +kernel
theorem dX8_wordAt_11 : decode cX8_wordAt 11 = .ok (.iload 6, 2) := by decide +kernel
theorem dX8_wordAt_13 : decode cX8_wordAt 13 = .ok (.getstatic 279, 3) := by decide +kernel
theorem dX8_wordAt_16 : decode cX8_wordAt 16 = .ok (.arraylength, 1) := by decide +kernel
theorem dX8_wordAt_17 : decode cX8_wordAt 17 = .ok (.if_icmp .ge 84, 3) := by decide +kernel
theorem dX8_wordAt_20 : decode cX8_wordAt 20 = .ok (.getstatic 279, 3) := by decide +kernel
theorem dX8_wordAt_23 : decode cX8_wordAt 23 = .ok (.iload 6, 2) := by decide +kernel
theorem dX8_wordAt_25 : decode cX8_wordAt 25 = .ok (.baload, 1) := by decide +kernel
theorem dX8_wordAt_26 : decode cX8_wordAt 26 = .ok (.bipush 32, 2) := by decide +kernel
theorem dX8_wordAt_28 : decode cX8_wordAt 28 = .ok (.if_icmp .ne 28, 3) := by decide +kernel
theorem dX8_wordAt_31 : decode cX8_wordAt 31 = .ok (.iload 5, 2) := by decide +kernel
theorem dX8_wordAt_33 : decode cX8_wordAt 33 = .ok (.ifCond .eq 11, 3) := by decide +kernel
theorem dX8_wordAt_36 : decode cX8_wordAt 36 = .ok (.iload 4, 2) := by decide +kernel
theorem dX8_wordAt_38 : decode cX8_wordAt 38 = .ok (.iload_n 2, 1) := by decide +kernel
theorem dX8_wordAt_39 : decode cX8_wordAt 39 = .ok (.if_icmp .ne 5, 3) := by decide +kernel
theorem dX8_wordAt_42 : decode cX8_wordAt 42 = .ok (.iload_n 3, 1) := by decide +kernel
theorem dX8_wordAt_43 : decode cX8_wordAt 43 = .ok (.ireturn, 1) := by decide +kernel
theorem dX8_wordAt_44 : decode cX8_wordAt 44 = .ok (.iinc 3 1, 3) := by decide +kernel
theorem dX8_wordAt_47 : decode cX8_wordAt 47 = .ok (.iconst 0, 1) := by decide +kernel
theorem dX8_wordAt_48 : decode cX8_wordAt 48 = .ok (.istore 4, 2) := by decide +kernel
theorem dX8_wordAt_50 : decode cX8_wordAt 50 = .ok (.iconst 1, 1) := by decide +kernel
theorem dX8_wordAt_51 : decode cX8_wordAt 51 = .ok (.istore 5, 2) := by decide +kernel
theorem dX8_wordAt_53 : decode cX8_wordAt 53 = .ok (.goto 42, 3) := by decide +kernel
theorem dX8_wordAt_56 : decode cX8_wordAt 56 = .ok (.iload 5, 2) := by decide +kernel
theorem dX8_wordAt_58 : decode cX8_wordAt 58 = .ok (.ifCond .eq 31, 3) := by decide +kernel
theorem dX8_wordAt_61 : decode cX8_wordAt 61 = .ok (.iload 4, 2) := by decide +kernel
theorem dX8_wordAt_63 : decode cX8_wordAt 63 = .ok (.iload_n 2, 1) := by decide +kernel
theorem dX8_wordAt_64 : decode cX8_wordAt 64 = .ok (.if_icmp .ge 25, 3) := by decide +kernel
theorem dX8_wordAt_67 : decode cX8_wordAt 67 = .ok (.aload_n 0, 1) := by decide +kernel
theorem dX8_wordAt_68 : decode cX8_wordAt 68 = .ok (.getfield 7, 3) := by decide +kernel
theorem dX8_wordAt_71 : decode cX8_wordAt 71 = .ok (.iload_n 1, 1) := by decide +kernel
theorem dX8_wordAt_72 : decode cX8_wordAt 72 = .ok (.iload 4, 2) := by decide +kernel
theorem dX8_wordAt_74 : decode cX8_wordAt 74 = .ok (.iadd, 1) := by decide +kernel
theorem dX8_wordAt_75 : decode cX8_wordAt 75 = .ok (.baload, 1) := by decide +kernel
theorem dX8_wordAt_76 : decode cX8_wordAt 76 = .ok (.getstatic 279, 3) := by decide +kernel
theorem dX8_wordAt_79 : decode cX8_wordAt 79 = .ok (.iload 6, 2) := by decide +kernel
theorem dX8_wordAt_81 : decode cX8_wordAt 81 = .ok (.baload, 1) := by decide +kernel
theorem dX8_wordAt_82 : decode cX8_wordAt 82 = .ok (.if_icmp .ne 7, 3) := by decide +kernel
theorem dX8_wordAt_85 : decode cX8_wordAt 85 = .ok (.iconst 1, 1) := by decide +kernel
theorem dX8_wordAt_86 : decode cX8_wordAt 86 = .ok (.goto 4, 3) := by decide +kernel
theorem dX8_wordAt_89 : decode cX8_wordAt 89 = .ok (.iconst 0, 1) := by decide +kernel
theorem dX8_wordAt_90 : decode cX8_wordAt 90 = .ok (.istore 5, 2) := by decide +kernel
theorem dX8_wordAt_92 : decode cX8_wordAt 92 = .ok (.iinc 4 1, 3) := by decide +kernel
theorem dX8_wordAt_95 : decode cX8_wordAt 95 = .ok (.iinc 6 1, 3) := by decide +kernel
theorem dX8_wordAt_98 : decode cX8_wordAt 98 = .ok (.goto (-87), 3) := by decide +kernel
theorem dX8_wordAt_101 : decode cX8_wordAt 101 = .ok (.iconst (-1), 1) := by decide +kernel
theorem dX8_wordAt_102 : decode cX8_wordAt 102 = .ok (.ireturn, 1) := by decide +kernel
theorem dX8_readsSteps_0 : decode cX8_readsSteps 0 = .ok (.aload_n 0, 1) := by decide +kernel
theorem dX8_readsSteps_1 : decode cX8_readsSteps 1 = .ok (.iconst 0, 1) := by decide +kernel
theorem dX8_readsSteps_2 : decode cX8_readsSteps 2 = .ok (.putfield 282, 3) := by decide +kernel
theorem dX8_readsSteps_5 : decode cX8_readsSteps 5 = .ok (.aload_n 0, 1) := by decide +kernel
theorem dX8_readsSteps_6 : decode cX8_readsSteps 6 = .ok (.iconst 0, 1) := by decide +kernel
theorem dX8_readsSteps_7 : decode cX8_readsSteps 7 = .ok (.putfield 105, 3) := by decide +kernel
theorem dX8_readsSteps_10 : decode cX8_readsSteps 10 = .ok (.aload_n 0, 1) := by decide +kernel
theorem dX8_readsSteps_11 : decode cX8_readsSteps 11 = .ok (.invokevirtual 117, 3) := by decide +kernel
theorem dX8_readsSteps_14 : decode cX8_readsSteps 14 = .ok (.aload_n 0, 1) := by decide +kernel
theorem dX8_readsSteps_15 : decode cX8_readsSteps 15 = .ok (.getfield 105, 3) := by decide +kernel
theorem dX8_readsSteps_18 : decode cX8_readsSteps 18 = .ok (.aload_n 0, 1) := by decide +kernel
theorem dX8_readsSteps_19 : decode cX8_readsSteps 19 = .ok (.getfield 75, 3) := by decide +kernel
theorem dX8_readsSteps_22 : decode cX8_readsSteps 22 = .ok (.if_icmp .ge 168, 3) := by decide +kernel
theorem dX8_readsSteps_25 : decode cX8_readsSteps 25 = .ok (.aload_n 0, 1) := by decide +kernel
theorem dX8_readsSteps_26 : decode cX8_readsSteps 26 = .ok (.getfield 105, 3) := by decide +kernel
theorem dX8_readsSteps_29 : decode cX8_readsSteps 29 = .ok (.istore_n 2, 1) := by decide +kernel
theorem dX8_readsSteps_30 : decode cX8_readsSteps 30 = .ok (.aload_n 0, 1) := by decide +kernel
theorem dX8_readsSteps_31 : decode cX8_readsSteps 31 = .ok (.getfield 105, 3) := by decide +kernel
theorem dX8_readsSteps_34 : decode cX8_readsSteps 34 = .ok (.aload_n 0, 1) := by decide +kernel
theorem dX8_readsSteps_35 : decode cX8_readsSteps 35 = .ok (.getfield 75, 3) := by decide +kernel
theorem dX8_readsSteps_38 : decode cX8_readsSteps 38 = .ok (.if_icmp .ge 31, 3) := by decide +kernel
theorem dX8_readsSteps_41 : decode cX8_readsSteps 41 = .ok (.aload_n 0, 1) := by decide +kernel
theorem dX8_readsSteps_42 : decode cX8_readsSteps 42 = .ok (.getfield 7, 3) := by decide +kernel
theorem dX8_readsSteps_45 : decode cX8_readsSteps 45 = .ok (.aload_n 0, 1) := by decide +kernel
theorem dX8_readsSteps_46 : decode cX8_readsSteps 46 = .ok (.getfield 105, 3) := by decide +kernel
theorem dX8_readsSteps_49 : decode cX8_readsSteps 49 = .ok (.baload, 1) := by decide +kernel
theorem dX8_readsSteps_50 : decode cX8_readsSteps 50 = .ok (.invokestatic 285, 3) := by decide +kernel
theorem dX8_readsSteps_53 : decode cX8_readsSteps 53 = .ok (.ifCond .eq 16, 3) := by decide +kernel
theorem dX8_readsSteps_56 : decode cX8_readsSteps 56 = .ok (.aload_n 0, 1) := by decide +kernel
theorem dX8_readsSteps_57 : decode cX8_readsSteps 57 = .ok (.dup, 1) := by decide +kernel
theorem dX8_readsSteps_58 : decode cX8_readsSteps 58 = .ok (.getfield 105, 3) := by decide +kernel
theorem dX8_readsSteps_61 : decode cX8_readsSteps 61 = .ok (.iconst 1, 1) := by decide +kernel
theorem dX8_readsSteps_62 : decode cX8_readsSteps 62 = .ok (.iadd, 1) := by decide +kernel
theorem dX8_readsSteps_63 : decode cX8_readsSteps 63 = .ok (.putfield 105, 3) := by decide +kernel
theorem dX8_readsSteps_66 : decode cX8_readsSteps 66 = .ok (.goto (-36), 3) := by decide +kernel
theorem dX8_readsSteps_69 : decode cX8_readsSteps 69 = .ok (.aload_n 0, 1) := by decide +kernel
theorem dX8_readsSteps_70 : decode cX8_readsSteps 70 = .ok (.iload_n 2, 1) := by decide +kernel
theorem dX8_readsSteps_71 : decode cX8_readsSteps 71 = .ok (.aload_n 0, 1) := by decide +kernel
theorem dX8_readsSteps_72 : decode cX8_readsSteps 72 = .ok (.getfield 105, 3) := by decide +kernel
theorem dX8_readsSteps_75 : decode cX8_readsSteps 75 = .ok (.iload_n 2, 1) := by decide +kernel
theorem dX8_readsSteps_76 : decode cX8_readsSteps 76 = .ok (.isub, 1) := by decide +kernel
theorem dX8_readsSteps_77 : decode cX8_readsSteps 77 = .ok (.invokevirtual 288, 3) := by decide +kernel
theorem dX8_readsSteps_80 : decode cX8_readsSteps 80 = .ok (.istore_n 3, 1) := by decide +kernel
theorem dX8_readsSteps_81 : decode cX8_readsSteps 81 = .ok (.iload_n 3, 1) := by decide +kernel
theorem dX8_readsSteps_82 : decode cX8_readsSteps 82 = .ok (.ifCond .lt 27, 3) := by decide +kernel
theorem dX8_readsSteps_85 : decode cX8_readsSteps 85 = .ok (.iload_n 3, 1) := by decide +kernel
theorem dX8_readsSteps_86 : decode cX8_readsSteps 86 = .ok (.iconst 4, 1) := by decide +kernel
theorem dX8_readsSteps_87 : decode cX8_readsSteps 87 = .ok (.idiv, 1) := by decide +kernel
theorem dX8_readsSteps_88 : decode cX8_readsSteps 88 = .ok (.iload_n 1, 1) := by decide +kernel
theorem dX8_readsSteps_89 : decode cX8_readsSteps 89 = .ok (.if_icmp .ne 20, 3) := by decide +kernel
theorem dX8_readsSteps_92 : decode cX8_readsSteps 92 = .ok (.aload_n 0, 1) := by decide +kernel
theorem dX8_readsSteps_93 : decode cX8_readsSteps 93 = .ok (.getfield 282, 3) := by decide +kernel
theorem dX8_readsSteps_96 : decode cX8_readsSteps 96 = .ok (.iload_n 1, 1) := by decide +kernel
theorem dX8_readsSteps_97 : decode cX8_readsSteps 97 = .ok (.ifCond .ne 8, 3) := by decide +kernel
theorem dX8_readsSteps_100 : decode cX8_readsSteps 100 = .ok (.bipush 8, 2) := by decide +kernel
theorem dX8_readsSteps_102 : decode cX8_readsSteps 102 = .ok (.goto 4, 3) := by decide +kernel
theorem dX8_readsSteps_105 : decode cX8_readsSteps 105 = .ok (.iconst 5, 1) := by decide +kernel
theorem dX8_readsSteps_106 : decode cX8_readsSteps 106 = .ok (.if_icmp .ne 9, 3) := by decide +kernel
theorem dX8_readsSteps_109 : decode cX8_readsSteps 109 = .ok (.aload_n 0, 1) := by decide +kernel
theorem dX8_readsSteps_110 : decode cX8_readsSteps 110 = .ok (.iload_n 2, 1) := by decide +kernel
theorem dX8_readsSteps_111 : decode cX8_readsSteps 111 = .ok (.invokevirtual 120, 3) := by decide +kernel
theorem dX8_readsSteps_114 : decode cX8_readsSteps 114 = .ok (.ireturn, 1) := by decide +kernel
theorem dX8_readsSteps_115 : decode cX8_readsSteps 115 = .ok (.aload_n 0, 1) := by decide +kernel
theorem dX8_readsSteps_116 : decode cX8_readsSteps 116 = .ok (.getfield 43, 3) := by decide +kernel
theorem dX8_readsSteps_119 : decode cX8_readsSteps 119 = .ok (.aload_n 0, 1) := by decide +kernel
theorem dX8_readsSteps_120 : decode cX8_readsSteps 120 = .ok (.getfield 282, 3) := by decide +kernel
theorem dX8_readsSteps_123 : decode cX8_readsSteps 123 = .ok (.iload_n 3, 1) := by decide +kernel
theorem dX8_readsSteps_124 : decode cX8_readsSteps 124 = .ok (.iastore, 1) := by decide +kernel
theorem dX8_readsSteps_125 : decode cX8_readsSteps 125 = .ok (.aload_n 0, 1) := by decide +kernel
theorem dX8_readsSteps_126 : decode cX8_readsSteps 126 = .ok (.dup, 1) := by decide +kernel
theorem dX8_readsSteps_127 : decode cX8_readsSteps 127 = .ok (.getfield 282, 3) := by decide +kernel
theorem dX8_readsSteps_130 : decode cX8_readsSteps 130 = .ok (.iconst 1, 1) := by decide +kernel
theorem dX8_readsSteps_131 : decode cX8_readsSteps 131 = .ok (.iadd, 1) := by decide +kernel
theorem dX8_readsSteps_132 : decode cX8_readsSteps 132 = .ok (.putfield 282, 3) := by decide +kernel
theorem dX8_readsSteps_135 : decode cX8_readsSteps 135 = .ok (.aload_n 0, 1) := by decide +kernel
theorem dX8_readsSteps_136 : decode cX8_readsSteps 136 = .ok (.invokevirtual 117, 3) := by decide +kernel
theorem dX8_readsSteps_139 : decode cX8_readsSteps 139 = .ok (.aload_n 0, 1) := by decide +kernel
theorem dX8_readsSteps_140 : decode cX8_readsSteps 140 = .ok (.getfield 105, 3) := by decide +kernel
theorem dX8_readsSteps_143 : decode cX8_readsSteps 143 = .ok (.aload_n 0, 1) := by decide +kernel
theorem dX8_readsSteps_144 : decode cX8_readsSteps 144 = .ok (.getfield 75, 3) := by decide +kernel
theorem dX8_readsSteps_147 : decode cX8_readsSteps 147 = .ok (.if_icmp .eq 17, 3) := by decide +kernel
theorem dX8_readsSteps_150 : decode cX8_readsSteps 150 = .ok (.aload_n 0, 1) := by decide +kernel
theorem dX8_readsSteps_151 : decode cX8_readsSteps 151 = .ok (.getfield 7, 3) := by decide +kernel
theorem dX8_readsSteps_154 : decode cX8_readsSteps 154 = .ok (.aload_n 0, 1) := by decide +kernel
theorem dX8_readsSteps_155 : decode cX8_readsSteps 155 = .ok (.getfield 105, 3) := by decide +kernel
theorem dX8_readsSteps_158 : decode cX8_readsSteps 158 = .ok (.baload, 1) := by decide +kernel
theorem dX8_readsSteps_159 : decode cX8_readsSteps 159 = .ok (.bipush 59, 2) := by decide +kernel
theorem dX8_readsSteps_161 : decode cX8_readsSteps 161 = .ok (.if_icmp .eq 12, 3) := by decide +kernel
theorem dX8_readsSteps_164 : decode cX8_readsSteps 164 = .ok (.aload_n 0, 1) := by decide +kernel
theorem dX8_readsSteps_165 : decode cX8_readsSteps 165 = .ok (.aload_n 0, 1) := by decide +kernel
theorem dX8_readsSteps_166 : decode cX8_readsSteps 166 = .ok (.getfield 105, 3) := by decide +kernel
theorem dX8_readsSteps_169 : decode cX8_readsSteps 169 = .ok (.invokevirtual 120, 3) := by decide +kernel
theorem dX8_readsSteps_172 : decode cX8_readsSteps 172 = .ok (.ireturn, 1) := by decide +kernel
theorem dX8_readsSteps_173 : decode cX8_readsSteps 173 = .ok (.aload_n 0, 1) := by decide +kernel
theorem dX8_readsSteps_174 : decode cX8_readsSteps 174 = .ok (.dup, 1) := by decide +kernel
theorem dX8_readsSteps_175 : decode cX8_readsSteps 175 = .ok (.getfield 105, 3) := by decide +kernel
theorem dX8_readsSteps_178 : decode cX8_readsSteps 178 = .ok (.iconst 1, 1) := by decide +kernel
theorem dX8_readsSteps_179 : decode cX8_readsSteps 179 = .ok (.iadd, 1) := by decide +kernel
theorem dX8_readsSteps_180 : decode cX8_readsSteps 180 = .ok (.putfield 105, 3) := by decide +kernel
theorem dX8_readsSteps_183 : decode cX8_readsSteps 183 = .ok (.aload_n 0, 1) := by decide +kernel
theorem dX8_readsSteps_184 : decode cX8_readsSteps 184 = .ok (.invokevirtual 117, 3) := by decide +kernel
theorem dX8_readsSteps_187 : decode cX8_readsSteps 187 = .ok (.goto (-173), 3) := by decide +kernel
theorem dX8_readsSteps_190 : decode cX8_readsSteps 190 = .ok (.iconst 1, 1) := by decide +kernel
theorem dX8_readsSteps_191 : decode cX8_readsSteps 191 = .ok (.ireturn, 1) := by decide +kernel
theorem dX8_steps_0 : decode cX8_steps 0 = .ok (.aload_n 0, 1) := by decide +kernel
theorem dX8_steps_1 : decode cX8_steps 1 = .ok (.invokevirtual 172, 3) := by decide +kernel
theorem dX8_steps_4 : decode cX8_steps 4 = .ok (.iload_n 1, 1) := by decide +kernel
theorem dX8_steps_5 : decode cX8_steps 5 = .ok (.iconst 0, 1) := by decide +kernel
theorem dX8_steps_6 : decode cX8_steps 6 = .ok (.iconst 1, 1) := by decide +kernel
theorem dX8_steps_7 : decode cX8_steps 7 = .ok (.invokestatic 93, 3) := by decide +kernel
theorem dX8_steps_10 : decode cX8_steps 10 = .ok (.ifCond .ne 6, 3) := by decide +kernel
theorem dX8_steps_13 : decode cX8_steps 13 = .ok (.bipush (-2), 2) := by decide +kernel
theorem dX8_steps_15 : decode cX8_steps 15 = .ok (.ireturn, 1) := by decide +kernel
theorem dX8_steps_16 : decode cX8_steps 16 = .ok (.aload_n 0, 1) := by decide +kernel
theorem dX8_steps_17 : decode cX8_steps 17 = .ok (.getfield 75, 3) := by decide +kernel
theorem dX8_steps_20 : decode cX8_steps 20 = .ok (.bipush 80, 2) := by decide +kernel
theorem dX8_steps_22 : decode cX8_steps 22 = .ok (.if_icmp .le 7, 3) := by decide +kernel
theorem dX8_steps_25 : decode cX8_steps 25 = .ok (.sipush (-1080), 3) := by decide +kernel
theorem dX8_steps_28 : decode cX8_steps 28 = .ok (.ireturn, 1) := by decide +kernel
theorem dX8_steps_29 : decode cX8_steps 29 = .ok (.aload_n 0, 1) := by decide +kernel
theorem dX8_steps_30 : decode cX8_steps 30 = .ok (.iload_n 1, 1) := by decide +kernel
theorem dX8_steps_31 : decode cX8_steps 31 = .ok (.invokevirtual 291, 3) := by decide +kernel
theorem dX8_steps_34 : decode cX8_steps 34 = .ok (.ifCond .ne 12, 3) := by decide +kernel
theorem dX8_steps_37 : decode cX8_steps 37 = .ok (.sipush (-1000), 3) := by decide +kernel
theorem dX8_steps_40 : decode cX8_steps 40 = .ok (.aload_n 0, 1) := by decide +kernel
theorem dX8_steps_41 : decode cX8_steps 41 = .ok (.getfield 108, 3) := by decide +kernel
theorem dX8_steps_44 : decode cX8_steps 44 = .ok (.isub, 1) := by decide +kernel
theorem dX8_steps_45 : decode cX8_steps 45 = .ok (.ireturn, 1) := by decide +kernel
theorem dX8_steps_46 : decode cX8_steps 46 = .ok (.aload_n 0, 1) := by decide +kernel
theorem dX8_steps_47 : decode cX8_steps 47 = .ok (.getfield 46, 3) := by decide +kernel
theorem dX8_steps_50 : decode cX8_steps 50 = .ok (.iload_n 1, 1) := by decide +kernel
theorem dX8_steps_51 : decode cX8_steps 51 = .ok (.aload_n 0, 1) := by decide +kernel
theorem dX8_steps_52 : decode cX8_steps 52 = .ok (.getfield 282, 3) := by decide +kernel
theorem dX8_steps_55 : decode cX8_steps 55 = .ok (.iastore, 1) := by decide +kernel
theorem dX8_steps_56 : decode cX8_steps 56 = .ok (.iconst 0, 1) := by decide +kernel
theorem dX8_steps_57 : decode cX8_steps 57 = .ok (.istore_n 2, 1) := by decide +kernel
theorem dX8_steps_58 : decode cX8_steps 58 = .ok (.iload_n 2, 1) := by decide +kernel
theorem dX8_steps_59 : decode cX8_steps 59 = .ok (.aload_n 0, 1) := by decide +kernel
theorem dX8_steps_60 : decode cX8_steps 60 = .ok (.getfield 282, 3) := by decide +kernel
theorem dX8_steps_63 : decode cX8_steps 63 = .ok (.if_icmp .ge 26, 3) := by decide +kernel
theorem dX8_steps_66 : decode cX8_steps 66 = .ok (.aload_n 0, 1) := by decide +kernel
theorem dX8_steps_67 : decode cX8_steps 67 = .ok (.getfield 40, 3) := by decide +kernel
theorem dX8_steps_70 : decode cX8_steps 70 = .ok (.bipush 8, 2) := by decide +kernel
theorem dX8_steps_72 : decode cX8_steps 72 = .ok (.iload_n 1, 1) := by decide +kernel
theorem dX8_steps_73 : decode cX8_steps 73 = .ok (.imul, 1) := by decide +kernel
theorem dX8_steps_74 : decode cX8_steps 74 = .ok (.iload_n 2, 1) := by decide +kernel
theorem dX8_steps_75 : decode cX8_steps 75 = .ok (.iadd, 1) := by decide +kernel
theorem dX8_steps_76 : decode cX8_steps 76 = .ok (.aload_n 0, 1) := by decide +kernel
theorem dX8_steps_77 : decode cX8_steps 77 = .ok (.getfield 43, 3) := by decide +kernel
theorem dX8_steps_80 : decode cX8_steps 80 = .ok (.iload_n 2, 1) := by decide +kernel
theorem dX8_steps_81 : decode cX8_steps 81 = .ok (.iaload, 1) := by decide +kernel
theorem dX8_steps_82 : decode cX8_steps 82 = .ok (.iastore, 1) := by decide +kernel
theorem dX8_steps_83 : decode cX8_steps 83 = .ok (.iinc 2 1, 3) := by decide +kernel
theorem dX8_steps_86 : decode cX8_steps 86 = .ok (.goto (-28), 3) := by decide +kernel
theorem dX8_steps_89 : decode cX8_steps 89 = .ok (.aload_n 0, 1) := by decide +kernel
theorem dX8_steps_90 : decode cX8_steps 90 = .ok (.iconst 0, 1) := by decide +kernel
theorem dX8_steps_91 : decode cX8_steps 91 = .ok (.putfield 294, 3) := by decide +kernel
theorem dX8_steps_94 : decode cX8_steps 94 = .ok (.aload_n 0, 1) := by decide +kernel
theorem dX8_steps_95 : decode cX8_steps 95 = .ok (.iconst 0, 1) := by decide +kernel
theorem dX8_steps_96 : decode cX8_steps 96 = .ok (.putfield 297, 3) := by decide +kernel
theorem dX8_steps_99 : decode cX8_steps 99 = .ok (.aload_n 0, 1) := by decide +kernel
theorem dX8_steps_100 : decode cX8_steps 100 = .ok (.getfield 282, 3) := by decide +kernel
theorem dX8_steps_103 : decode cX8_steps 103 = .ok (.ireturn, 1) := by decide +kernel
theorem dX8_get_0 : decode cX8_get 0 = .ok (.iload_n 0, 1) := by decide +kernel
theorem dX8_get_1 : decode cX8_get 1 = .ok (.iload_n 1, 1) := by decide +kernel
theorem dX8_get_2 : decode cX8_get 2 = .ok (.ishr, 1) := by decide +kernel
theorem dX8_get_3 : decode cX8_get 3 = .ok (.bipush 15, 2) := by decide +kernel
theorem dX8_get_5 : decode cX8_get 5 = .ok (.iand, 1) := by decide +kernel
theorem dX8_get_6 : decode cX8_get 6 = .ok (.ireturn, 1) := by decide +kernel
theorem dX8_with_0 : decode cX8_with 0 = .ok (.iload_n 0, 1) := by decide +kernel
theorem dX8_with_1 : decode cX8_with 1 = .ok (.bipush 15, 2) := by decide +kernel
theorem dX8_with_3 : decode cX8_with 3 = .ok (.iload_n 1, 1) := by decide +kernel
theorem dX8_with_4 : decode cX8_with 4 = .ok (.ishl, 1) := by decide +kernel
theorem dX8_with_5 : decode cX8_with 5 = .ok (.iconst (-1), 1) := by decide +kernel
theorem dX8_with_6 : decode cX8_with 6 = .ok (.ixor, 1) := by decide +kernel
theorem dX8_with_7 : decode cX8_with 7 = .ok (.iand, 1) := by decide +kernel
theorem dX8_with_8 : decode cX8_with 8 = .ok (.iload_n 2, 1) := by decide +kernel
theorem dX8_with_9 : decode cX8_with 9 = .ok (.iload_n 1, 1) := by decide +kernel
theorem dX8_with_10 : decode cX8_with 10 = .ok (.ishl, 1) := by decide +kernel
theorem dX8_with_11 : decode cX8_with 11 = .ok (.ior, 1) := by decide +kernel
theorem dX8_with_12 : decode cX8_with 12 = .ok (.ireturn, 1) := by decide +kernel
theorem dX8_there_0 : decode cX8_there 0 = .ok (.iconst 0, 1) := by decide +kernel
theorem dX8_there_1 : decode cX8_there 1 = .ok (.istore_n 2, 1) := by decide +kernel
theorem dX8_there_2 : decode cX8_there 2 = .ok (.iconst 0, 1) := by decide +kernel
theorem dX8_there_3 : decode cX8_there 3 = .ok (.istore_n 3, 1) := by decide +kernel
theorem dX8_there_4 : decode cX8_there 4 = .ok (.iload_n 3, 1) := by decide +kernel
theorem dX8_there_5 : decode cX8_there 5 = .ok (.iload_n 1, 1) := by decide +kernel
theorem dX8_there_6 : decode cX8_there 6 = .ok (.iconst 0, 1) := by decide +kernel
theorem dX8_there_7 : decode cX8_there 7 = .ok (.invokestatic 300, 3) := by decide +kernel
theorem dX8_there_10 : decode cX8_there 10 = .ok (.if_icmp .ge 26, 3) := by decide +kernel
theorem dX8_there_13 : decode cX8_there 13 = .ok (.iload_n 2, 1) := by decide +kernel
theorem dX8_there_14 : decode cX8_there 14 = .ok (.aload_n 0, 1) := by decide +kernel
theorem dX8_there_15 : decode cX8_there 15 = .ok (.getfield 40, 3) := by decide +kernel
theorem dX8_there_18 : decode cX8_there 18 = .ok (.iload_n 3, 1) := by decide +kernel
theorem dX8_there_19 : decode cX8_there 19 = .ok (.iaload, 1) := by decide +kernel
theorem dX8_there_20 : decode cX8_there 20 = .ok (.ifCond .ne 7, 3) := by decide +kernel
theorem dX8_there_23 : decode cX8_there 23 = .ok (.iconst 1, 1) := by decide +kernel
theorem dX8_there_24 : decode cX8_there 24 = .ok (.goto 4, 3) := by decide +kernel
theorem dX8_there_27 : decode cX8_there 27 = .ok (.iconst 0, 1) := by decide +kernel
theorem dX8_there_28 : decode cX8_there 28 = .ok (.iadd, 1) := by decide +kernel
theorem dX8_there_29 : decode cX8_there 29 = .ok (.istore_n 2, 1) := by decide +kernel
theorem dX8_there_30 : decode cX8_there 30 = .ok (.iinc 3 1, 3) := by decide +kernel
theorem dX8_there_33 : decode cX8_there 33 = .ok (.goto (-29), 3) := by decide +kernel
theorem dX8_there_36 : decode cX8_there 36 = .ok (.iload_n 2, 1) := by decide +kernel
theorem dX8_there_37 : decode cX8_there 37 = .ok (.ireturn, 1) := by decide +kernel
theorem dX8_sends_0 : decode cX8_sends 0 = .ok (.iload_n 0, 1) := by decide +kernel
theorem dX8_sends_1 : decode cX8_sends 1 = .ok (.bipush 24, 2) := by decide +kernel
theorem dX8_sends_3 : decode cX8_sends 3 = .ok (.iload_n 0, 1) := by decide +kernel
theorem dX8_sends_4 : decode cX8_sends 4 = .ok (.bipush 24, 2) := by decide +kernel
theorem dX8_sends_6 : decode cX8_sends 6 = .ok (.invokestatic 300, 3) := by decide +kernel
theorem dX8_sends_9 : decode cX8_sends 9 = .ok (.iconst 1, 1) := by decide +kernel
theorem dX8_sends_10 : decode cX8_sends 10 = .ok (.iadd, 1) := by decide +kernel
theorem dX8_sends_11 : decode cX8_sends 11 = .ok (.invokestatic 303, 3) := by decide +kernel
theorem dX8_sends_14 : decode cX8_sends 14 = .ok (.bipush 28, 2) := by decide +kernel
theorem dX8_sends_16 : decode cX8_sends 16 = .ok (.iconst 1, 1) := by decide +kernel
theorem dX8_sends_17 : decode cX8_sends 17 = .ok (.invokestatic 303, 3) := by decide +kernel
theorem dX8_sends_20 : decode cX8_sends 20 = .ok (.ireturn, 1) := by decide +kernel
theorem dX8_byDriver_0 : decode cX8_byDriver 0 = .ok (.iload_n 1, 1) := by decide +kernel
theorem dX8_byDriver_1 : decode cX8_byDriver 1 = .ok (.iconst 0, 1) := by decide +kernel
theorem dX8_byDriver_2 : decode cX8_byDriver 2 = .ok (.invokestatic 300, 3) := by decide +kernel
theorem dX8_byDriver_5 : decode cX8_byDriver 5 = .ok (.istore_n 2, 1) := by decide +kernel
theorem dX8_byDriver_6 : decode cX8_byDriver 6 = .ok (.iload_n 2, 1) := by decide +kernel
theorem dX8_byDriver_7 : decode cX8_byDriver 7 = .ok (.aload_n 0, 1) := by decide +kernel
theorem dX8_byDriver_8 : decode cX8_byDriver 8 = .ok (.getfield 46, 3) := by decide +kernel
theorem dX8_byDriver_11 : decode cX8_byDriver 11 = .ok (.iconst 0, 1) := by decide +kernel
theorem dX8_byDriver_12 : decode cX8_byDriver 12 = .ok (.iaload, 1) := by decide +kernel
theorem dX8_byDriver_13 : decode cX8_byDriver 13 = .ok (.if_icmp .ne 5, 3) := by decide +kernel
theorem dX8_byDriver_16 : decode cX8_byDriver 16 = .ok (.iconst (-1), 1) := by decide +kernel
theorem dX8_byDriver_17 : decode cX8_byDriver 17 = .ok (.ireturn, 1) := by decide +kernel
theorem dX8_byDriver_18 : decode cX8_byDriver 18 = .ok (.aload_n 0, 1) := by decide +kernel
theorem dX8_byDriver_19 : decode cX8_byDriver 19 = .ok (.iload_n 1, 1) := by decide +kernel
theorem dX8_byDriver_20 : decode cX8_byDriver 20 = .ok (.invokevirtual 306, 3) := by decide +kernel
theorem dX8_byDriver_23 : decode cX8_byDriver 23 = .ok (.istore_n 3, 1) := by decide +kernel
theorem dX8_byDriver_24 : decode cX8_byDriver 24 = .ok (.iload_n 1, 1) := by decide +kernel
theorem dX8_byDriver_25 : decode cX8_byDriver 25 = .ok (.iconst 0, 1) := by decide +kernel
theorem dX8_byDriver_26 : decode cX8_byDriver 26 = .ok (.iload_n 2, 1) := by decide +kernel
theorem dX8_byDriver_27 : decode cX8_byDriver 27 = .ok (.iconst 1, 1) := by decide +kernel
theorem dX8_byDriver_28 : decode cX8_byDriver 28 = .ok (.iadd, 1) := by decide +kernel
theorem dX8_byDriver_29 : decode cX8_byDriver 29 = .ok (.invokestatic 303, 3) := by decide +kernel
theorem dX8_byDriver_32 : decode cX8_byDriver 32 = .ok (.istore 4, 2) := by decide +kernel
theorem dX8_byDriver_34 : decode cX8_byDriver 34 = .ok (.aload_n 0, 1) := by decide +kernel
theorem dX8_byDriver_35 : decode cX8_byDriver 35 = .ok (.getfield 40, 3) := by decide +kernel
theorem dX8_byDriver_38 : decode cX8_byDriver 38 = .ok (.iload_n 2, 1) := by decide +kernel
theorem dX8_byDriver_39 : decode cX8_byDriver 39 = .ok (.iaload, 1) := by decide +kernel
theorem dX8_byDriver_40 : decode cX8_byDriver 40 = .ok (.tableswitch 88 0 2 #[28, 31, 45], 28) := by decide +kernel
theorem dX8_byDriver_68 : decode cX8_byDriver 68 = .ok (.iload 4, 2) := by decide +kernel
theorem dX8_byDriver_70 : decode cX8_byDriver 70 = .ok (.ireturn, 1) := by decide +kernel
theorem dX8_byDriver_71 : decode cX8_byDriver 71 = .ok (.iload 4, 2) := by decide +kernel
theorem dX8_byDriver_73 : decode cX8_byDriver 73 = .ok (.bipush 16, 2) := by decide +kernel
theorem dX8_byDriver_75 : decode cX8_byDriver 75 = .ok (.iload_n 1, 1) := by decide +kernel
theorem dX8_byDriver_76 : decode cX8_byDriver 76 = .ok (.bipush 12, 2) := by decide +kernel
theorem dX8_byDriver_78 : decode cX8_byDriver 78 = .ok (.invokestatic 300, 3) := by decide +kernel
theorem dX8_byDriver_81 : decode cX8_byDriver 81 = .ok (.invokestatic 303, 3) := by decide +kernel
theorem dX8_byDriver_84 : decode cX8_byDriver 84 = .ok (.ireturn, 1) := by decide +kernel
theorem dX8_byDriver_85 : decode cX8_byDriver 85 = .ok (.iload 4, 2) := by decide +kernel
theorem dX8_byDriver_87 : decode cX8_byDriver 87 = .ok (.bipush 20, 2) := by decide +kernel
theorem dX8_byDriver_89 : decode cX8_byDriver 89 = .ok (.iload_n 3, 1) := by decide +kernel
theorem dX8_byDriver_90 : decode cX8_byDriver 90 = .ok (.invokestatic 303, 3) := by decide +kernel
theorem dX8_byDriver_93 : decode cX8_byDriver 93 = .ok (.istore 5, 2) := by decide +kernel
theorem dX8_byDriver_95 : decode cX8_byDriver 95 = .ok (.iload_n 1, 1) := by decide +kernel
theorem dX8_byDriver_96 : decode cX8_byDriver 96 = .ok (.bipush 16, 2) := by decide +kernel
theorem dX8_byDriver_98 : decode cX8_byDriver 98 = .ok (.invokestatic 300, 3) := by decide +kernel
theorem dX8_byDriver_101 : decode cX8_byDriver 101 = .ok (.iload_n 1, 1) := by decide +kernel
theorem dX8_byDriver_102 : decode cX8_byDriver 102 = .ok (.bipush 20, 2) := by decide +kernel
theorem dX8_byDriver_104 : decode cX8_byDriver 104 = .ok (.invokestatic 300, 3) := by decide +kernel
theorem dX8_byDriver_107 : decode cX8_byDriver 107 = .ok (.iload_n 3, 1) := by decide +kernel
theorem dX8_byDriver_108 : decode cX8_byDriver 108 = .ok (.bipush 16, 2) := by decide +kernel
theorem dX8_byDriver_110 : decode cX8_byDriver 110 = .ok (.invokestatic 259, 3) := by decide +kernel
theorem dX8_byDriver_113 : decode cX8_byDriver 113 = .ok (.iconst 1, 1) := by decide +kernel
theorem dX8_byDriver_114 : decode cX8_byDriver 114 = .ok (.if_icmp .ne 11, 3) := by decide +kernel
theorem dX8_byDriver_117 : decode cX8_byDriver 117 = .ok (.iload 5, 2) := by decide +kernel
theorem dX8_byDriver_119 : decode cX8_byDriver 119 = .ok (.invokestatic 309, 3) := by decide +kernel
theorem dX8_byDriver_122 : decode cX8_byDriver 122 = .ok (.goto 5, 3) := by decide +kernel
theorem dX8_byDriver_125 : decode cX8_byDriver 125 = .ok (.iload 5, 2) := by decide +kernel
theorem dX8_byDriver_127 : decode cX8_byDriver 127 = .ok (.ireturn, 1) := by decide +kernel
theorem dX8_byDriver_128 : decode cX8_byDriver 128 = .ok (.iload 4, 2) := by decide +kernel
theorem dX8_byDriver_130 : decode cX8_byDriver 130 = .ok (.invokestatic 309, 3) := by decide +kernel
theorem dX8_byDriver_133 : decode cX8_byDriver 133 = .ok (.ireturn, 1) := by decide +kernel
theorem dX8_byDevice_0 : decode cX8_byDevice 0 = .ok (.aload_n 0, 1) := by decide +kernel
theorem dX8_byDevice_1 : decode cX8_byDevice 1 = .ok (.getfield 46, 3) := by decide +kernel
theorem dX8_byDevice_4 : decode cX8_byDevice 4 = .ok (.iconst 1, 1) := by decide +kernel
theorem dX8_byDevice_5 : decode cX8_byDevice 5 = .ok (.iaload, 1) := by decide +kernel
theorem dX8_byDevice_6 : decode cX8_byDevice 6 = .ok (.ifCond .ne 5, 3) := by decide +kernel
theorem dX8_byDevice_9 : decode cX8_byDevice 9 = .ok (.iconst (-1), 1) := by decide +kernel
theorem dX8_byDevice_10 : decode cX8_byDevice 10 = .ok (.ireturn, 1) := by decide +kernel
theorem dX8_byDevice_11 : decode cX8_byDevice 11 = .ok (.iload_n 1, 1) := by decide +kernel
theorem dX8_byDevice_12 : decode cX8_byDevice 12 = .ok (.iconst 4, 1) := by decide +kernel
theorem dX8_byDevice_13 : decode cX8_byDevice 13 = .ok (.invokestatic 300, 3) := by decide +kernel
theorem dX8_byDevice_16 : decode cX8_byDevice 16 = .ok (.istore_n 2, 1) := by decide +kernel
theorem dX8_byDevice_17 : decode cX8_byDevice 17 = .ok (.aload_n 0, 1) := by decide +kernel
theorem dX8_byDevice_18 : decode cX8_byDevice 18 = .ok (.iload_n 1, 1) := by decide +kernel
theorem dX8_byDevice_19 : decode cX8_byDevice 19 = .ok (.invokevirtual 306, 3) := by decide +kernel
theorem dX8_byDevice_22 : decode cX8_byDevice 22 = .ok (.istore_n 3, 1) := by decide +kernel
theorem dX8_byDevice_23 : decode cX8_byDevice 23 = .ok (.iload_n 1, 1) := by decide +kernel
theorem dX8_byDevice_24 : decode cX8_byDevice 24 = .ok (.iconst 4, 1) := by decide +kernel
theorem dX8_byDevice_25 : decode cX8_byDevice 25 = .ok (.iload_n 2, 1) := by decide +kernel
theorem dX8_byDevice_26 : decode cX8_byDevice 26 = .ok (.iconst 1, 1) := by decide +kernel
theorem dX8_byDevice_27 : decode cX8_byDevice 27 = .ok (.iadd, 1) := by decide +kernel
theorem dX8_byDevice_28 : decode cX8_byDevice 28 = .ok (.aload_n 0, 1) := by decide +kernel
theorem dX8_byDevice_29 : decode cX8_byDevice 29 = .ok (.getfield 46, 3) := by decide +kernel
theorem dX8_byDevice_32 : decode cX8_byDevice 32 = .ok (.iconst 1, 1) := by decide +kernel
theorem dX8_byDevice_33 : decode cX8_byDevice 33 = .ok (.iaload, 1) := by decide +kernel
theorem dX8_byDevice_34 : decode cX8_byDevice 34 = .ok (.irem, 1) := by decide +kernel
theorem dX8_byDevice_35 : decode cX8_byDevice 35 = .ok (.invokestatic 303, 3) := by decide +kernel
theorem dX8_byDevice_38 : decode cX8_byDevice 38 = .ok (.istore 4, 2) := by decide +kernel
theorem dX8_byDevice_40 : decode cX8_byDevice 40 = .ok (.aload_n 0, 1) := by decide +kernel
theorem dX8_byDevice_41 : decode cX8_byDevice 41 = .ok (.getfield 40, 3) := by decide +kernel
theorem dX8_byDevice_44 : decode cX8_byDevice 44 = .ok (.bipush 8, 2) := by decide +kernel
theorem dX8_byDevice_46 : decode cX8_byDevice 46 = .ok (.iload_n 2, 1) := by decide +kernel
theorem dX8_byDevice_47 : decode cX8_byDevice 47 = .ok (.iadd, 1) := by decide +kernel
theorem dX8_byDevice_48 : decode cX8_byDevice 48 = .ok (.iaload, 1) := by decide +kernel
theorem dX8_byDevice_49 : decode cX8_byDevice 49 = .ok (.tableswitch 72 4 6 #[27, 36, 50], 27) := by decide +kernel
theorem dX8_byDevice_76 : decode cX8_byDevice 76 = .ok (.iload 4, 2) := by decide +kernel
theorem dX8_byDevice_78 : decode cX8_byDevice 78 = .ok (.bipush 8, 2) := by decide +kernel
theorem dX8_byDevice_80 : decode cX8_byDevice 80 = .ok (.iload_n 3, 1) := by decide +kernel
theorem dX8_byDevice_81 : decode cX8_byDevice 81 = .ok (.invokestatic 303, 3) := by decide +kernel
theorem dX8_byDevice_84 : decode cX8_byDevice 84 = .ok (.ireturn, 1) := by decide +kernel
theorem dX8_byDevice_85 : decode cX8_byDevice 85 = .ok (.iload 4, 2) := by decide +kernel
theorem dX8_byDevice_87 : decode cX8_byDevice 87 = .ok (.bipush 12, 2) := by decide +kernel
theorem dX8_byDevice_89 : decode cX8_byDevice 89 = .ok (.iload_n 1, 1) := by decide +kernel
theorem dX8_byDevice_90 : decode cX8_byDevice 90 = .ok (.bipush 8, 2) := by decide +kernel
theorem dX8_byDevice_92 : decode cX8_byDevice 92 = .ok (.invokestatic 300, 3) := by decide +kernel
theorem dX8_byDevice_95 : decode cX8_byDevice 95 = .ok (.invokestatic 303, 3) := by decide +kernel
theorem dX8_byDevice_98 : decode cX8_byDevice 98 = .ok (.ireturn, 1) := by decide +kernel
theorem dX8_byDevice_99 : decode cX8_byDevice 99 = .ok (.iload_n 1, 1) := by decide +kernel
theorem dX8_byDevice_100 : decode cX8_byDevice 100 = .ok (.bipush 8, 2) := by decide +kernel
theorem dX8_byDevice_102 : decode cX8_byDevice 102 = .ok (.invokestatic 300, 3) := by decide +kernel
theorem dX8_byDevice_105 : decode cX8_byDevice 105 = .ok (.iload_n 3, 1) := by decide +kernel
theorem dX8_byDevice_106 : decode cX8_byDevice 106 = .ok (.if_icmp .ne 8, 3) := by decide +kernel
theorem dX8_byDevice_109 : decode cX8_byDevice 109 = .ok (.iload 4, 2) := by decide +kernel
theorem dX8_byDevice_111 : decode cX8_byDevice 111 = .ok (.goto 9, 3) := by decide +kernel
theorem dX8_byDevice_114 : decode cX8_byDevice 114 = .ok (.iload_n 1, 1) := by decide +kernel
theorem dX8_byDevice_115 : decode cX8_byDevice 115 = .ok (.iconst 4, 1) := by decide +kernel
theorem dX8_byDevice_116 : decode cX8_byDevice 116 = .ok (.iconst 0, 1) := by decide +kernel
theorem dX8_byDevice_117 : decode cX8_byDevice 117 = .ok (.invokestatic 303, 3) := by decide +kernel
theorem dX8_byDevice_120 : decode cX8_byDevice 120 = .ok (.ireturn, 1) := by decide +kernel
theorem dX8_byDevice_121 : decode cX8_byDevice 121 = .ok (.iload_n 1, 1) := by decide +kernel
theorem dX8_byDevice_122 : decode cX8_byDevice 122 = .ok (.bipush 28, 2) := by decide +kernel
theorem dX8_byDevice_124 : decode cX8_byDevice 124 = .ok (.invokestatic 300, 3) := by decide +kernel
theorem dX8_byDevice_127 : decode cX8_byDevice 127 = .ok (.iconst 1, 1) := by decide +kernel
theorem dX8_byDevice_128 : decode cX8_byDevice 128 = .ok (.if_icmp .ne 14, 3) := by decide +kernel
theorem dX8_byDevice_131 : decode cX8_byDevice 131 = .ok (.iload 4, 2) := by decide +kernel
theorem dX8_byDevice_133 : decode cX8_byDevice 133 = .ok (.bipush 28, 2) := by decide +kernel
theorem dX8_byDevice_135 : decode cX8_byDevice 135 = .ok (.iconst 0, 1) := by decide +kernel
theorem dX8_byDevice_136 : decode cX8_byDevice 136 = .ok (.invokestatic 303, 3) := by decide +kernel
theorem dX8_byDevice_139 : decode cX8_byDevice 139 = .ok (.goto 4, 3) := by decide +kernel
theorem dX8_byDevice_142 : decode cX8_byDevice 142 = .ok (.iconst (-1), 1) := by decide +kernel
theorem dX8_byDevice_143 : decode cX8_byDevice 143 = .ok (.ireturn, 1) := by decide +kernel
theorem dX8_isMissed_0 : decode cX8_isMissed 0 = .ok (.iload_n 1, 1) := by decide +kernel
theorem dX8_isMissed_1 : decode cX8_isMissed 1 = .ok (.iconst 0, 1) := by decide +kernel
theorem dX8_isMissed_2 : decode cX8_isMissed 2 = .ok (.invokestatic 300, 3) := by decide +kernel
theorem dX8_isMissed_5 : decode cX8_isMissed 5 = .ok (.aload_n 0, 1) := by decide +kernel
theorem dX8_isMissed_6 : decode cX8_isMissed 6 = .ok (.getfield 46, 3) := by decide +kernel
theorem dX8_isMissed_9 : decode cX8_isMissed 9 = .ok (.iconst 0, 1) := by decide +kernel
theorem dX8_isMissed_10 : decode cX8_isMissed 10 = .ok (.iaload, 1) := by decide +kernel
theorem dX8_isMissed_11 : decode cX8_isMissed 11 = .ok (.if_icmp .ne 29, 3) := by decide +kernel
theorem dX8_isMissed_14 : decode cX8_isMissed 14 = .ok (.aload_n 0, 1) := by decide +kernel
theorem dX8_isMissed_15 : decode cX8_isMissed 15 = .ok (.iload_n 1, 1) := by decide +kernel
theorem dX8_isMissed_16 : decode cX8_isMissed 16 = .ok (.invokevirtual 312, 3) := by decide +kernel
theorem dX8_isMissed_19 : decode cX8_isMissed 19 = .ok (.ifCond .ge 21, 3) := by decide +kernel
theorem dX8_isMissed_22 : decode cX8_isMissed 22 = .ok (.iload_n 1, 1) := by decide +kernel
theorem dX8_isMissed_23 : decode cX8_isMissed 23 = .ok (.bipush 8, 2) := by decide +kernel
theorem dX8_isMissed_25 : decode cX8_isMissed 25 = .ok (.invokestatic 300, 3) := by decide +kernel
theorem dX8_isMissed_28 : decode cX8_isMissed 28 = .ok (.aload_n 0, 1) := by decide +kernel
theorem dX8_isMissed_29 : decode cX8_isMissed 29 = .ok (.iload_n 1, 1) := by decide +kernel
theorem dX8_isMissed_30 : decode cX8_isMissed 30 = .ok (.invokevirtual 306, 3) := by decide +kernel
theorem dX8_isMissed_33 : decode cX8_isMissed 33 = .ok (.if_icmp .eq 7, 3) := by decide +kernel
theorem dX8_isMissed_36 : decode cX8_isMissed 36 = .ok (.iconst 1, 1) := by decide +kernel
theorem dX8_isMissed_37 : decode cX8_isMissed 37 = .ok (.goto 4, 3) := by decide +kernel
theorem dX8_isMissed_40 : decode cX8_isMissed 40 = .ok (.iconst 0, 1) := by decide +kernel
theorem dX8_isMissed_41 : decode cX8_isMissed 41 = .ok (.ireturn, 1) := by decide +kernel
theorem dX8_comes_0 : decode cX8_comes 0 = .ok (.iload_n 1, 1) := by decide +kernel
theorem dX8_comes_1 : decode cX8_comes 1 = .ok (.ifCond .lt 10, 3) := by decide +kernel
theorem dX8_comes_4 : decode cX8_comes 4 = .ok (.aload_n 0, 1) := by decide +kernel
theorem dX8_comes_5 : decode cX8_comes 5 = .ok (.getfield 315, 3) := by decide +kernel
theorem dX8_comes_8 : decode cX8_comes 8 = .ok (.ifCond .eq 4, 3) := by decide +kernel
theorem dX8_comes_11 : decode cX8_comes 11 = .ok (.return_, 1) := by decide +kernel
theorem dX8_comes_12 : decode cX8_comes 12 = .ok (.iload_n 1, 1) := by decide +kernel
theorem dX8_comes_13 : decode cX8_comes 13 = .ok (.ldc_w 318, 3) := by decide +kernel
theorem dX8_comes_16 : decode cX8_comes 16 = .ok (.imul, 1) := by decide +kernel
theorem dX8_comes_17 : decode cX8_comes 17 = .ok (.bipush 7, 2) := by decide +kernel
theorem dX8_comes_19 : decode cX8_comes 19 = .ok (.iushr, 1) := by decide +kernel
theorem dX8_comes_20 : decode cX8_comes 20 = .ok (.sipush 16384, 3) := by decide +kernel
theorem dX8_comes_23 : decode cX8_comes 23 = .ok (.irem, 1) := by decide +kernel
theorem dX8_comes_24 : decode cX8_comes 24 = .ok (.istore 4, 2) := by decide +kernel
theorem dX8_comes_26 : decode cX8_comes 26 = .ok (.aload_n 0, 1) := by decide +kernel
theorem dX8_comes_27 : decode cX8_comes 27 = .ok (.getfield 55, 3) := by decide +kernel
theorem dX8_comes_30 : decode cX8_comes 30 = .ok (.iload 4, 2) := by decide +kernel
theorem dX8_comes_32 : decode cX8_comes 32 = .ok (.iaload, 1) := by decide +kernel
theorem dX8_comes_33 : decode cX8_comes 33 = .ok (.ifCond .le 35, 3) := by decide +kernel
theorem dX8_comes_36 : decode cX8_comes 36 = .ok (.aload_n 0, 1) := by decide +kernel
theorem dX8_comes_37 : decode cX8_comes 37 = .ok (.getfield 49, 3) := by decide +kernel
theorem dX8_comes_40 : decode cX8_comes 40 = .ok (.aload_n 0, 1) := by decide +kernel
theorem dX8_comes_41 : decode cX8_comes 41 = .ok (.getfield 55, 3) := by decide +kernel
theorem dX8_comes_44 : decode cX8_comes 44 = .ok (.iload 4, 2) := by decide +kernel
theorem dX8_comes_46 : decode cX8_comes 46 = .ok (.iaload, 1) := by decide +kernel
theorem dX8_comes_47 : decode cX8_comes 47 = .ok (.iconst 1, 1) := by decide +kernel
theorem dX8_comes_48 : decode cX8_comes 48 = .ok (.isub, 1) := by decide +kernel
theorem dX8_comes_49 : decode cX8_comes 49 = .ok (.iaload, 1) := by decide +kernel
theorem dX8_comes_50 : decode cX8_comes 50 = .ok (.iload_n 1, 1) := by decide +kernel
theorem dX8_comes_51 : decode cX8_comes 51 = .ok (.if_icmp .ne 4, 3) := by decide +kernel
theorem dX8_comes_54 : decode cX8_comes 54 = .ok (.return_, 1) := by decide +kernel
theorem dX8_comes_55 : decode cX8_comes 55 = .ok (.iload 4, 2) := by decide +kernel
theorem dX8_comes_57 : decode cX8_comes 57 = .ok (.iconst 1, 1) := by decide +kernel
theorem dX8_comes_58 : decode cX8_comes 58 = .ok (.iadd, 1) := by decide +kernel
theorem dX8_comes_59 : decode cX8_comes 59 = .ok (.sipush 16384, 3) := by decide +kernel
theorem dX8_comes_62 : decode cX8_comes 62 = .ok (.irem, 1) := by decide +kernel
theorem dX8_comes_63 : decode cX8_comes 63 = .ok (.istore 4, 2) := by decide +kernel
theorem dX8_comes_65 : decode cX8_comes 65 = .ok (.goto (-39), 3) := by decide +kernel
theorem dX8_comes_68 : decode cX8_comes 68 = .ok (.aload_n 0, 1) := by decide +kernel
theorem dX8_comes_69 : decode cX8_comes 69 = .ok (.getfield 319, 3) := by decide +kernel
theorem dX8_comes_72 : decode cX8_comes 72 = .ok (.sipush 4000, 3) := by decide +kernel
theorem dX8_comes_75 : decode cX8_comes 75 = .ok (.if_icmp .ne 9, 3) := by decide +kernel
theorem dX8_comes_78 : decode cX8_comes 78 = .ok (.aload_n 0, 1) := by decide +kernel
theorem dX8_comes_79 : decode cX8_comes 79 = .ok (.iconst 1, 1) := by decide +kernel
theorem dX8_comes_80 : decode cX8_comes 80 = .ok (.putfield 315, 3) := by decide +kernel
theorem dX8_comes_83 : decode cX8_comes 83 = .ok (.return_, 1) := by decide +kernel
theorem dX8_comes_84 : decode cX8_comes 84 = .ok (.aload_n 0, 1) := by decide +kernel
theorem dX8_comes_85 : decode cX8_comes 85 = .ok (.getfield 49, 3) := by decide +kernel
theorem dX8_comes_88 : decode cX8_comes 88 = .ok (.aload_n 0, 1) := by decide +kernel
theorem dX8_comes_89 : decode cX8_comes 89 = .ok (.getfield 319, 3) := by decide +kernel
theorem dX8_comes_92 : decode cX8_comes 92 = .ok (.iload_n 1, 1) := by decide +kernel
theorem dX8_comes_93 : decode cX8_comes 93 = .ok (.iastore, 1) := by decide +kernel
theorem dX8_comes_94 : decode cX8_comes 94 = .ok (.aload_n 0, 1) := by decide +kernel
theorem dX8_comes_95 : decode cX8_comes 95 = .ok (.getfield 52, 3) := by decide +kernel
theorem dX8_comes_98 : decode cX8_comes 98 = .ok (.aload_n 0, 1) := by decide +kernel
theorem dX8_comes_99 : decode cX8_comes 99 = .ok (.getfield 319, 3) := by decide +kernel
theorem dX8_comes_102 : decode cX8_comes 102 = .ok (.iload_n 2, 1) := by decide +kernel
theorem dX8_comes_103 : decode cX8_comes 103 = .ok (.iastore, 1) := by decide +kernel
theorem dX8_comes_104 : decode cX8_comes 104 = .ok (.aload_n 0, 1) := by decide +kernel
theorem dX8_comes_105 : decode cX8_comes 105 = .ok (.getfield 58, 3) := by decide +kernel
theorem dX8_comes_108 : decode cX8_comes 108 = .ok (.aload_n 0, 1) := by decide +kernel
theorem dX8_comes_109 : decode cX8_comes 109 = .ok (.getfield 319, 3) := by decide +kernel
theorem dX8_comes_112 : decode cX8_comes 112 = .ok (.iload_n 3, 1) := by decide +kernel
theorem dX8_comes_113 : decode cX8_comes 113 = .ok (.i2b, 1) := by decide +kernel
theorem dX8_comes_114 : decode cX8_comes 114 = .ok (.bastore, 1) := by decide +kernel
theorem dX8_comes_115 : decode cX8_comes 115 = .ok (.aload_n 0, 1) := by decide +kernel
theorem dX8_comes_116 : decode cX8_comes 116 = .ok (.dup, 1) := by decide +kernel
theorem dX8_comes_117 : decode cX8_comes 117 = .ok (.getfield 319, 3) := by decide +kernel
theorem dX8_comes_120 : decode cX8_comes 120 = .ok (.iconst 1, 1) := by decide +kernel
theorem dX8_comes_121 : decode cX8_comes 121 = .ok (.iadd, 1) := by decide +kernel
theorem dX8_comes_122 : decode cX8_comes 122 = .ok (.putfield 319, 3) := by decide +kernel
theorem dX8_comes_125 : decode cX8_comes 125 = .ok (.aload_n 0, 1) := by decide +kernel
theorem dX8_comes_126 : decode cX8_comes 126 = .ok (.getfield 55, 3) := by decide +kernel
theorem dX8_comes_129 : decode cX8_comes 129 = .ok (.iload 4, 2) := by decide +kernel
theorem dX8_comes_131 : decode cX8_comes 131 = .ok (.aload_n 0, 1) := by decide +kernel
theorem dX8_comes_132 : decode cX8_comes 132 = .ok (.getfield 319, 3) := by decide +kernel
theorem dX8_comes_135 : decode cX8_comes 135 = .ok (.iastore, 1) := by decide +kernel
theorem dX8_comes_136 : decode cX8_comes 136 = .ok (.return_, 1) := by decide +kernel
theorem dX8_searches_0 : decode cX8_searches 0 = .ok (.aload_n 0, 1) := by decide +kernel
theorem dX8_searches_1 : decode cX8_searches 1 = .ok (.getfield 294, 3) := by decide +kernel
theorem dX8_searches_4 : decode cX8_searches 4 = .ok (.ifCond .eq 4, 3) := by decide +kernel
theorem dX8_searches_7 : decode cX8_searches 7 = .ok (.return_, 1) := by decide +kernel
theorem dX8_searches_8 : decode cX8_searches 8 = .ok (.aload_n 0, 1) := by decide +kernel
theorem dX8_searches_9 : decode cX8_searches 9 = .ok (.iconst 1, 1) := by decide +kernel
theorem dX8_searches_10 : decode cX8_searches 10 = .ok (.putfield 294, 3) := by decide +kernel
theorem dX8_searches_13 : decode cX8_searches 13 = .ok (.aload_n 0, 1) := by decide +kernel
theorem dX8_searches_14 : decode cX8_searches 14 = .ok (.iconst 0, 1) := by decide +kernel
theorem dX8_searches_15 : decode cX8_searches 15 = .ok (.putfield 315, 3) := by decide +kernel
theorem dX8_searches_18 : decode cX8_searches 18 = .ok (.aload_n 0, 1) := by decide +kernel
theorem dX8_searches_19 : decode cX8_searches 19 = .ok (.iconst 0, 1) := by decide +kernel
theorem dX8_searches_20 : decode cX8_searches 20 = .ok (.putfield 319, 3) := by decide +kernel
theorem dX8_searches_23 : decode cX8_searches 23 = .ok (.aload_n 0, 1) := by decide +kernel
theorem dX8_searches_24 : decode cX8_searches 24 = .ok (.iconst 0, 1) := by decide +kernel
theorem dX8_searches_25 : decode cX8_searches 25 = .ok (.putfield 322, 3) := by decide +kernel
theorem dX8_searches_28 : decode cX8_searches 28 = .ok (.aload_n 0, 1) := by decide +kernel
theorem dX8_searches_29 : decode cX8_searches 29 = .ok (.iconst (-1), 1) := by decide +kernel
theorem dX8_searches_30 : decode cX8_searches 30 = .ok (.putfield 325, 3) := by decide +kernel
theorem dX8_searches_33 : decode cX8_searches 33 = .ok (.aload_n 0, 1) := by decide +kernel
theorem dX8_searches_34 : decode cX8_searches 34 = .ok (.iconst (-1), 1) := by decide +kernel
theorem dX8_searches_35 : decode cX8_searches 35 = .ok (.putfield 328, 3) := by decide +kernel
theorem dX8_searches_38 : decode cX8_searches 38 = .ok (.aload_n 0, 1) := by decide +kernel
theorem dX8_searches_39 : decode cX8_searches 39 = .ok (.iconst (-1), 1) := by decide +kernel
theorem dX8_searches_40 : decode cX8_searches 40 = .ok (.putfield 331, 3) := by decide +kernel
theorem dX8_searches_43 : decode cX8_searches 43 = .ok (.iconst 0, 1) := by decide +kernel
theorem dX8_searches_44 : decode cX8_searches 44 = .ok (.istore_n 1, 1) := by decide +kernel
theorem dX8_searches_45 : decode cX8_searches 45 = .ok (.iload_n 1, 1) := by decide +kernel
theorem dX8_searches_46 : decode cX8_searches 46 = .ok (.sipush 16384, 3) := by decide +kernel
theorem dX8_searches_49 : decode cX8_searches 49 = .ok (.if_icmp .ge 16, 3) := by decide +kernel
theorem dX8_searches_52 : decode cX8_searches 52 = .ok (.aload_n 0, 1) := by decide +kernel
theorem dX8_searches_53 : decode cX8_searches 53 = .ok (.getfield 55, 3) := by decide +kernel
theorem dX8_searches_56 : decode cX8_searches 56 = .ok (.iload_n 1, 1) := by decide +kernel
theorem dX8_searches_57 : decode cX8_searches 57 = .ok (.iconst 0, 1) := by decide +kernel
theorem dX8_searches_58 : decode cX8_searches 58 = .ok (.iastore, 1) := by decide +kernel
theorem dX8_searches_59 : decode cX8_searches 59 = .ok (.iinc 1 1, 3) := by decide +kernel
theorem dX8_searches_62 : decode cX8_searches 62 = .ok (.goto (-17), 3) := by decide +kernel
theorem dX8_searches_65 : decode cX8_searches 65 = .ok (.aload_n 0, 1) := by decide +kernel
theorem dX8_searches_66 : decode cX8_searches 66 = .ok (.iconst 0, 1) := by decide +kernel
theorem dX8_searches_67 : decode cX8_searches 67 = .ok (.iconst (-1), 1) := by decide +kernel
theorem dX8_searches_68 : decode cX8_searches 68 = .ok (.iconst 0, 1) := by decide +kernel
theorem dX8_searches_69 : decode cX8_searches 69 = .ok (.invokevirtual 334, 3) := by decide +kernel
theorem dX8_searches_72 : decode cX8_searches 72 = .ok (.iconst 0, 1) := by decide +kernel
theorem dX8_searches_73 : decode cX8_searches 73 = .ok (.istore_n 1, 1) := by decide +kernel
theorem dX8_searches_74 : decode cX8_searches 74 = .ok (.iload_n 1, 1) := by decide +kernel
theorem dX8_searches_75 : decode cX8_searches 75 = .ok (.aload_n 0, 1) := by decide +kernel
theorem dX8_searches_76 : decode cX8_searches 76 = .ok (.getfield 319, 3) := by decide +kernel
theorem dX8_searches_79 : decode cX8_searches 79 = .ok (.if_icmp .ge 150, 3) := by decide +kernel
theorem dX8_searches_82 : decode cX8_searches 82 = .ok (.aload_n 0, 1) := by decide +kernel
theorem dX8_searches_83 : decode cX8_searches 83 = .ok (.getfield 315, 3) := by decide +kernel
theorem dX8_searches_86 : decode cX8_searches 86 = .ok (.ifCond .ne 143, 3) := by decide +kernel
theorem dX8_searches_89 : decode cX8_searches 89 = .ok (.aload_n 0, 1) := by decide +kernel
theorem dX8_searches_90 : decode cX8_searches 90 = .ok (.getfield 49, 3) := by decide +kernel
theorem dX8_searches_93 : decode cX8_searches 93 = .ok (.iload_n 1, 1) := by decide +kernel
theorem dX8_searches_94 : decode cX8_searches 94 = .ok (.iaload, 1) := by decide +kernel
theorem dX8_searches_95 : decode cX8_searches 95 = .ok (.istore_n 2, 1) := by decide +kernel
theorem dX8_searches_96 : decode cX8_searches 96 = .ok (.aload_n 0, 1) := by decide +kernel
theorem dX8_searches_97 : decode cX8_searches 97 = .ok (.iload_n 2, 1) := by decide +kernel
theorem dX8_searches_98 : decode cX8_searches 98 = .ok (.invokevirtual 337, 3) := by decide +kernel
theorem dX8_searches_101 : decode cX8_searches 101 = .ok (.ifCond .eq 32, 3) := by decide +kernel
theorem dX8_searches_104 : decode cX8_searches 104 = .ok (.aload_n 0, 1) := by decide +kernel
theorem dX8_searches_105 : decode cX8_searches 105 = .ok (.dup, 1) := by decide +kernel
theorem dX8_searches_106 : decode cX8_searches 106 = .ok (.getfield 322, 3) := by decide +kernel
theorem dX8_searches_109 : decode cX8_searches 109 = .ok (.iconst 1, 1) := by decide +kernel
theorem dX8_searches_110 : decode cX8_searches 110 = .ok (.iadd, 1) := by decide +kernel
theorem dX8_searches_111 : decode cX8_searches 111 = .ok (.putfield 322, 3) := by decide +kernel
theorem dX8_searches_114 : decode cX8_searches 114 = .ok (.aload_n 0, 1) := by decide +kernel
theorem dX8_searches_115 : decode cX8_searches 115 = .ok (.aload_n 0, 1) := by decide +kernel
theorem dX8_searches_116 : decode cX8_searches 116 = .ok (.getfield 325, 3) := by decide +kernel
theorem dX8_searches_119 : decode cX8_searches 119 = .ok (.ifCond .ge 7, 3) := by decide +kernel
theorem dX8_searches_122 : decode cX8_searches 122 = .ok (.iload_n 1, 1) := by decide +kernel
theorem dX8_searches_123 : decode cX8_searches 123 = .ok (.goto 7, 3) := by decide +kernel
theorem dX8_searches_126 : decode cX8_searches 126 = .ok (.aload_n 0, 1) := by decide +kernel
theorem dX8_searches_127 : decode cX8_searches 127 = .ok (.getfield 325, 3) := by decide +kernel
theorem dX8_searches_130 : decode cX8_searches 130 = .ok (.putfield 325, 3) := by decide +kernel
theorem dX8_searches_133 : decode cX8_searches 133 = .ok (.iload_n 2, 1) := by decide +kernel
theorem dX8_searches_134 : decode cX8_searches 134 = .ok (.iconst 0, 1) := by decide +kernel
theorem dX8_searches_135 : decode cX8_searches 135 = .ok (.invokestatic 300, 3) := by decide +kernel
theorem dX8_searches_138 : decode cX8_searches 138 = .ok (.aload_n 0, 1) := by decide +kernel
theorem dX8_searches_139 : decode cX8_searches 139 = .ok (.getfield 46, 3) := by decide +kernel
theorem dX8_searches_142 : decode cX8_searches 142 = .ok (.iconst 0, 1) := by decide +kernel
theorem dX8_searches_143 : decode cX8_searches 143 = .ok (.iaload, 1) := by decide +kernel
theorem dX8_searches_144 : decode cX8_searches 144 = .ok (.if_icmp .ne 57, 3) := by decide +kernel
theorem dX8_searches_147 : decode cX8_searches 147 = .ok (.iload_n 2, 1) := by decide +kernel
theorem dX8_searches_148 : decode cX8_searches 148 = .ok (.bipush 24, 2) := by decide +kernel
theorem dX8_searches_150 : decode cX8_searches 150 = .ok (.invokestatic 300, 3) := by decide +kernel
theorem dX8_searches_153 : decode cX8_searches 153 = .ok (.istore_n 3, 1) := by decide +kernel
theorem dX8_searches_154 : decode cX8_searches 154 = .ok (.aload_n 0, 1) := by decide +kernel
theorem dX8_searches_155 : decode cX8_searches 155 = .ok (.aload_n 0, 1) := by decide +kernel
theorem dX8_searches_156 : decode cX8_searches 156 = .ok (.getfield 328, 3) := by decide +kernel
theorem dX8_searches_159 : decode cX8_searches 159 = .ok (.ifCond .lt 11, 3) := by decide +kernel
theorem dX8_searches_162 : decode cX8_searches 162 = .ok (.iload_n 3, 1) := by decide +kernel
theorem dX8_searches_163 : decode cX8_searches 163 = .ok (.aload_n 0, 1) := by decide +kernel
theorem dX8_searches_164 : decode cX8_searches 164 = .ok (.getfield 328, 3) := by decide +kernel
theorem dX8_searches_167 : decode cX8_searches 167 = .ok (.if_icmp .ge 7, 3) := by decide +kernel
theorem dX8_searches_170 : decode cX8_searches 170 = .ok (.iload_n 3, 1) := by decide +kernel
theorem dX8_searches_171 : decode cX8_searches 171 = .ok (.goto 7, 3) := by decide +kernel
theorem dX8_searches_174 : decode cX8_searches 174 = .ok (.aload_n 0, 1) := by decide +kernel
theorem dX8_searches_175 : decode cX8_searches 175 = .ok (.getfield 328, 3) := by decide +kernel
theorem dX8_searches_178 : decode cX8_searches 178 = .ok (.putfield 328, 3) := by decide +kernel
theorem dX8_searches_181 : decode cX8_searches 181 = .ok (.aload_n 0, 1) := by decide +kernel
theorem dX8_searches_182 : decode cX8_searches 182 = .ok (.iload_n 3, 1) := by decide +kernel
theorem dX8_searches_183 : decode cX8_searches 183 = .ok (.aload_n 0, 1) := by decide +kernel
theorem dX8_searches_184 : decode cX8_searches 184 = .ok (.getfield 331, 3) := by decide +kernel
theorem dX8_searches_187 : decode cX8_searches 187 = .ok (.if_icmp .le 7, 3) := by decide +kernel
theorem dX8_searches_190 : decode cX8_searches 190 = .ok (.iload_n 3, 1) := by decide +kernel
theorem dX8_searches_191 : decode cX8_searches 191 = .ok (.goto 7, 3) := by decide +kernel
theorem dX8_searches_194 : decode cX8_searches 194 = .ok (.aload_n 0, 1) := by decide +kernel
theorem dX8_searches_195 : decode cX8_searches 195 = .ok (.getfield 331, 3) := by decide +kernel
theorem dX8_searches_198 : decode cX8_searches 198 = .ok (.putfield 331, 3) := by decide +kernel
theorem dX8_searches_201 : decode cX8_searches 201 = .ok (.aload_n 0, 1) := by decide +kernel
theorem dX8_searches_202 : decode cX8_searches 202 = .ok (.aload_n 0, 1) := by decide +kernel
theorem dX8_searches_203 : decode cX8_searches 203 = .ok (.iload_n 2, 1) := by decide +kernel
theorem dX8_searches_204 : decode cX8_searches 204 = .ok (.invokevirtual 340, 3) := by decide +kernel
theorem dX8_searches_207 : decode cX8_searches 207 = .ok (.iload_n 1, 1) := by decide +kernel
theorem dX8_searches_208 : decode cX8_searches 208 = .ok (.iconst 0, 1) := by decide +kernel
theorem dX8_searches_209 : decode cX8_searches 209 = .ok (.invokevirtual 334, 3) := by decide +kernel
theorem dX8_searches_212 : decode cX8_searches 212 = .ok (.aload_n 0, 1) := by decide +kernel
theorem dX8_searches_213 : decode cX8_searches 213 = .ok (.aload_n 0, 1) := by decide +kernel
theorem dX8_searches_214 : decode cX8_searches 214 = .ok (.iload_n 2, 1) := by decide +kernel
theorem dX8_searches_215 : decode cX8_searches 215 = .ok (.invokevirtual 312, 3) := by decide +kernel
theorem dX8_searches_218 : decode cX8_searches 218 = .ok (.iload_n 1, 1) := by decide +kernel
theorem dX8_searches_219 : decode cX8_searches 219 = .ok (.iconst 1, 1) := by decide +kernel
theorem dX8_searches_220 : decode cX8_searches 220 = .ok (.invokevirtual 334, 3) := by decide +kernel
theorem dX8_searches_223 : decode cX8_searches 223 = .ok (.iinc 1 1, 3) := by decide +kernel
theorem dX8_searches_226 : decode cX8_searches 226 = .ok (.goto (-152), 3) := by decide +kernel
theorem dX8_searches_229 : decode cX8_searches 229 = .ok (.return_, 1) := by decide +kernel
theorem dX8_states_0 : decode cX8_states 0 = .ok (.aload_n 0, 1) := by decide +kernel
theorem dX8_states_1 : decode cX8_states 1 = .ok (.invokevirtual 343, 3) := by decide +kernel
theorem dX8_states_4 : decode cX8_states 4 = .ok (.aload_n 0, 1) := by decide +kernel
theorem dX8_states_5 : decode cX8_states 5 = .ok (.getfield 315, 3) := by decide +kernel
theorem dX8_states_8 : decode cX8_states 8 = .ok (.ifCond .eq 7, 3) := by decide +kernel
theorem dX8_states_11 : decode cX8_states 11 = .ok (.iconst (-1), 1) := by decide +kernel
theorem dX8_states_12 : decode cX8_states 12 = .ok (.goto 7, 3) := by decide +kernel
theorem dX8_states_15 : decode cX8_states 15 = .ok (.aload_n 0, 1) := by decide +kernel
theorem dX8_states_16 : decode cX8_states 16 = .ok (.getfield 319, 3) := by decide +kernel
theorem dX8_states_19 : decode cX8_states 19 = .ok (.ireturn, 1) := by decide +kernel
theorem dX8_missed_0 : decode cX8_missed 0 = .ok (.aload_n 0, 1) := by decide +kernel
theorem dX8_missed_1 : decode cX8_missed 1 = .ok (.invokevirtual 343, 3) := by decide +kernel
theorem dX8_missed_4 : decode cX8_missed 4 = .ok (.aload_n 0, 1) := by decide +kernel
theorem dX8_missed_5 : decode cX8_missed 5 = .ok (.getfield 315, 3) := by decide +kernel
theorem dX8_missed_8 : decode cX8_missed 8 = .ok (.ifCond .ne 10, 3) := by decide +kernel
theorem dX8_missed_11 : decode cX8_missed 11 = .ok (.aload_n 0, 1) := by decide +kernel
theorem dX8_missed_12 : decode cX8_missed 12 = .ok (.getfield 325, 3) := by decide +kernel
theorem dX8_missed_15 : decode cX8_missed 15 = .ok (.ifCond .ge 5, 3) := by decide +kernel
theorem dX8_missed_18 : decode cX8_missed 18 = .ok (.iconst (-1), 1) := by decide +kernel
theorem dX8_missed_19 : decode cX8_missed 19 = .ok (.ireturn, 1) := by decide +kernel
theorem dX8_missed_20 : decode cX8_missed 20 = .ok (.aload_n 0, 1) := by decide +kernel
theorem dX8_missed_21 : decode cX8_missed 21 = .ok (.iconst 0, 1) := by decide +kernel
theorem dX8_missed_22 : decode cX8_missed 22 = .ok (.putfield 346, 3) := by decide +kernel
theorem dX8_missed_25 : decode cX8_missed 25 = .ok (.aload_n 0, 1) := by decide +kernel
theorem dX8_missed_26 : decode cX8_missed 26 = .ok (.getfield 325, 3) := by decide +kernel
theorem dX8_missed_29 : decode cX8_missed 29 = .ok (.istore_n 1, 1) := by decide +kernel
theorem dX8_missed_30 : decode cX8_missed 30 = .ok (.iload_n 1, 1) := by decide +kernel
theorem dX8_missed_31 : decode cX8_missed 31 = .ok (.ifCond .le 23, 3) := by decide +kernel
theorem dX8_missed_34 : decode cX8_missed 34 = .ok (.aload_n 0, 1) := by decide +kernel
theorem dX8_missed_35 : decode cX8_missed 35 = .ok (.dup, 1) := by decide +kernel
theorem dX8_missed_36 : decode cX8_missed 36 = .ok (.getfield 346, 3) := by decide +kernel
theorem dX8_missed_39 : decode cX8_missed 39 = .ok (.iconst 1, 1) := by decide +kernel
theorem dX8_missed_40 : decode cX8_missed 40 = .ok (.iadd, 1) := by decide +kernel
theorem dX8_missed_41 : decode cX8_missed 41 = .ok (.putfield 346, 3) := by decide +kernel
theorem dX8_missed_44 : decode cX8_missed 44 = .ok (.aload_n 0, 1) := by decide +kernel
theorem dX8_missed_45 : decode cX8_missed 45 = .ok (.getfield 52, 3) := by decide +kernel
theorem dX8_missed_48 : decode cX8_missed 48 = .ok (.iload_n 1, 1) := by decide +kernel
theorem dX8_missed_49 : decode cX8_missed 49 = .ok (.iaload, 1) := by decide +kernel
theorem dX8_missed_50 : decode cX8_missed 50 = .ok (.istore_n 1, 1) := by decide +kernel
theorem dX8_missed_51 : decode cX8_missed 51 = .ok (.goto (-21), 3) := by decide +kernel
theorem dX8_missed_54 : decode cX8_missed 54 = .ok (.aload_n 0, 1) := by decide +kernel
theorem dX8_missed_55 : decode cX8_missed 55 = .ok (.getfield 346, 3) := by decide +kernel
theorem dX8_missed_58 : decode cX8_missed 58 = .ok (.istore_n 1, 1) := by decide +kernel
theorem dX8_missed_59 : decode cX8_missed 59 = .ok (.aload_n 0, 1) := by decide +kernel
theorem dX8_missed_60 : decode cX8_missed 60 = .ok (.getfield 325, 3) := by decide +kernel
theorem dX8_missed_63 : decode cX8_missed 63 = .ok (.istore_n 2, 1) := by decide +kernel
theorem dX8_missed_64 : decode cX8_missed 64 = .ok (.iload_n 2, 1) := by decide +kernel
theorem dX8_missed_65 : decode cX8_missed 65 = .ok (.ifCond .le 28, 3) := by decide +kernel
theorem dX8_missed_68 : decode cX8_missed 68 = .ok (.iinc 1 (-1), 3) := by decide +kernel
theorem dX8_missed_71 : decode cX8_missed 71 = .ok (.aload_n 0, 1) := by decide +kernel
theorem dX8_missed_72 : decode cX8_missed 72 = .ok (.getfield 61, 3) := by decide +kernel
theorem dX8_missed_75 : decode cX8_missed 75 = .ok (.iload_n 1, 1) := by decide +kernel
theorem dX8_missed_76 : decode cX8_missed 76 = .ok (.aload_n 0, 1) := by decide +kernel
theorem dX8_missed_77 : decode cX8_missed 77 = .ok (.getfield 58, 3) := by decide +kernel
theorem dX8_missed_80 : decode cX8_missed 80 = .ok (.iload_n 2, 1) := by decide +kernel
theorem dX8_missed_81 : decode cX8_missed 81 = .ok (.baload, 1) := by decide +kernel
theorem dX8_missed_82 : decode cX8_missed 82 = .ok (.bastore, 1) := by decide +kernel
theorem dX8_missed_83 : decode cX8_missed 83 = .ok (.aload_n 0, 1) := by decide +kernel
theorem dX8_missed_84 : decode cX8_missed 84 = .ok (.getfield 52, 3) := by decide +kernel
theorem dX8_missed_87 : decode cX8_missed 87 = .ok (.iload_n 2, 1) := by decide +kernel
theorem dX8_missed_88 : decode cX8_missed 88 = .ok (.iaload, 1) := by decide +kernel
theorem dX8_missed_89 : decode cX8_missed 89 = .ok (.istore_n 2, 1) := by decide +kernel
theorem dX8_missed_90 : decode cX8_missed 90 = .ok (.goto (-26), 3) := by decide +kernel
theorem dX8_missed_93 : decode cX8_missed 93 = .ok (.aload_n 0, 1) := by decide +kernel
theorem dX8_missed_94 : decode cX8_missed 94 = .ok (.getfield 346, 3) := by decide +kernel
theorem dX8_missed_97 : decode cX8_missed 97 = .ok (.ireturn, 1) := by decide +kernel
theorem dX8_missedBy_0 : decode cX8_missedBy 0 = .ok (.iload_n 1, 1) := by decide +kernel
theorem dX8_missedBy_1 : decode cX8_missedBy 1 = .ok (.iconst 0, 1) := by decide +kernel
theorem dX8_missedBy_2 : decode cX8_missedBy 2 = .ok (.aload_n 0, 1) := by decide +kernel
theorem dX8_missedBy_3 : decode cX8_missedBy 3 = .ok (.getfield 346, 3) := by decide +kernel
theorem dX8_missedBy_6 : decode cX8_missedBy 6 = .ok (.iconst 1, 1) := by decide +kernel
theorem dX8_missedBy_7 : decode cX8_missedBy 7 = .ok (.isub, 1) := by decide +kernel
theorem dX8_missedBy_8 : decode cX8_missedBy 8 = .ok (.invokestatic 93, 3) := by decide +kernel
theorem dX8_missedBy_11 : decode cX8_missedBy 11 = .ok (.ifCond .eq 12, 3) := by decide +kernel
theorem dX8_missedBy_14 : decode cX8_missedBy 14 = .ok (.aload_n 0, 1) := by decide +kernel
theorem dX8_missedBy_15 : decode cX8_missedBy 15 = .ok (.getfield 61, 3) := by decide +kernel
theorem dX8_missedBy_18 : decode cX8_missedBy 18 = .ok (.iload_n 1, 1) := by decide +kernel
theorem dX8_missedBy_19 : decode cX8_missedBy 19 = .ok (.baload, 1) := by decide +kernel
theorem dX8_missedBy_20 : decode cX8_missedBy 20 = .ok (.goto 4, 3) := by decide +kernel
theorem dX8_missedBy_23 : decode cX8_missedBy 23 = .ok (.iconst (-1), 1) := by decide +kernel
theorem dX8_missedBy_24 : decode cX8_missedBy 24 = .ok (.ireturn, 1) := by decide +kernel
theorem dX8_misses_0 : decode cX8_misses 0 = .ok (.aload_n 0, 1) := by decide +kernel
theorem dX8_misses_1 : decode cX8_misses 1 = .ok (.invokevirtual 343, 3) := by decide +kernel
theorem dX8_misses_4 : decode cX8_misses 4 = .ok (.aload_n 0, 1) := by decide +kernel
theorem dX8_misses_5 : decode cX8_misses 5 = .ok (.getfield 315, 3) := by decide +kernel
theorem dX8_misses_8 : decode cX8_misses 8 = .ok (.ifCond .eq 7, 3) := by decide +kernel
theorem dX8_misses_11 : decode cX8_misses 11 = .ok (.iconst (-1), 1) := by decide +kernel
theorem dX8_misses_12 : decode cX8_misses 12 = .ok (.goto 7, 3) := by decide +kernel
theorem dX8_misses_15 : decode cX8_misses 15 = .ok (.aload_n 0, 1) := by decide +kernel
theorem dX8_misses_16 : decode cX8_misses 16 = .ok (.getfield 322, 3) := by decide +kernel
theorem dX8_misses_19 : decode cX8_misses 19 = .ok (.ireturn, 1) := by decide +kernel
theorem dX8_notices_0 : decode cX8_notices 0 = .ok (.aload_n 0, 1) := by decide +kernel
theorem dX8_notices_1 : decode cX8_notices 1 = .ok (.invokevirtual 343, 3) := by decide +kernel
theorem dX8_notices_4 : decode cX8_notices 4 = .ok (.aload_n 0, 1) := by decide +kernel
theorem dX8_notices_5 : decode cX8_notices 5 = .ok (.getfield 315, 3) := by decide +kernel
theorem dX8_notices_8 : decode cX8_notices 8 = .ok (.ifCond .eq 7, 3) := by decide +kernel
theorem dX8_notices_11 : decode cX8_notices 11 = .ok (.iconst (-1), 1) := by decide +kernel
theorem dX8_notices_12 : decode cX8_notices 12 = .ok (.goto 27, 3) := by decide +kernel
theorem dX8_notices_15 : decode cX8_notices 15 = .ok (.iload_n 1, 1) := by decide +kernel
theorem dX8_notices_16 : decode cX8_notices 16 = .ok (.ifCond .ne 10, 3) := by decide +kernel
theorem dX8_notices_19 : decode cX8_notices 19 = .ok (.aload_n 0, 1) := by decide +kernel
theorem dX8_notices_20 : decode cX8_notices 20 = .ok (.getfield 328, 3) := by decide +kernel
theorem dX8_notices_23 : decode cX8_notices 23 = .ok (.goto 16, 3) := by decide +kernel
theorem dX8_notices_26 : decode cX8_notices 26 = .ok (.iload_n 1, 1) := by decide +kernel
theorem dX8_notices_27 : decode cX8_notices 27 = .ok (.iconst 1, 1) := by decide +kernel
theorem dX8_notices_28 : decode cX8_notices 28 = .ok (.if_icmp .ne 10, 3) := by decide +kernel
theorem dX8_notices_31 : decode cX8_notices 31 = .ok (.aload_n 0, 1) := by decide +kernel
theorem dX8_notices_32 : decode cX8_notices 32 = .ok (.getfield 331, 3) := by decide +kernel
theorem dX8_notices_35 : decode cX8_notices 35 = .ok (.goto 4, 3) := by decide +kernel
theorem dX8_notices_38 : decode cX8_notices 38 = .ok (.iconst (-1), 1) := by decide +kernel
theorem dX8_notices_39 : decode cX8_notices 39 = .ok (.ireturn, 1) := by decide +kernel
theorem dX8_play_0 : decode cX8_play 0 = .ok (.aload_n 0, 1) := by decide +kernel
theorem dX8_play_1 : decode cX8_play 1 = .ok (.invokevirtual 172, 3) := by decide +kernel
theorem dX8_play_4 : decode cX8_play 4 = .ok (.aload_n 0, 1) := by decide +kernel
theorem dX8_play_5 : decode cX8_play 5 = .ok (.iconst 0, 1) := by decide +kernel
theorem dX8_play_6 : decode cX8_play 6 = .ok (.putfield 297, 3) := by decide +kernel
theorem dX8_play_9 : decode cX8_play 9 = .ok (.iconst 0, 1) := by decide +kernel
theorem dX8_play_10 : decode cX8_play 10 = .ok (.istore_n 1, 1) := by decide +kernel
theorem dX8_play_11 : decode cX8_play 11 = .ok (.iload_n 1, 1) := by decide +kernel
theorem dX8_play_12 : decode cX8_play 12 = .ok (.aload_n 0, 1) := by decide +kernel
theorem dX8_play_13 : decode cX8_play 13 = .ok (.getfield 75, 3) := by decide +kernel
theorem dX8_play_16 : decode cX8_play 16 = .ok (.if_icmp .ge 63, 3) := by decide +kernel
theorem dX8_play_19 : decode cX8_play 19 = .ok (.aload_n 0, 1) := by decide +kernel
theorem dX8_play_20 : decode cX8_play 20 = .ok (.getfield 7, 3) := by decide +kernel
theorem dX8_play_23 : decode cX8_play 23 = .ok (.iload_n 1, 1) := by decide +kernel
theorem dX8_play_24 : decode cX8_play 24 = .ok (.baload, 1) := by decide +kernel
theorem dX8_play_25 : decode cX8_play 25 = .ok (.ifCond .ne 14, 3) := by decide +kernel
theorem dX8_play_28 : decode cX8_play 28 = .ok (.aload_n 0, 1) := by decide +kernel
theorem dX8_play_29 : decode cX8_play 29 = .ok (.aload_n 0, 1) := by decide +kernel
theorem dX8_play_30 : decode cX8_play 30 = .ok (.getfield 297, 3) := by decide +kernel
theorem dX8_play_33 : decode cX8_play 33 = .ok (.invokevirtual 340, 3) := by decide +kernel
theorem dX8_play_36 : decode cX8_play 36 = .ok (.goto 25, 3) := by decide +kernel
theorem dX8_play_39 : decode cX8_play 39 = .ok (.aload_n 0, 1) := by decide +kernel
theorem dX8_play_40 : decode cX8_play 40 = .ok (.getfield 7, 3) := by decide +kernel
theorem dX8_play_43 : decode cX8_play 43 = .ok (.iload_n 1, 1) := by decide +kernel
theorem dX8_play_44 : decode cX8_play 44 = .ok (.baload, 1) := by decide +kernel
theorem dX8_play_45 : decode cX8_play 45 = .ok (.iconst 1, 1) := by decide +kernel
theorem dX8_play_46 : decode cX8_play 46 = .ok (.if_icmp .ne 14, 3) := by decide +kernel
theorem dX8_play_49 : decode cX8_play 49 = .ok (.aload_n 0, 1) := by decide +kernel
theorem dX8_play_50 : decode cX8_play 50 = .ok (.aload_n 0, 1) := by decide +kernel
theorem dX8_play_51 : decode cX8_play 51 = .ok (.getfield 297, 3) := by decide +kernel
theorem dX8_play_54 : decode cX8_play 54 = .ok (.invokevirtual 312, 3) := by decide +kernel
theorem dX8_play_57 : decode cX8_play 57 = .ok (.goto 4, 3) := by decide +kernel
theorem dX8_play_60 : decode cX8_play 60 = .ok (.iconst (-1), 1) := by decide +kernel
theorem dX8_play_61 : decode cX8_play 61 = .ok (.istore_n 2, 1) := by decide +kernel
theorem dX8_play_62 : decode cX8_play 62 = .ok (.iload_n 2, 1) := by decide +kernel
theorem dX8_play_63 : decode cX8_play 63 = .ok (.ifCond .ge 5, 3) := by decide +kernel
theorem dX8_play_66 : decode cX8_play 66 = .ok (.iload_n 1, 1) := by decide +kernel
theorem dX8_play_67 : decode cX8_play 67 = .ok (.ireturn, 1) := by decide +kernel
theorem dX8_play_68 : decode cX8_play 68 = .ok (.aload_n 0, 1) := by decide +kernel
theorem dX8_play_69 : decode cX8_play 69 = .ok (.iload_n 2, 1) := by decide +kernel
theorem dX8_play_70 : decode cX8_play 70 = .ok (.putfield 297, 3) := by decide +kernel
theorem dX8_play_73 : decode cX8_play 73 = .ok (.iinc 1 1, 3) := by decide +kernel
theorem dX8_play_76 : decode cX8_play 76 = .ok (.goto (-65), 3) := by decide +kernel
theorem dX8_play_79 : decode cX8_play 79 = .ok (.aload_n 0, 1) := by decide +kernel
theorem dX8_play_80 : decode cX8_play 80 = .ok (.getfield 75, 3) := by decide +kernel
theorem dX8_play_83 : decode cX8_play 83 = .ok (.ireturn, 1) := by decide +kernel
theorem dX8_played_0 : decode cX8_played 0 = .ok (.iload_n 1, 1) := by decide +kernel
theorem dX8_played_1 : decode cX8_played 1 = .ok (.tableswitch 159 0 9 #[55, 64, 73, 82, 92, 102, 112, 122, 132, 142], 55) := by decide +kernel
theorem dX8_played_56 : decode cX8_played 56 = .ok (.aload_n 0, 1) := by decide +kernel
theorem dX8_played_57 : decode cX8_played 57 = .ok (.getfield 297, 3) := by decide +kernel
theorem dX8_played_60 : decode cX8_played 60 = .ok (.iconst 0, 1) := by decide +kernel
theorem dX8_played_61 : decode cX8_played 61 = .ok (.invokestatic 300, 3) := by decide +kernel
theorem dX8_played_64 : decode cX8_played 64 = .ok (.ireturn, 1) := by decide +kernel
theorem dX8_played_65 : decode cX8_played 65 = .ok (.aload_n 0, 1) := by decide +kernel
theorem dX8_played_66 : decode cX8_played 66 = .ok (.getfield 297, 3) := by decide +kernel
theorem dX8_played_69 : decode cX8_played 69 = .ok (.iconst 4, 1) := by decide +kernel
theorem dX8_played_70 : decode cX8_played 70 = .ok (.invokestatic 300, 3) := by decide +kernel
theorem dX8_played_73 : decode cX8_played 73 = .ok (.ireturn, 1) := by decide +kernel
theorem dX8_played_74 : decode cX8_played 74 = .ok (.aload_n 0, 1) := by decide +kernel
theorem dX8_played_75 : decode cX8_played 75 = .ok (.aload_n 0, 1) := by decide +kernel
theorem dX8_played_76 : decode cX8_played 76 = .ok (.getfield 297, 3) := by decide +kernel
theorem dX8_played_79 : decode cX8_played 79 = .ok (.invokevirtual 306, 3) := by decide +kernel
theorem dX8_played_82 : decode cX8_played 82 = .ok (.ireturn, 1) := by decide +kernel
theorem dX8_played_83 : decode cX8_played 83 = .ok (.aload_n 0, 1) := by decide +kernel
theorem dX8_played_84 : decode cX8_played 84 = .ok (.getfield 297, 3) := by decide +kernel
theorem dX8_played_87 : decode cX8_played 87 = .ok (.bipush 8, 2) := by decide +kernel
theorem dX8_played_89 : decode cX8_played 89 = .ok (.invokestatic 300, 3) := by decide +kernel
theorem dX8_played_92 : decode cX8_played 92 = .ok (.ireturn, 1) := by decide +kernel
theorem dX8_played_93 : decode cX8_played 93 = .ok (.aload_n 0, 1) := by decide +kernel
theorem dX8_played_94 : decode cX8_played 94 = .ok (.getfield 297, 3) := by decide +kernel
theorem dX8_played_97 : decode cX8_played 97 = .ok (.bipush 12, 2) := by decide +kernel
theorem dX8_played_99 : decode cX8_played 99 = .ok (.invokestatic 300, 3) := by decide +kernel
theorem dX8_played_102 : decode cX8_played 102 = .ok (.ireturn, 1) := by decide +kernel
theorem dX8_played_103 : decode cX8_played 103 = .ok (.aload_n 0, 1) := by decide +kernel
theorem dX8_played_104 : decode cX8_played 104 = .ok (.getfield 297, 3) := by decide +kernel
theorem dX8_played_107 : decode cX8_played 107 = .ok (.bipush 16, 2) := by decide +kernel
theorem dX8_played_109 : decode cX8_played 109 = .ok (.invokestatic 300, 3) := by decide +kernel
theorem dX8_played_112 : decode cX8_played 112 = .ok (.ireturn, 1) := by decide +kernel
theorem dX8_played_113 : decode cX8_played 113 = .ok (.aload_n 0, 1) := by decide +kernel
theorem dX8_played_114 : decode cX8_played 114 = .ok (.getfield 297, 3) := by decide +kernel
theorem dX8_played_117 : decode cX8_played 117 = .ok (.bipush 20, 2) := by decide +kernel
theorem dX8_played_119 : decode cX8_played 119 = .ok (.invokestatic 300, 3) := by decide +kernel
theorem dX8_played_122 : decode cX8_played 122 = .ok (.ireturn, 1) := by decide +kernel
theorem dX8_played_123 : decode cX8_played 123 = .ok (.aload_n 0, 1) := by decide +kernel
theorem dX8_played_124 : decode cX8_played 124 = .ok (.getfield 297, 3) := by decide +kernel
theorem dX8_played_127 : decode cX8_played 127 = .ok (.bipush 28, 2) := by decide +kernel
theorem dX8_played_129 : decode cX8_played 129 = .ok (.invokestatic 300, 3) := by decide +kernel
theorem dX8_played_132 : decode cX8_played 132 = .ok (.ireturn, 1) := by decide +kernel
theorem dX8_played_133 : decode cX8_played 133 = .ok (.aload_n 0, 1) := by decide +kernel
theorem dX8_played_134 : decode cX8_played 134 = .ok (.getfield 297, 3) := by decide +kernel
theorem dX8_played_137 : decode cX8_played 137 = .ok (.bipush 24, 2) := by decide +kernel
theorem dX8_played_139 : decode cX8_played 139 = .ok (.invokestatic 300, 3) := by decide +kernel
theorem dX8_played_142 : decode cX8_played 142 = .ok (.ireturn, 1) := by decide +kernel
theorem dX8_played_143 : decode cX8_played 143 = .ok (.aload_n 0, 1) := by decide +kernel
theorem dX8_played_144 : decode cX8_played 144 = .ok (.aload_n 0, 1) := by decide +kernel
theorem dX8_played_145 : decode cX8_played 145 = .ok (.getfield 297, 3) := by decide +kernel
theorem dX8_played_148 : decode cX8_played 148 = .ok (.invokevirtual 337, 3) := by decide +kernel
theorem dX8_played_151 : decode cX8_played 151 = .ok (.ifCond .eq 7, 3) := by decide +kernel
theorem dX8_played_154 : decode cX8_played 154 = .ok (.iconst 1, 1) := by decide +kernel
theorem dX8_played_155 : decode cX8_played 155 = .ok (.goto 4, 3) := by decide +kernel
theorem dX8_played_158 : decode cX8_played 158 = .ok (.iconst 0, 1) := by decide +kernel
theorem dX8_played_159 : decode cX8_played 159 = .ok (.ireturn, 1) := by decide +kernel
theorem dX8_played_160 : decode cX8_played 160 = .ok (.iconst (-1), 1) := by decide +kernel
theorem dX8_played_161 : decode cX8_played 161 = .ok (.ireturn, 1) := by decide +kernel
theorem dX8_draw_0 : decode cX8_draw 0 = .ok (.aload_n 0, 1) := by decide +kernel
theorem dX8_draw_1 : decode cX8_draw 1 = .ok (.aload_n 0, 1) := by decide +kernel
theorem dX8_draw_2 : decode cX8_draw 2 = .ok (.getfield 349, 3) := by decide +kernel
theorem dX8_draw_5 : decode cX8_draw 5 = .ok (.ldc_w 352, 3) := by decide +kernel
theorem dX8_draw_8 : decode cX8_draw 8 = .ok (.imul, 1) := by decide +kernel
theorem dX8_draw_9 : decode cX8_draw 9 = .ok (.sipush 12345, 3) := by decide +kernel
theorem dX8_draw_12 : decode cX8_draw 12 = .ok (.iadd, 1) := by decide +kernel
theorem dX8_draw_13 : decode cX8_draw 13 = .ok (.putfield 349, 3) := by decide +kernel
theorem dX8_draw_16 : decode cX8_draw 16 = .ok (.aload_n 0, 1) := by decide +kernel
theorem dX8_draw_17 : decode cX8_draw 17 = .ok (.getfield 349, 3) := by decide +kernel
theorem dX8_draw_20 : decode cX8_draw 20 = .ok (.bipush 8, 2) := by decide +kernel
theorem dX8_draw_22 : decode cX8_draw 22 = .ok (.iushr, 1) := by decide +kernel
theorem dX8_draw_23 : decode cX8_draw 23 = .ok (.iload_n 1, 1) := by decide +kernel
theorem dX8_draw_24 : decode cX8_draw 24 = .ok (.irem, 1) := by decide +kernel
theorem dX8_draw_25 : decode cX8_draw 25 = .ok (.ireturn, 1) := by decide +kernel
theorem dX8_drawsOffer_0 : decode cX8_drawsOffer 0 = .ok (.aload_n 0, 1) := by decide +kernel
theorem dX8_drawsOffer_1 : decode cX8_drawsOffer 1 = .ok (.iconst 3, 1) := by decide +kernel
theorem dX8_drawsOffer_2 : decode cX8_drawsOffer 2 = .ok (.invokevirtual 353, 3) := by decide +kernel
theorem dX8_drawsOffer_5 : decode cX8_drawsOffer 5 = .ok (.iconst 1, 1) := by decide +kernel
theorem dX8_drawsOffer_6 : decode cX8_drawsOffer 6 = .ok (.iadd, 1) := by decide +kernel
theorem dX8_drawsOffer_7 : decode cX8_drawsOffer 7 = .ok (.istore_n 1, 1) := by decide +kernel
theorem dX8_drawsOffer_8 : decode cX8_drawsOffer 8 = .ok (.aload_n 0, 1) := by decide +kernel
theorem dX8_drawsOffer_9 : decode cX8_drawsOffer 9 = .ok (.iload_n 1, 1) := by decide +kernel
theorem dX8_drawsOffer_10 : decode cX8_drawsOffer 10 = .ok (.aload_n 0, 1) := by decide +kernel
theorem dX8_drawsOffer_11 : decode cX8_drawsOffer 11 = .ok (.iconst 2, 1) := by decide +kernel
theorem dX8_drawsOffer_12 : decode cX8_drawsOffer 12 = .ok (.invokevirtual 353, 3) := by decide +kernel
theorem dX8_drawsOffer_15 : decode cX8_drawsOffer 15 = .ok (.iadd, 1) := by decide +kernel
theorem dX8_drawsOffer_16 : decode cX8_drawsOffer 16 = .ok (.putfield 111, 3) := by decide +kernel
theorem dX8_drawsOffer_19 : decode cX8_drawsOffer 19 = .ok (.aload_n 0, 1) := by decide +kernel
theorem dX8_drawsOffer_20 : decode cX8_drawsOffer 20 = .ok (.iconst 0, 1) := by decide +kernel
theorem dX8_drawsOffer_21 : decode cX8_drawsOffer 21 = .ok (.putfield 114, 3) := by decide +kernel
theorem dX8_drawsOffer_24 : decode cX8_drawsOffer 24 = .ok (.iconst 0, 1) := by decide +kernel
theorem dX8_drawsOffer_25 : decode cX8_drawsOffer 25 = .ok (.istore_n 2, 1) := by decide +kernel
theorem dX8_drawsOffer_26 : decode cX8_drawsOffer 26 = .ok (.iload_n 2, 1) := by decide +kernel
theorem dX8_drawsOffer_27 : decode cX8_drawsOffer 27 = .ok (.aload_n 0, 1) := by decide +kernel
theorem dX8_drawsOffer_28 : decode cX8_drawsOffer 28 = .ok (.getfield 111, 3) := by decide +kernel
theorem dX8_drawsOffer_31 : decode cX8_drawsOffer 31 = .ok (.if_icmp .ge 43, 3) := by decide +kernel
theorem dX8_drawsOffer_34 : decode cX8_drawsOffer 34 = .ok (.aload_n 0, 1) := by decide +kernel
theorem dX8_drawsOffer_35 : decode cX8_drawsOffer 35 = .ok (.getfield 24, 3) := by decide +kernel
theorem dX8_drawsOffer_38 : decode cX8_drawsOffer 38 = .ok (.iload_n 2, 1) := by decide +kernel
theorem dX8_drawsOffer_39 : decode cX8_drawsOffer 39 = .ok (.iload_n 2, 1) := by decide +kernel
theorem dX8_drawsOffer_40 : decode cX8_drawsOffer 40 = .ok (.iload_n 1, 1) := by decide +kernel
theorem dX8_drawsOffer_41 : decode cX8_drawsOffer 41 = .ok (.if_icmp .ge 7, 3) := by decide +kernel
theorem dX8_drawsOffer_44 : decode cX8_drawsOffer 44 = .ok (.iconst 4, 1) := by decide +kernel
theorem dX8_drawsOffer_45 : decode cX8_drawsOffer 45 = .ok (.goto 5, 3) := by decide +kernel
theorem dX8_drawsOffer_48 : decode cX8_drawsOffer 48 = .ok (.bipush 9, 2) := by decide +kernel
theorem dX8_drawsOffer_50 : decode cX8_drawsOffer 50 = .ok (.iastore, 1) := by decide +kernel
theorem dX8_drawsOffer_51 : decode cX8_drawsOffer 51 = .ok (.iload_n 2, 1) := by decide +kernel
theorem dX8_drawsOffer_52 : decode cX8_drawsOffer 52 = .ok (.iload_n 1, 1) := by decide +kernel
theorem dX8_drawsOffer_53 : decode cX8_drawsOffer 53 = .ok (.if_icmp .lt 15, 3) := by decide +kernel
theorem dX8_drawsOffer_56 : decode cX8_drawsOffer 56 = .ok (.aload_n 0, 1) := by decide +kernel
theorem dX8_drawsOffer_57 : decode cX8_drawsOffer 57 = .ok (.dup, 1) := by decide +kernel
theorem dX8_drawsOffer_58 : decode cX8_drawsOffer 58 = .ok (.getfield 114, 3) := by decide +kernel
theorem dX8_drawsOffer_61 : decode cX8_drawsOffer 61 = .ok (.iconst 1, 1) := by decide +kernel
theorem dX8_drawsOffer_62 : decode cX8_drawsOffer 62 = .ok (.iload_n 2, 1) := by decide +kernel
theorem dX8_drawsOffer_63 : decode cX8_drawsOffer 63 = .ok (.ishl, 1) := by decide +kernel
theorem dX8_drawsOffer_64 : decode cX8_drawsOffer 64 = .ok (.ior, 1) := by decide +kernel
theorem dX8_drawsOffer_65 : decode cX8_drawsOffer 65 = .ok (.putfield 114, 3) := by decide +kernel
theorem dX8_drawsOffer_68 : decode cX8_drawsOffer 68 = .ok (.iinc 2 1, 3) := by decide +kernel
theorem dX8_drawsOffer_71 : decode cX8_drawsOffer 71 = .ok (.goto (-45), 3) := by decide +kernel
theorem dX8_drawsOffer_74 : decode cX8_drawsOffer 74 = .ok (.aload_n 0, 1) := by decide +kernel
theorem dX8_drawsOffer_75 : decode cX8_drawsOffer 75 = .ok (.iconst 0, 1) := by decide +kernel
theorem dX8_drawsOffer_76 : decode cX8_drawsOffer 76 = .ok (.invokevirtual 178, 3) := by decide +kernel
theorem dX8_drawsOffer_79 : decode cX8_drawsOffer 79 = .ok (.ifCond .lt 7, 3) := by decide +kernel
theorem dX8_drawsOffer_82 : decode cX8_drawsOffer 82 = .ok (.iconst 1, 1) := by decide +kernel
theorem dX8_drawsOffer_83 : decode cX8_drawsOffer 83 = .ok (.goto 4, 3) := by decide +kernel
theorem dX8_drawsOffer_86 : decode cX8_drawsOffer 86 = .ok (.iconst 0, 1) := by decide +kernel
theorem dX8_drawsOffer_87 : decode cX8_drawsOffer 87 = .ok (.ireturn, 1) := by decide +kernel
theorem dX8_drawsFinish_0 : decode cX8_drawsFinish 0 = .ok (.aload_n 0, 1) := by decide +kernel
theorem dX8_drawsFinish_1 : decode cX8_drawsFinish 1 = .ok (.invokevirtual 246, 3) := by decide +kernel
theorem dX8_drawsFinish_4 : decode cX8_drawsFinish 4 = .ok (.istore_n 1, 1) := by decide +kernel
theorem dX8_drawsFinish_5 : decode cX8_drawsFinish 5 = .ok (.iload_n 1, 1) := by decide +kernel
theorem dX8_drawsFinish_6 : decode cX8_drawsFinish 6 = .ok (.ifCond .lt 21, 3) := by decide +kernel
theorem dX8_drawsFinish_9 : decode cX8_drawsFinish 9 = .ok (.aload_n 0, 1) := by decide +kernel
theorem dX8_drawsFinish_10 : decode cX8_drawsFinish 10 = .ok (.iload_n 1, 1) := by decide +kernel
theorem dX8_drawsFinish_11 : decode cX8_drawsFinish 11 = .ok (.aload_n 0, 1) := by decide +kernel
theorem dX8_drawsFinish_12 : decode cX8_drawsFinish 12 = .ok (.bipush 10, 2) := by decide +kernel
theorem dX8_drawsFinish_14 : decode cX8_drawsFinish 14 = .ok (.invokevirtual 353, 3) := by decide +kernel
theorem dX8_drawsFinish_17 : decode cX8_drawsFinish 17 = .ok (.invokevirtual 356, 3) := by decide +kernel
theorem dX8_drawsFinish_20 : decode cX8_drawsFinish 20 = .ok (.ifCond .ne 7, 3) := by decide +kernel
theorem dX8_drawsFinish_23 : decode cX8_drawsFinish 23 = .ok (.iconst 1, 1) := by decide +kernel
theorem dX8_drawsFinish_24 : decode cX8_drawsFinish 24 = .ok (.goto 4, 3) := by decide +kernel
theorem dX8_drawsFinish_27 : decode cX8_drawsFinish 27 = .ok (.iconst 0, 1) := by decide +kernel
theorem dX8_drawsFinish_28 : decode cX8_drawsFinish 28 = .ok (.ireturn, 1) := by decide +kernel
theorem dX8_drawDeed_0 : decode cX8_drawDeed 0 = .ok (.aload_n 0, 1) := by decide +kernel
theorem dX8_drawDeed_1 : decode cX8_drawDeed 1 = .ok (.bipush 8, 2) := by decide +kernel
theorem dX8_drawDeed_3 : decode cX8_drawDeed 3 = .ok (.invokevirtual 353, 3) := by decide +kernel
theorem dX8_drawDeed_6 : decode cX8_drawDeed 6 = .ok (.istore_n 1, 1) := by decide +kernel
theorem dX8_drawDeed_7 : decode cX8_drawDeed 7 = .ok (.iload_n 1, 1) := by decide +kernel
theorem dX8_drawDeed_8 : decode cX8_drawDeed 8 = .ok (.iconst 2, 1) := by decide +kernel
theorem dX8_drawDeed_9 : decode cX8_drawDeed 9 = .ok (.if_icmp .ge 8, 3) := by decide +kernel
theorem dX8_drawDeed_12 : decode cX8_drawDeed 12 = .ok (.aload_n 0, 1) := by decide +kernel
theorem dX8_drawDeed_13 : decode cX8_drawDeed 13 = .ok (.invokevirtual 359, 3) := by decide +kernel
theorem dX8_drawDeed_16 : decode cX8_drawDeed 16 = .ok (.ireturn, 1) := by decide +kernel
theorem dX8_drawDeed_17 : decode cX8_drawDeed 17 = .ok (.iload_n 1, 1) := by decide +kernel
theorem dX8_drawDeed_18 : decode cX8_drawDeed 18 = .ok (.iconst 4, 1) := by decide +kernel
theorem dX8_drawDeed_19 : decode cX8_drawDeed 19 = .ok (.if_icmp .ge 16, 3) := by decide +kernel
theorem dX8_drawDeed_22 : decode cX8_drawDeed 22 = .ok (.aload_n 0, 1) := by decide +kernel
theorem dX8_drawDeed_23 : decode cX8_drawDeed 23 = .ok (.invokevirtual 362, 3) := by decide +kernel
theorem dX8_drawDeed_26 : decode cX8_drawDeed 26 = .ok (.ifCond .lt 7, 3) := by decide +kernel
theorem dX8_drawDeed_29 : decode cX8_drawDeed 29 = .ok (.iconst 1, 1) := by decide +kernel
theorem dX8_drawDeed_30 : decode cX8_drawDeed 30 = .ok (.goto 4, 3) := by decide +kernel
theorem dX8_drawDeed_33 : decode cX8_drawDeed 33 = .ok (.iconst 0, 1) := by decide +kernel
theorem dX8_drawDeed_34 : decode cX8_drawDeed 34 = .ok (.ireturn, 1) := by decide +kernel
theorem dX8_drawDeed_35 : decode cX8_drawDeed 35 = .ok (.iload_n 1, 1) := by decide +kernel
theorem dX8_drawDeed_36 : decode cX8_drawDeed 36 = .ok (.bipush 6, 2) := by decide +kernel
theorem dX8_drawDeed_38 : decode cX8_drawDeed 38 = .ok (.if_icmp .ge 8, 3) := by decide +kernel
theorem dX8_drawDeed_41 : decode cX8_drawDeed 41 = .ok (.aload_n 0, 1) := by decide +kernel
theorem dX8_drawDeed_42 : decode cX8_drawDeed 42 = .ok (.invokevirtual 365, 3) := by decide +kernel
theorem dX8_drawDeed_45 : decode cX8_drawDeed 45 = .ok (.ireturn, 1) := by decide +kernel
theorem dX8_drawDeed_46 : decode cX8_drawDeed 46 = .ok (.iload_n 1, 1) := by decide +kernel
theorem dX8_drawDeed_47 : decode cX8_drawDeed 47 = .ok (.bipush 6, 2) := by decide +kernel
theorem dX8_drawDeed_49 : decode cX8_drawDeed 49 = .ok (.if_icmp .ne 16, 3) := by decide +kernel
theorem dX8_drawDeed_52 : decode cX8_drawDeed 52 = .ok (.aload_n 0, 1) := by decide +kernel
theorem dX8_drawDeed_53 : decode cX8_drawDeed 53 = .ok (.invokevirtual 368, 3) := by decide +kernel
theorem dX8_drawDeed_56 : decode cX8_drawDeed 56 = .ok (.ifCond .lt 7, 3) := by decide +kernel
theorem dX8_drawDeed_59 : decode cX8_drawDeed 59 = .ok (.iconst 1, 1) := by decide +kernel
theorem dX8_drawDeed_60 : decode cX8_drawDeed 60 = .ok (.goto 4, 3) := by decide +kernel
theorem dX8_drawDeed_63 : decode cX8_drawDeed 63 = .ok (.iconst 0, 1) := by decide +kernel
theorem dX8_drawDeed_64 : decode cX8_drawDeed 64 = .ok (.ireturn, 1) := by decide +kernel
theorem dX8_drawDeed_65 : decode cX8_drawDeed 65 = .ok (.aload_n 0, 1) := by decide +kernel
theorem dX8_drawDeed_66 : decode cX8_drawDeed 66 = .ok (.invokevirtual 371, 3) := by decide +kernel
theorem dX8_drawDeed_69 : decode cX8_drawDeed 69 = .ok (.istore_n 2, 1) := by decide +kernel
theorem dX8_drawDeed_70 : decode cX8_drawDeed 70 = .ok (.iload_n 2, 1) := by decide +kernel
theorem dX8_drawDeed_71 : decode cX8_drawDeed 71 = .ok (.aload_n 0, 1) := by decide +kernel
theorem dX8_drawDeed_72 : decode cX8_drawDeed 72 = .ok (.invokevirtual 374, 3) := by decide +kernel
theorem dX8_drawDeed_75 : decode cX8_drawDeed 75 = .ok (.iadd, 1) := by decide +kernel
theorem dX8_drawDeed_76 : decode cX8_drawDeed 76 = .ok (.ifCond .le 7, 3) := by decide +kernel
theorem dX8_drawDeed_79 : decode cX8_drawDeed 79 = .ok (.iconst 1, 1) := by decide +kernel
theorem dX8_drawDeed_80 : decode cX8_drawDeed 80 = .ok (.goto 4, 3) := by decide +kernel
theorem dX8_drawDeed_83 : decode cX8_drawDeed 83 = .ok (.iconst 0, 1) := by decide +kernel
theorem dX8_drawDeed_84 : decode cX8_drawDeed 84 = .ok (.ireturn, 1) := by decide +kernel
theorem dX8_drawn_0 : decode cX8_drawn 0 = .ok (.iload_n 1, 1) := by decide +kernel
theorem dX8_drawn_1 : decode cX8_drawn 1 = .ok (.iconst 1, 1) := by decide +kernel
theorem dX8_drawn_2 : decode cX8_drawn 2 = .ok (.bipush 60, 2) := by decide +kernel
theorem dX8_drawn_4 : decode cX8_drawn 4 = .ok (.invokestatic 93, 3) := by decide +kernel
theorem dX8_drawn_7 : decode cX8_drawn 7 = .ok (.ifCond .ne 5, 3) := by decide +kernel
theorem dX8_drawn_10 : decode cX8_drawn 10 = .ok (.iconst (-1), 1) := by decide +kernel
theorem dX8_drawn_11 : decode cX8_drawn 11 = .ok (.ireturn, 1) := by decide +kernel
theorem dX8_drawn_12 : decode cX8_drawn 12 = .ok (.aload_n 0, 1) := by decide +kernel
theorem dX8_drawn_13 : decode cX8_drawn 13 = .ok (.iload_n 2, 1) := by decide +kernel
theorem dX8_drawn_14 : decode cX8_drawn 14 = .ok (.putfield 349, 3) := by decide +kernel
theorem dX8_drawn_17 : decode cX8_drawn 17 = .ok (.iconst 0, 1) := by decide +kernel
theorem dX8_drawn_18 : decode cX8_drawn 18 = .ok (.istore_n 3, 1) := by decide +kernel
theorem dX8_drawn_19 : decode cX8_drawn 19 = .ok (.iconst 0, 1) := by decide +kernel
theorem dX8_drawn_20 : decode cX8_drawn 20 = .ok (.istore 4, 2) := by decide +kernel
theorem dX8_drawn_22 : decode cX8_drawn 22 = .ok (.iload 4, 2) := by decide +kernel
theorem dX8_drawn_24 : decode cX8_drawn 24 = .ok (.iload_n 1, 1) := by decide +kernel
theorem dX8_drawn_25 : decode cX8_drawn 25 = .ok (.if_icmp .ge 24, 3) := by decide +kernel
theorem dX8_drawn_28 : decode cX8_drawn 28 = .ok (.iload_n 3, 1) := by decide +kernel
theorem dX8_drawn_29 : decode cX8_drawn 29 = .ok (.aload_n 0, 1) := by decide +kernel
theorem dX8_drawn_30 : decode cX8_drawn 30 = .ok (.invokevirtual 377, 3) := by decide +kernel
theorem dX8_drawn_33 : decode cX8_drawn 33 = .ok (.ifCond .eq 7, 3) := by decide +kernel
theorem dX8_drawn_36 : decode cX8_drawn 36 = .ok (.iconst 1, 1) := by decide +kernel
theorem dX8_drawn_37 : decode cX8_drawn 37 = .ok (.goto 4, 3) := by decide +kernel
theorem dX8_drawn_40 : decode cX8_drawn 40 = .ok (.iconst 0, 1) := by decide +kernel
theorem dX8_drawn_41 : decode cX8_drawn 41 = .ok (.iadd, 1) := by decide +kernel
theorem dX8_drawn_42 : decode cX8_drawn 42 = .ok (.istore_n 3, 1) := by decide +kernel
theorem dX8_drawn_43 : decode cX8_drawn 43 = .ok (.iinc 4 1, 3) := by decide +kernel
theorem dX8_drawn_46 : decode cX8_drawn 46 = .ok (.goto (-24), 3) := by decide +kernel
theorem dX8_drawn_49 : decode cX8_drawn 49 = .ok (.iload_n 3, 1) := by decide +kernel
theorem dX8_drawn_50 : decode cX8_drawn 50 = .ok (.ireturn, 1) := by decide +kernel
theorem dX8_image_0 : decode cX8_image 0 = .ok (.iload_n 1, 1) := by decide +kernel
theorem dX8_image_1 : decode cX8_image 1 = .ok (.iconst 0, 1) := by decide +kernel
theorem dX8_image_2 : decode cX8_image 2 = .ok (.iconst 1, 1) := by decide +kernel
theorem dX8_image_3 : decode cX8_image 3 = .ok (.invokestatic 93, 3) := by decide +kernel
theorem dX8_image_6 : decode cX8_image 6 = .ok (.ifCond .ne 5, 3) := by decide +kernel
theorem dX8_image_9 : decode cX8_image 9 = .ok (.iconst 0, 1) := by decide +kernel
theorem dX8_image_10 : decode cX8_image 10 = .ok (.ireturn, 1) := by decide +kernel
theorem dX8_image_11 : decode cX8_image 11 = .ok (.iconst 0, 1) := by decide +kernel
theorem dX8_image_12 : decode cX8_image 12 = .ok (.istore_n 2, 1) := by decide +kernel
theorem dX8_image_13 : decode cX8_image 13 = .ok (.iload_n 2, 1) := by decide +kernel
theorem dX8_image_14 : decode cX8_image 14 = .ok (.sipush 4668, 3) := by decide +kernel
theorem dX8_image_17 : decode cX8_image 17 = .ok (.if_icmp .ge 27, 3) := by decide +kernel
theorem dX8_image_20 : decode cX8_image 20 = .ok (.aload_n 0, 1) := by decide +kernel
theorem dX8_image_21 : decode cX8_image 21 = .ok (.getfield 17, 3) := by decide +kernel
theorem dX8_image_24 : decode cX8_image 24 = .ok (.sipush 4668, 3) := by decide +kernel
theorem dX8_image_27 : decode cX8_image 27 = .ok (.iload_n 1, 1) := by decide +kernel
theorem dX8_image_28 : decode cX8_image 28 = .ok (.imul, 1) := by decide +kernel
theorem dX8_image_29 : decode cX8_image 29 = .ok (.iload_n 2, 1) := by decide +kernel
theorem dX8_image_30 : decode cX8_image 30 = .ok (.iadd, 1) := by decide +kernel
theorem dX8_image_31 : decode cX8_image 31 = .ok (.aload_n 0, 1) := by decide +kernel
theorem dX8_image_32 : decode cX8_image 32 = .ok (.getfield 13, 3) := by decide +kernel
theorem dX8_image_35 : decode cX8_image 35 = .ok (.iload_n 2, 1) := by decide +kernel
theorem dX8_image_36 : decode cX8_image 36 = .ok (.iaload, 1) := by decide +kernel
theorem dX8_image_37 : decode cX8_image 37 = .ok (.iastore, 1) := by decide +kernel
theorem dX8_image_38 : decode cX8_image 38 = .ok (.iinc 2 1, 3) := by decide +kernel
theorem dX8_image_41 : decode cX8_image 41 = .ok (.goto (-28), 3) := by decide +kernel
theorem dX8_image_44 : decode cX8_image 44 = .ok (.aload_n 0, 1) := by decide +kernel
theorem dX8_image_45 : decode cX8_image 45 = .ok (.getfield 20, 3) := by decide +kernel
theorem dX8_image_48 : decode cX8_image 48 = .ok (.iload_n 1, 1) := by decide +kernel
theorem dX8_image_49 : decode cX8_image 49 = .ok (.iconst 1, 1) := by decide +kernel
theorem dX8_image_50 : decode cX8_image 50 = .ok (.bastore, 1) := by decide +kernel
theorem dX8_image_51 : decode cX8_image 51 = .ok (.iconst 1, 1) := by decide +kernel
theorem dX8_image_52 : decode cX8_image 52 = .ok (.ireturn, 1) := by decide +kernel
theorem dX8_restore_0 : decode cX8_restore 0 = .ok (.iload_n 1, 1) := by decide +kernel
theorem dX8_restore_1 : decode cX8_restore 1 = .ok (.iconst 0, 1) := by decide +kernel
theorem dX8_restore_2 : decode cX8_restore 2 = .ok (.iconst 1, 1) := by decide +kernel
theorem dX8_restore_3 : decode cX8_restore 3 = .ok (.invokestatic 93, 3) := by decide +kernel
theorem dX8_restore_6 : decode cX8_restore 6 = .ok (.ifCond .eq 12, 3) := by decide +kernel
theorem dX8_restore_9 : decode cX8_restore 9 = .ok (.aload_n 0, 1) := by decide +kernel
theorem dX8_restore_10 : decode cX8_restore 10 = .ok (.getfield 20, 3) := by decide +kernel
theorem dX8_restore_13 : decode cX8_restore 13 = .ok (.iload_n 1, 1) := by decide +kernel
theorem dX8_restore_14 : decode cX8_restore 14 = .ok (.baload, 1) := by decide +kernel
theorem dX8_restore_15 : decode cX8_restore 15 = .ok (.ifCond .ne 5, 3) := by decide +kernel
theorem dX8_restore_18 : decode cX8_restore 18 = .ok (.iconst 0, 1) := by decide +kernel
theorem dX8_restore_19 : decode cX8_restore 19 = .ok (.ireturn, 1) := by decide +kernel
theorem dX8_restore_20 : decode cX8_restore 20 = .ok (.iconst 0, 1) := by decide +kernel
theorem dX8_restore_21 : decode cX8_restore 21 = .ok (.istore_n 2, 1) := by decide +kernel
theorem dX8_restore_22 : decode cX8_restore 22 = .ok (.iload_n 2, 1) := by decide +kernel
theorem dX8_restore_23 : decode cX8_restore 23 = .ok (.sipush 4668, 3) := by decide +kernel
theorem dX8_restore_26 : decode cX8_restore 26 = .ok (.if_icmp .ge 27, 3) := by decide +kernel
theorem dX8_restore_29 : decode cX8_restore 29 = .ok (.aload_n 0, 1) := by decide +kernel
theorem dX8_restore_30 : decode cX8_restore 30 = .ok (.getfield 13, 3) := by decide +kernel
theorem dX8_restore_33 : decode cX8_restore 33 = .ok (.iload_n 2, 1) := by decide +kernel
theorem dX8_restore_34 : decode cX8_restore 34 = .ok (.aload_n 0, 1) := by decide +kernel
theorem dX8_restore_35 : decode cX8_restore 35 = .ok (.getfield 17, 3) := by decide +kernel
theorem dX8_restore_38 : decode cX8_restore 38 = .ok (.sipush 4668, 3) := by decide +kernel
theorem dX8_restore_41 : decode cX8_restore 41 = .ok (.iload_n 1, 1) := by decide +kernel
theorem dX8_restore_42 : decode cX8_restore 42 = .ok (.imul, 1) := by decide +kernel
theorem dX8_restore_43 : decode cX8_restore 43 = .ok (.iload_n 2, 1) := by decide +kernel
theorem dX8_restore_44 : decode cX8_restore 44 = .ok (.iadd, 1) := by decide +kernel
theorem dX8_restore_45 : decode cX8_restore 45 = .ok (.iaload, 1) := by decide +kernel
theorem dX8_restore_46 : decode cX8_restore 46 = .ok (.iastore, 1) := by decide +kernel
theorem dX8_restore_47 : decode cX8_restore 47 = .ok (.iinc 2 1, 3) := by decide +kernel
theorem dX8_restore_50 : decode cX8_restore 50 = .ok (.goto (-28), 3) := by decide +kernel
theorem dX8_restore_53 : decode cX8_restore 53 = .ok (.iconst 1, 1) := by decide +kernel
theorem dX8_restore_54 : decode cX8_restore 54 = .ok (.ireturn, 1) := by decide +kernel
theorem dX8_count_0 : decode cX8_count 0 = .ok (.iload_n 1, 1) := by decide +kernel
theorem dX8_count_1 : decode cX8_count 1 = .ok (.tableswitch 88 0 6 #[43, 50, 57, 64, 69, 74, 81], 43) := by decide +kernel
theorem dX8_count_44 : decode cX8_count 44 = .ok (.aload_n 0, 1) := by decide +kernel
theorem dX8_count_45 : decode cX8_count 45 = .ok (.getfield 13, 3) := by decide +kernel
theorem dX8_count_48 : decode cX8_count 48 = .ok (.iconst 0, 1) := by decide +kernel
theorem dX8_count_49 : decode cX8_count 49 = .ok (.iaload, 1) := by decide +kernel
theorem dX8_count_50 : decode cX8_count 50 = .ok (.ireturn, 1) := by decide +kernel
theorem dX8_count_51 : decode cX8_count 51 = .ok (.aload_n 0, 1) := by decide +kernel
theorem dX8_count_52 : decode cX8_count 52 = .ok (.getfield 13, 3) := by decide +kernel
theorem dX8_count_55 : decode cX8_count 55 = .ok (.iconst 1, 1) := by decide +kernel
theorem dX8_count_56 : decode cX8_count 56 = .ok (.iaload, 1) := by decide +kernel
theorem dX8_count_57 : decode cX8_count 57 = .ok (.ireturn, 1) := by decide +kernel
theorem dX8_count_58 : decode cX8_count 58 = .ok (.aload_n 0, 1) := by decide +kernel
theorem dX8_count_59 : decode cX8_count 59 = .ok (.getfield 13, 3) := by decide +kernel
theorem dX8_count_62 : decode cX8_count 62 = .ok (.iconst 2, 1) := by decide +kernel
theorem dX8_count_63 : decode cX8_count 63 = .ok (.iaload, 1) := by decide +kernel
theorem dX8_count_64 : decode cX8_count 64 = .ok (.ireturn, 1) := by decide +kernel
theorem dX8_count_65 : decode cX8_count 65 = .ok (.aload_n 0, 1) := by decide +kernel
theorem dX8_count_66 : decode cX8_count 66 = .ok (.invokevirtual 89, 3) := by decide +kernel
theorem dX8_count_69 : decode cX8_count 69 = .ok (.ireturn, 1) := by decide +kernel
theorem dX8_count_70 : decode cX8_count 70 = .ok (.aload_n 0, 1) := by decide +kernel
theorem dX8_count_71 : decode cX8_count 71 = .ok (.getfield 68, 3) := by decide +kernel
theorem dX8_count_74 : decode cX8_count 74 = .ok (.ireturn, 1) := by decide +kernel
theorem dX8_count_75 : decode cX8_count 75 = .ok (.aload_n 0, 1) := by decide +kernel
theorem dX8_count_76 : decode cX8_count 76 = .ok (.getfield 46, 3) := by decide +kernel
theorem dX8_count_79 : decode cX8_count 79 = .ok (.iconst 0, 1) := by decide +kernel
theorem dX8_count_80 : decode cX8_count 80 = .ok (.iaload, 1) := by decide +kernel
theorem dX8_count_81 : decode cX8_count 81 = .ok (.ireturn, 1) := by decide +kernel
theorem dX8_count_82 : decode cX8_count 82 = .ok (.aload_n 0, 1) := by decide +kernel
theorem dX8_count_83 : decode cX8_count 83 = .ok (.getfield 46, 3) := by decide +kernel
theorem dX8_count_86 : decode cX8_count 86 = .ok (.iconst 1, 1) := by decide +kernel
theorem dX8_count_87 : decode cX8_count 87 = .ok (.iaload, 1) := by decide +kernel
theorem dX8_count_88 : decode cX8_count 88 = .ok (.ireturn, 1) := by decide +kernel
theorem dX8_count_89 : decode cX8_count 89 = .ok (.iconst (-1), 1) := by decide +kernel
theorem dX8_count_90 : decode cX8_count 90 = .ok (.ireturn, 1) := by decide +kernel
theorem dJ7_fill_53178_0 : decode cJ7_fill_53178 0 = .ok (.iconst 0, 1) := by decide +kernel
theorem dJ7_fill_53178_1 : decode cJ7_fill_53178 1 = .ok (.istore_n 2, 1) := by decide +kernel
theorem dJ7_fill_53178_2 : decode cJ7_fill_53178 2 = .ok (.aload_n 0, 1) := by decide +kernel
theorem dJ7_fill_53178_3 : decode cJ7_fill_53178 3 = .ok (.arraylength, 1) := by decide +kernel
theorem dJ7_fill_53178_4 : decode cJ7_fill_53178 4 = .ok (.istore_n 3, 1) := by decide +kernel
theorem dJ7_fill_53178_5 : decode cJ7_fill_53178 5 = .ok (.iload_n 2, 1) := by decide +kernel
theorem dJ7_fill_53178_6 : decode cJ7_fill_53178 6 = .ok (.iload_n 3, 1) := by decide +kernel
theorem dJ7_fill_53178_7 : decode cJ7_fill_53178 7 = .ok (.if_icmp .ge 13, 3) := by decide +kernel
theorem dJ7_fill_53178_10 : decode cJ7_fill_53178 10 = .ok (.aload_n 0, 1) := by decide +kernel
theorem dJ7_fill_53178_11 : decode cJ7_fill_53178 11 = .ok (.iload_n 2, 1) := by decide +kernel
theorem dJ7_fill_53178_12 : decode cJ7_fill_53178 12 = .ok (.iload_n 1, 1) := by decide +kernel
theorem dJ7_fill_53178_13 : decode cJ7_fill_53178 13 = .ok (.iastore, 1) := by decide +kernel
theorem dJ7_fill_53178_14 : decode cJ7_fill_53178 14 = .ok (.iinc 2 1, 3) := by decide +kernel
theorem dJ7_fill_53178_17 : decode cJ7_fill_53178 17 = .ok (.goto (-12), 3) := by decide +kernel
theorem dJ7_fill_53178_20 : decode cJ7_fill_53178 20 = .ok (.return_, 1) := by decide +kernel
theorem dL_law_0 : decode cL_law 0 = .ok (.new 7, 3) := by decide +kernel
theorem dL_law_3 : decode cL_law 3 = .ok (.dup, 1) := by decide +kernel
theorem dL_law_4 : decode cL_law 4 = .ok (.invokespecial 9, 3) := by decide +kernel
theorem dL_law_7 : decode cL_law 7 = .ok (.astore_n 1, 1) := by decide +kernel
theorem dL_law_8 : decode cL_law 8 = .ok (.new 10, 3) := by decide +kernel
theorem dL_law_11 : decode cL_law 11 = .ok (.dup, 1) := by decide +kernel
theorem dL_law_12 : decode cL_law 12 = .ok (.invokespecial 12, 3) := by decide +kernel
theorem dL_law_15 : decode cL_law 15 = .ok (.astore_n 2, 1) := by decide +kernel
theorem dL_law_16 : decode cL_law 16 = .ok (.iconst 0, 1) := by decide +kernel
theorem dL_law_17 : decode cL_law 17 = .ok (.istore_n 3, 1) := by decide +kernel
theorem dL_law_18 : decode cL_law 18 = .ok (.iload_n 3, 1) := by decide +kernel
theorem dL_law_19 : decode cL_law 19 = .ok (.aload_n 0, 1) := by decide +kernel
theorem dL_law_20 : decode cL_law 20 = .ok (.arraylength, 1) := by decide +kernel
theorem dL_law_21 : decode cL_law 21 = .ok (.bipush 6, 2) := by decide +kernel
theorem dL_law_23 : decode cL_law 23 = .ok (.isub, 1) := by decide +kernel
theorem dL_law_24 : decode cL_law 24 = .ok (.if_icmp .gt 1102, 3) := by decide +kernel
theorem dL_law_27 : decode cL_law 27 = .ok (.aload_n 0, 1) := by decide +kernel
theorem dL_law_28 : decode cL_law 28 = .ok (.iload_n 3, 1) := by decide +kernel
theorem dL_law_29 : decode cL_law 29 = .ok (.iaload, 1) := by decide +kernel
theorem dL_law_30 : decode cL_law 30 = .ok (.bipush 63, 2) := by decide +kernel
theorem dL_law_32 : decode cL_law 32 = .ok (.iand, 1) := by decide +kernel
theorem dL_law_33 : decode cL_law 33 = .ok (.tableswitch 1087 0 35 #[159, 222, 245, 288, 311, 324, 357, 390, 403, 416, 429, 442, 475, 508, 521, 544, 597, 640, 663, 696, 729, 752, 775, 798, 841, 864, 877, 890, 913, 926, 939, 962, 985, 1018, 1041, 1064], 159) := by decide +kernel
theorem dL_law_192 : decode cL_law 192 = .ok (.aload_n 1, 1) := by decide +kernel
theorem dL_law_193 : decode cL_law 193 = .ok (.aload_n 0, 1) := by decide +kernel
theorem dL_law_194 : decode cL_law 194 = .ok (.iload_n 3, 1) := by decide +kernel
theorem dL_law_195 : decode cL_law 195 = .ok (.iconst 1, 1) := by decide +kernel
theorem dL_law_196 : decode cL_law 196 = .ok (.iadd, 1) := by decide +kernel
theorem dL_law_197 : decode cL_law 197 = .ok (.iaload, 1) := by decide +kernel
theorem dL_law_198 : decode cL_law 198 = .ok (.aload_n 0, 1) := by decide +kernel
theorem dL_law_199 : decode cL_law 199 = .ok (.iload_n 3, 1) := by decide +kernel
theorem dL_law_200 : decode cL_law 200 = .ok (.iconst 2, 1) := by decide +kernel
theorem dL_law_201 : decode cL_law 201 = .ok (.iadd, 1) := by decide +kernel
theorem dL_law_202 : decode cL_law 202 = .ok (.iaload, 1) := by decide +kernel
theorem dL_law_203 : decode cL_law 203 = .ok (.aload_n 0, 1) := by decide +kernel
theorem dL_law_204 : decode cL_law 204 = .ok (.iload_n 3, 1) := by decide +kernel
theorem dL_law_205 : decode cL_law 205 = .ok (.iconst 3, 1) := by decide +kernel
theorem dL_law_206 : decode cL_law 206 = .ok (.iadd, 1) := by decide +kernel
theorem dL_law_207 : decode cL_law 207 = .ok (.iaload, 1) := by decide +kernel
theorem dL_law_208 : decode cL_law 208 = .ok (.aload_n 0, 1) := by decide +kernel
theorem dL_law_209 : decode cL_law 209 = .ok (.iload_n 3, 1) := by decide +kernel
theorem dL_law_210 : decode cL_law 210 = .ok (.iconst 4, 1) := by decide +kernel
theorem dL_law_211 : decode cL_law 211 = .ok (.iadd, 1) := by decide +kernel
theorem dL_law_212 : decode cL_law 212 = .ok (.iaload, 1) := by decide +kernel
theorem dL_law_213 : decode cL_law 213 = .ok (.aload_n 0, 1) := by decide +kernel
theorem dL_law_214 : decode cL_law 214 = .ok (.iload_n 3, 1) := by decide +kernel
theorem dL_law_215 : decode cL_law 215 = .ok (.iconst 5, 1) := by decide +kernel
theorem dL_law_216 : decode cL_law 216 = .ok (.iadd, 1) := by decide +kernel
theorem dL_law_217 : decode cL_law 217 = .ok (.iaload, 1) := by decide +kernel
theorem dL_law_218 : decode cL_law 218 = .ok (.invokevirtual 13, 3) := by decide +kernel
theorem dL_law_221 : decode cL_law 221 = .ok (.aload_n 2, 1) := by decide +kernel
theorem dL_law_222 : decode cL_law 222 = .ok (.aload_n 0, 1) := by decide +kernel
theorem dL_law_223 : decode cL_law 223 = .ok (.iload_n 3, 1) := by decide +kernel
theorem dL_law_224 : decode cL_law 224 = .ok (.iconst 1, 1) := by decide +kernel
theorem dL_law_225 : decode cL_law 225 = .ok (.iadd, 1) := by decide +kernel
theorem dL_law_226 : decode cL_law 226 = .ok (.iaload, 1) := by decide +kernel
theorem dL_law_227 : decode cL_law 227 = .ok (.aload_n 0, 1) := by decide +kernel
theorem dL_law_228 : decode cL_law 228 = .ok (.iload_n 3, 1) := by decide +kernel
theorem dL_law_229 : decode cL_law 229 = .ok (.iconst 2, 1) := by decide +kernel
theorem dL_law_230 : decode cL_law 230 = .ok (.iadd, 1) := by decide +kernel
theorem dL_law_231 : decode cL_law 231 = .ok (.iaload, 1) := by decide +kernel
theorem dL_law_232 : decode cL_law 232 = .ok (.aload_n 0, 1) := by decide +kernel
theorem dL_law_233 : decode cL_law 233 = .ok (.iload_n 3, 1) := by decide +kernel
theorem dL_law_234 : decode cL_law 234 = .ok (.iconst 3, 1) := by decide +kernel
theorem dL_law_235 : decode cL_law 235 = .ok (.iadd, 1) := by decide +kernel
theorem dL_law_236 : decode cL_law 236 = .ok (.iaload, 1) := by decide +kernel
theorem dL_law_237 : decode cL_law 237 = .ok (.aload_n 0, 1) := by decide +kernel
theorem dL_law_238 : decode cL_law 238 = .ok (.iload_n 3, 1) := by decide +kernel
theorem dL_law_239 : decode cL_law 239 = .ok (.iconst 4, 1) := by decide +kernel
theorem dL_law_240 : decode cL_law 240 = .ok (.iadd, 1) := by decide +kernel
theorem dL_law_241 : decode cL_law 241 = .ok (.iaload, 1) := by decide +kernel
theorem dL_law_242 : decode cL_law 242 = .ok (.aload_n 0, 1) := by decide +kernel
theorem dL_law_243 : decode cL_law 243 = .ok (.iload_n 3, 1) := by decide +kernel
theorem dL_law_244 : decode cL_law 244 = .ok (.iconst 5, 1) := by decide +kernel
theorem dL_law_245 : decode cL_law 245 = .ok (.iadd, 1) := by decide +kernel
theorem dL_law_246 : decode cL_law 246 = .ok (.iaload, 1) := by decide +kernel
theorem dL_law_247 : decode cL_law 247 = .ok (.invokevirtual 17, 3) := by decide +kernel
theorem dL_law_250 : decode cL_law 250 = .ok (.if_icmp .eq 870, 3) := by decide +kernel
theorem dL_law_253 : decode cL_law 253 = .ok (.iconst 0, 1) := by decide +kernel
theorem dL_law_254 : decode cL_law 254 = .ok (.ireturn, 1) := by decide +kernel
theorem dL_law_255 : decode cL_law 255 = .ok (.aload_n 1, 1) := by decide +kernel
theorem dL_law_256 : decode cL_law 256 = .ok (.aload_n 0, 1) := by decide +kernel
theorem dL_law_257 : decode cL_law 257 = .ok (.iload_n 3, 1) := by decide +kernel
theorem dL_law_258 : decode cL_law 258 = .ok (.iconst 1, 1) := by decide +kernel
theorem dL_law_259 : decode cL_law 259 = .ok (.iadd, 1) := by decide +kernel
theorem dL_law_260 : decode cL_law 260 = .ok (.iaload, 1) := by decide +kernel
theorem dL_law_261 : decode cL_law 261 = .ok (.invokevirtual 18, 3) := by decide +kernel
theorem dL_law_264 : decode cL_law 264 = .ok (.aload_n 2, 1) := by decide +kernel
theorem dL_law_265 : decode cL_law 265 = .ok (.aload_n 0, 1) := by decide +kernel
theorem dL_law_266 : decode cL_law 266 = .ok (.iload_n 3, 1) := by decide +kernel
theorem dL_law_267 : decode cL_law 267 = .ok (.iconst 1, 1) := by decide +kernel
theorem dL_law_268 : decode cL_law 268 = .ok (.iadd, 1) := by decide +kernel
theorem dL_law_269 : decode cL_law 269 = .ok (.iaload, 1) := by decide +kernel
theorem dL_law_270 : decode cL_law 270 = .ok (.invokevirtual 22, 3) := by decide +kernel
theorem dL_law_273 : decode cL_law 273 = .ok (.if_icmp .eq 847, 3) := by decide +kernel
theorem dL_law_276 : decode cL_law 276 = .ok (.iconst 0, 1) := by decide +kernel
theorem dL_law_277 : decode cL_law 277 = .ok (.ireturn, 1) := by decide +kernel
theorem dL_law_278 : decode cL_law 278 = .ok (.aload_n 1, 1) := by decide +kernel
theorem dL_law_279 : decode cL_law 279 = .ok (.aload_n 0, 1) := by decide +kernel
theorem dL_law_280 : decode cL_law 280 = .ok (.iload_n 3, 1) := by decide +kernel
theorem dL_law_281 : decode cL_law 281 = .ok (.iconst 1, 1) := by decide +kernel
theorem dL_law_282 : decode cL_law 282 = .ok (.iadd, 1) := by decide +kernel
theorem dL_law_283 : decode cL_law 283 = .ok (.iaload, 1) := by decide +kernel
theorem dL_law_284 : decode cL_law 284 = .ok (.aload_n 0, 1) := by decide +kernel
theorem dL_law_285 : decode cL_law 285 = .ok (.iload_n 3, 1) := by decide +kernel
theorem dL_law_286 : decode cL_law 286 = .ok (.iconst 2, 1) := by decide +kernel
theorem dL_law_287 : decode cL_law 287 = .ok (.iadd, 1) := by decide +kernel
theorem dL_law_288 : decode cL_law 288 = .ok (.iaload, 1) := by decide +kernel
theorem dL_law_289 : decode cL_law 289 = .ok (.aload_n 0, 1) := by decide +kernel
theorem dL_law_290 : decode cL_law 290 = .ok (.iload_n 3, 1) := by decide +kernel
theorem dL_law_291 : decode cL_law 291 = .ok (.iconst 3, 1) := by decide +kernel
theorem dL_law_292 : decode cL_law 292 = .ok (.iadd, 1) := by decide +kernel
theorem dL_law_293 : decode cL_law 293 = .ok (.iaload, 1) := by decide +kernel
theorem dL_law_294 : decode cL_law 294 = .ok (.invokevirtual 23, 3) := by decide +kernel
theorem dL_law_297 : decode cL_law 297 = .ok (.aload_n 2, 1) := by decide +kernel
theorem dL_law_298 : decode cL_law 298 = .ok (.aload_n 0, 1) := by decide +kernel
theorem dL_law_299 : decode cL_law 299 = .ok (.iload_n 3, 1) := by decide +kernel
theorem dL_law_300 : decode cL_law 300 = .ok (.iconst 1, 1) := by decide +kernel
theorem dL_law_301 : decode cL_law 301 = .ok (.iadd, 1) := by decide +kernel
theorem dL_law_302 : decode cL_law 302 = .ok (.iaload, 1) := by decide +kernel
theorem dL_law_303 : decode cL_law 303 = .ok (.aload_n 0, 1) := by decide +kernel
theorem dL_law_304 : decode cL_law 304 = .ok (.iload_n 3, 1) := by decide +kernel
theorem dL_law_305 : decode cL_law 305 = .ok (.iconst 2, 1) := by decide +kernel
theorem dL_law_306 : decode cL_law 306 = .ok (.iadd, 1) := by decide +kernel
theorem dL_law_307 : decode cL_law 307 = .ok (.iaload, 1) := by decide +kernel
theorem dL_law_308 : decode cL_law 308 = .ok (.aload_n 0, 1) := by decide +kernel
theorem dL_law_309 : decode cL_law 309 = .ok (.iload_n 3, 1) := by decide +kernel
theorem dL_law_310 : decode cL_law 310 = .ok (.iconst 3, 1) := by decide +kernel
theorem dL_law_311 : decode cL_law 311 = .ok (.iadd, 1) := by decide +kernel
theorem dL_law_312 : decode cL_law 312 = .ok (.iaload, 1) := by decide +kernel
theorem dL_law_313 : decode cL_law 313 = .ok (.invokevirtual 27, 3) := by decide +kernel
theorem dL_law_316 : decode cL_law 316 = .ok (.if_icmp .eq 804, 3) := by decide +kernel
theorem dL_law_319 : decode cL_law 319 = .ok (.iconst 0, 1) := by decide +kernel
theorem dL_law_320 : decode cL_law 320 = .ok (.ireturn, 1) := by decide +kernel
theorem dL_law_321 : decode cL_law 321 = .ok (.aload_n 1, 1) := by decide +kernel
theorem dL_law_322 : decode cL_law 322 = .ok (.aload_n 0, 1) := by decide +kernel
theorem dL_law_323 : decode cL_law 323 = .ok (.iload_n 3, 1) := by decide +kernel
theorem dL_law_324 : decode cL_law 324 = .ok (.iconst 1, 1) := by decide +kernel
theorem dL_law_325 : decode cL_law 325 = .ok (.iadd, 1) := by decide +kernel
theorem dL_law_326 : decode cL_law 326 = .ok (.iaload, 1) := by decide +kernel
theorem dL_law_327 : decode cL_law 327 = .ok (.invokevirtual 28, 3) := by decide +kernel
theorem dL_law_330 : decode cL_law 330 = .ok (.aload_n 2, 1) := by decide +kernel
theorem dL_law_331 : decode cL_law 331 = .ok (.aload_n 0, 1) := by decide +kernel
theorem dL_law_332 : decode cL_law 332 = .ok (.iload_n 3, 1) := by decide +kernel
theorem dL_law_333 : decode cL_law 333 = .ok (.iconst 1, 1) := by decide +kernel
theorem dL_law_334 : decode cL_law 334 = .ok (.iadd, 1) := by decide +kernel
theorem dL_law_335 : decode cL_law 335 = .ok (.iaload, 1) := by decide +kernel
theorem dL_law_336 : decode cL_law 336 = .ok (.invokevirtual 32, 3) := by decide +kernel
theorem dL_law_339 : decode cL_law 339 = .ok (.if_icmp .eq 781, 3) := by decide +kernel
theorem dL_law_342 : decode cL_law 342 = .ok (.iconst 0, 1) := by decide +kernel
theorem dL_law_343 : decode cL_law 343 = .ok (.ireturn, 1) := by decide +kernel
theorem dL_law_344 : decode cL_law 344 = .ok (.aload_n 1, 1) := by decide +kernel
theorem dL_law_345 : decode cL_law 345 = .ok (.invokevirtual 33, 3) := by decide +kernel
theorem dL_law_348 : decode cL_law 348 = .ok (.aload_n 2, 1) := by decide +kernel
theorem dL_law_349 : decode cL_law 349 = .ok (.invokevirtual 37, 3) := by decide +kernel
theorem dL_law_352 : decode cL_law 352 = .ok (.if_icmp .eq 768, 3) := by decide +kernel
theorem dL_law_355 : decode cL_law 355 = .ok (.iconst 0, 1) := by decide +kernel
theorem dL_law_356 : decode cL_law 356 = .ok (.ireturn, 1) := by decide +kernel
theorem dL_law_357 : decode cL_law 357 = .ok (.aload_n 1, 1) := by decide +kernel
theorem dL_law_358 : decode cL_law 358 = .ok (.aload_n 0, 1) := by decide +kernel
theorem dL_law_359 : decode cL_law 359 = .ok (.iload_n 3, 1) := by decide +kernel
theorem dL_law_360 : decode cL_law 360 = .ok (.iconst 1, 1) := by decide +kernel
theorem dL_law_361 : decode cL_law 361 = .ok (.iadd, 1) := by decide +kernel
theorem dL_law_362 : decode cL_law 362 = .ok (.iaload, 1) := by decide +kernel
theorem dL_law_363 : decode cL_law 363 = .ok (.aload_n 0, 1) := by decide +kernel
theorem dL_law_364 : decode cL_law 364 = .ok (.iload_n 3, 1) := by decide +kernel
theorem dL_law_365 : decode cL_law 365 = .ok (.iconst 2, 1) := by decide +kernel
theorem dL_law_366 : decode cL_law 366 = .ok (.iadd, 1) := by decide +kernel
theorem dL_law_367 : decode cL_law 367 = .ok (.iaload, 1) := by decide +kernel
theorem dL_law_368 : decode cL_law 368 = .ok (.invokevirtual 38, 3) := by decide +kernel
theorem dL_law_371 : decode cL_law 371 = .ok (.aload_n 2, 1) := by decide +kernel
theorem dL_law_372 : decode cL_law 372 = .ok (.aload_n 0, 1) := by decide +kernel
theorem dL_law_373 : decode cL_law 373 = .ok (.iload_n 3, 1) := by decide +kernel
theorem dL_law_374 : decode cL_law 374 = .ok (.iconst 1, 1) := by decide +kernel
theorem dL_law_375 : decode cL_law 375 = .ok (.iadd, 1) := by decide +kernel
theorem dL_law_376 : decode cL_law 376 = .ok (.iaload, 1) := by decide +kernel
theorem dL_law_377 : decode cL_law 377 = .ok (.aload_n 0, 1) := by decide +kernel
theorem dL_law_378 : decode cL_law 378 = .ok (.iload_n 3, 1) := by decide +kernel
theorem dL_law_379 : decode cL_law 379 = .ok (.iconst 2, 1) := by decide +kernel
theorem dL_law_380 : decode cL_law 380 = .ok (.iadd, 1) := by decide +kernel
theorem dL_law_381 : decode cL_law 381 = .ok (.iaload, 1) := by decide +kernel
theorem dL_law_382 : decode cL_law 382 = .ok (.invokevirtual 42, 3) := by decide +kernel
theorem dL_law_385 : decode cL_law 385 = .ok (.if_icmp .eq 735, 3) := by decide +kernel
theorem dL_law_388 : decode cL_law 388 = .ok (.iconst 0, 1) := by decide +kernel
theorem dL_law_389 : decode cL_law 389 = .ok (.ireturn, 1) := by decide +kernel
theorem dL_law_390 : decode cL_law 390 = .ok (.aload_n 1, 1) := by decide +kernel
theorem dL_law_391 : decode cL_law 391 = .ok (.aload_n 0, 1) := by decide +kernel
theorem dL_law_392 : decode cL_law 392 = .ok (.iload_n 3, 1) := by decide +kernel
theorem dL_law_393 : decode cL_law 393 = .ok (.iconst 1, 1) := by decide +kernel
theorem dL_law_394 : decode cL_law 394 = .ok (.iadd, 1) := by decide +kernel
theorem dL_law_395 : decode cL_law 395 = .ok (.iaload, 1) := by decide +kernel
theorem dL_law_396 : decode cL_law 396 = .ok (.aload_n 0, 1) := by decide +kernel
theorem dL_law_397 : decode cL_law 397 = .ok (.iload_n 3, 1) := by decide +kernel
theorem dL_law_398 : decode cL_law 398 = .ok (.iconst 2, 1) := by decide +kernel
theorem dL_law_399 : decode cL_law 399 = .ok (.iadd, 1) := by decide +kernel
theorem dL_law_400 : decode cL_law 400 = .ok (.iaload, 1) := by decide +kernel
theorem dL_law_401 : decode cL_law 401 = .ok (.invokevirtual 43, 3) := by decide +kernel
theorem dL_law_404 : decode cL_law 404 = .ok (.aload_n 2, 1) := by decide +kernel
theorem dL_law_405 : decode cL_law 405 = .ok (.aload_n 0, 1) := by decide +kernel
theorem dL_law_406 : decode cL_law 406 = .ok (.iload_n 3, 1) := by decide +kernel
theorem dL_law_407 : decode cL_law 407 = .ok (.iconst 1, 1) := by decide +kernel
theorem dL_law_408 : decode cL_law 408 = .ok (.iadd, 1) := by decide +kernel
theorem dL_law_409 : decode cL_law 409 = .ok (.iaload, 1) := by decide +kernel
theorem dL_law_410 : decode cL_law 410 = .ok (.aload_n 0, 1) := by decide +kernel
theorem dL_law_411 : decode cL_law 411 = .ok (.iload_n 3, 1) := by decide +kernel
theorem dL_law_412 : decode cL_law 412 = .ok (.iconst 2, 1) := by decide +kernel
theorem dL_law_413 : decode cL_law 413 = .ok (.iadd, 1) := by decide +kernel
theorem dL_law_414 : decode cL_law 414 = .ok (.iaload, 1) := by decide +kernel
theorem dL_law_415 : decode cL_law 415 = .ok (.invokevirtual 46, 3) := by decide +kernel
theorem dL_law_418 : decode cL_law 418 = .ok (.if_icmp .eq 702, 3) := by decide +kernel
theorem dL_law_421 : decode cL_law 421 = .ok (.iconst 0, 1) := by decide +kernel
theorem dL_law_422 : decode cL_law 422 = .ok (.ireturn, 1) := by decide +kernel
theorem dL_law_423 : decode cL_law 423 = .ok (.aload_n 1, 1) := by decide +kernel
theorem dL_law_424 : decode cL_law 424 = .ok (.invokevirtual 47, 3) := by decide +kernel
theorem dL_law_427 : decode cL_law 427 = .ok (.aload_n 2, 1) := by decide +kernel
theorem dL_law_428 : decode cL_law 428 = .ok (.invokevirtual 50, 3) := by decide +kernel
theorem dL_law_431 : decode cL_law 431 = .ok (.if_icmp .eq 689, 3) := by decide +kernel
theorem dL_law_434 : decode cL_law 434 = .ok (.iconst 0, 1) := by decide +kernel
theorem dL_law_435 : decode cL_law 435 = .ok (.ireturn, 1) := by decide +kernel
theorem dL_law_436 : decode cL_law 436 = .ok (.aload_n 1, 1) := by decide +kernel
theorem dL_law_437 : decode cL_law 437 = .ok (.invokevirtual 51, 3) := by decide +kernel
theorem dL_law_440 : decode cL_law 440 = .ok (.aload_n 2, 1) := by decide +kernel
theorem dL_law_441 : decode cL_law 441 = .ok (.invokevirtual 54, 3) := by decide +kernel
theorem dL_law_444 : decode cL_law 444 = .ok (.if_icmp .eq 676, 3) := by decide +kernel
theorem dL_law_447 : decode cL_law 447 = .ok (.iconst 0, 1) := by decide +kernel
theorem dL_law_448 : decode cL_law 448 = .ok (.ireturn, 1) := by decide +kernel
theorem dL_law_449 : decode cL_law 449 = .ok (.aload_n 1, 1) := by decide +kernel
theorem dL_law_450 : decode cL_law 450 = .ok (.invokevirtual 55, 3) := by decide +kernel
theorem dL_law_453 : decode cL_law 453 = .ok (.aload_n 2, 1) := by decide +kernel
theorem dL_law_454 : decode cL_law 454 = .ok (.invokevirtual 58, 3) := by decide +kernel
theorem dL_law_457 : decode cL_law 457 = .ok (.if_icmp .eq 663, 3) := by decide +kernel
theorem dL_law_460 : decode cL_law 460 = .ok (.iconst 0, 1) := by decide +kernel
theorem dL_law_461 : decode cL_law 461 = .ok (.ireturn, 1) := by decide +kernel
theorem dL_law_462 : decode cL_law 462 = .ok (.aload_n 1, 1) := by decide +kernel
theorem dL_law_463 : decode cL_law 463 = .ok (.invokevirtual 59, 3) := by decide +kernel
theorem dL_law_466 : decode cL_law 466 = .ok (.aload_n 2, 1) := by decide +kernel
theorem dL_law_467 : decode cL_law 467 = .ok (.invokevirtual 62, 3) := by decide +kernel
theorem dL_law_470 : decode cL_law 470 = .ok (.if_icmp .eq 650, 3) := by decide +kernel
theorem dL_law_473 : decode cL_law 473 = .ok (.iconst 0, 1) := by decide +kernel
theorem dL_law_474 : decode cL_law 474 = .ok (.ireturn, 1) := by decide +kernel
theorem dL_law_475 : decode cL_law 475 = .ok (.aload_n 1, 1) := by decide +kernel
theorem dL_law_476 : decode cL_law 476 = .ok (.aload_n 0, 1) := by decide +kernel
theorem dL_law_477 : decode cL_law 477 = .ok (.iload_n 3, 1) := by decide +kernel
theorem dL_law_478 : decode cL_law 478 = .ok (.iconst 1, 1) := by decide +kernel
theorem dL_law_479 : decode cL_law 479 = .ok (.iadd, 1) := by decide +kernel
theorem dL_law_480 : decode cL_law 480 = .ok (.iaload, 1) := by decide +kernel
theorem dL_law_481 : decode cL_law 481 = .ok (.aload_n 0, 1) := by decide +kernel
theorem dL_law_482 : decode cL_law 482 = .ok (.iload_n 3, 1) := by decide +kernel
theorem dL_law_483 : decode cL_law 483 = .ok (.iconst 2, 1) := by decide +kernel
theorem dL_law_484 : decode cL_law 484 = .ok (.iadd, 1) := by decide +kernel
theorem dL_law_485 : decode cL_law 485 = .ok (.iaload, 1) := by decide +kernel
theorem dL_law_486 : decode cL_law 486 = .ok (.invokevirtual 63, 3) := by decide +kernel
theorem dL_law_489 : decode cL_law 489 = .ok (.aload_n 2, 1) := by decide +kernel
theorem dL_law_490 : decode cL_law 490 = .ok (.aload_n 0, 1) := by decide +kernel
theorem dL_law_491 : decode cL_law 491 = .ok (.iload_n 3, 1) := by decide +kernel
theorem dL_law_492 : decode cL_law 492 = .ok (.iconst 1, 1) := by decide +kernel
theorem dL_law_493 : decode cL_law 493 = .ok (.iadd, 1) := by decide +kernel
theorem dL_law_494 : decode cL_law 494 = .ok (.iaload, 1) := by decide +kernel
theorem dL_law_495 : decode cL_law 495 = .ok (.aload_n 0, 1) := by decide +kernel
theorem dL_law_496 : decode cL_law 496 = .ok (.iload_n 3, 1) := by decide +kernel
theorem dL_law_497 : decode cL_law 497 = .ok (.iconst 2, 1) := by decide +kernel
theorem dL_law_498 : decode cL_law 498 = .ok (.iadd, 1) := by decide +kernel
theorem dL_law_499 : decode cL_law 499 = .ok (.iaload, 1) := by decide +kernel
theorem dL_law_500 : decode cL_law 500 = .ok (.invokevirtual 66, 3) := by decide +kernel
theorem dL_law_503 : decode cL_law 503 = .ok (.if_icmp .eq 617, 3) := by decide +kernel
theorem dL_law_506 : decode cL_law 506 = .ok (.iconst 0, 1) := by decide +kernel
theorem dL_law_507 : decode cL_law 507 = .ok (.ireturn, 1) := by decide +kernel
theorem dL_law_508 : decode cL_law 508 = .ok (.aload_n 1, 1) := by decide +kernel
theorem dL_law_509 : decode cL_law 509 = .ok (.aload_n 0, 1) := by decide +kernel
theorem dL_law_510 : decode cL_law 510 = .ok (.iload_n 3, 1) := by decide +kernel
theorem dL_law_511 : decode cL_law 511 = .ok (.iconst 1, 1) := by decide +kernel
theorem dL_law_512 : decode cL_law 512 = .ok (.iadd, 1) := by decide +kernel
theorem dL_law_513 : decode cL_law 513 = .ok (.iaload, 1) := by decide +kernel
theorem dL_law_514 : decode cL_law 514 = .ok (.aload_n 0, 1) := by decide +kernel
theorem dL_law_515 : decode cL_law 515 = .ok (.iload_n 3, 1) := by decide +kernel
theorem dL_law_516 : decode cL_law 516 = .ok (.iconst 2, 1) := by decide +kernel
theorem dL_law_517 : decode cL_law 517 = .ok (.iadd, 1) := by decide +kernel
theorem dL_law_518 : decode cL_law 518 = .ok (.iaload, 1) := by decide +kernel
theorem dL_law_519 : decode cL_law 519 = .ok (.invokevirtual 67, 3) := by decide +kernel
theorem dL_law_522 : decode cL_law 522 = .ok (.aload_n 2, 1) := by decide +kernel
theorem dL_law_523 : decode cL_law 523 = .ok (.aload_n 0, 1) := by decide +kernel
theorem dL_law_524 : decode cL_law 524 = .ok (.iload_n 3, 1) := by decide +kernel
theorem dL_law_525 : decode cL_law 525 = .ok (.iconst 1, 1) := by decide +kernel
theorem dL_law_526 : decode cL_law 526 = .ok (.iadd, 1) := by decide +kernel
theorem dL_law_527 : decode cL_law 527 = .ok (.iaload, 1) := by decide +kernel
theorem dL_law_528 : decode cL_law 528 = .ok (.aload_n 0, 1) := by decide +kernel
theorem dL_law_529 : decode cL_law 529 = .ok (.iload_n 3, 1) := by decide +kernel
theorem dL_law_530 : decode cL_law 530 = .ok (.iconst 2, 1) := by decide +kernel
theorem dL_law_531 : decode cL_law 531 = .ok (.iadd, 1) := by decide +kernel
theorem dL_law_532 : decode cL_law 532 = .ok (.iaload, 1) := by decide +kernel
theorem dL_law_533 : decode cL_law 533 = .ok (.invokevirtual 70, 3) := by decide +kernel
theorem dL_law_536 : decode cL_law 536 = .ok (.if_icmp .eq 584, 3) := by decide +kernel
theorem dL_law_539 : decode cL_law 539 = .ok (.iconst 0, 1) := by decide +kernel
theorem dL_law_540 : decode cL_law 540 = .ok (.ireturn, 1) := by decide +kernel
theorem dL_law_541 : decode cL_law 541 = .ok (.aload_n 1, 1) := by decide +kernel
theorem dL_law_542 : decode cL_law 542 = .ok (.invokevirtual 71, 3) := by decide +kernel
theorem dL_law_545 : decode cL_law 545 = .ok (.aload_n 2, 1) := by decide +kernel
theorem dL_law_546 : decode cL_law 546 = .ok (.invokevirtual 74, 3) := by decide +kernel
theorem dL_law_549 : decode cL_law 549 = .ok (.if_icmp .eq 571, 3) := by decide +kernel
theorem dL_law_552 : decode cL_law 552 = .ok (.iconst 0, 1) := by decide +kernel
theorem dL_law_553 : decode cL_law 553 = .ok (.ireturn, 1) := by decide +kernel
theorem dL_law_554 : decode cL_law 554 = .ok (.aload_n 1, 1) := by decide +kernel
theorem dL_law_555 : decode cL_law 555 = .ok (.aload_n 0, 1) := by decide +kernel
theorem dL_law_556 : decode cL_law 556 = .ok (.iload_n 3, 1) := by decide +kernel
theorem dL_law_557 : decode cL_law 557 = .ok (.iconst 1, 1) := by decide +kernel
theorem dL_law_558 : decode cL_law 558 = .ok (.iadd, 1) := by decide +kernel
theorem dL_law_559 : decode cL_law 559 = .ok (.iaload, 1) := by decide +kernel
theorem dL_law_560 : decode cL_law 560 = .ok (.invokevirtual 75, 3) := by decide +kernel
theorem dL_law_563 : decode cL_law 563 = .ok (.aload_n 2, 1) := by decide +kernel
theorem dL_law_564 : decode cL_law 564 = .ok (.aload_n 0, 1) := by decide +kernel
theorem dL_law_565 : decode cL_law 565 = .ok (.iload_n 3, 1) := by decide +kernel
theorem dL_law_566 : decode cL_law 566 = .ok (.iconst 1, 1) := by decide +kernel
theorem dL_law_567 : decode cL_law 567 = .ok (.iadd, 1) := by decide +kernel
theorem dL_law_568 : decode cL_law 568 = .ok (.iaload, 1) := by decide +kernel
theorem dL_law_569 : decode cL_law 569 = .ok (.invokevirtual 78, 3) := by decide +kernel
theorem dL_law_572 : decode cL_law 572 = .ok (.if_icmp .eq 548, 3) := by decide +kernel
theorem dL_law_575 : decode cL_law 575 = .ok (.iconst 0, 1) := by decide +kernel
theorem dL_law_576 : decode cL_law 576 = .ok (.ireturn, 1) := by decide +kernel
theorem dL_law_577 : decode cL_law 577 = .ok (.aload_n 1, 1) := by decide +kernel
theorem dL_law_578 : decode cL_law 578 = .ok (.aload_n 0, 1) := by decide +kernel
theorem dL_law_579 : decode cL_law 579 = .ok (.iload_n 3, 1) := by decide +kernel
theorem dL_law_580 : decode cL_law 580 = .ok (.iconst 1, 1) := by decide +kernel
theorem dL_law_581 : decode cL_law 581 = .ok (.iadd, 1) := by decide +kernel
theorem dL_law_582 : decode cL_law 582 = .ok (.iaload, 1) := by decide +kernel
theorem dL_law_583 : decode cL_law 583 = .ok (.aload_n 0, 1) := by decide +kernel
theorem dL_law_584 : decode cL_law 584 = .ok (.iload_n 3, 1) := by decide +kernel
theorem dL_law_585 : decode cL_law 585 = .ok (.iconst 2, 1) := by decide +kernel
theorem dL_law_586 : decode cL_law 586 = .ok (.iadd, 1) := by decide +kernel
theorem dL_law_587 : decode cL_law 587 = .ok (.iaload, 1) := by decide +kernel
theorem dL_law_588 : decode cL_law 588 = .ok (.aload_n 0, 1) := by decide +kernel
theorem dL_law_589 : decode cL_law 589 = .ok (.iload_n 3, 1) := by decide +kernel
theorem dL_law_590 : decode cL_law 590 = .ok (.iconst 3, 1) := by decide +kernel
theorem dL_law_591 : decode cL_law 591 = .ok (.iadd, 1) := by decide +kernel
theorem dL_law_592 : decode cL_law 592 = .ok (.iaload, 1) := by decide +kernel
theorem dL_law_593 : decode cL_law 593 = .ok (.aload_n 0, 1) := by decide +kernel
theorem dL_law_594 : decode cL_law 594 = .ok (.iload_n 3, 1) := by decide +kernel
theorem dL_law_595 : decode cL_law 595 = .ok (.iconst 4, 1) := by decide +kernel
theorem dL_law_596 : decode cL_law 596 = .ok (.iadd, 1) := by decide +kernel
theorem dL_law_597 : decode cL_law 597 = .ok (.iaload, 1) := by decide +kernel
theorem dL_law_598 : decode cL_law 598 = .ok (.invokevirtual 79, 3) := by decide +kernel
theorem dL_law_601 : decode cL_law 601 = .ok (.aload_n 2, 1) := by decide +kernel
theorem dL_law_602 : decode cL_law 602 = .ok (.aload_n 0, 1) := by decide +kernel
theorem dL_law_603 : decode cL_law 603 = .ok (.iload_n 3, 1) := by decide +kernel
theorem dL_law_604 : decode cL_law 604 = .ok (.iconst 1, 1) := by decide +kernel
theorem dL_law_605 : decode cL_law 605 = .ok (.iadd, 1) := by decide +kernel
theorem dL_law_606 : decode cL_law 606 = .ok (.iaload, 1) := by decide +kernel
theorem dL_law_607 : decode cL_law 607 = .ok (.aload_n 0, 1) := by decide +kernel
theorem dL_law_608 : decode cL_law 608 = .ok (.iload_n 3, 1) := by decide +kernel
theorem dL_law_609 : decode cL_law 609 = .ok (.iconst 2, 1) := by decide +kernel
theorem dL_law_610 : decode cL_law 610 = .ok (.iadd, 1) := by decide +kernel
theorem dL_law_611 : decode cL_law 611 = .ok (.iaload, 1) := by decide +kernel
theorem dL_law_612 : decode cL_law 612 = .ok (.aload_n 0, 1) := by decide +kernel
theorem dL_law_613 : decode cL_law 613 = .ok (.iload_n 3, 1) := by decide +kernel
theorem dL_law_614 : decode cL_law 614 = .ok (.iconst 3, 1) := by decide +kernel
theorem dL_law_615 : decode cL_law 615 = .ok (.iadd, 1) := by decide +kernel
theorem dL_law_616 : decode cL_law 616 = .ok (.iaload, 1) := by decide +kernel
theorem dL_law_617 : decode cL_law 617 = .ok (.aload_n 0, 1) := by decide +kernel
theorem dL_law_618 : decode cL_law 618 = .ok (.iload_n 3, 1) := by decide +kernel
theorem dL_law_619 : decode cL_law 619 = .ok (.iconst 4, 1) := by decide +kernel
theorem dL_law_620 : decode cL_law 620 = .ok (.iadd, 1) := by decide +kernel
theorem dL_law_621 : decode cL_law 621 = .ok (.iaload, 1) := by decide +kernel
theorem dL_law_622 : decode cL_law 622 = .ok (.invokevirtual 83, 3) := by decide +kernel
theorem dL_law_625 : decode cL_law 625 = .ok (.if_icmp .eq 495, 3) := by decide +kernel
theorem dL_law_628 : decode cL_law 628 = .ok (.iconst 0, 1) := by decide +kernel
theorem dL_law_629 : decode cL_law 629 = .ok (.ireturn, 1) := by decide +kernel
theorem dL_law_630 : decode cL_law 630 = .ok (.aload_n 1, 1) := by decide +kernel
theorem dL_law_631 : decode cL_law 631 = .ok (.aload_n 0, 1) := by decide +kernel
theorem dL_law_632 : decode cL_law 632 = .ok (.iload_n 3, 1) := by decide +kernel
theorem dL_law_633 : decode cL_law 633 = .ok (.iconst 1, 1) := by decide +kernel
theorem dL_law_634 : decode cL_law 634 = .ok (.iadd, 1) := by decide +kernel
theorem dL_law_635 : decode cL_law 635 = .ok (.iaload, 1) := by decide +kernel
theorem dL_law_636 : decode cL_law 636 = .ok (.aload_n 0, 1) := by decide +kernel
theorem dL_law_637 : decode cL_law 637 = .ok (.iload_n 3, 1) := by decide +kernel
theorem dL_law_638 : decode cL_law 638 = .ok (.iconst 2, 1) := by decide +kernel
theorem dL_law_639 : decode cL_law 639 = .ok (.iadd, 1) := by decide +kernel
theorem dL_law_640 : decode cL_law 640 = .ok (.iaload, 1) := by decide +kernel
theorem dL_law_641 : decode cL_law 641 = .ok (.aload_n 0, 1) := by decide +kernel
theorem dL_law_642 : decode cL_law 642 = .ok (.iload_n 3, 1) := by decide +kernel
theorem dL_law_643 : decode cL_law 643 = .ok (.iconst 3, 1) := by decide +kernel
theorem dL_law_644 : decode cL_law 644 = .ok (.iadd, 1) := by decide +kernel
theorem dL_law_645 : decode cL_law 645 = .ok (.iaload, 1) := by decide +kernel
theorem dL_law_646 : decode cL_law 646 = .ok (.invokevirtual 84, 3) := by decide +kernel
theorem dL_law_649 : decode cL_law 649 = .ok (.aload_n 2, 1) := by decide +kernel
theorem dL_law_650 : decode cL_law 650 = .ok (.aload_n 0, 1) := by decide +kernel
theorem dL_law_651 : decode cL_law 651 = .ok (.iload_n 3, 1) := by decide +kernel
theorem dL_law_652 : decode cL_law 652 = .ok (.iconst 1, 1) := by decide +kernel
theorem dL_law_653 : decode cL_law 653 = .ok (.iadd, 1) := by decide +kernel
theorem dL_law_654 : decode cL_law 654 = .ok (.iaload, 1) := by decide +kernel
theorem dL_law_655 : decode cL_law 655 = .ok (.aload_n 0, 1) := by decide +kernel
theorem dL_law_656 : decode cL_law 656 = .ok (.iload_n 3, 1) := by decide +kernel
theorem dL_law_657 : decode cL_law 657 = .ok (.iconst 2, 1) := by decide +kernel
theorem dL_law_658 : decode cL_law 658 = .ok (.iadd, 1) := by decide +kernel
theorem dL_law_659 : decode cL_law 659 = .ok (.iaload, 1) := by decide +kernel
theorem dL_law_660 : decode cL_law 660 = .ok (.aload_n 0, 1) := by decide +kernel
theorem dL_law_661 : decode cL_law 661 = .ok (.iload_n 3, 1) := by decide +kernel
theorem dL_law_662 : decode cL_law 662 = .ok (.iconst 3, 1) := by decide +kernel
theorem dL_law_663 : decode cL_law 663 = .ok (.iadd, 1) := by decide +kernel
theorem dL_law_664 : decode cL_law 664 = .ok (.iaload, 1) := by decide +kernel
theorem dL_law_665 : decode cL_law 665 = .ok (.invokevirtual 87, 3) := by decide +kernel
theorem dL_law_668 : decode cL_law 668 = .ok (.if_icmp .eq 452, 3) := by decide +kernel
theorem dL_law_671 : decode cL_law 671 = .ok (.iconst 0, 1) := by decide +kernel
theorem dL_law_672 : decode cL_law 672 = .ok (.ireturn, 1) := by decide +kernel
theorem dL_law_673 : decode cL_law 673 = .ok (.aload_n 1, 1) := by decide +kernel
theorem dL_law_674 : decode cL_law 674 = .ok (.aload_n 0, 1) := by decide +kernel
theorem dL_law_675 : decode cL_law 675 = .ok (.iload_n 3, 1) := by decide +kernel
theorem dL_law_676 : decode cL_law 676 = .ok (.iconst 1, 1) := by decide +kernel
theorem dL_law_677 : decode cL_law 677 = .ok (.iadd, 1) := by decide +kernel
theorem dL_law_678 : decode cL_law 678 = .ok (.iaload, 1) := by decide +kernel
theorem dL_law_679 : decode cL_law 679 = .ok (.invokevirtual 88, 3) := by decide +kernel
theorem dL_law_682 : decode cL_law 682 = .ok (.aload_n 2, 1) := by decide +kernel
theorem dL_law_683 : decode cL_law 683 = .ok (.aload_n 0, 1) := by decide +kernel
theorem dL_law_684 : decode cL_law 684 = .ok (.iload_n 3, 1) := by decide +kernel
theorem dL_law_685 : decode cL_law 685 = .ok (.iconst 1, 1) := by decide +kernel
theorem dL_law_686 : decode cL_law 686 = .ok (.iadd, 1) := by decide +kernel
theorem dL_law_687 : decode cL_law 687 = .ok (.iaload, 1) := by decide +kernel
theorem dL_law_688 : decode cL_law 688 = .ok (.invokevirtual 91, 3) := by decide +kernel
theorem dL_law_691 : decode cL_law 691 = .ok (.if_icmp .eq 429, 3) := by decide +kernel
theorem dL_law_694 : decode cL_law 694 = .ok (.iconst 0, 1) := by decide +kernel
theorem dL_law_695 : decode cL_law 695 = .ok (.ireturn, 1) := by decide +kernel
theorem dL_law_696 : decode cL_law 696 = .ok (.aload_n 1, 1) := by decide +kernel
theorem dL_law_697 : decode cL_law 697 = .ok (.aload_n 0, 1) := by decide +kernel
theorem dL_law_698 : decode cL_law 698 = .ok (.iload_n 3, 1) := by decide +kernel
theorem dL_law_699 : decode cL_law 699 = .ok (.iconst 1, 1) := by decide +kernel
theorem dL_law_700 : decode cL_law 700 = .ok (.iadd, 1) := by decide +kernel
theorem dL_law_701 : decode cL_law 701 = .ok (.iaload, 1) := by decide +kernel
theorem dL_law_702 : decode cL_law 702 = .ok (.aload_n 0, 1) := by decide +kernel
theorem dL_law_703 : decode cL_law 703 = .ok (.iload_n 3, 1) := by decide +kernel
theorem dL_law_704 : decode cL_law 704 = .ok (.iconst 2, 1) := by decide +kernel
theorem dL_law_705 : decode cL_law 705 = .ok (.iadd, 1) := by decide +kernel
theorem dL_law_706 : decode cL_law 706 = .ok (.iaload, 1) := by decide +kernel
theorem dL_law_707 : decode cL_law 707 = .ok (.invokevirtual 92, 3) := by decide +kernel
theorem dL_law_710 : decode cL_law 710 = .ok (.aload_n 2, 1) := by decide +kernel
theorem dL_law_711 : decode cL_law 711 = .ok (.aload_n 0, 1) := by decide +kernel
theorem dL_law_712 : decode cL_law 712 = .ok (.iload_n 3, 1) := by decide +kernel
theorem dL_law_713 : decode cL_law 713 = .ok (.iconst 1, 1) := by decide +kernel
theorem dL_law_714 : decode cL_law 714 = .ok (.iadd, 1) := by decide +kernel
theorem dL_law_715 : decode cL_law 715 = .ok (.iaload, 1) := by decide +kernel
theorem dL_law_716 : decode cL_law 716 = .ok (.aload_n 0, 1) := by decide +kernel
theorem dL_law_717 : decode cL_law 717 = .ok (.iload_n 3, 1) := by decide +kernel
theorem dL_law_718 : decode cL_law 718 = .ok (.iconst 2, 1) := by decide +kernel
theorem dL_law_719 : decode cL_law 719 = .ok (.iadd, 1) := by decide +kernel
theorem dL_law_720 : decode cL_law 720 = .ok (.iaload, 1) := by decide +kernel
theorem dL_law_721 : decode cL_law 721 = .ok (.invokevirtual 95, 3) := by decide +kernel
theorem dL_law_724 : decode cL_law 724 = .ok (.if_icmp .eq 396, 3) := by decide +kernel
theorem dL_law_727 : decode cL_law 727 = .ok (.iconst 0, 1) := by decide +kernel
theorem dL_law_728 : decode cL_law 728 = .ok (.ireturn, 1) := by decide +kernel
theorem dL_law_729 : decode cL_law 729 = .ok (.aload_n 1, 1) := by decide +kernel
theorem dL_law_730 : decode cL_law 730 = .ok (.aload_n 0, 1) := by decide +kernel
theorem dL_law_731 : decode cL_law 731 = .ok (.iload_n 3, 1) := by decide +kernel
theorem dL_law_732 : decode cL_law 732 = .ok (.iconst 1, 1) := by decide +kernel
theorem dL_law_733 : decode cL_law 733 = .ok (.iadd, 1) := by decide +kernel
theorem dL_law_734 : decode cL_law 734 = .ok (.iaload, 1) := by decide +kernel
theorem dL_law_735 : decode cL_law 735 = .ok (.aload_n 0, 1) := by decide +kernel
theorem dL_law_736 : decode cL_law 736 = .ok (.iload_n 3, 1) := by decide +kernel
theorem dL_law_737 : decode cL_law 737 = .ok (.iconst 2, 1) := by decide +kernel
theorem dL_law_738 : decode cL_law 738 = .ok (.iadd, 1) := by decide +kernel
theorem dL_law_739 : decode cL_law 739 = .ok (.iaload, 1) := by decide +kernel
theorem dL_law_740 : decode cL_law 740 = .ok (.invokevirtual 96, 3) := by decide +kernel
theorem dL_law_743 : decode cL_law 743 = .ok (.aload_n 2, 1) := by decide +kernel
theorem dL_law_744 : decode cL_law 744 = .ok (.aload_n 0, 1) := by decide +kernel
theorem dL_law_745 : decode cL_law 745 = .ok (.iload_n 3, 1) := by decide +kernel
theorem dL_law_746 : decode cL_law 746 = .ok (.iconst 1, 1) := by decide +kernel
theorem dL_law_747 : decode cL_law 747 = .ok (.iadd, 1) := by decide +kernel
theorem dL_law_748 : decode cL_law 748 = .ok (.iaload, 1) := by decide +kernel
theorem dL_law_749 : decode cL_law 749 = .ok (.aload_n 0, 1) := by decide +kernel
theorem dL_law_750 : decode cL_law 750 = .ok (.iload_n 3, 1) := by decide +kernel
theorem dL_law_751 : decode cL_law 751 = .ok (.iconst 2, 1) := by decide +kernel
theorem dL_law_752 : decode cL_law 752 = .ok (.iadd, 1) := by decide +kernel
theorem dL_law_753 : decode cL_law 753 = .ok (.iaload, 1) := by decide +kernel
theorem dL_law_754 : decode cL_law 754 = .ok (.invokevirtual 99, 3) := by decide +kernel
theorem dL_law_757 : decode cL_law 757 = .ok (.if_icmp .eq 363, 3) := by decide +kernel
theorem dL_law_760 : decode cL_law 760 = .ok (.iconst 0, 1) := by decide +kernel
theorem dL_law_761 : decode cL_law 761 = .ok (.ireturn, 1) := by decide +kernel
theorem dL_law_762 : decode cL_law 762 = .ok (.aload_n 1, 1) := by decide +kernel
theorem dL_law_763 : decode cL_law 763 = .ok (.aload_n 0, 1) := by decide +kernel
theorem dL_law_764 : decode cL_law 764 = .ok (.iload_n 3, 1) := by decide +kernel
theorem dL_law_765 : decode cL_law 765 = .ok (.iconst 1, 1) := by decide +kernel
theorem dL_law_766 : decode cL_law 766 = .ok (.iadd, 1) := by decide +kernel
theorem dL_law_767 : decode cL_law 767 = .ok (.iaload, 1) := by decide +kernel
theorem dL_law_768 : decode cL_law 768 = .ok (.invokevirtual 100, 3) := by decide +kernel
theorem dL_law_771 : decode cL_law 771 = .ok (.aload_n 2, 1) := by decide +kernel
theorem dL_law_772 : decode cL_law 772 = .ok (.aload_n 0, 1) := by decide +kernel
theorem dL_law_773 : decode cL_law 773 = .ok (.iload_n 3, 1) := by decide +kernel
theorem dL_law_774 : decode cL_law 774 = .ok (.iconst 1, 1) := by decide +kernel
theorem dL_law_775 : decode cL_law 775 = .ok (.iadd, 1) := by decide +kernel
theorem dL_law_776 : decode cL_law 776 = .ok (.iaload, 1) := by decide +kernel
theorem dL_law_777 : decode cL_law 777 = .ok (.invokevirtual 103, 3) := by decide +kernel
theorem dL_law_780 : decode cL_law 780 = .ok (.if_icmp .eq 340, 3) := by decide +kernel
theorem dL_law_783 : decode cL_law 783 = .ok (.iconst 0, 1) := by decide +kernel
theorem dL_law_784 : decode cL_law 784 = .ok (.ireturn, 1) := by decide +kernel
theorem dL_law_785 : decode cL_law 785 = .ok (.aload_n 1, 1) := by decide +kernel
theorem dL_law_786 : decode cL_law 786 = .ok (.aload_n 0, 1) := by decide +kernel
theorem dL_law_787 : decode cL_law 787 = .ok (.iload_n 3, 1) := by decide +kernel
theorem dL_law_788 : decode cL_law 788 = .ok (.iconst 1, 1) := by decide +kernel
theorem dL_law_789 : decode cL_law 789 = .ok (.iadd, 1) := by decide +kernel
theorem dL_law_790 : decode cL_law 790 = .ok (.iaload, 1) := by decide +kernel
theorem dL_law_791 : decode cL_law 791 = .ok (.invokevirtual 104, 3) := by decide +kernel
theorem dL_law_794 : decode cL_law 794 = .ok (.aload_n 2, 1) := by decide +kernel
theorem dL_law_795 : decode cL_law 795 = .ok (.aload_n 0, 1) := by decide +kernel
theorem dL_law_796 : decode cL_law 796 = .ok (.iload_n 3, 1) := by decide +kernel
theorem dL_law_797 : decode cL_law 797 = .ok (.iconst 1, 1) := by decide +kernel
theorem dL_law_798 : decode cL_law 798 = .ok (.iadd, 1) := by decide +kernel
theorem dL_law_799 : decode cL_law 799 = .ok (.iaload, 1) := by decide +kernel
theorem dL_law_800 : decode cL_law 800 = .ok (.invokevirtual 107, 3) := by decide +kernel
theorem dL_law_803 : decode cL_law 803 = .ok (.if_icmp .eq 317, 3) := by decide +kernel
theorem dL_law_806 : decode cL_law 806 = .ok (.iconst 0, 1) := by decide +kernel
theorem dL_law_807 : decode cL_law 807 = .ok (.ireturn, 1) := by decide +kernel
theorem dL_law_808 : decode cL_law 808 = .ok (.aload_n 1, 1) := by decide +kernel
theorem dL_law_809 : decode cL_law 809 = .ok (.aload_n 0, 1) := by decide +kernel
theorem dL_law_810 : decode cL_law 810 = .ok (.iload_n 3, 1) := by decide +kernel
theorem dL_law_811 : decode cL_law 811 = .ok (.iconst 1, 1) := by decide +kernel
theorem dL_law_812 : decode cL_law 812 = .ok (.iadd, 1) := by decide +kernel
theorem dL_law_813 : decode cL_law 813 = .ok (.iaload, 1) := by decide +kernel
theorem dL_law_814 : decode cL_law 814 = .ok (.invokevirtual 108, 3) := by decide +kernel
theorem dL_law_817 : decode cL_law 817 = .ok (.aload_n 2, 1) := by decide +kernel
theorem dL_law_818 : decode cL_law 818 = .ok (.aload_n 0, 1) := by decide +kernel
theorem dL_law_819 : decode cL_law 819 = .ok (.iload_n 3, 1) := by decide +kernel
theorem dL_law_820 : decode cL_law 820 = .ok (.iconst 1, 1) := by decide +kernel
theorem dL_law_821 : decode cL_law 821 = .ok (.iadd, 1) := by decide +kernel
theorem dL_law_822 : decode cL_law 822 = .ok (.iaload, 1) := by decide +kernel
theorem dL_law_823 : decode cL_law 823 = .ok (.invokevirtual 111, 3) := by decide +kernel
theorem dL_law_826 : decode cL_law 826 = .ok (.if_icmp .eq 294, 3) := by decide +kernel
theorem dL_law_829 : decode cL_law 829 = .ok (.iconst 0, 1) := by decide +kernel
theorem dL_law_830 : decode cL_law 830 = .ok (.ireturn, 1) := by decide +kernel
theorem dL_law_831 : decode cL_law 831 = .ok (.aload_n 1, 1) := by decide +kernel
theorem dL_law_832 : decode cL_law 832 = .ok (.aload_n 0, 1) := by decide +kernel
theorem dL_law_833 : decode cL_law 833 = .ok (.iload_n 3, 1) := by decide +kernel
theorem dL_law_834 : decode cL_law 834 = .ok (.iconst 1, 1) := by decide +kernel
theorem dL_law_835 : decode cL_law 835 = .ok (.iadd, 1) := by decide +kernel
theorem dL_law_836 : decode cL_law 836 = .ok (.iaload, 1) := by decide +kernel
theorem dL_law_837 : decode cL_law 837 = .ok (.aload_n 0, 1) := by decide +kernel
theorem dL_law_838 : decode cL_law 838 = .ok (.iload_n 3, 1) := by decide +kernel
theorem dL_law_839 : decode cL_law 839 = .ok (.iconst 2, 1) := by decide +kernel
theorem dL_law_840 : decode cL_law 840 = .ok (.iadd, 1) := by decide +kernel
theorem dL_law_841 : decode cL_law 841 = .ok (.iaload, 1) := by decide +kernel
theorem dL_law_842 : decode cL_law 842 = .ok (.aload_n 0, 1) := by decide +kernel
theorem dL_law_843 : decode cL_law 843 = .ok (.iload_n 3, 1) := by decide +kernel
theorem dL_law_844 : decode cL_law 844 = .ok (.iconst 3, 1) := by decide +kernel
theorem dL_law_845 : decode cL_law 845 = .ok (.iadd, 1) := by decide +kernel
theorem dL_law_846 : decode cL_law 846 = .ok (.iaload, 1) := by decide +kernel
theorem dL_law_847 : decode cL_law 847 = .ok (.invokevirtual 112, 3) := by decide +kernel
theorem dL_law_850 : decode cL_law 850 = .ok (.aload_n 2, 1) := by decide +kernel
theorem dL_law_851 : decode cL_law 851 = .ok (.aload_n 0, 1) := by decide +kernel
theorem dL_law_852 : decode cL_law 852 = .ok (.iload_n 3, 1) := by decide +kernel
theorem dL_law_853 : decode cL_law 853 = .ok (.iconst 1, 1) := by decide +kernel
theorem dL_law_854 : decode cL_law 854 = .ok (.iadd, 1) := by decide +kernel
theorem dL_law_855 : decode cL_law 855 = .ok (.iaload, 1) := by decide +kernel
theorem dL_law_856 : decode cL_law 856 = .ok (.aload_n 0, 1) := by decide +kernel
theorem dL_law_857 : decode cL_law 857 = .ok (.iload_n 3, 1) := by decide +kernel
theorem dL_law_858 : decode cL_law 858 = .ok (.iconst 2, 1) := by decide +kernel
theorem dL_law_859 : decode cL_law 859 = .ok (.iadd, 1) := by decide +kernel
theorem dL_law_860 : decode cL_law 860 = .ok (.iaload, 1) := by decide +kernel
theorem dL_law_861 : decode cL_law 861 = .ok (.aload_n 0, 1) := by decide +kernel
theorem dL_law_862 : decode cL_law 862 = .ok (.iload_n 3, 1) := by decide +kernel
theorem dL_law_863 : decode cL_law 863 = .ok (.iconst 3, 1) := by decide +kernel
theorem dL_law_864 : decode cL_law 864 = .ok (.iadd, 1) := by decide +kernel
theorem dL_law_865 : decode cL_law 865 = .ok (.iaload, 1) := by decide +kernel
theorem dL_law_866 : decode cL_law 866 = .ok (.invokevirtual 115, 3) := by decide +kernel
theorem dL_law_869 : decode cL_law 869 = .ok (.if_icmp .eq 251, 3) := by decide +kernel
theorem dL_law_872 : decode cL_law 872 = .ok (.iconst 0, 1) := by decide +kernel
theorem dL_law_873 : decode cL_law 873 = .ok (.ireturn, 1) := by decide +kernel
theorem dL_law_874 : decode cL_law 874 = .ok (.aload_n 1, 1) := by decide +kernel
theorem dL_law_875 : decode cL_law 875 = .ok (.aload_n 0, 1) := by decide +kernel
theorem dL_law_876 : decode cL_law 876 = .ok (.iload_n 3, 1) := by decide +kernel
theorem dL_law_877 : decode cL_law 877 = .ok (.iconst 1, 1) := by decide +kernel
theorem dL_law_878 : decode cL_law 878 = .ok (.iadd, 1) := by decide +kernel
theorem dL_law_879 : decode cL_law 879 = .ok (.iaload, 1) := by decide +kernel
theorem dL_law_880 : decode cL_law 880 = .ok (.invokevirtual 116, 3) := by decide +kernel
theorem dL_law_883 : decode cL_law 883 = .ok (.aload_n 2, 1) := by decide +kernel
theorem dL_law_884 : decode cL_law 884 = .ok (.aload_n 0, 1) := by decide +kernel
theorem dL_law_885 : decode cL_law 885 = .ok (.iload_n 3, 1) := by decide +kernel
theorem dL_law_886 : decode cL_law 886 = .ok (.iconst 1, 1) := by decide +kernel
theorem dL_law_887 : decode cL_law 887 = .ok (.iadd, 1) := by decide +kernel
theorem dL_law_888 : decode cL_law 888 = .ok (.iaload, 1) := by decide +kernel
theorem dL_law_889 : decode cL_law 889 = .ok (.invokevirtual 119, 3) := by decide +kernel
theorem dL_law_892 : decode cL_law 892 = .ok (.if_icmp .eq 228, 3) := by decide +kernel
theorem dL_law_895 : decode cL_law 895 = .ok (.iconst 0, 1) := by decide +kernel
theorem dL_law_896 : decode cL_law 896 = .ok (.ireturn, 1) := by decide +kernel
theorem dL_law_897 : decode cL_law 897 = .ok (.aload_n 1, 1) := by decide +kernel
theorem dL_law_898 : decode cL_law 898 = .ok (.invokevirtual 120, 3) := by decide +kernel
theorem dL_law_901 : decode cL_law 901 = .ok (.aload_n 2, 1) := by decide +kernel
theorem dL_law_902 : decode cL_law 902 = .ok (.invokevirtual 123, 3) := by decide +kernel
theorem dL_law_905 : decode cL_law 905 = .ok (.if_icmp .eq 215, 3) := by decide +kernel
theorem dL_law_908 : decode cL_law 908 = .ok (.iconst 0, 1) := by decide +kernel
theorem dL_law_909 : decode cL_law 909 = .ok (.ireturn, 1) := by decide +kernel
theorem dL_law_910 : decode cL_law 910 = .ok (.aload_n 1, 1) := by decide +kernel
theorem dL_law_911 : decode cL_law 911 = .ok (.invokevirtual 124, 3) := by decide +kernel
theorem dL_law_914 : decode cL_law 914 = .ok (.aload_n 2, 1) := by decide +kernel
theorem dL_law_915 : decode cL_law 915 = .ok (.invokevirtual 127, 3) := by decide +kernel
theorem dL_law_918 : decode cL_law 918 = .ok (.if_icmp .eq 202, 3) := by decide +kernel
theorem dL_law_921 : decode cL_law 921 = .ok (.iconst 0, 1) := by decide +kernel
theorem dL_law_922 : decode cL_law 922 = .ok (.ireturn, 1) := by decide +kernel
theorem dL_law_923 : decode cL_law 923 = .ok (.aload_n 1, 1) := by decide +kernel
theorem dL_law_924 : decode cL_law 924 = .ok (.aload_n 0, 1) := by decide +kernel
theorem dL_law_925 : decode cL_law 925 = .ok (.iload_n 3, 1) := by decide +kernel
theorem dL_law_926 : decode cL_law 926 = .ok (.iconst 1, 1) := by decide +kernel
theorem dL_law_927 : decode cL_law 927 = .ok (.iadd, 1) := by decide +kernel
theorem dL_law_928 : decode cL_law 928 = .ok (.iaload, 1) := by decide +kernel
theorem dL_law_929 : decode cL_law 929 = .ok (.invokevirtual 128, 3) := by decide +kernel
theorem dL_law_932 : decode cL_law 932 = .ok (.aload_n 2, 1) := by decide +kernel
theorem dL_law_933 : decode cL_law 933 = .ok (.aload_n 0, 1) := by decide +kernel
theorem dL_law_934 : decode cL_law 934 = .ok (.iload_n 3, 1) := by decide +kernel
theorem dL_law_935 : decode cL_law 935 = .ok (.iconst 1, 1) := by decide +kernel
theorem dL_law_936 : decode cL_law 936 = .ok (.iadd, 1) := by decide +kernel
theorem dL_law_937 : decode cL_law 937 = .ok (.iaload, 1) := by decide +kernel
theorem dL_law_938 : decode cL_law 938 = .ok (.invokevirtual 131, 3) := by decide +kernel
theorem dL_law_941 : decode cL_law 941 = .ok (.if_icmp .eq 179, 3) := by decide +kernel
theorem dL_law_944 : decode cL_law 944 = .ok (.iconst 0, 1) := by decide +kernel
theorem dL_law_945 : decode cL_law 945 = .ok (.ireturn, 1) := by decide +kernel
theorem dL_law_946 : decode cL_law 946 = .ok (.aload_n 1, 1) := by decide +kernel
theorem dL_law_947 : decode cL_law 947 = .ok (.invokevirtual 132, 3) := by decide +kernel
theorem dL_law_950 : decode cL_law 950 = .ok (.aload_n 2, 1) := by decide +kernel
theorem dL_law_951 : decode cL_law 951 = .ok (.invokevirtual 135, 3) := by decide +kernel
theorem dL_law_954 : decode cL_law 954 = .ok (.if_icmp .eq 166, 3) := by decide +kernel
theorem dL_law_957 : decode cL_law 957 = .ok (.iconst 0, 1) := by decide +kernel
theorem dL_law_958 : decode cL_law 958 = .ok (.ireturn, 1) := by decide +kernel
theorem dL_law_959 : decode cL_law 959 = .ok (.aload_n 1, 1) := by decide +kernel
theorem dL_law_960 : decode cL_law 960 = .ok (.invokevirtual 136, 3) := by decide +kernel
theorem dL_law_963 : decode cL_law 963 = .ok (.aload_n 2, 1) := by decide +kernel
theorem dL_law_964 : decode cL_law 964 = .ok (.invokevirtual 139, 3) := by decide +kernel
theorem dL_law_967 : decode cL_law 967 = .ok (.if_icmp .eq 153, 3) := by decide +kernel
theorem dL_law_970 : decode cL_law 970 = .ok (.iconst 0, 1) := by decide +kernel
theorem dL_law_971 : decode cL_law 971 = .ok (.ireturn, 1) := by decide +kernel
theorem dL_law_972 : decode cL_law 972 = .ok (.aload_n 1, 1) := by decide +kernel
theorem dL_law_973 : decode cL_law 973 = .ok (.aload_n 0, 1) := by decide +kernel
theorem dL_law_974 : decode cL_law 974 = .ok (.iload_n 3, 1) := by decide +kernel
theorem dL_law_975 : decode cL_law 975 = .ok (.iconst 1, 1) := by decide +kernel
theorem dL_law_976 : decode cL_law 976 = .ok (.iadd, 1) := by decide +kernel
theorem dL_law_977 : decode cL_law 977 = .ok (.iaload, 1) := by decide +kernel
theorem dL_law_978 : decode cL_law 978 = .ok (.invokevirtual 140, 3) := by decide +kernel
theorem dL_law_981 : decode cL_law 981 = .ok (.aload_n 2, 1) := by decide +kernel
theorem dL_law_982 : decode cL_law 982 = .ok (.aload_n 0, 1) := by decide +kernel
theorem dL_law_983 : decode cL_law 983 = .ok (.iload_n 3, 1) := by decide +kernel
theorem dL_law_984 : decode cL_law 984 = .ok (.iconst 1, 1) := by decide +kernel
theorem dL_law_985 : decode cL_law 985 = .ok (.iadd, 1) := by decide +kernel
theorem dL_law_986 : decode cL_law 986 = .ok (.iaload, 1) := by decide +kernel
theorem dL_law_987 : decode cL_law 987 = .ok (.invokevirtual 143, 3) := by decide +kernel
theorem dL_law_990 : decode cL_law 990 = .ok (.if_icmp .eq 130, 3) := by decide +kernel
theorem dL_law_993 : decode cL_law 993 = .ok (.iconst 0, 1) := by decide +kernel
theorem dL_law_994 : decode cL_law 994 = .ok (.ireturn, 1) := by decide +kernel
theorem dL_law_995 : decode cL_law 995 = .ok (.aload_n 1, 1) := by decide +kernel
theorem dL_law_996 : decode cL_law 996 = .ok (.aload_n 0, 1) := by decide +kernel
theorem dL_law_997 : decode cL_law 997 = .ok (.iload_n 3, 1) := by decide +kernel
theorem dL_law_998 : decode cL_law 998 = .ok (.iconst 1, 1) := by decide +kernel
theorem dL_law_999 : decode cL_law 999 = .ok (.iadd, 1) := by decide +kernel
theorem dL_law_1000 : decode cL_law 1000 = .ok (.iaload, 1) := by decide +kernel
theorem dL_law_1001 : decode cL_law 1001 = .ok (.invokevirtual 144, 3) := by decide +kernel
theorem dL_law_1004 : decode cL_law 1004 = .ok (.aload_n 2, 1) := by decide +kernel
theorem dL_law_1005 : decode cL_law 1005 = .ok (.aload_n 0, 1) := by decide +kernel
theorem dL_law_1006 : decode cL_law 1006 = .ok (.iload_n 3, 1) := by decide +kernel
theorem dL_law_1007 : decode cL_law 1007 = .ok (.iconst 1, 1) := by decide +kernel
theorem dL_law_1008 : decode cL_law 1008 = .ok (.iadd, 1) := by decide +kernel
theorem dL_law_1009 : decode cL_law 1009 = .ok (.iaload, 1) := by decide +kernel
theorem dL_law_1010 : decode cL_law 1010 = .ok (.invokevirtual 147, 3) := by decide +kernel
theorem dL_law_1013 : decode cL_law 1013 = .ok (.if_icmp .eq 107, 3) := by decide +kernel
theorem dL_law_1016 : decode cL_law 1016 = .ok (.iconst 0, 1) := by decide +kernel
theorem dL_law_1017 : decode cL_law 1017 = .ok (.ireturn, 1) := by decide +kernel
theorem dL_law_1018 : decode cL_law 1018 = .ok (.aload_n 1, 1) := by decide +kernel
theorem dL_law_1019 : decode cL_law 1019 = .ok (.aload_n 0, 1) := by decide +kernel
theorem dL_law_1020 : decode cL_law 1020 = .ok (.iload_n 3, 1) := by decide +kernel
theorem dL_law_1021 : decode cL_law 1021 = .ok (.iconst 1, 1) := by decide +kernel
theorem dL_law_1022 : decode cL_law 1022 = .ok (.iadd, 1) := by decide +kernel
theorem dL_law_1023 : decode cL_law 1023 = .ok (.iaload, 1) := by decide +kernel
theorem dL_law_1024 : decode cL_law 1024 = .ok (.aload_n 0, 1) := by decide +kernel
theorem dL_law_1025 : decode cL_law 1025 = .ok (.iload_n 3, 1) := by decide +kernel
theorem dL_law_1026 : decode cL_law 1026 = .ok (.iconst 2, 1) := by decide +kernel
theorem dL_law_1027 : decode cL_law 1027 = .ok (.iadd, 1) := by decide +kernel
theorem dL_law_1028 : decode cL_law 1028 = .ok (.iaload, 1) := by decide +kernel
theorem dL_law_1029 : decode cL_law 1029 = .ok (.invokevirtual 148, 3) := by decide +kernel
theorem dL_law_1032 : decode cL_law 1032 = .ok (.aload_n 2, 1) := by decide +kernel
theorem dL_law_1033 : decode cL_law 1033 = .ok (.aload_n 0, 1) := by decide +kernel
theorem dL_law_1034 : decode cL_law 1034 = .ok (.iload_n 3, 1) := by decide +kernel
theorem dL_law_1035 : decode cL_law 1035 = .ok (.iconst 1, 1) := by decide +kernel
theorem dL_law_1036 : decode cL_law 1036 = .ok (.iadd, 1) := by decide +kernel
theorem dL_law_1037 : decode cL_law 1037 = .ok (.iaload, 1) := by decide +kernel
theorem dL_law_1038 : decode cL_law 1038 = .ok (.aload_n 0, 1) := by decide +kernel
theorem dL_law_1039 : decode cL_law 1039 = .ok (.iload_n 3, 1) := by decide +kernel
theorem dL_law_1040 : decode cL_law 1040 = .ok (.iconst 2, 1) := by decide +kernel
theorem dL_law_1041 : decode cL_law 1041 = .ok (.iadd, 1) := by decide +kernel
theorem dL_law_1042 : decode cL_law 1042 = .ok (.iaload, 1) := by decide +kernel
theorem dL_law_1043 : decode cL_law 1043 = .ok (.invokevirtual 151, 3) := by decide +kernel
theorem dL_law_1046 : decode cL_law 1046 = .ok (.if_icmp .eq 74, 3) := by decide +kernel
theorem dL_law_1049 : decode cL_law 1049 = .ok (.iconst 0, 1) := by decide +kernel
theorem dL_law_1050 : decode cL_law 1050 = .ok (.ireturn, 1) := by decide +kernel
theorem dL_law_1051 : decode cL_law 1051 = .ok (.aload_n 1, 1) := by decide +kernel
theorem dL_law_1052 : decode cL_law 1052 = .ok (.aload_n 0, 1) := by decide +kernel
theorem dL_law_1053 : decode cL_law 1053 = .ok (.iload_n 3, 1) := by decide +kernel
theorem dL_law_1054 : decode cL_law 1054 = .ok (.iconst 1, 1) := by decide +kernel
theorem dL_law_1055 : decode cL_law 1055 = .ok (.iadd, 1) := by decide +kernel
theorem dL_law_1056 : decode cL_law 1056 = .ok (.iaload, 1) := by decide +kernel
theorem dL_law_1057 : decode cL_law 1057 = .ok (.invokevirtual 152, 3) := by decide +kernel
theorem dL_law_1060 : decode cL_law 1060 = .ok (.aload_n 2, 1) := by decide +kernel
theorem dL_law_1061 : decode cL_law 1061 = .ok (.aload_n 0, 1) := by decide +kernel
theorem dL_law_1062 : decode cL_law 1062 = .ok (.iload_n 3, 1) := by decide +kernel
theorem dL_law_1063 : decode cL_law 1063 = .ok (.iconst 1, 1) := by decide +kernel
theorem dL_law_1064 : decode cL_law 1064 = .ok (.iadd, 1) := by decide +kernel
theorem dL_law_1065 : decode cL_law 1065 = .ok (.iaload, 1) := by decide +kernel
theorem dL_law_1066 : decode cL_law 1066 = .ok (.invokevirtual 155, 3) := by decide +kernel
theorem dL_law_1069 : decode cL_law 1069 = .ok (.if_icmp .eq 51, 3) := by decide +kernel
theorem dL_law_1072 : decode cL_law 1072 = .ok (.iconst 0, 1) := by decide +kernel
theorem dL_law_1073 : decode cL_law 1073 = .ok (.ireturn, 1) := by decide +kernel
theorem dL_law_1074 : decode cL_law 1074 = .ok (.aload_n 1, 1) := by decide +kernel
theorem dL_law_1075 : decode cL_law 1075 = .ok (.aload_n 0, 1) := by decide +kernel
theorem dL_law_1076 : decode cL_law 1076 = .ok (.iload_n 3, 1) := by decide +kernel
theorem dL_law_1077 : decode cL_law 1077 = .ok (.iconst 1, 1) := by decide +kernel
theorem dL_law_1078 : decode cL_law 1078 = .ok (.iadd, 1) := by decide +kernel
theorem dL_law_1079 : decode cL_law 1079 = .ok (.iaload, 1) := by decide +kernel
theorem dL_law_1080 : decode cL_law 1080 = .ok (.invokevirtual 156, 3) := by decide +kernel
theorem dL_law_1083 : decode cL_law 1083 = .ok (.aload_n 2, 1) := by decide +kernel
theorem dL_law_1084 : decode cL_law 1084 = .ok (.aload_n 0, 1) := by decide +kernel
theorem dL_law_1085 : decode cL_law 1085 = .ok (.iload_n 3, 1) := by decide +kernel
theorem dL_law_1086 : decode cL_law 1086 = .ok (.iconst 1, 1) := by decide +kernel
theorem dL_law_1087 : decode cL_law 1087 = .ok (.iadd, 1) := by decide +kernel
theorem dL_law_1088 : decode cL_law 1088 = .ok (.iaload, 1) := by decide +kernel
theorem dL_law_1089 : decode cL_law 1089 = .ok (.invokevirtual 159, 3) := by decide +kernel
theorem dL_law_1092 : decode cL_law 1092 = .ok (.if_icmp .eq 28, 3) := by decide +kernel
theorem dL_law_1095 : decode cL_law 1095 = .ok (.iconst 0, 1) := by decide +kernel
theorem dL_law_1096 : decode cL_law 1096 = .ok (.ireturn, 1) := by decide +kernel
theorem dL_law_1097 : decode cL_law 1097 = .ok (.aload_n 1, 1) := by decide +kernel
theorem dL_law_1098 : decode cL_law 1098 = .ok (.aload_n 0, 1) := by decide +kernel
theorem dL_law_1099 : decode cL_law 1099 = .ok (.iload_n 3, 1) := by decide +kernel
theorem dL_law_1100 : decode cL_law 1100 = .ok (.iconst 1, 1) := by decide +kernel
theorem dL_law_1101 : decode cL_law 1101 = .ok (.iadd, 1) := by decide +kernel
theorem dL_law_1102 : decode cL_law 1102 = .ok (.iaload, 1) := by decide +kernel
theorem dL_law_1103 : decode cL_law 1103 = .ok (.invokevirtual 160, 3) := by decide +kernel
theorem dL_law_1106 : decode cL_law 1106 = .ok (.aload_n 2, 1) := by decide +kernel
theorem dL_law_1107 : decode cL_law 1107 = .ok (.aload_n 0, 1) := by decide +kernel
theorem dL_law_1108 : decode cL_law 1108 = .ok (.iload_n 3, 1) := by decide +kernel
theorem dL_law_1109 : decode cL_law 1109 = .ok (.iconst 1, 1) := by decide +kernel
theorem dL_law_1110 : decode cL_law 1110 = .ok (.iadd, 1) := by decide +kernel
theorem dL_law_1111 : decode cL_law 1111 = .ok (.iaload, 1) := by decide +kernel
theorem dL_law_1112 : decode cL_law 1112 = .ok (.invokevirtual 163, 3) := by decide +kernel
theorem dL_law_1115 : decode cL_law 1115 = .ok (.if_icmp .eq 5, 3) := by decide +kernel
theorem dL_law_1118 : decode cL_law 1118 = .ok (.iconst 0, 1) := by decide +kernel
theorem dL_law_1119 : decode cL_law 1119 = .ok (.ireturn, 1) := by decide +kernel
theorem dL_law_1120 : decode cL_law 1120 = .ok (.iinc 3 6, 3) := by decide +kernel
theorem dL_law_1123 : decode cL_law 1123 = .ok (.goto (-1105), 3) := by decide +kernel
theorem dL_law_1126 : decode cL_law 1126 = .ok (.iconst 1, 1) := by decide +kernel
theorem dL_law_1127 : decode cL_law 1127 = .ok (.ireturn, 1) := by decide +kernel
