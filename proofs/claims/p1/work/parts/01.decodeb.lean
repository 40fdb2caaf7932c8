theorem dX2_notifyDevice_5 : decode cX2_notifyDevice 5 = .ok (.bipush 14, 2) := by decide +kernel
theorem dX2_notifyDevice_7 : decode cX2_notifyDevice 7 = .ok (.iaload, 1) := by decide +kernel
theorem dX2_notifyDevice_8 : decode cX2_notifyDevice 8 = .ok (.aload_n 0, 1) := by decide +kernel
theorem dX2_notifyDevice_9 : decode cX2_notifyDevice 9 = .ok (.getfield 11, 3) := by decide +kernel
theorem dX2_notifyDevice_12 : decode cX2_notifyDevice 12 = .ok (.iconst 0, 1) := by decide +kernel
theorem dX2_notifyDevice_13 : decode cX2_notifyDevice 13 = .ok (.iaload, 1) := by decide +kernel
theorem dX2_notifyDevice_14 : decode cX2_notifyDevice 14 = .ok (.aload_n 0, 1) := by decide +kernel
theorem dX2_notifyDevice_15 : decode cX2_notifyDevice 15 = .ok (.getfield 11, 3) := by decide +kernel
theorem dX2_notifyDevice_18 : decode cX2_notifyDevice 18 = .ok (.bipush 10, 2) := by decide +kernel
theorem dX2_notifyDevice_20 : decode cX2_notifyDevice 20 = .ok (.iaload, 1) := by decide +kernel
theorem dX2_notifyDevice_21 : decode cX2_notifyDevice 21 = .ok (.aload_n 0, 1) := by decide +kernel
theorem dX2_notifyDevice_22 : decode cX2_notifyDevice 22 = .ok (.getfield 11, 3) := by decide +kernel
theorem dX2_notifyDevice_25 : decode cX2_notifyDevice 25 = .ok (.bipush 17, 2) := by decide +kernel
theorem dX2_notifyDevice_27 : decode cX2_notifyDevice 27 = .ok (.iaload, 1) := by decide +kernel
theorem dX2_notifyDevice_28 : decode cX2_notifyDevice 28 = .ok (.invokevirtual 187, 3) := by decide +kernel
theorem dX2_notifyDevice_31 : decode cX2_notifyDevice 31 = .ok (.istore_n 1, 1) := by decide +kernel
theorem dX2_notifyDevice_32 : decode cX2_notifyDevice 32 = .ok (.aload_n 0, 1) := by decide +kernel
theorem dX2_notifyDevice_33 : decode cX2_notifyDevice 33 = .ok (.getfield 11, 3) := by decide +kernel
theorem dX2_notifyDevice_36 : decode cX2_notifyDevice 36 = .ok (.bipush 14, 2) := by decide +kernel
theorem dX2_notifyDevice_38 : decode cX2_notifyDevice 38 = .ok (.aload_n 0, 1) := by decide +kernel
theorem dX2_notifyDevice_39 : decode cX2_notifyDevice 39 = .ok (.getfield 11, 3) := by decide +kernel
theorem dX2_notifyDevice_42 : decode cX2_notifyDevice 42 = .ok (.iconst 0, 1) := by decide +kernel
theorem dX2_notifyDevice_43 : decode cX2_notifyDevice 43 = .ok (.iaload, 1) := by decide +kernel
theorem dX2_notifyDevice_44 : decode cX2_notifyDevice 44 = .ok (.iastore, 1) := by decide +kernel
theorem dX2_notifyDevice_45 : decode cX2_notifyDevice 45 = .ok (.aload_n 0, 1) := by decide +kernel
theorem dX2_notifyDevice_46 : decode cX2_notifyDevice 46 = .ok (.getfield 11, 3) := by decide +kernel
theorem dX2_notifyDevice_49 : decode cX2_notifyDevice 49 = .ok (.bipush 8, 2) := by decide +kernel
theorem dX2_notifyDevice_51 : decode cX2_notifyDevice 51 = .ok (.dup2, 1) := by decide +kernel
theorem dX2_notifyDevice_52 : decode cX2_notifyDevice 52 = .ok (.iaload, 1) := by decide +kernel
theorem dX2_notifyDevice_53 : decode cX2_notifyDevice 53 = .ok (.iload_n 1, 1) := by decide +kernel
theorem dX2_notifyDevice_54 : decode cX2_notifyDevice 54 = .ok (.ifCond .eq 7, 3) := by decide +kernel
theorem dX2_notifyDevice_57 : decode cX2_notifyDevice 57 = .ok (.iconst 1, 1) := by decide +kernel
theorem dX2_notifyDevice_58 : decode cX2_notifyDevice 58 = .ok (.goto 4, 3) := by decide +kernel
theorem dX2_notifyDevice_61 : decode cX2_notifyDevice 61 = .ok (.iconst 0, 1) := by decide +kernel
theorem dX2_notifyDevice_62 : decode cX2_notifyDevice 62 = .ok (.iadd, 1) := by decide +kernel
theorem dX2_notifyDevice_63 : decode cX2_notifyDevice 63 = .ok (.iastore, 1) := by decide +kernel
theorem dX2_notifyDevice_64 : decode cX2_notifyDevice 64 = .ok (.iload_n 1, 1) := by decide +kernel
theorem dX2_notifyDevice_65 : decode cX2_notifyDevice 65 = .ok (.ifCond .eq 7, 3) := by decide +kernel
theorem dX2_notifyDevice_68 : decode cX2_notifyDevice 68 = .ok (.iconst 1, 1) := by decide +kernel
theorem dX2_notifyDevice_69 : decode cX2_notifyDevice 69 = .ok (.goto 4, 3) := by decide +kernel
theorem dX2_notifyDevice_72 : decode cX2_notifyDevice 72 = .ok (.iconst 0, 1) := by decide +kernel
theorem dX2_notifyDevice_73 : decode cX2_notifyDevice 73 = .ok (.ireturn, 1) := by decide +kernel
theorem dX2_notifyDriver_0 : decode cX2_notifyDriver 0 = .ok (.aload_n 0, 1) := by decide +kernel
theorem dX2_notifyDriver_1 : decode cX2_notifyDriver 1 = .ok (.aload_n 0, 1) := by decide +kernel
theorem dX2_notifyDriver_2 : decode cX2_notifyDriver 2 = .ok (.getfield 11, 3) := by decide +kernel
theorem dX2_notifyDriver_5 : decode cX2_notifyDriver 5 = .ok (.bipush 15, 2) := by decide +kernel
theorem dX2_notifyDriver_7 : decode cX2_notifyDriver 7 = .ok (.iaload, 1) := by decide +kernel
theorem dX2_notifyDriver_8 : decode cX2_notifyDriver 8 = .ok (.aload_n 0, 1) := by decide +kernel
theorem dX2_notifyDriver_9 : decode cX2_notifyDriver 9 = .ok (.getfield 11, 3) := by decide +kernel
theorem dX2_notifyDriver_12 : decode cX2_notifyDriver 12 = .ok (.iconst 2, 1) := by decide +kernel
theorem dX2_notifyDriver_13 : decode cX2_notifyDriver 13 = .ok (.iaload, 1) := by decide +kernel
theorem dX2_notifyDriver_14 : decode cX2_notifyDriver 14 = .ok (.aload_n 0, 1) := by decide +kernel
theorem dX2_notifyDriver_15 : decode cX2_notifyDriver 15 = .ok (.getfield 11, 3) := by decide +kernel
theorem dX2_notifyDriver_18 : decode cX2_notifyDriver 18 = .ok (.bipush 11, 2) := by decide +kernel
theorem dX2_notifyDriver_20 : decode cX2_notifyDriver 20 = .ok (.iaload, 1) := by decide +kernel
theorem dX2_notifyDriver_21 : decode cX2_notifyDriver 21 = .ok (.aload_n 0, 1) := by decide +kernel
theorem dX2_notifyDriver_22 : decode cX2_notifyDriver 22 = .ok (.getfield 11, 3) := by decide +kernel
theorem dX2_notifyDriver_25 : decode cX2_notifyDriver 25 = .ok (.bipush 16, 2) := by decide +kernel
theorem dX2_notifyDriver_27 : decode cX2_notifyDriver 27 = .ok (.iaload, 1) := by decide +kernel
theorem dX2_notifyDriver_28 : decode cX2_notifyDriver 28 = .ok (.invokevirtual 187, 3) := by decide +kernel
theorem dX2_notifyDriver_31 : decode cX2_notifyDriver 31 = .ok (.istore_n 1, 1) := by decide +kernel
theorem dX2_notifyDriver_32 : decode cX2_notifyDriver 32 = .ok (.aload_n 0, 1) := by decide +kernel
theorem dX2_notifyDriver_33 : decode cX2_notifyDriver 33 = .ok (.getfield 11, 3) := by decide +kernel
theorem dX2_notifyDriver_36 : decode cX2_notifyDriver 36 = .ok (.bipush 15, 2) := by decide +kernel
theorem dX2_notifyDriver_38 : decode cX2_notifyDriver 38 = .ok (.aload_n 0, 1) := by decide +kernel
theorem dX2_notifyDriver_39 : decode cX2_notifyDriver 39 = .ok (.getfield 11, 3) := by decide +kernel
theorem dX2_notifyDriver_42 : decode cX2_notifyDriver 42 = .ok (.iconst 2, 1) := by decide +kernel
theorem dX2_notifyDriver_43 : decode cX2_notifyDriver 43 = .ok (.iaload, 1) := by decide +kernel
theorem dX2_notifyDriver_44 : decode cX2_notifyDriver 44 = .ok (.iastore, 1) := by decide +kernel
theorem dX2_notifyDriver_45 : decode cX2_notifyDriver 45 = .ok (.aload_n 0, 1) := by decide +kernel
theorem dX2_notifyDriver_46 : decode cX2_notifyDriver 46 = .ok (.getfield 11, 3) := by decide +kernel
theorem dX2_notifyDriver_49 : decode cX2_notifyDriver 49 = .ok (.bipush 9, 2) := by decide +kernel
theorem dX2_notifyDriver_51 : decode cX2_notifyDriver 51 = .ok (.dup2, 1) := by decide +kernel
theorem dX2_notifyDriver_52 : decode cX2_notifyDriver 52 = .ok (.iaload, 1) := by decide +kernel
theorem dX2_notifyDriver_53 : decode cX2_notifyDriver 53 = .ok (.iload_n 1, 1) := by decide +kernel
theorem dX2_notifyDriver_54 : decode cX2_notifyDriver 54 = .ok (.ifCond .eq 7, 3) := by decide +kernel
theorem dX2_notifyDriver_57 : decode cX2_notifyDriver 57 = .ok (.iconst 1, 1) := by decide +kernel
theorem dX2_notifyDriver_58 : decode cX2_notifyDriver 58 = .ok (.goto 4, 3) := by decide +kernel
theorem dX2_notifyDriver_61 : decode cX2_notifyDriver 61 = .ok (.iconst 0, 1) := by decide +kernel
theorem dX2_notifyDriver_62 : decode cX2_notifyDriver 62 = .ok (.iadd, 1) := by decide +kernel
theorem dX2_notifyDriver_63 : decode cX2_notifyDriver 63 = .ok (.iastore, 1) := by decide +kernel
theorem dX2_notifyDriver_64 : decode cX2_notifyDriver 64 = .ok (.iload_n 1, 1) := by decide +kernel
theorem dX2_notifyDriver_65 : decode cX2_notifyDriver 65 = .ok (.ifCond .eq 7, 3) := by decide +kernel
theorem dX2_notifyDriver_68 : decode cX2_notifyDriver 68 = .ok (.iconst 1, 1) := by decide +kernel
theorem dX2_notifyDriver_69 : decode cX2_notifyDriver 69 = .ok (.goto 4, 3) := by decide +kernel
theorem dX2_notifyDriver_72 : decode cX2_notifyDriver 72 = .ok (.iconst 0, 1) := by decide +kernel
theorem dX2_notifyDriver_73 : decode cX2_notifyDriver 73 = .ok (.ireturn, 1) := by decide +kernel
theorem dX2_isNoticeDue_0 : decode cX2_isNoticeDue 0 = .ok (.aload_n 0, 1) := by decide +kernel
theorem dX2_isNoticeDue_1 : decode cX2_isNoticeDue 1 = .ok (.iconst 4, 1) := by decide +kernel
theorem dX2_isNoticeDue_2 : decode cX2_isNoticeDue 2 = .ok (.invokevirtual 86, 3) := by decide +kernel
theorem dX2_isNoticeDue_5 : decode cX2_isNoticeDue 5 = .ok (.ifCond .eq 14, 3) := by decide +kernel
theorem dX2_isNoticeDue_8 : decode cX2_isNoticeDue 8 = .ok (.iload_n 3, 1) := by decide +kernel
theorem dX2_isNoticeDue_9 : decode cX2_isNoticeDue 9 = .ok (.iload_n 1, 1) := by decide +kernel
theorem dX2_isNoticeDue_10 : decode cX2_isNoticeDue 10 = .ok (.iload_n 2, 1) := by decide +kernel
theorem dX2_isNoticeDue_11 : decode cX2_isNoticeDue 11 = .ok (.aload_n 0, 1) := by decide +kernel
theorem dX2_isNoticeDue_12 : decode cX2_isNoticeDue 12 = .ok (.invokevirtual 191, 3) := by decide +kernel
theorem dX2_isNoticeDue_15 : decode cX2_isNoticeDue 15 = .ok (.invokestatic 194, 3) := by decide +kernel
theorem dX2_isNoticeDue_18 : decode cX2_isNoticeDue 18 = .ok (.ireturn, 1) := by decide +kernel
theorem dX2_isNoticeDue_19 : decode cX2_isNoticeDue 19 = .ok (.iload_n 1, 1) := by decide +kernel
theorem dX2_isNoticeDue_20 : decode cX2_isNoticeDue 20 = .ok (.iload_n 2, 1) := by decide +kernel
theorem dX2_isNoticeDue_21 : decode cX2_isNoticeDue 21 = .ok (.if_icmp .eq 12, 3) := by decide +kernel
theorem dX2_isNoticeDue_24 : decode cX2_isNoticeDue 24 = .ok (.iload 4, 2) := by decide +kernel
theorem dX2_isNoticeDue_26 : decode cX2_isNoticeDue 26 = .ok (.ifCond .ne 7, 3) := by decide +kernel
theorem dX2_isNoticeDue_29 : decode cX2_isNoticeDue 29 = .ok (.iconst 1, 1) := by decide +kernel
theorem dX2_isNoticeDue_30 : decode cX2_isNoticeDue 30 = .ok (.goto 4, 3) := by decide +kernel
theorem dX2_isNoticeDue_33 : decode cX2_isNoticeDue 33 = .ok (.iconst 0, 1) := by decide +kernel
theorem dX2_isNoticeDue_34 : decode cX2_isNoticeDue 34 = .ok (.ireturn, 1) := by decide +kernel
theorem dX2_tellEvent_0 : decode cX2_tellEvent 0 = .ok (.iload_n 1, 1) := by decide +kernel
theorem dX2_tellEvent_1 : decode cX2_tellEvent 1 = .ok (.ifCond .eq 8, 3) := by decide +kernel
theorem dX2_tellEvent_4 : decode cX2_tellEvent 4 = .ok (.iload_n 1, 1) := by decide +kernel
theorem dX2_tellEvent_5 : decode cX2_tellEvent 5 = .ok (.iconst 1, 1) := by decide +kernel
theorem dX2_tellEvent_6 : decode cX2_tellEvent 6 = .ok (.if_icmp .ne 15, 3) := by decide +kernel
theorem dX2_tellEvent_9 : decode cX2_tellEvent 9 = .ok (.iload_n 2, 1) := by decide +kernel
theorem dX2_tellEvent_10 : decode cX2_tellEvent 10 = .ok (.ifCond .lt 11, 3) := by decide +kernel
theorem dX2_tellEvent_13 : decode cX2_tellEvent 13 = .ok (.iload_n 2, 1) := by decide +kernel
theorem dX2_tellEvent_14 : decode cX2_tellEvent 14 = .ok (.aload_n 0, 1) := by decide +kernel
theorem dX2_tellEvent_15 : decode cX2_tellEvent 15 = .ok (.invokevirtual 191, 3) := by decide +kernel
theorem dX2_tellEvent_18 : decode cX2_tellEvent 18 = .ok (.if_icmp .lt 5, 3) := by decide +kernel
theorem dX2_tellEvent_21 : decode cX2_tellEvent 21 = .ok (.iconst (-1), 1) := by decide +kernel
theorem dX2_tellEvent_22 : decode cX2_tellEvent 22 = .ok (.ireturn, 1) := by decide +kernel
theorem dX2_tellEvent_23 : decode cX2_tellEvent 23 = .ok (.aload_n 0, 1) := by decide +kernel
theorem dX2_tellEvent_24 : decode cX2_tellEvent 24 = .ok (.iload_n 1, 1) := by decide +kernel
theorem dX2_tellEvent_25 : decode cX2_tellEvent 25 = .ok (.iconst 1, 1) := by decide +kernel
theorem dX2_tellEvent_26 : decode cX2_tellEvent 26 = .ok (.if_icmp .ne 12, 3) := by decide +kernel
theorem dX2_tellEvent_29 : decode cX2_tellEvent 29 = .ok (.aload_n 0, 1) := by decide +kernel
theorem dX2_tellEvent_30 : decode cX2_tellEvent 30 = .ok (.getfield 11, 3) := by decide +kernel
theorem dX2_tellEvent_33 : decode cX2_tellEvent 33 = .ok (.iconst 1, 1) := by decide +kernel
theorem dX2_tellEvent_34 : decode cX2_tellEvent 34 = .ok (.iaload, 1) := by decide +kernel
theorem dX2_tellEvent_35 : decode cX2_tellEvent 35 = .ok (.goto 9, 3) := by decide +kernel
theorem dX2_tellEvent_38 : decode cX2_tellEvent 38 = .ok (.aload_n 0, 1) := by decide +kernel
theorem dX2_tellEvent_39 : decode cX2_tellEvent 39 = .ok (.getfield 11, 3) := by decide +kernel
theorem dX2_tellEvent_42 : decode cX2_tellEvent 42 = .ok (.iconst 3, 1) := by decide +kernel
theorem dX2_tellEvent_43 : decode cX2_tellEvent 43 = .ok (.iaload, 1) := by decide +kernel
theorem dX2_tellEvent_44 : decode cX2_tellEvent 44 = .ok (.iload_n 2, 1) := by decide +kernel
theorem dX2_tellEvent_45 : decode cX2_tellEvent 45 = .ok (.invokevirtual 133, 3) := by decide +kernel
theorem dX2_tellEvent_48 : decode cX2_tellEvent 48 = .ok (.istore_n 3, 1) := by decide +kernel
theorem dX2_tellEvent_49 : decode cX2_tellEvent 49 = .ok (.aload_n 0, 1) := by decide +kernel
theorem dX2_tellEvent_50 : decode cX2_tellEvent 50 = .ok (.getfield 11, 3) := by decide +kernel
theorem dX2_tellEvent_53 : decode cX2_tellEvent 53 = .ok (.iload_n 1, 1) := by decide +kernel
theorem dX2_tellEvent_54 : decode cX2_tellEvent 54 = .ok (.iconst 1, 1) := by decide +kernel
theorem dX2_tellEvent_55 : decode cX2_tellEvent 55 = .ok (.if_icmp .ne 8, 3) := by decide +kernel
theorem dX2_tellEvent_58 : decode cX2_tellEvent 58 = .ok (.bipush 10, 2) := by decide +kernel
theorem dX2_tellEvent_60 : decode cX2_tellEvent 60 = .ok (.goto 5, 3) := by decide +kernel
theorem dX2_tellEvent_63 : decode cX2_tellEvent 63 = .ok (.bipush 11, 2) := by decide +kernel
theorem dX2_tellEvent_65 : decode cX2_tellEvent 65 = .ok (.iload_n 3, 1) := by decide +kernel
theorem dX2_tellEvent_66 : decode cX2_tellEvent 66 = .ok (.iastore, 1) := by decide +kernel
theorem dX2_tellEvent_67 : decode cX2_tellEvent 67 = .ok (.iload_n 3, 1) := by decide +kernel
theorem dX2_tellEvent_68 : decode cX2_tellEvent 68 = .ok (.ireturn, 1) := by decide +kernel
theorem dX2_tellHush_0 : decode cX2_tellHush 0 = .ok (.iload_n 1, 1) := by decide +kernel
theorem dX2_tellHush_1 : decode cX2_tellHush 1 = .ok (.ifCond .eq 8, 3) := by decide +kernel
theorem dX2_tellHush_4 : decode cX2_tellHush 4 = .ok (.iload_n 1, 1) := by decide +kernel
theorem dX2_tellHush_5 : decode cX2_tellHush 5 = .ok (.iconst 1, 1) := by decide +kernel
theorem dX2_tellHush_6 : decode cX2_tellHush 6 = .ok (.if_icmp .ne 12, 3) := by decide +kernel
theorem dX2_tellHush_9 : decode cX2_tellHush 9 = .ok (.iload_n 2, 1) := by decide +kernel
theorem dX2_tellHush_10 : decode cX2_tellHush 10 = .ok (.ifCond .eq 10, 3) := by decide +kernel
theorem dX2_tellHush_13 : decode cX2_tellHush 13 = .ok (.iload_n 2, 1) := by decide +kernel
theorem dX2_tellHush_14 : decode cX2_tellHush 14 = .ok (.iconst 1, 1) := by decide +kernel
theorem dX2_tellHush_15 : decode cX2_tellHush 15 = .ok (.if_icmp .eq 5, 3) := by decide +kernel
theorem dX2_tellHush_18 : decode cX2_tellHush 18 = .ok (.iconst (-1), 1) := by decide +kernel
theorem dX2_tellHush_19 : decode cX2_tellHush 19 = .ok (.ireturn, 1) := by decide +kernel
theorem dX2_tellHush_20 : decode cX2_tellHush 20 = .ok (.aload_n 0, 1) := by decide +kernel
theorem dX2_tellHush_21 : decode cX2_tellHush 21 = .ok (.getfield 11, 3) := by decide +kernel
theorem dX2_tellHush_24 : decode cX2_tellHush 24 = .ok (.iload_n 1, 1) := by decide +kernel
theorem dX2_tellHush_25 : decode cX2_tellHush 25 = .ok (.iconst 1, 1) := by decide +kernel
theorem dX2_tellHush_26 : decode cX2_tellHush 26 = .ok (.if_icmp .ne 8, 3) := by decide +kernel
theorem dX2_tellHush_29 : decode cX2_tellHush 29 = .ok (.bipush 17, 2) := by decide +kernel
theorem dX2_tellHush_31 : decode cX2_tellHush 31 = .ok (.goto 5, 3) := by decide +kernel
theorem dX2_tellHush_34 : decode cX2_tellHush 34 = .ok (.bipush 16, 2) := by decide +kernel
theorem dX2_tellHush_36 : decode cX2_tellHush 36 = .ok (.iload_n 2, 1) := by decide +kernel
theorem dX2_tellHush_37 : decode cX2_tellHush 37 = .ok (.iastore, 1) := by decide +kernel
theorem dX2_tellHush_38 : decode cX2_tellHush 38 = .ok (.iconst 0, 1) := by decide +kernel
theorem dX2_tellHush_39 : decode cX2_tellHush 39 = .ok (.ireturn, 1) := by decide +kernel
theorem dX2_drainInto_0 : decode cX2_drainInto 0 = .ok (.iconst 0, 1) := by decide +kernel
theorem dX2_drainInto_1 : decode cX2_drainInto 1 = .ok (.istore_n 2, 1) := by decide +kernel
theorem dX2_drainInto_2 : decode cX2_drainInto 2 = .ok (.iconst 0, 1) := by decide +kernel
theorem dX2_drainInto_3 : decode cX2_drainInto 3 = .ok (.istore_n 3, 1) := by decide +kernel
theorem dX2_drainInto_4 : decode cX2_drainInto 4 = .ok (.iload_n 3, 1) := by decide +kernel
theorem dX2_drainInto_5 : decode cX2_drainInto 5 = .ok (.aload_n 0, 1) := by decide +kernel
theorem dX2_drainInto_6 : decode cX2_drainInto 6 = .ok (.getfield 11, 3) := by decide +kernel
theorem dX2_drainInto_9 : decode cX2_drainInto 9 = .ok (.iconst 5, 1) := by decide +kernel
theorem dX2_drainInto_10 : decode cX2_drainInto 10 = .ok (.iaload, 1) := by decide +kernel
theorem dX2_drainInto_11 : decode cX2_drainInto 11 = .ok (.if_icmp .ge 39, 3) := by decide +kernel
theorem dX2_drainInto_14 : decode cX2_drainInto 14 = .ok (.aload_n 0, 1) := by decide +kernel
theorem dX2_drainInto_15 : decode cX2_drainInto 15 = .ok (.iload_n 3, 1) := by decide +kernel
theorem dX2_drainInto_16 : decode cX2_drainInto 16 = .ok (.iconst 0, 1) := by decide +kernel
theorem dX2_drainInto_17 : decode cX2_drainInto 17 = .ok (.invokevirtual 127, 3) := by decide +kernel
theorem dX2_drainInto_20 : decode cX2_drainInto 20 = .ok (.iconst 3, 1) := by decide +kernel
theorem dX2_drainInto_21 : decode cX2_drainInto 21 = .ok (.if_icmp .ge 23, 3) := by decide +kernel
theorem dX2_drainInto_24 : decode cX2_drainInto 24 = .ok (.aload_n 0, 1) := by decide +kernel
theorem dX2_drainInto_25 : decode cX2_drainInto 25 = .ok (.iload_n 3, 1) := by decide +kernel
theorem dX2_drainInto_26 : decode cX2_drainInto 26 = .ok (.iconst 0, 1) := by decide +kernel
theorem dX2_drainInto_27 : decode cX2_drainInto 27 = .ok (.iconst 4, 1) := by decide +kernel
theorem dX2_drainInto_28 : decode cX2_drainInto 28 = .ok (.invokevirtual 118, 3) := by decide +kernel
theorem dX2_drainInto_31 : decode cX2_drainInto 31 = .ok (.iload_n 2, 1) := by decide +kernel
theorem dX2_drainInto_32 : decode cX2_drainInto 32 = .ok (.aload_n 1, 1) := by decide +kernel
theorem dX2_drainInto_33 : decode cX2_drainInto 33 = .ok (.arraylength, 1) := by decide +kernel
theorem dX2_drainInto_34 : decode cX2_drainInto 34 = .ok (.if_icmp .ge 10, 3) := by decide +kernel
theorem dX2_drainInto_37 : decode cX2_drainInto 37 = .ok (.aload_n 1, 1) := by decide +kernel
theorem dX2_drainInto_38 : decode cX2_drainInto 38 = .ok (.iload_n 2, 1) := by decide +kernel
theorem dX2_drainInto_39 : decode cX2_drainInto 39 = .ok (.iload_n 3, 1) := by decide +kernel
theorem dX2_drainInto_40 : decode cX2_drainInto 40 = .ok (.iastore, 1) := by decide +kernel
theorem dX2_drainInto_41 : decode cX2_drainInto 41 = .ok (.iinc 2 1, 3) := by decide +kernel
theorem dX2_drainInto_44 : decode cX2_drainInto 44 = .ok (.iinc 3 1, 3) := by decide +kernel
theorem dX2_drainInto_47 : decode cX2_drainInto 47 = .ok (.goto (-43), 3) := by decide +kernel
theorem dX2_drainInto_50 : decode cX2_drainInto 50 = .ok (.aload_n 0, 1) := by decide +kernel
theorem dX2_drainInto_51 : decode cX2_drainInto 51 = .ok (.invokevirtual 43, 3) := by decide +kernel
theorem dX2_drainInto_54 : decode cX2_drainInto 54 = .ok (.iload_n 2, 1) := by decide +kernel
theorem dX2_drainInto_55 : decode cX2_drainInto 55 = .ok (.ireturn, 1) := by decide +kernel
theorem dX3_init_0 : decode cX3_init 0 = .ok (.aload_n 0, 1) := by decide +kernel
theorem dX3_init_1 : decode cX3_init 1 = .ok (.invokespecial 3, 3) := by decide +kernel
theorem dX3_init_4 : decode cX3_init 4 = .ok (.aload_n 0, 1) := by decide +kernel
theorem dX3_init_5 : decode cX3_init 5 = .ok (.sipush 4001, 3) := by decide +kernel
theorem dX3_init_8 : decode cX3_init 8 = .ok (.newarray .int, 2) := by decide +kernel
theorem dX3_init_10 : decode cX3_init 10 = .ok (.putfield 11, 3) := by decide +kernel
theorem dX3_init_13 : decode cX3_init 13 = .ok (.aload_n 0, 1) := by decide +kernel
theorem dX3_init_14 : decode cX3_init 14 = .ok (.sipush 4001, 3) := by decide +kernel
theorem dX3_init_17 : decode cX3_init 17 = .ok (.newarray .int, 2) := by decide +kernel
theorem dX3_init_19 : decode cX3_init 19 = .ok (.putfield 15, 3) := by decide +kernel
theorem dX3_init_22 : decode cX3_init 22 = .ok (.aload_n 0, 1) := by decide +kernel
theorem dX3_init_23 : decode cX3_init 23 = .ok (.sipush 8192, 3) := by decide +kernel
theorem dX3_init_26 : decode cX3_init 26 = .ok (.newarray .int, 2) := by decide +kernel
theorem dX3_init_28 : decode cX3_init 28 = .ok (.putfield 18, 3) := by decide +kernel
theorem dX3_init_31 : decode cX3_init 31 = .ok (.aload_n 0, 1) := by decide +kernel
theorem dX3_init_32 : decode cX3_init 32 = .ok (.new 21, 3) := by decide +kernel
theorem dX3_init_35 : decode cX3_init 35 = .ok (.dup, 1) := by decide +kernel
theorem dX3_init_36 : decode cX3_init 36 = .ok (.invokespecial 23, 3) := by decide +kernel
theorem dX3_init_39 : decode cX3_init 39 = .ok (.putfield 24, 3) := by decide +kernel
theorem dX3_init_42 : decode cX3_init 42 = .ok (.aload_n 0, 1) := by decide +kernel
theorem dX3_init_43 : decode cX3_init 43 = .ok (.sipush 4001, 3) := by decide +kernel
theorem dX3_init_46 : decode cX3_init 46 = .ok (.newarray .byte, 2) := by decide +kernel
theorem dX3_init_48 : decode cX3_init 48 = .ok (.putfield 28, 3) := by decide +kernel
theorem dX3_init_51 : decode cX3_init 51 = .ok (.aload_n 0, 1) := by decide +kernel
theorem dX3_init_52 : decode cX3_init 52 = .ok (.iconst 0, 1) := by decide +kernel
theorem dX3_init_53 : decode cX3_init 53 = .ok (.putfield 32, 3) := by decide +kernel
theorem dX3_init_56 : decode cX3_init 56 = .ok (.aload_n 0, 1) := by decide +kernel
theorem dX3_init_57 : decode cX3_init 57 = .ok (.iconst 0, 1) := by decide +kernel
theorem dX3_init_58 : decode cX3_init 58 = .ok (.putfield 36, 3) := by decide +kernel
theorem dX3_init_61 : decode cX3_init 61 = .ok (.aload_n 0, 1) := by decide +kernel
theorem dX3_init_62 : decode cX3_init 62 = .ok (.iconst (-1), 1) := by decide +kernel
theorem dX3_init_63 : decode cX3_init 63 = .ok (.putfield 39, 3) := by decide +kernel
theorem dX3_init_66 : decode cX3_init 66 = .ok (.aload_n 0, 1) := by decide +kernel
theorem dX3_init_67 : decode cX3_init 67 = .ok (.iconst 0, 1) := by decide +kernel
theorem dX3_init_68 : decode cX3_init 68 = .ok (.putfield 42, 3) := by decide +kernel
theorem dX3_init_71 : decode cX3_init 71 = .ok (.aload_n 0, 1) := by decide +kernel
theorem dX3_init_72 : decode cX3_init 72 = .ok (.iconst 0, 1) := by decide +kernel
theorem dX3_init_73 : decode cX3_init 73 = .ok (.putfield 45, 3) := by decide +kernel
theorem dX3_init_76 : decode cX3_init 76 = .ok (.aload_n 0, 1) := by decide +kernel
theorem dX3_init_77 : decode cX3_init 77 = .ok (.iconst 0, 1) := by decide +kernel
theorem dX3_init_78 : decode cX3_init 78 = .ok (.putfield 48, 3) := by decide +kernel
theorem dX3_init_81 : decode cX3_init 81 = .ok (.aload_n 0, 1) := by decide +kernel
theorem dX3_init_82 : decode cX3_init 82 = .ok (.iconst 1, 1) := by decide +kernel
theorem dX3_init_83 : decode cX3_init 83 = .ok (.putfield 51, 3) := by decide +kernel
theorem dX3_init_86 : decode cX3_init 86 = .ok (.return_, 1) := by decide +kernel
theorem dX3_isTooLarge_0 : decode cX3_isTooLarge 0 = .ok (.aload_n 0, 1) := by decide +kernel
theorem dX3_isTooLarge_1 : decode cX3_isTooLarge 1 = .ok (.getfield 36, 3) := by decide +kernel
theorem dX3_isTooLarge_4 : decode cX3_isTooLarge 4 = .ok (.sipush 4000, 3) := by decide +kernel
theorem dX3_isTooLarge_7 : decode cX3_isTooLarge 7 = .ok (.if_icmp .le 7, 3) := by decide +kernel
theorem dX3_isTooLarge_10 : decode cX3_isTooLarge 10 = .ok (.iconst 1, 1) := by decide +kernel
theorem dX3_isTooLarge_11 : decode cX3_isTooLarge 11 = .ok (.goto 4, 3) := by decide +kernel
theorem dX3_isTooLarge_14 : decode cX3_isTooLarge 14 = .ok (.iconst 0, 1) := by decide +kernel
theorem dX3_isTooLarge_15 : decode cX3_isTooLarge 15 = .ok (.ireturn, 1) := by decide +kernel
theorem dX3_stateCount_0 : decode cX3_stateCount 0 = .ok (.aload_n 0, 1) := by decide +kernel
theorem dX3_stateCount_1 : decode cX3_stateCount 1 = .ok (.invokevirtual 55, 3) := by decide +kernel
theorem dX3_stateCount_4 : decode cX3_stateCount 4 = .ok (.ifCond .eq 7, 3) := by decide +kernel
theorem dX3_stateCount_7 : decode cX3_stateCount 7 = .ok (.iconst (-1), 1) := by decide +kernel
theorem dX3_stateCount_8 : decode cX3_stateCount 8 = .ok (.goto 7, 3) := by decide +kernel
theorem dX3_stateCount_11 : decode cX3_stateCount 11 = .ok (.aload_n 0, 1) := by decide +kernel
theorem dX3_stateCount_12 : decode cX3_stateCount 12 = .ok (.getfield 36, 3) := by decide +kernel
theorem dX3_stateCount_15 : decode cX3_stateCount 15 = .ok (.ireturn, 1) := by decide +kernel
theorem dX3_run_0 : decode cX3_run 0 = .ok (.aload_n 0, 1) := by decide +kernel
theorem dX3_run_1 : decode cX3_run 1 = .ok (.iconst 0, 1) := by decide +kernel
theorem dX3_run_2 : decode cX3_run 2 = .ok (.putfield 51, 3) := by decide +kernel
theorem dX3_run_5 : decode cX3_run 5 = .ok (.aload_n 0, 1) := by decide +kernel
theorem dX3_run_6 : decode cX3_run 6 = .ok (.getfield 18, 3) := by decide +kernel
theorem dX3_run_9 : decode cX3_run 9 = .ok (.iconst 0, 1) := by decide +kernel
theorem dX3_run_10 : decode cX3_run 10 = .ok (.invokestatic 59, 3) := by decide +kernel
theorem dX3_run_13 : decode cX3_run 13 = .ok (.aload_n 0, 1) := by decide +kernel
theorem dX3_run_14 : decode cX3_run 14 = .ok (.iconst 0, 1) := by decide +kernel
theorem dX3_run_15 : decode cX3_run 15 = .ok (.putfield 36, 3) := by decide +kernel
theorem dX3_run_18 : decode cX3_run 18 = .ok (.aload_n 0, 1) := by decide +kernel
theorem dX3_run_19 : decode cX3_run 19 = .ok (.iconst (-1), 1) := by decide +kernel
theorem dX3_run_20 : decode cX3_run 20 = .ok (.putfield 39, 3) := by decide +kernel
theorem dX3_run_23 : decode cX3_run 23 = .ok (.aload_n 0, 1) := by decide +kernel
theorem dX3_run_24 : decode cX3_run 24 = .ok (.iconst 0, 1) := by decide +kernel
theorem dX3_run_25 : decode cX3_run 25 = .ok (.putfield 42, 3) := by decide +kernel
theorem dX3_run_28 : decode cX3_run 28 = .ok (.aload_n 0, 1) := by decide +kernel
theorem dX3_run_29 : decode cX3_run 29 = .ok (.iconst (-1), 1) := by decide +kernel
theorem dX3_run_30 : decode cX3_run 30 = .ok (.putfield 45, 3) := by decide +kernel
theorem dX3_run_33 : decode cX3_run 33 = .ok (.aload_n 0, 1) := by decide +kernel
theorem dX3_run_34 : decode cX3_run 34 = .ok (.iconst (-1), 1) := by decide +kernel
theorem dX3_run_35 : decode cX3_run 35 = .ok (.putfield 48, 3) := by decide +kernel
theorem dX3_run_38 : decode cX3_run 38 = .ok (.aload_n 0, 1) := by decide +kernel
theorem dX3_run_39 : decode cX3_run 39 = .ok (.iconst 0, 1) := by decide +kernel
theorem dX3_run_40 : decode cX3_run 40 = .ok (.iconst (-1), 1) := by decide +kernel
theorem dX3_run_41 : decode cX3_run 41 = .ok (.invokevirtual 65, 3) := by decide +kernel
theorem dX3_run_44 : decode cX3_run 44 = .ok (.iconst 0, 1) := by decide +kernel
theorem dX3_run_45 : decode cX3_run 45 = .ok (.istore_n 2, 1) := by decide +kernel
theorem dX3_run_46 : decode cX3_run 46 = .ok (.iload_n 2, 1) := by decide +kernel
theorem dX3_run_47 : decode cX3_run 47 = .ok (.aload_n 0, 1) := by decide +kernel
theorem dX3_run_48 : decode cX3_run 48 = .ok (.getfield 36, 3) := by decide +kernel
theorem dX3_run_51 : decode cX3_run 51 = .ok (.if_icmp .ge 96, 3) := by decide +kernel
theorem dX3_run_54 : decode cX3_run 54 = .ok (.iload_n 2, 1) := by decide +kernel
theorem dX3_run_55 : decode cX3_run 55 = .ok (.sipush 4000, 3) := by decide +kernel
theorem dX3_run_58 : decode cX3_run 58 = .ok (.if_icmp .ge 89, 3) := by decide +kernel
theorem dX3_run_61 : decode cX3_run 61 = .ok (.aload_n 0, 1) := by decide +kernel
theorem dX3_run_62 : decode cX3_run 62 = .ok (.invokevirtual 55, 3) := by decide +kernel
theorem dX3_run_65 : decode cX3_run 65 = .ok (.ifCond .ne 82, 3) := by decide +kernel
theorem dX3_run_68 : decode cX3_run 68 = .ok (.aload_n 0, 1) := by decide +kernel
theorem dX3_run_69 : decode cX3_run 69 = .ok (.getfield 24, 3) := by decide +kernel
theorem dX3_run_72 : decode cX3_run 72 = .ok (.aload_n 0, 1) := by decide +kernel
theorem dX3_run_73 : decode cX3_run 73 = .ok (.getfield 11, 3) := by decide +kernel
theorem dX3_run_76 : decode cX3_run 76 = .ok (.iload_n 2, 1) := by decide +kernel
theorem dX3_run_77 : decode cX3_run 77 = .ok (.iaload, 1) := by decide +kernel
theorem dX3_run_78 : decode cX3_run 78 = .ok (.invokevirtual 69, 3) := by decide +kernel
theorem dX3_run_81 : decode cX3_run 81 = .ok (.aload_n 0, 1) := by decide +kernel
theorem dX3_run_82 : decode cX3_run 82 = .ok (.aload_n 1, 1) := by decide +kernel
theorem dX3_run_83 : decode cX3_run 83 = .ok (.iload_n 2, 1) := by decide +kernel
theorem dX3_run_84 : decode cX3_run 84 = .ok (.invokevirtual 73, 3) := by decide +kernel
theorem dX3_run_87 : decode cX3_run 87 = .ok (.iconst 0, 1) := by decide +kernel
theorem dX3_run_88 : decode cX3_run 88 = .ok (.istore_n 3, 1) := by decide +kernel
theorem dX3_run_89 : decode cX3_run 89 = .ok (.iload_n 3, 1) := by decide +kernel
theorem dX3_run_90 : decode cX3_run 90 = .ok (.iconst 1, 1) := by decide +kernel
theorem dX3_run_91 : decode cX3_run 91 = .ok (.if_icmp .gt 50, 3) := by decide +kernel
theorem dX3_run_94 : decode cX3_run 94 = .ok (.aload_n 0, 1) := by decide +kernel
theorem dX3_run_95 : decode cX3_run 95 = .ok (.getfield 24, 3) := by decide +kernel
theorem dX3_run_98 : decode cX3_run 98 = .ok (.aload_n 0, 1) := by decide +kernel
theorem dX3_run_99 : decode cX3_run 99 = .ok (.getfield 11, 3) := by decide +kernel
theorem dX3_run_102 : decode cX3_run 102 = .ok (.iload_n 2, 1) := by decide +kernel
theorem dX3_run_103 : decode cX3_run 103 = .ok (.iaload, 1) := by decide +kernel
theorem dX3_run_104 : decode cX3_run 104 = .ok (.invokevirtual 69, 3) := by decide +kernel
theorem dX3_run_107 : decode cX3_run 107 = .ok (.aload_n 1, 1) := by decide +kernel
theorem dX3_run_108 : decode cX3_run 108 = .ok (.aload_n 0, 1) := by decide +kernel
theorem dX3_run_109 : decode cX3_run 109 = .ok (.getfield 24, 3) := by decide +kernel
theorem dX3_run_112 : decode cX3_run 112 = .ok (.iload_n 3, 1) := by decide +kernel
theorem dX3_run_113 : decode cX3_run 113 = .ok (.invokevirtual 77, 3) := by decide +kernel
theorem dX3_run_116 : decode cX3_run 116 = .ok (.ifCond .eq 19, 3) := by decide +kernel
theorem dX3_run_119 : decode cX3_run 119 = .ok (.aload_n 0, 1) := by decide +kernel
theorem dX3_run_120 : decode cX3_run 120 = .ok (.aload_n 0, 1) := by decide +kernel
theorem dX3_run_121 : decode cX3_run 121 = .ok (.getfield 24, 3) := by decide +kernel
theorem dX3_run_124 : decode cX3_run 124 = .ok (.invokevirtual 83, 3) := by decide +kernel
theorem dX3_run_127 : decode cX3_run 127 = .ok (.iload_n 2, 1) := by decide +kernel
theorem dX3_run_128 : decode cX3_run 128 = .ok (.iconst 2, 1) := by decide +kernel
theorem dX3_run_129 : decode cX3_run 129 = .ok (.imul, 1) := by decide +kernel
theorem dX3_run_130 : decode cX3_run 130 = .ok (.iload_n 3, 1) := by decide +kernel
theorem dX3_run_131 : decode cX3_run 131 = .ok (.iadd, 1) := by decide +kernel
theorem dX3_run_132 : decode cX3_run 132 = .ok (.invokevirtual 65, 3) := by decide +kernel
theorem dX3_run_135 : decode cX3_run 135 = .ok (.iinc 3 1, 3) := by decide +kernel
theorem dX3_run_138 : decode cX3_run 138 = .ok (.goto (-49), 3) := by decide +kernel
theorem dX3_run_141 : decode cX3_run 141 = .ok (.iinc 2 1, 3) := by decide +kernel
theorem dX3_run_144 : decode cX3_run 144 = .ok (.goto (-98), 3) := by decide +kernel
theorem dX3_run_147 : decode cX3_run 147 = .ok (.return_, 1) := by decide +kernel
theorem dX3_judge_0 : decode cX3_judge 0 = .ok (.aload_n 1, 1) := by decide +kernel
theorem dX3_judge_1 : decode cX3_judge 1 = .ok (.aload_n 0, 1) := by decide +kernel
theorem dX3_judge_2 : decode cX3_judge 2 = .ok (.getfield 24, 3) := by decide +kernel
theorem dX3_judge_5 : decode cX3_judge 5 = .ok (.invokevirtual 87, 3) := by decide +kernel
theorem dX3_judge_8 : decode cX3_judge 8 = .ok (.ifCond .ne 4, 3) := by decide +kernel
theorem dX3_judge_11 : decode cX3_judge 11 = .ok (.return_, 1) := by decide +kernel
theorem dX3_judge_12 : decode cX3_judge 12 = .ok (.aload_n 0, 1) := by decide +kernel
theorem dX3_judge_13 : decode cX3_judge 13 = .ok (.aload_n 0, 1) := by decide +kernel
theorem dX3_judge_14 : decode cX3_judge 14 = .ok (.getfield 45, 3) := by decide +kernel
theorem dX3_judge_17 : decode cX3_judge 17 = .ok (.iconst (-1), 1) := by decide +kernel
theorem dX3_judge_18 : decode cX3_judge 18 = .ok (.if_icmp .ne 13, 3) := by decide +kernel
theorem dX3_judge_21 : decode cX3_judge 21 = .ok (.aload_n 0, 1) := by decide +kernel
theorem dX3_judge_22 : decode cX3_judge 22 = .ok (.getfield 24, 3) := by decide +kernel
theorem dX3_judge_25 : decode cX3_judge 25 = .ok (.getfield 91, 3) := by decide +kernel
theorem dX3_judge_28 : decode cX3_judge 28 = .ok (.goto 17, 3) := by decide +kernel
theorem dX3_judge_31 : decode cX3_judge 31 = .ok (.aload_n 0, 1) := by decide +kernel
theorem dX3_judge_32 : decode cX3_judge 32 = .ok (.getfield 45, 3) := by decide +kernel
theorem dX3_judge_35 : decode cX3_judge 35 = .ok (.aload_n 0, 1) := by decide +kernel
theorem dX3_judge_36 : decode cX3_judge 36 = .ok (.getfield 24, 3) := by decide +kernel
theorem dX3_judge_39 : decode cX3_judge 39 = .ok (.getfield 91, 3) := by decide +kernel
theorem dX3_judge_42 : decode cX3_judge 42 = .ok (.invokestatic 94, 3) := by decide +kernel
theorem dX3_judge_45 : decode cX3_judge 45 = .ok (.putfield 45, 3) := by decide +kernel
theorem dX3_judge_48 : decode cX3_judge 48 = .ok (.aload_n 0, 1) := by decide +kernel
theorem dX3_judge_49 : decode cX3_judge 49 = .ok (.aload_n 0, 1) := by decide +kernel
theorem dX3_judge_50 : decode cX3_judge 50 = .ok (.getfield 48, 3) := by decide +kernel
theorem dX3_judge_53 : decode cX3_judge 53 = .ok (.aload_n 0, 1) := by decide +kernel
theorem dX3_judge_54 : decode cX3_judge 54 = .ok (.getfield 24, 3) := by decide +kernel
theorem dX3_judge_57 : decode cX3_judge 57 = .ok (.getfield 91, 3) := by decide +kernel
theorem dX3_judge_60 : decode cX3_judge 60 = .ok (.invokestatic 100, 3) := by decide +kernel
theorem dX3_judge_63 : decode cX3_judge 63 = .ok (.putfield 48, 3) := by decide +kernel
theorem dX3_judge_66 : decode cX3_judge 66 = .ok (.aload_n 1, 1) := by decide +kernel
theorem dX3_judge_67 : decode cX3_judge 67 = .ok (.aload_n 0, 1) := by decide +kernel
theorem dX3_judge_68 : decode cX3_judge 68 = .ok (.getfield 24, 3) := by decide +kernel
theorem dX3_judge_71 : decode cX3_judge 71 = .ok (.invokevirtual 103, 3) := by decide +kernel
theorem dX3_judge_74 : decode cX3_judge 74 = .ok (.ifCond .eq 33, 3) := by decide +kernel
theorem dX3_judge_77 : decode cX3_judge 77 = .ok (.aload_n 0, 1) := by decide +kernel
theorem dX3_judge_78 : decode cX3_judge 78 = .ok (.dup, 1) := by decide +kernel
theorem dX3_judge_79 : decode cX3_judge 79 = .ok (.getfield 42, 3) := by decide +kernel
theorem dX3_judge_82 : decode cX3_judge 82 = .ok (.iconst 1, 1) := by decide +kernel
theorem dX3_judge_83 : decode cX3_judge 83 = .ok (.iadd, 1) := by decide +kernel
theorem dX3_judge_84 : decode cX3_judge 84 = .ok (.putfield 42, 3) := by decide +kernel
theorem dX3_judge_87 : decode cX3_judge 87 = .ok (.aload_n 0, 1) := by decide +kernel
theorem dX3_judge_88 : decode cX3_judge 88 = .ok (.aload_n 0, 1) := by decide +kernel
theorem dX3_judge_89 : decode cX3_judge 89 = .ok (.getfield 39, 3) := by decide +kernel
theorem dX3_judge_92 : decode cX3_judge 92 = .ok (.iconst (-1), 1) := by decide +kernel
theorem dX3_judge_93 : decode cX3_judge 93 = .ok (.if_icmp .ne 7, 3) := by decide +kernel
theorem dX3_judge_96 : decode cX3_judge 96 = .ok (.iload_n 2, 1) := by decide +kernel
theorem dX3_judge_97 : decode cX3_judge 97 = .ok (.goto 7, 3) := by decide +kernel
theorem dX3_judge_100 : decode cX3_judge 100 = .ok (.aload_n 0, 1) := by decide +kernel
theorem dX3_judge_101 : decode cX3_judge 101 = .ok (.getfield 39, 3) := by decide +kernel
theorem dX3_judge_104 : decode cX3_judge 104 = .ok (.putfield 39, 3) := by decide +kernel
theorem dX3_judge_107 : decode cX3_judge 107 = .ok (.return_, 1) := by decide +kernel
theorem dX3_add_0 : decode cX3_add 0 = .ok (.iload_n 1, 1) := by decide +kernel
theorem dX3_add_1 : decode cX3_add 1 = .ok (.ldc 106, 2) := by decide +kernel
theorem dX3_add_3 : decode cX3_add 3 = .ok (.imul, 1) := by decide +kernel
theorem dX3_add_4 : decode cX3_add 4 = .ok (.bipush 19, 2) := by decide +kernel
theorem dX3_add_6 : decode cX3_add 6 = .ok (.iushr, 1) := by decide +kernel
theorem dX3_add_7 : decode cX3_add 7 = .ok (.istore_n 3, 1) := by decide +kernel
theorem dX3_add_8 : decode cX3_add 8 = .ok (.iconst 0, 1) := by decide +kernel
theorem dX3_add_9 : decode cX3_add 9 = .ok (.istore 4, 2) := by decide +kernel
theorem dX3_add_11 : decode cX3_add 11 = .ok (.iload 4, 2) := by decide +kernel
theorem dX3_add_13 : decode cX3_add 13 = .ok (.sipush 8192, 3) := by decide +kernel
theorem dX3_add_16 : decode cX3_add 16 = .ok (.if_icmp .ge 57, 3) := by decide +kernel
theorem dX3_add_19 : decode cX3_add 19 = .ok (.aload_n 0, 1) := by decide +kernel
theorem dX3_add_20 : decode cX3_add 20 = .ok (.getfield 18, 3) := by decide +kernel
theorem dX3_add_23 : decode cX3_add 23 = .ok (.iload_n 3, 1) := by decide +kernel
theorem dX3_add_24 : decode cX3_add 24 = .ok (.iaload, 1) := by decide +kernel
theorem dX3_add_25 : decode cX3_add 25 = .ok (.iconst 1, 1) := by decide +kernel
theorem dX3_add_26 : decode cX3_add 26 = .ok (.isub, 1) := by decide +kernel
theorem dX3_add_27 : decode cX3_add 27 = .ok (.istore 5, 2) := by decide +kernel
theorem dX3_add_29 : decode cX3_add 29 = .ok (.iload 5, 2) := by decide +kernel
theorem dX3_add_31 : decode cX3_add 31 = .ok (.ifCond .lt 42, 3) := by decide +kernel
theorem dX3_add_34 : decode cX3_add 34 = .ok (.iload 5, 2) := by decide +kernel
theorem dX3_add_36 : decode cX3_add 36 = .ok (.aload_n 0, 1) := by decide +kernel
theorem dX3_add_37 : decode cX3_add 37 = .ok (.getfield 11, 3) := by decide +kernel
theorem dX3_add_40 : decode cX3_add 40 = .ok (.arraylength, 1) := by decide +kernel
theorem dX3_add_41 : decode cX3_add 41 = .ok (.if_icmp .lt 6, 3) := by decide +kernel
theorem dX3_add_44 : decode cX3_add 44 = .ok (.goto 29, 3) := by decide +kernel
theorem dX3_add_47 : decode cX3_add 47 = .ok (.aload_n 0, 1) := by decide +kernel
theorem dX3_add_48 : decode cX3_add 48 = .ok (.getfield 11, 3) := by decide +kernel
theorem dX3_add_51 : decode cX3_add 51 = .ok (.iload 5, 2) := by decide +kernel
theorem dX3_add_53 : decode cX3_add 53 = .ok (.iaload, 1) := by decide +kernel
theorem dX3_add_54 : decode cX3_add 54 = .ok (.iload_n 1, 1) := by decide +kernel
theorem dX3_add_55 : decode cX3_add 55 = .ok (.if_icmp .ne 4, 3) := by decide +kernel
theorem dX3_add_58 : decode cX3_add 58 = .ok (.return_, 1) := by decide +kernel
theorem dX3_add_59 : decode cX3_add 59 = .ok (.iload_n 3, 1) := by decide +kernel
theorem dX3_add_60 : decode cX3_add 60 = .ok (.iconst 1, 1) := by decide +kernel
theorem dX3_add_61 : decode cX3_add 61 = .ok (.iadd, 1) := by decide +kernel
theorem dX3_add_62 : decode cX3_add 62 = .ok (.sipush 8191, 3) := by decide +kernel
theorem dX3_add_65 : decode cX3_add 65 = .ok (.iand, 1) := by decide +kernel
theorem dX3_add_66 : decode cX3_add 66 = .ok (.istore_n 3, 1) := by decide +kernel
theorem dX3_add_67 : decode cX3_add 67 = .ok (.iinc 4 1, 3) := by decide +kernel
theorem dX3_add_70 : decode cX3_add 70 = .ok (.goto (-59), 3) := by decide +kernel
theorem dX3_add_73 : decode cX3_add 73 = .ok (.aload_n 0, 1) := by decide +kernel
theorem dX3_add_74 : decode cX3_add 74 = .ok (.getfield 36, 3) := by decide +kernel
theorem dX3_add_77 : decode cX3_add 77 = .ok (.sipush 4000, 3) := by decide +kernel
theorem dX3_add_80 : decode cX3_add 80 = .ok (.if_icmp .gt 43, 3) := by decide +kernel
theorem dX3_add_83 : decode cX3_add 83 = .ok (.aload_n 0, 1) := by decide +kernel
theorem dX3_add_84 : decode cX3_add 84 = .ok (.getfield 11, 3) := by decide +kernel
theorem dX3_add_87 : decode cX3_add 87 = .ok (.aload_n 0, 1) := by decide +kernel
theorem dX3_add_88 : decode cX3_add 88 = .ok (.getfield 36, 3) := by decide +kernel
theorem dX3_add_91 : decode cX3_add 91 = .ok (.iload_n 1, 1) := by decide +kernel
theorem dX3_add_92 : decode cX3_add 92 = .ok (.iastore, 1) := by decide +kernel
theorem dX3_add_93 : decode cX3_add 93 = .ok (.aload_n 0, 1) := by decide +kernel
theorem dX3_add_94 : decode cX3_add 94 = .ok (.getfield 15, 3) := by decide +kernel
theorem dX3_add_97 : decode cX3_add 97 = .ok (.aload_n 0, 1) := by decide +kernel
theorem dX3_add_98 : decode cX3_add 98 = .ok (.getfield 36, 3) := by decide +kernel
theorem dX3_add_101 : decode cX3_add 101 = .ok (.iload_n 2, 1) := by decide +kernel
theorem dX3_add_102 : decode cX3_add 102 = .ok (.iastore, 1) := by decide +kernel
theorem dX3_add_103 : decode cX3_add 103 = .ok (.aload_n 0, 1) := by decide +kernel
theorem dX3_add_104 : decode cX3_add 104 = .ok (.dup, 1) := by decide +kernel
theorem dX3_add_105 : decode cX3_add 105 = .ok (.getfield 36, 3) := by decide +kernel
theorem dX3_add_108 : decode cX3_add 108 = .ok (.iconst 1, 1) := by decide +kernel
theorem dX3_add_109 : decode cX3_add 109 = .ok (.iadd, 1) := by decide +kernel
theorem dX3_add_110 : decode cX3_add 110 = .ok (.putfield 36, 3) := by decide +kernel
theorem dX3_add_113 : decode cX3_add 113 = .ok (.aload_n 0, 1) := by decide +kernel
theorem dX3_add_114 : decode cX3_add 114 = .ok (.getfield 18, 3) := by decide +kernel
theorem dX3_add_117 : decode cX3_add 117 = .ok (.iload_n 3, 1) := by decide +kernel
theorem dX3_add_118 : decode cX3_add 118 = .ok (.aload_n 0, 1) := by decide +kernel
theorem dX3_add_119 : decode cX3_add 119 = .ok (.getfield 36, 3) := by decide +kernel
theorem dX3_add_122 : decode cX3_add 122 = .ok (.iastore, 1) := by decide +kernel
theorem dX3_add_123 : decode cX3_add 123 = .ok (.return_, 1) := by decide +kernel
theorem dX3_keepMissedPath_0 : decode cX3_keepMissedPath 0 = .ok (.aload_n 0, 1) := by decide +kernel
theorem dX3_keepMissedPath_1 : decode cX3_keepMissedPath 1 = .ok (.invokevirtual 55, 3) := by decide +kernel
theorem dX3_keepMissedPath_4 : decode cX3_keepMissedPath 4 = .ok (.ifCond .ne 11, 3) := by decide +kernel
theorem dX3_keepMissedPath_7 : decode cX3_keepMissedPath 7 = .ok (.aload_n 0, 1) := by decide +kernel
theorem dX3_keepMissedPath_8 : decode cX3_keepMissedPath 8 = .ok (.getfield 39, 3) := by decide +kernel
theorem dX3_keepMissedPath_11 : decode cX3_keepMissedPath 11 = .ok (.iconst (-1), 1) := by decide +kernel
theorem dX3_keepMissedPath_12 : decode cX3_keepMissedPath 12 = .ok (.if_icmp .ne 5, 3) := by decide +kernel
theorem dX3_keepMissedPath_15 : decode cX3_keepMissedPath 15 = .ok (.iconst (-1), 1) := by decide +kernel
theorem dX3_keepMissedPath_16 : decode cX3_keepMissedPath 16 = .ok (.ireturn, 1) := by decide +kernel
theorem dX3_keepMissedPath_17 : decode cX3_keepMissedPath 17 = .ok (.iconst 0, 1) := by decide +kernel
theorem dX3_keepMissedPath_18 : decode cX3_keepMissedPath 18 = .ok (.istore_n 1, 1) := by decide +kernel
theorem dX3_keepMissedPath_19 : decode cX3_keepMissedPath 19 = .ok (.aload_n 0, 1) := by decide +kernel
theorem dX3_keepMissedPath_20 : decode cX3_keepMissedPath 20 = .ok (.aload_n 0, 1) := by decide +kernel
theorem dX3_keepMissedPath_21 : decode cX3_keepMissedPath 21 = .ok (.getfield 39, 3) := by decide +kernel
theorem dX3_keepMissedPath_24 : decode cX3_keepMissedPath 24 = .ok (.invokevirtual 107, 3) := by decide +kernel
theorem dX3_keepMissedPath_27 : decode cX3_keepMissedPath 27 = .ok (.istore_n 2, 1) := by decide +kernel
theorem dX3_keepMissedPath_28 : decode cX3_keepMissedPath 28 = .ok (.iload_n 2, 1) := by decide +kernel
theorem dX3_keepMissedPath_29 : decode cX3_keepMissedPath 29 = .ok (.iconst (-1), 1) := by decide +kernel
theorem dX3_keepMissedPath_30 : decode cX3_keepMissedPath 30 = .ok (.if_icmp .eq 24, 3) := by decide +kernel
theorem dX3_keepMissedPath_33 : decode cX3_keepMissedPath 33 = .ok (.iload_n 1, 1) := by decide +kernel
theorem dX3_keepMissedPath_34 : decode cX3_keepMissedPath 34 = .ok (.sipush 4000, 3) := by decide +kernel
theorem dX3_keepMissedPath_37 : decode cX3_keepMissedPath 37 = .ok (.if_icmp .ge 17, 3) := by decide +kernel
theorem dX3_keepMissedPath_40 : decode cX3_keepMissedPath 40 = .ok (.iinc 1 1, 3) := by decide +kernel
theorem dX3_keepMissedPath_43 : decode cX3_keepMissedPath 43 = .ok (.aload_n 0, 1) := by decide +kernel
theorem dX3_keepMissedPath_44 : decode cX3_keepMissedPath 44 = .ok (.iload_n 2, 1) := by decide +kernel
theorem dX3_keepMissedPath_45 : decode cX3_keepMissedPath 45 = .ok (.iconst 1, 1) := by decide +kernel
theorem dX3_keepMissedPath_46 : decode cX3_keepMissedPath 46 = .ok (.ishr, 1) := by decide +kernel
theorem dX3_keepMissedPath_47 : decode cX3_keepMissedPath 47 = .ok (.invokevirtual 107, 3) := by decide +kernel
theorem dX3_keepMissedPath_50 : decode cX3_keepMissedPath 50 = .ok (.istore_n 2, 1) := by decide +kernel
theorem dX3_keepMissedPath_51 : decode cX3_keepMissedPath 51 = .ok (.goto (-23), 3) := by decide +kernel
theorem dX3_keepMissedPath_54 : decode cX3_keepMissedPath 54 = .ok (.aload_n 0, 1) := by decide +kernel
theorem dX3_keepMissedPath_55 : decode cX3_keepMissedPath 55 = .ok (.aload_n 0, 1) := by decide +kernel
theorem dX3_keepMissedPath_56 : decode cX3_keepMissedPath 56 = .ok (.getfield 39, 3) := by decide +kernel
theorem dX3_keepMissedPath_59 : decode cX3_keepMissedPath 59 = .ok (.invokevirtual 107, 3) := by decide +kernel
theorem dX3_keepMissedPath_62 : decode cX3_keepMissedPath 62 = .ok (.istore_n 2, 1) := by decide +kernel
theorem dX3_keepMissedPath_63 : decode cX3_keepMissedPath 63 = .ok (.iload_n 1, 1) := by decide +kernel
theorem dX3_keepMissedPath_64 : decode cX3_keepMissedPath 64 = .ok (.iconst 1, 1) := by decide +kernel
theorem dX3_keepMissedPath_65 : decode cX3_keepMissedPath 65 = .ok (.isub, 1) := by decide +kernel
theorem dX3_keepMissedPath_66 : decode cX3_keepMissedPath 66 = .ok (.istore_n 3, 1) := by decide +kernel
theorem dX3_keepMissedPath_67 : decode cX3_keepMissedPath 67 = .ok (.iload_n 3, 1) := by decide +kernel
theorem dX3_keepMissedPath_68 : decode cX3_keepMissedPath 68 = .ok (.ifCond .lt 27, 3) := by decide +kernel
theorem dX3_keepMissedPath_71 : decode cX3_keepMissedPath 71 = .ok (.aload_n 0, 1) := by decide +kernel
theorem dX3_keepMissedPath_72 : decode cX3_keepMissedPath 72 = .ok (.getfield 28, 3) := by decide +kernel
theorem dX3_keepMissedPath_75 : decode cX3_keepMissedPath 75 = .ok (.iload_n 3, 1) := by decide +kernel
theorem dX3_keepMissedPath_76 : decode cX3_keepMissedPath 76 = .ok (.iload_n 2, 1) := by decide +kernel
theorem dX3_keepMissedPath_77 : decode cX3_keepMissedPath 77 = .ok (.iconst 1, 1) := by decide +kernel
theorem dX3_keepMissedPath_78 : decode cX3_keepMissedPath 78 = .ok (.iand, 1) := by decide +kernel
theorem dX3_keepMissedPath_79 : decode cX3_keepMissedPath 79 = .ok (.i2b, 1) := by decide +kernel
theorem dX3_keepMissedPath_80 : decode cX3_keepMissedPath 80 = .ok (.bastore, 1) := by decide +kernel
theorem dX3_keepMissedPath_81 : decode cX3_keepMissedPath 81 = .ok (.aload_n 0, 1) := by decide +kernel
theorem dX3_keepMissedPath_82 : decode cX3_keepMissedPath 82 = .ok (.iload_n 2, 1) := by decide +kernel
theorem dX3_keepMissedPath_83 : decode cX3_keepMissedPath 83 = .ok (.iconst 1, 1) := by decide +kernel
theorem dX3_keepMissedPath_84 : decode cX3_keepMissedPath 84 = .ok (.ishr, 1) := by decide +kernel
theorem dX3_keepMissedPath_85 : decode cX3_keepMissedPath 85 = .ok (.invokevirtual 107, 3) := by decide +kernel
theorem dX3_keepMissedPath_88 : decode cX3_keepMissedPath 88 = .ok (.istore_n 2, 1) := by decide +kernel
theorem dX3_keepMissedPath_89 : decode cX3_keepMissedPath 89 = .ok (.iinc 3 (-1), 3) := by decide +kernel
theorem dX3_keepMissedPath_92 : decode cX3_keepMissedPath 92 = .ok (.goto (-25), 3) := by decide +kernel
theorem dX3_keepMissedPath_95 : decode cX3_keepMissedPath 95 = .ok (.aload_n 0, 1) := by decide +kernel
theorem dX3_keepMissedPath_96 : decode cX3_keepMissedPath 96 = .ok (.iload_n 1, 1) := by decide +kernel
theorem dX3_keepMissedPath_97 : decode cX3_keepMissedPath 97 = .ok (.putfield 32, 3) := by decide +kernel
theorem dX3_keepMissedPath_100 : decode cX3_keepMissedPath 100 = .ok (.iload_n 1, 1) := by decide +kernel
theorem dX3_keepMissedPath_101 : decode cX3_keepMissedPath 101 = .ok (.ireturn, 1) := by decide +kernel
theorem dX3_originOf_0 : decode cX3_originOf 0 = .ok (.iload_n 1, 1) := by decide +kernel
theorem dX3_originOf_1 : decode cX3_originOf 1 = .ok (.ifCond .lt 29, 3) := by decide +kernel
theorem dX3_originOf_4 : decode cX3_originOf 4 = .ok (.iload_n 1, 1) := by decide +kernel
theorem dX3_originOf_5 : decode cX3_originOf 5 = .ok (.aload_n 0, 1) := by decide +kernel
theorem dX3_originOf_6 : decode cX3_originOf 6 = .ok (.getfield 36, 3) := by decide +kernel
theorem dX3_originOf_9 : decode cX3_originOf 9 = .ok (.if_icmp .ge 21, 3) := by decide +kernel
theorem dX3_originOf_12 : decode cX3_originOf 12 = .ok (.iload_n 1, 1) := by decide +kernel
theorem dX3_originOf_13 : decode cX3_originOf 13 = .ok (.aload_n 0, 1) := by decide +kernel
theorem dX3_originOf_14 : decode cX3_originOf 14 = .ok (.getfield 15, 3) := by decide +kernel
theorem dX3_originOf_17 : decode cX3_originOf 17 = .ok (.arraylength, 1) := by decide +kernel
theorem dX3_originOf_18 : decode cX3_originOf 18 = .ok (.if_icmp .ge 12, 3) := by decide +kernel
theorem dX3_originOf_21 : decode cX3_originOf 21 = .ok (.aload_n 0, 1) := by decide +kernel
theorem dX3_originOf_22 : decode cX3_originOf 22 = .ok (.getfield 15, 3) := by decide +kernel
theorem dX3_originOf_25 : decode cX3_originOf 25 = .ok (.iload_n 1, 1) := by decide +kernel
theorem dX3_originOf_26 : decode cX3_originOf 26 = .ok (.iaload, 1) := by decide +kernel
theorem dX3_originOf_27 : decode cX3_originOf 27 = .ok (.goto 4, 3) := by decide +kernel
theorem dX3_originOf_30 : decode cX3_originOf 30 = .ok (.iconst (-1), 1) := by decide +kernel
theorem dX3_originOf_31 : decode cX3_originOf 31 = .ok (.ireturn, 1) := by decide +kernel
theorem dX3_sideAt_0 : decode cX3_sideAt 0 = .ok (.iload_n 1, 1) := by decide +kernel
theorem dX3_sideAt_1 : decode cX3_sideAt 1 = .ok (.ifCond .lt 29, 3) := by decide +kernel
theorem dX3_sideAt_4 : decode cX3_sideAt 4 = .ok (.iload_n 1, 1) := by decide +kernel
theorem dX3_sideAt_5 : decode cX3_sideAt 5 = .ok (.aload_n 0, 1) := by decide +kernel
theorem dX3_sideAt_6 : decode cX3_sideAt 6 = .ok (.getfield 32, 3) := by decide +kernel
theorem dX3_sideAt_9 : decode cX3_sideAt 9 = .ok (.if_icmp .ge 21, 3) := by decide +kernel
theorem dX3_sideAt_12 : decode cX3_sideAt 12 = .ok (.iload_n 1, 1) := by decide +kernel
theorem dX3_sideAt_13 : decode cX3_sideAt 13 = .ok (.aload_n 0, 1) := by decide +kernel
theorem dX3_sideAt_14 : decode cX3_sideAt 14 = .ok (.getfield 28, 3) := by decide +kernel
theorem dX3_sideAt_17 : decode cX3_sideAt 17 = .ok (.arraylength, 1) := by decide +kernel
theorem dX3_sideAt_18 : decode cX3_sideAt 18 = .ok (.if_icmp .ge 12, 3) := by decide +kernel
theorem dX3_sideAt_21 : decode cX3_sideAt 21 = .ok (.aload_n 0, 1) := by decide +kernel
theorem dX3_sideAt_22 : decode cX3_sideAt 22 = .ok (.getfield 28, 3) := by decide +kernel
theorem dX3_sideAt_25 : decode cX3_sideAt 25 = .ok (.iload_n 1, 1) := by decide +kernel
theorem dX3_sideAt_26 : decode cX3_sideAt 26 = .ok (.baload, 1) := by decide +kernel
theorem dX3_sideAt_27 : decode cX3_sideAt 27 = .ok (.goto 4, 3) := by decide +kernel
theorem dX3_sideAt_30 : decode cX3_sideAt 30 = .ok (.iconst (-1), 1) := by decide +kernel
theorem dX3_sideAt_31 : decode cX3_sideAt 31 = .ok (.ireturn, 1) := by decide +kernel
theorem dX4_init_0 : decode cX4_init 0 = .ok (.aload_n 0, 1) := by decide +kernel
theorem dX4_init_1 : decode cX4_init 1 = .ok (.invokespecial 3, 3) := by decide +kernel
theorem dX4_init_4 : decode cX4_init 4 = .ok (.aload_n 0, 1) := by decide +kernel
theorem dX4_init_5 : decode cX4_init 5 = .ok (.iconst 0, 1) := by decide +kernel
theorem dX4_init_6 : decode cX4_init 6 = .ok (.putfield 9, 3) := by decide +kernel
theorem dX4_init_9 : decode cX4_init 9 = .ok (.aload_n 0, 1) := by decide +kernel
theorem dX4_init_10 : decode cX4_init 10 = .ok (.iconst 0, 1) := by decide +kernel
theorem dX4_init_11 : decode cX4_init 11 = .ok (.putfield 15, 3) := by decide +kernel
theorem dX4_init_14 : decode cX4_init 14 = .ok (.aload_n 0, 1) := by decide +kernel
theorem dX4_init_15 : decode cX4_init 15 = .ok (.iconst 0, 1) := by decide +kernel
theorem dX4_init_16 : decode cX4_init 16 = .ok (.putfield 18, 3) := by decide +kernel
theorem dX4_init_19 : decode cX4_init 19 = .ok (.aload_n 0, 1) := by decide +kernel
theorem dX4_init_20 : decode cX4_init 20 = .ok (.iconst 0, 1) := by decide +kernel
theorem dX4_init_21 : decode cX4_init 21 = .ok (.putfield 21, 3) := by decide +kernel
theorem dX4_init_24 : decode cX4_init 24 = .ok (.aload_n 0, 1) := by decide +kernel
theorem dX4_init_25 : decode cX4_init 25 = .ok (.iconst 0, 1) := by decide +kernel
theorem dX4_init_26 : decode cX4_init 26 = .ok (.putfield 24, 3) := by decide +kernel
theorem dX4_init_29 : decode cX4_init 29 = .ok (.aload_n 0, 1) := by decide +kernel
theorem dX4_init_30 : decode cX4_init 30 = .ok (.iconst 0, 1) := by decide +kernel
theorem dX4_init_31 : decode cX4_init 31 = .ok (.putfield 27, 3) := by decide +kernel
theorem dX4_init_34 : decode cX4_init 34 = .ok (.aload_n 0, 1) := by decide +kernel
theorem dX4_init_35 : decode cX4_init 35 = .ok (.iconst 0, 1) := by decide +kernel
theorem dX4_init_36 : decode cX4_init 36 = .ok (.putfield 30, 3) := by decide +kernel
theorem dX4_init_39 : decode cX4_init 39 = .ok (.aload_n 0, 1) := by decide +kernel
theorem dX4_init_40 : decode cX4_init 40 = .ok (.iconst 0, 1) := by decide +kernel
theorem dX4_init_41 : decode cX4_init 41 = .ok (.putfield 33, 3) := by decide +kernel
theorem dX4_init_44 : decode cX4_init 44 = .ok (.aload_n 0, 1) := by decide +kernel
theorem dX4_init_45 : decode cX4_init 45 = .ok (.iconst 0, 1) := by decide +kernel
theorem dX4_init_46 : decode cX4_init 46 = .ok (.putfield 36, 3) := by decide +kernel
theorem dX4_init_49 : decode cX4_init 49 = .ok (.return_, 1) := by decide +kernel
theorem dX4_clear_0 : decode cX4_clear 0 = .ok (.aload_n 0, 1) := by decide +kernel
theorem dX4_clear_1 : decode cX4_clear 1 = .ok (.iconst 0, 1) := by decide +kernel
theorem dX4_clear_2 : decode cX4_clear 2 = .ok (.invokevirtual 39, 3) := by decide +kernel
theorem dX4_clear_5 : decode cX4_clear 5 = .ok (.return_, 1) := by decide +kernel
theorem dX4_pack_0 : decode cX4_pack 0 = .ok (.aload_n 0, 1) := by decide +kernel
theorem dX4_pack_1 : decode cX4_pack 1 = .ok (.getfield 9, 3) := by decide +kernel
theorem dX4_pack_4 : decode cX4_pack 4 = .ok (.aload_n 0, 1) := by decide +kernel
theorem dX4_pack_5 : decode cX4_pack 5 = .ok (.getfield 18, 3) := by decide +kernel
theorem dX4_pack_8 : decode cX4_pack 8 = .ok (.iconst 4, 1) := by decide +kernel
theorem dX4_pack_9 : decode cX4_pack 9 = .ok (.ishl, 1) := by decide +kernel
theorem dX4_pack_10 : decode cX4_pack 10 = .ok (.ior, 1) := by decide +kernel
theorem dX4_pack_11 : decode cX4_pack 11 = .ok (.aload_n 0, 1) := by decide +kernel
theorem dX4_pack_12 : decode cX4_pack 12 = .ok (.getfield 21, 3) := by decide +kernel
theorem dX4_pack_15 : decode cX4_pack 15 = .ok (.bipush 8, 2) := by decide +kernel
theorem dX4_pack_17 : decode cX4_pack 17 = .ok (.ishl, 1) := by decide +kernel
theorem dX4_pack_18 : decode cX4_pack 18 = .ok (.ior, 1) := by decide +kernel
theorem dX4_pack_19 : decode cX4_pack 19 = .ok (.aload_n 0, 1) := by decide +kernel
theorem dX4_pack_20 : decode cX4_pack 20 = .ok (.getfield 24, 3) := by decide +kernel
theorem dX4_pack_23 : decode cX4_pack 23 = .ok (.bipush 12, 2) := by decide +kernel
theorem dX4_pack_25 : decode cX4_pack 25 = .ok (.ishl, 1) := by decide +kernel
theorem dX4_pack_26 : decode cX4_pack 26 = .ok (.ior, 1) := by decide +kernel
theorem dX4_pack_27 : decode cX4_pack 27 = .ok (.istore_n 1, 1) := by decide +kernel
theorem dX4_pack_28 : decode cX4_pack 28 = .ok (.iload_n 1, 1) := by decide +kernel
theorem dX4_pack_29 : decode cX4_pack 29 = .ok (.aload_n 0, 1) := by decide +kernel
theorem dX4_pack_30 : decode cX4_pack 30 = .ok (.getfield 27, 3) := by decide +kernel
theorem dX4_pack_33 : decode cX4_pack 33 = .ok (.bipush 16, 2) := by decide +kernel
theorem dX4_pack_35 : decode cX4_pack 35 = .ok (.ishl, 1) := by decide +kernel
theorem dX4_pack_36 : decode cX4_pack 36 = .ok (.ior, 1) := by decide +kernel
theorem dX4_pack_37 : decode cX4_pack 37 = .ok (.aload_n 0, 1) := by decide +kernel
theorem dX4_pack_38 : decode cX4_pack 38 = .ok (.getfield 30, 3) := by decide +kernel
theorem dX4_pack_41 : decode cX4_pack 41 = .ok (.bipush 20, 2) := by decide +kernel
theorem dX4_pack_43 : decode cX4_pack 43 = .ok (.ishl, 1) := by decide +kernel
theorem dX4_pack_44 : decode cX4_pack 44 = .ok (.ior, 1) := by decide +kernel
theorem dX4_pack_45 : decode cX4_pack 45 = .ok (.aload_n 0, 1) := by decide +kernel
theorem dX4_pack_46 : decode cX4_pack 46 = .ok (.getfield 36, 3) := by decide +kernel
theorem dX4_pack_49 : decode cX4_pack 49 = .ok (.bipush 24, 2) := by decide +kernel
theorem dX4_pack_51 : decode cX4_pack 51 = .ok (.ishl, 1) := by decide +kernel
theorem dX4_pack_52 : decode cX4_pack 52 = .ok (.ior, 1) := by decide +kernel
theorem dX4_pack_53 : decode cX4_pack 53 = .ok (.aload_n 0, 1) := by decide +kernel
theorem dX4_pack_54 : decode cX4_pack 54 = .ok (.getfield 15, 3) := by decide +kernel
theorem dX4_pack_57 : decode cX4_pack 57 = .ok (.bipush 28, 2) := by decide +kernel
theorem dX4_pack_59 : decode cX4_pack 59 = .ok (.ishl, 1) := by decide +kernel
theorem dX4_pack_60 : decode cX4_pack 60 = .ok (.ior, 1) := by decide +kernel
theorem dX4_pack_61 : decode cX4_pack 61 = .ok (.aload_n 0, 1) := by decide +kernel
theorem dX4_pack_62 : decode cX4_pack 62 = .ok (.getfield 33, 3) := by decide +kernel
theorem dX4_pack_65 : decode cX4_pack 65 = .ok (.bipush 31, 2) := by decide +kernel
theorem dX4_pack_67 : decode cX4_pack 67 = .ok (.ishl, 1) := by decide +kernel
theorem dX4_pack_68 : decode cX4_pack 68 = .ok (.ior, 1) := by decide +kernel
theorem dX4_pack_69 : decode cX4_pack 69 = .ok (.ireturn, 1) := by decide +kernel
theorem dX4_unpack_0 : decode cX4_unpack 0 = .ok (.aload_n 0, 1) := by decide +kernel
theorem dX4_unpack_1 : decode cX4_unpack 1 = .ok (.iload_n 1, 1) := by decide +kernel
theorem dX4_unpack_2 : decode cX4_unpack 2 = .ok (.bipush 15, 2) := by decide +kernel
theorem dX4_unpack_4 : decode cX4_unpack 4 = .ok (.iand, 1) := by decide +kernel
theorem dX4_unpack_5 : decode cX4_unpack 5 = .ok (.putfield 9, 3) := by decide +kernel
theorem dX4_unpack_8 : decode cX4_unpack 8 = .ok (.aload_n 0, 1) := by decide +kernel
theorem dX4_unpack_9 : decode cX4_unpack 9 = .ok (.iload_n 1, 1) := by decide +kernel
theorem dX4_unpack_10 : decode cX4_unpack 10 = .ok (.iconst 4, 1) := by decide +kernel
theorem dX4_unpack_11 : decode cX4_unpack 11 = .ok (.iushr, 1) := by decide +kernel
theorem dX4_unpack_12 : decode cX4_unpack 12 = .ok (.bipush 15, 2) := by decide +kernel
theorem dX4_unpack_14 : decode cX4_unpack 14 = .ok (.iand, 1) := by decide +kernel
theorem dX4_unpack_15 : decode cX4_unpack 15 = .ok (.putfield 18, 3) := by decide +kernel
theorem dX4_unpack_18 : decode cX4_unpack 18 = .ok (.aload_n 0, 1) := by decide +kernel
theorem dX4_unpack_19 : decode cX4_unpack 19 = .ok (.iload_n 1, 1) := by decide +kernel
theorem dX4_unpack_20 : decode cX4_unpack 20 = .ok (.bipush 8, 2) := by decide +kernel
theorem dX4_unpack_22 : decode cX4_unpack 22 = .ok (.iushr, 1) := by decide +kernel
theorem dX4_unpack_23 : decode cX4_unpack 23 = .ok (.bipush 15, 2) := by decide +kernel
theorem dX4_unpack_25 : decode cX4_unpack 25 = .ok (.iand, 1) := by decide +kernel
theorem dX4_unpack_26 : decode cX4_unpack 26 = .ok (.putfield 21, 3) := by decide +kernel
theorem dX4_unpack_29 : decode cX4_unpack 29 = .ok (.aload_n 0, 1) := by decide +kernel
theorem dX4_unpack_30 : decode cX4_unpack 30 = .ok (.iload_n 1, 1) := by decide +kernel
theorem dX4_unpack_31 : decode cX4_unpack 31 = .ok (.bipush 12, 2) := by decide +kernel
theorem dX4_unpack_33 : decode cX4_unpack 33 = .ok (.iushr, 1) := by decide +kernel
theorem dX4_unpack_34 : decode cX4_unpack 34 = .ok (.bipush 15, 2) := by decide +kernel
theorem dX4_unpack_36 : decode cX4_unpack 36 = .ok (.iand, 1) := by decide +kernel
theorem dX4_unpack_37 : decode cX4_unpack 37 = .ok (.putfield 24, 3) := by decide +kernel
theorem dX4_unpack_40 : decode cX4_unpack 40 = .ok (.aload_n 0, 1) := by decide +kernel
theorem dX4_unpack_41 : decode cX4_unpack 41 = .ok (.iload_n 1, 1) := by decide +kernel
theorem dX4_unpack_42 : decode cX4_unpack 42 = .ok (.bipush 16, 2) := by decide +kernel
theorem dX4_unpack_44 : decode cX4_unpack 44 = .ok (.iushr, 1) := by decide +kernel
theorem dX4_unpack_45 : decode cX4_unpack 45 = .ok (.bipush 15, 2) := by decide +kernel
theorem dX4_unpack_47 : decode cX4_unpack 47 = .ok (.iand, 1) := by decide +kernel
theorem dX4_unpack_48 : decode cX4_unpack 48 = .ok (.putfield 27, 3) := by decide +kernel
theorem dX4_unpack_51 : decode cX4_unpack 51 = .ok (.aload_n 0, 1) := by decide +kernel
theorem dX4_unpack_52 : decode cX4_unpack 52 = .ok (.iload_n 1, 1) := by decide +kernel
theorem dX4_unpack_53 : decode cX4_unpack 53 = .ok (.bipush 20, 2) := by decide +kernel
theorem dX4_unpack_55 : decode cX4_unpack 55 = .ok (.iushr, 1) := by decide +kernel
theorem dX4_unpack_56 : decode cX4_unpack 56 = .ok (.bipush 15, 2) := by decide +kernel
theorem dX4_unpack_58 : decode cX4_unpack 58 = .ok (.iand, 1) := by decide +kernel
theorem dX4_unpack_59 : decode cX4_unpack 59 = .ok (.putfield 30, 3) := by decide +kernel
theorem dX4_unpack_62 : decode cX4_unpack 62 = .ok (.aload_n 0, 1) := by decide +kernel
theorem dX4_unpack_63 : decode cX4_unpack 63 = .ok (.iload_n 1, 1) := by decide +kernel
theorem dX4_unpack_64 : decode cX4_unpack 64 = .ok (.bipush 24, 2) := by decide +kernel
theorem dX4_unpack_66 : decode cX4_unpack 66 = .ok (.iushr, 1) := by decide +kernel
theorem dX4_unpack_67 : decode cX4_unpack 67 = .ok (.bipush 15, 2) := by decide +kernel
theorem dX4_unpack_69 : decode cX4_unpack 69 = .ok (.iand, 1) := by decide +kernel
theorem dX4_unpack_70 : decode cX4_unpack 70 = .ok (.putfield 36, 3) := by decide +kernel
theorem dX4_unpack_73 : decode cX4_unpack 73 = .ok (.aload_n 0, 1) := by decide +kernel
theorem dX4_unpack_74 : decode cX4_unpack 74 = .ok (.iload_n 1, 1) := by decide +kernel
theorem dX4_unpack_75 : decode cX4_unpack 75 = .ok (.bipush 28, 2) := by decide +kernel
theorem dX4_unpack_77 : decode cX4_unpack 77 = .ok (.iushr, 1) := by decide +kernel
theorem dX4_unpack_78 : decode cX4_unpack 78 = .ok (.bipush 7, 2) := by decide +kernel
theorem dX4_unpack_80 : decode cX4_unpack 80 = .ok (.iand, 1) := by decide +kernel
theorem dX4_unpack_81 : decode cX4_unpack 81 = .ok (.putfield 15, 3) := by decide +kernel
theorem dX4_unpack_84 : decode cX4_unpack 84 = .ok (.aload_n 0, 1) := by decide +kernel
theorem dX4_unpack_85 : decode cX4_unpack 85 = .ok (.iload_n 1, 1) := by decide +kernel
theorem dX4_unpack_86 : decode cX4_unpack 86 = .ok (.bipush 31, 2) := by decide +kernel
theorem dX4_unpack_88 : decode cX4_unpack 88 = .ok (.iushr, 1) := by decide +kernel
theorem dX4_unpack_89 : decode cX4_unpack 89 = .ok (.putfield 33, 3) := by decide +kernel
theorem dX4_unpack_92 : decode cX4_unpack 92 = .ok (.return_, 1) := by decide +kernel
theorem dX4_number_0 : decode cX4_number 0 = .ok (.iload_n 1, 1) := by decide +kernel
theorem dX4_number_1 : decode cX4_number 1 = .ok (.tableswitch 96 0 8 #[51, 56, 61, 66, 71, 76, 81, 86, 91], 51) := by decide +kernel
theorem dX4_number_52 : decode cX4_number 52 = .ok (.aload_n 0, 1) := by decide +kernel
theorem dX4_number_53 : decode cX4_number 53 = .ok (.getfield 9, 3) := by decide +kernel
theorem dX4_number_56 : decode cX4_number 56 = .ok (.ireturn, 1) := by decide +kernel
theorem dX4_number_57 : decode cX4_number 57 = .ok (.aload_n 0, 1) := by decide +kernel
theorem dX4_number_58 : decode cX4_number 58 = .ok (.getfield 15, 3) := by decide +kernel
theorem dX4_number_61 : decode cX4_number 61 = .ok (.ireturn, 1) := by decide +kernel
theorem dX4_number_62 : decode cX4_number 62 = .ok (.aload_n 0, 1) := by decide +kernel
theorem dX4_number_63 : decode cX4_number 63 = .ok (.getfield 18, 3) := by decide +kernel
theorem dX4_number_66 : decode cX4_number 66 = .ok (.ireturn, 1) := by decide +kernel
theorem dX4_number_67 : decode cX4_number 67 = .ok (.aload_n 0, 1) := by decide +kernel
theorem dX4_number_68 : decode cX4_number 68 = .ok (.getfield 21, 3) := by decide +kernel
theorem dX4_number_71 : decode cX4_number 71 = .ok (.ireturn, 1) := by decide +kernel
theorem dX4_number_72 : decode cX4_number 72 = .ok (.aload_n 0, 1) := by decide +kernel
theorem dX4_number_73 : decode cX4_number 73 = .ok (.getfield 24, 3) := by decide +kernel
theorem dX4_number_76 : decode cX4_number 76 = .ok (.ireturn, 1) := by decide +kernel
theorem dX4_number_77 : decode cX4_number 77 = .ok (.aload_n 0, 1) := by decide +kernel
theorem dX4_number_78 : decode cX4_number 78 = .ok (.getfield 27, 3) := by decide +kernel
theorem dX4_number_81 : decode cX4_number 81 = .ok (.ireturn, 1) := by decide +kernel
theorem dX4_number_82 : decode cX4_number 82 = .ok (.aload_n 0, 1) := by decide +kernel
theorem dX4_number_83 : decode cX4_number 83 = .ok (.getfield 30, 3) := by decide +kernel
theorem dX4_number_86 : decode cX4_number 86 = .ok (.ireturn, 1) := by decide +kernel
theorem dX4_number_87 : decode cX4_number 87 = .ok (.aload_n 0, 1) := by decide +kernel
theorem dX4_number_88 : decode cX4_number 88 = .ok (.getfield 33, 3) := by decide +kernel
theorem dX4_number_91 : decode cX4_number 91 = .ok (.ireturn, 1) := by decide +kernel
theorem dX4_number_92 : decode cX4_number 92 = .ok (.aload_n 0, 1) := by decide +kernel
theorem dX4_number_93 : decode cX4_number 93 = .ok (.getfield 36, 3) := by decide +kernel
theorem dX4_number_96 : decode cX4_number 96 = .ok (.ireturn, 1) := by decide +kernel
theorem dX4_number_97 : decode cX4_number 97 = .ok (.iconst (-1), 1) := by decide +kernel
theorem dX4_number_98 : decode cX4_number 98 = .ok (.ireturn, 1) := by decide +kernel
theorem dX5_init_0 : decode cX5_init 0 = .ok (.aload_n 0, 1) := by decide +kernel
theorem dX5_init_1 : decode cX5_init 1 = .ok (.invokespecial 3, 3) := by decide +kernel
theorem dX5_init_4 : decode cX5_init 4 = .ok (.aload_n 0, 1) := by decide +kernel
theorem dX5_init_5 : decode cX5_init 5 = .ok (.bipush 100, 2) := by decide +kernel
theorem dX5_init_7 : decode cX5_init 7 = .ok (.newarray .int, 2) := by decide +kernel
theorem dX5_init_9 : decode cX5_init 9 = .ok (.putfield 11, 3) := by decide +kernel
theorem dX5_init_12 : decode cX5_init 12 = .ok (.aload_n 0, 1) := by decide +kernel
theorem dX5_init_13 : decode cX5_init 13 = .ok (.iconst 0, 1) := by decide +kernel
theorem dX5_init_14 : decode cX5_init 14 = .ok (.putfield 15, 3) := by decide +kernel
theorem dX5_init_17 : decode cX5_init 17 = .ok (.aload_n 0, 1) := by decide +kernel
theorem dX5_init_18 : decode cX5_init 18 = .ok (.iconst 0, 1) := by decide +kernel
theorem dX5_init_19 : decode cX5_init 19 = .ok (.putfield 19, 3) := by decide +kernel
theorem dX5_init_22 : decode cX5_init 22 = .ok (.return_, 1) := by decide +kernel
theorem dX5_hasRoomFor_0 : decode cX5_hasRoomFor 0 = .ok (.aload_n 0, 1) := by decide +kernel
theorem dX5_hasRoomFor_1 : decode cX5_hasRoomFor 1 = .ok (.getfield 15, 3) := by decide +kernel
theorem dX5_hasRoomFor_4 : decode cX5_hasRoomFor 4 = .ok (.iload_n 1, 1) := by decide +kernel
theorem dX5_hasRoomFor_5 : decode cX5_hasRoomFor 5 = .ok (.iadd, 1) := by decide +kernel
theorem dX5_hasRoomFor_6 : decode cX5_hasRoomFor 6 = .ok (.bipush 100, 2) := by decide +kernel
theorem dX5_hasRoomFor_8 : decode cX5_hasRoomFor 8 = .ok (.if_icmp .gt 7, 3) := by decide +kernel
theorem dX5_hasRoomFor_11 : decode cX5_hasRoomFor 11 = .ok (.iconst 1, 1) := by decide +kernel
theorem dX5_hasRoomFor_12 : decode cX5_hasRoomFor 12 = .ok (.goto 4, 3) := by decide +kernel
theorem dX5_hasRoomFor_15 : decode cX5_hasRoomFor 15 = .ok (.iconst 0, 1) := by decide +kernel
theorem dX5_hasRoomFor_16 : decode cX5_hasRoomFor 16 = .ok (.ireturn, 1) := by decide +kernel
theorem dX5_addNumber_0 : decode cX5_addNumber 0 = .ok (.bipush 24, 2) := by decide +kernel
theorem dX5_addNumber_2 : decode cX5_addNumber 2 = .ok (.istore_n 2, 1) := by decide +kernel
theorem dX5_addNumber_3 : decode cX5_addNumber 3 = .ok (.iload_n 2, 1) := by decide +kernel
theorem dX5_addNumber_4 : decode cX5_addNumber 4 = .ok (.ifCond .lt 44, 3) := by decide +kernel
theorem dX5_addNumber_7 : decode cX5_addNumber 7 = .ok (.aload_n 0, 1) := by decide +kernel
theorem dX5_addNumber_8 : decode cX5_addNumber 8 = .ok (.getfield 15, 3) := by decide +kernel
theorem dX5_addNumber_11 : decode cX5_addNumber 11 = .ok (.bipush 100, 2) := by decide +kernel
theorem dX5_addNumber_13 : decode cX5_addNumber 13 = .ok (.if_icmp .ge 35, 3) := by decide +kernel
theorem dX5_addNumber_16 : decode cX5_addNumber 16 = .ok (.aload_n 0, 1) := by decide +kernel
theorem dX5_addNumber_17 : decode cX5_addNumber 17 = .ok (.getfield 11, 3) := by decide +kernel
theorem dX5_addNumber_20 : decode cX5_addNumber 20 = .ok (.aload_n 0, 1) := by decide +kernel
theorem dX5_addNumber_21 : decode cX5_addNumber 21 = .ok (.getfield 15, 3) := by decide +kernel
theorem dX5_addNumber_24 : decode cX5_addNumber 24 = .ok (.iload_n 1, 1) := by decide +kernel
theorem dX5_addNumber_25 : decode cX5_addNumber 25 = .ok (.iload_n 2, 1) := by decide +kernel
theorem dX5_addNumber_26 : decode cX5_addNumber 26 = .ok (.iushr, 1) := by decide +kernel
theorem dX5_addNumber_27 : decode cX5_addNumber 27 = .ok (.sipush 255, 3) := by decide +kernel
theorem dX5_addNumber_30 : decode cX5_addNumber 30 = .ok (.iand, 1) := by decide +kernel
theorem dX5_addNumber_31 : decode cX5_addNumber 31 = .ok (.iastore, 1) := by decide +kernel
theorem dX5_addNumber_32 : decode cX5_addNumber 32 = .ok (.aload_n 0, 1) := by decide +kernel
theorem dX5_addNumber_33 : decode cX5_addNumber 33 = .ok (.dup, 1) := by decide +kernel
theorem dX5_addNumber_34 : decode cX5_addNumber 34 = .ok (.getfield 15, 3) := by decide +kernel
theorem dX5_addNumber_37 : decode cX5_addNumber 37 = .ok (.iconst 1, 1) := by decide +kernel
theorem dX5_addNumber_38 : decode cX5_addNumber 38 = .ok (.iadd, 1) := by decide +kernel
theorem dX5_addNumber_39 : decode cX5_addNumber 39 = .ok (.putfield 15, 3) := by decide +kernel
theorem dX5_addNumber_42 : decode cX5_addNumber 42 = .ok (.iinc 2 (-8), 3) := by decide +kernel
theorem dX5_addNumber_45 : decode cX5_addNumber 45 = .ok (.goto (-42), 3) := by decide +kernel
theorem dX5_addNumber_48 : decode cX5_addNumber 48 = .ok (.return_, 1) := by decide +kernel
theorem dX5_byteAt_0 : decode cX5_byteAt 0 = .ok (.iload_n 1, 1) := by decide +kernel
theorem dX5_byteAt_1 : decode cX5_byteAt 1 = .ok (.ifCond .lt 26, 3) := by decide +kernel
theorem dX5_byteAt_4 : decode cX5_byteAt 4 = .ok (.iload_n 1, 1) := by decide +kernel
theorem dX5_byteAt_5 : decode cX5_byteAt 5 = .ok (.aload_n 0, 1) := by decide +kernel
theorem dX5_byteAt_6 : decode cX5_byteAt 6 = .ok (.getfield 15, 3) := by decide +kernel
theorem dX5_byteAt_9 : decode cX5_byteAt 9 = .ok (.if_icmp .ge 18, 3) := by decide +kernel
theorem dX5_byteAt_12 : decode cX5_byteAt 12 = .ok (.iload_n 1, 1) := by decide +kernel
theorem dX5_byteAt_13 : decode cX5_byteAt 13 = .ok (.bipush 100, 2) := by decide +kernel
theorem dX5_byteAt_15 : decode cX5_byteAt 15 = .ok (.if_icmp .ge 12, 3) := by decide +kernel
theorem dX5_byteAt_18 : decode cX5_byteAt 18 = .ok (.aload_n 0, 1) := by decide +kernel
theorem dX5_byteAt_19 : decode cX5_byteAt 19 = .ok (.getfield 11, 3) := by decide +kernel
theorem dX5_byteAt_22 : decode cX5_byteAt 22 = .ok (.iload_n 1, 1) := by decide +kernel
theorem dX5_byteAt_23 : decode cX5_byteAt 23 = .ok (.iaload, 1) := by decide +kernel
theorem dX5_byteAt_24 : decode cX5_byteAt 24 = .ok (.goto 4, 3) := by decide +kernel
theorem dX5_byteAt_27 : decode cX5_byteAt 27 = .ok (.iconst (-1), 1) := by decide +kernel
theorem dX5_byteAt_28 : decode cX5_byteAt 28 = .ok (.ireturn, 1) := by decide +kernel
theorem dX5_isAtEnd_0 : decode cX5_isAtEnd 0 = .ok (.aload_n 0, 1) := by decide +kernel
theorem dX5_isAtEnd_1 : decode cX5_isAtEnd 1 = .ok (.getfield 19, 3) := by decide +kernel
theorem dX5_isAtEnd_4 : decode cX5_isAtEnd 4 = .ok (.aload_n 0, 1) := by decide +kernel
theorem dX5_isAtEnd_5 : decode cX5_isAtEnd 5 = .ok (.getfield 15, 3) := by decide +kernel
theorem dX5_isAtEnd_8 : decode cX5_isAtEnd 8 = .ok (.if_icmp .lt 7, 3) := by decide +kernel
theorem dX5_isAtEnd_11 : decode cX5_isAtEnd 11 = .ok (.iconst 1, 1) := by decide +kernel
theorem dX5_isAtEnd_12 : decode cX5_isAtEnd 12 = .ok (.goto 4, 3) := by decide +kernel
theorem dX5_isAtEnd_15 : decode cX5_isAtEnd 15 = .ok (.iconst 0, 1) := by decide +kernel
theorem dX5_isAtEnd_16 : decode cX5_isAtEnd 16 = .ok (.ireturn, 1) := by decide +kernel
theorem dX5_peek_0 : decode cX5_peek 0 = .ok (.aload_n 0, 1) := by decide +kernel
theorem dX5_peek_1 : decode cX5_peek 1 = .ok (.aload_n 0, 1) := by decide +kernel
theorem dX5_peek_2 : decode cX5_peek 2 = .ok (.getfield 19, 3) := by decide +kernel
theorem dX5_peek_5 : decode cX5_peek 5 = .ok (.invokevirtual 22, 3) := by decide +kernel
theorem dX5_peek_8 : decode cX5_peek 8 = .ok (.ireturn, 1) := by decide +kernel
theorem dX5_skipBlanks_0 : decode cX5_skipBlanks 0 = .ok (.aload_n 0, 1) := by decide +kernel
theorem dX5_skipBlanks_1 : decode cX5_skipBlanks 1 = .ok (.getfield 19, 3) := by decide +kernel
theorem dX5_skipBlanks_4 : decode cX5_skipBlanks 4 = .ok (.aload_n 0, 1) := by decide +kernel
theorem dX5_skipBlanks_5 : decode cX5_skipBlanks 5 = .ok (.getfield 15, 3) := by decide +kernel
theorem dX5_skipBlanks_8 : decode cX5_skipBlanks 8 = .ok (.if_icmp .ge 25, 3) := by decide +kernel
theorem dX5_skipBlanks_11 : decode cX5_skipBlanks 11 = .ok (.aload_n 0, 1) := by decide +kernel
theorem dX5_skipBlanks_12 : decode cX5_skipBlanks 12 = .ok (.invokevirtual 26, 3) := by decide +kernel
theorem dX5_skipBlanks_15 : decode cX5_skipBlanks 15 = .ok (.bipush 32, 2) := by decide +kernel
theorem dX5_skipBlanks_17 : decode cX5_skipBlanks 17 = .ok (.if_icmp .ne 16, 3) := by decide +kernel
theorem dX5_skipBlanks_20 : decode cX5_skipBlanks 20 = .ok (.aload_n 0, 1) := by decide +kernel
theorem dX5_skipBlanks_21 : decode cX5_skipBlanks 21 = .ok (.dup, 1) := by decide +kernel
theorem dX5_skipBlanks_22 : decode cX5_skipBlanks 22 = .ok (.getfield 19, 3) := by decide +kernel
theorem dX5_skipBlanks_25 : decode cX5_skipBlanks 25 = .ok (.iconst 1, 1) := by decide +kernel
theorem dX5_skipBlanks_26 : decode cX5_skipBlanks 26 = .ok (.iadd, 1) := by decide +kernel
theorem dX5_skipBlanks_27 : decode cX5_skipBlanks 27 = .ok (.putfield 19, 3) := by decide +kernel
theorem dX5_skipBlanks_30 : decode cX5_skipBlanks 30 = .ok (.goto (-30), 3) := by decide +kernel
theorem dX5_skipBlanks_33 : decode cX5_skipBlanks 33 = .ok (.return_, 1) := by decide +kernel
theorem dX5_isAtDigit_0 : decode cX5_isAtDigit 0 = .ok (.aload_n 0, 1) := by decide +kernel
theorem dX5_isAtDigit_1 : decode cX5_isAtDigit 1 = .ok (.invokevirtual 26, 3) := by decide +kernel
theorem dX5_isAtDigit_4 : decode cX5_isAtDigit 4 = .ok (.bipush 48, 2) := by decide +kernel
theorem dX5_isAtDigit_6 : decode cX5_isAtDigit 6 = .ok (.if_icmp .lt 16, 3) := by decide +kernel
theorem dX5_isAtDigit_9 : decode cX5_isAtDigit 9 = .ok (.aload_n 0, 1) := by decide +kernel
theorem dX5_isAtDigit_10 : decode cX5_isAtDigit 10 = .ok (.invokevirtual 26, 3) := by decide +kernel
theorem dX5_isAtDigit_13 : decode cX5_isAtDigit 13 = .ok (.bipush 57, 2) := by decide +kernel
theorem dX5_isAtDigit_15 : decode cX5_isAtDigit 15 = .ok (.if_icmp .gt 7, 3) := by decide +kernel
theorem dX5_isAtDigit_18 : decode cX5_isAtDigit 18 = .ok (.iconst 1, 1) := by decide +kernel
theorem dX5_isAtDigit_19 : decode cX5_isAtDigit 19 = .ok (.goto 4, 3) := by decide +kernel
theorem dX5_isAtDigit_22 : decode cX5_isAtDigit 22 = .ok (.iconst 0, 1) := by decide +kernel
theorem dX5_isAtDigit_23 : decode cX5_isAtDigit 23 = .ok (.ireturn, 1) := by decide +kernel
theorem dX5_isAtLetter_0 : decode cX5_isAtLetter 0 = .ok (.aload_n 0, 1) := by decide +kernel
theorem dX5_isAtLetter_1 : decode cX5_isAtLetter 1 = .ok (.invokevirtual 26, 3) := by decide +kernel
theorem dX5_isAtLetter_4 : decode cX5_isAtLetter 4 = .ok (.bipush 97, 2) := by decide +kernel
theorem dX5_isAtLetter_6 : decode cX5_isAtLetter 6 = .ok (.if_icmp .lt 16, 3) := by decide +kernel
theorem dX5_isAtLetter_9 : decode cX5_isAtLetter 9 = .ok (.aload_n 0, 1) := by decide +kernel
theorem dX5_isAtLetter_10 : decode cX5_isAtLetter 10 = .ok (.invokevirtual 26, 3) := by decide +kernel
theorem dX5_isAtLetter_13 : decode cX5_isAtLetter 13 = .ok (.bipush 122, 2) := by decide +kernel
theorem dX5_isAtLetter_15 : decode cX5_isAtLetter 15 = .ok (.if_icmp .gt 7, 3) := by decide +kernel
theorem dX5_isAtLetter_18 : decode cX5_isAtLetter 18 = .ok (.iconst 1, 1) := by decide +kernel
theorem dX5_isAtLetter_19 : decode cX5_isAtLetter 19 = .ok (.goto 4, 3) := by decide +kernel
theorem dX5_isAtLetter_22 : decode cX5_isAtLetter 22 = .ok (.iconst 0, 1) := by decide +kernel
theorem dX5_isAtLetter_23 : decode cX5_isAtLetter 23 = .ok (.ireturn, 1) := by decide +kernel
theorem dX5_readNumber_0 : decode cX5_readNumber 0 = .ok (.iconst 0, 1) := by decide +kernel
theorem dX5_readNumber_1 : decode cX5_readNumber 1 = .ok (.istore_n 2, 1) := by decide +kernel
theorem dX5_readNumber_2 : decode cX5_readNumber 2 = .ok (.aload_n 0, 1) := by decide +kernel
theorem dX5_readNumber_3 : decode cX5_readNumber 3 = .ok (.getfield 19, 3) := by decide +kernel
theorem dX5_readNumber_6 : decode cX5_readNumber 6 = .ok (.aload_n 0, 1) := by decide +kernel
theorem dX5_readNumber_7 : decode cX5_readNumber 7 = .ok (.getfield 15, 3) := by decide +kernel
theorem dX5_readNumber_10 : decode cX5_readNumber 10 = .ok (.if_icmp .ge 42, 3) := by decide +kernel
theorem dX5_readNumber_13 : decode cX5_readNumber 13 = .ok (.aload_n 0, 1) := by decide +kernel
theorem dX5_readNumber_14 : decode cX5_readNumber 14 = .ok (.invokevirtual 30, 3) := by decide +kernel
theorem dX5_readNumber_17 : decode cX5_readNumber 17 = .ok (.ifCond .eq 35, 3) := by decide +kernel
theorem dX5_readNumber_20 : decode cX5_readNumber 20 = .ok (.iload_n 2, 1) := by decide +kernel
theorem dX5_readNumber_21 : decode cX5_readNumber 21 = .ok (.bipush 10, 2) := by decide +kernel
theorem dX5_readNumber_23 : decode cX5_readNumber 23 = .ok (.imul, 1) := by decide +kernel
theorem dX5_readNumber_24 : decode cX5_readNumber 24 = .ok (.aload_n 0, 1) := by decide +kernel
theorem dX5_readNumber_25 : decode cX5_readNumber 25 = .ok (.invokevirtual 26, 3) := by decide +kernel
theorem dX5_readNumber_28 : decode cX5_readNumber 28 = .ok (.iadd, 1) := by decide +kernel
theorem dX5_readNumber_29 : decode cX5_readNumber 29 = .ok (.bipush 48, 2) := by decide +kernel
theorem dX5_readNumber_31 : decode cX5_readNumber 31 = .ok (.isub, 1) := by decide +kernel
theorem dX5_readNumber_32 : decode cX5_readNumber 32 = .ok (.iload_n 1, 1) := by decide +kernel
theorem dX5_readNumber_33 : decode cX5_readNumber 33 = .ok (.iconst 1, 1) := by decide +kernel
theorem dX5_readNumber_34 : decode cX5_readNumber 34 = .ok (.iadd, 1) := by decide +kernel
theorem dX5_readNumber_35 : decode cX5_readNumber 35 = .ok (.invokestatic 34, 3) := by decide +kernel
theorem dX5_readNumber_38 : decode cX5_readNumber 38 = .ok (.istore_n 2, 1) := by decide +kernel
theorem dX5_readNumber_39 : decode cX5_readNumber 39 = .ok (.aload_n 0, 1) := by decide +kernel
theorem dX5_readNumber_40 : decode cX5_readNumber 40 = .ok (.dup, 1) := by decide +kernel
theorem dX5_readNumber_41 : decode cX5_readNumber 41 = .ok (.getfield 19, 3) := by decide +kernel
theorem dX5_readNumber_44 : decode cX5_readNumber 44 = .ok (.iconst 1, 1) := by decide +kernel
theorem dX5_readNumber_45 : decode cX5_readNumber 45 = .ok (.iadd, 1) := by decide +kernel
theorem dX5_readNumber_46 : decode cX5_readNumber 46 = .ok (.putfield 19, 3) := by decide +kernel
theorem dX5_readNumber_49 : decode cX5_readNumber 49 = .ok (.goto (-47), 3) := by decide +kernel
theorem dX5_readNumber_52 : decode cX5_readNumber 52 = .ok (.iload_n 2, 1) := by decide +kernel
theorem dX5_readNumber_53 : decode cX5_readNumber 53 = .ok (.ireturn, 1) := by decide +kernel
theorem dX5_skipWord_0 : decode cX5_skipWord 0 = .ok (.aload_n 0, 1) := by decide +kernel
theorem dX5_skipWord_1 : decode cX5_skipWord 1 = .ok (.getfield 19, 3) := by decide +kernel
theorem dX5_skipWord_4 : decode cX5_skipWord 4 = .ok (.aload_n 0, 1) := by decide +kernel
theorem dX5_skipWord_5 : decode cX5_skipWord 5 = .ok (.getfield 15, 3) := by decide +kernel
theorem dX5_skipWord_8 : decode cX5_skipWord 8 = .ok (.if_icmp .ge 23, 3) := by decide +kernel
theorem dX5_skipWord_11 : decode cX5_skipWord 11 = .ok (.aload_n 0, 1) := by decide +kernel
theorem dX5_skipWord_12 : decode cX5_skipWord 12 = .ok (.invokevirtual 40, 3) := by decide +kernel
theorem dX5_skipWord_15 : decode cX5_skipWord 15 = .ok (.ifCond .eq 16, 3) := by decide +kernel
theorem dX5_skipWord_18 : decode cX5_skipWord 18 = .ok (.aload_n 0, 1) := by decide +kernel
theorem dX5_skipWord_19 : decode cX5_skipWord 19 = .ok (.dup, 1) := by decide +kernel
theorem dX5_skipWord_20 : decode cX5_skipWord 20 = .ok (.getfield 19, 3) := by decide +kernel
theorem dX5_skipWord_23 : decode cX5_skipWord 23 = .ok (.iconst 1, 1) := by decide +kernel
theorem dX5_skipWord_24 : decode cX5_skipWord 24 = .ok (.iadd, 1) := by decide +kernel
theorem dX5_skipWord_25 : decode cX5_skipWord 25 = .ok (.putfield 19, 3) := by decide +kernel
theorem dX5_skipWord_28 : decode cX5_skipWord 28 = .ok (.goto (-28), 3) := by decide +kernel
theorem dX5_skipWord_31 : decode cX5_skipWord 31 = .ok (.return_, 1) := by decide +kernel
theorem dX5_isWord_0 : decode cX5_isWord 0 = .ok (.iload_n 2, 1) := by decide +kernel
theorem dX5_isWord_1 : decode cX5_isWord 1 = .ok (.iload_n 1, 1) := by decide +kernel
theorem dX5_isWord_2 : decode cX5_isWord 2 = .ok (.isub, 1) := by decide +kernel
theorem dX5_isWord_3 : decode cX5_isWord 3 = .ok (.aload_n 3, 1) := by decide +kernel
theorem dX5_isWord_4 : decode cX5_isWord 4 = .ok (.invokevirtual 43, 3) := by decide +kernel
theorem dX5_isWord_7 : decode cX5_isWord 7 = .ok (.if_icmp .eq 5, 3) := by decide +kernel
theorem dX5_isWord_10 : decode cX5_isWord 10 = .ok (.iconst 0, 1) := by decide +kernel
theorem dX5_isWord_11 : decode cX5_isWord 11 = .ok (.ireturn, 1) := by decide +kernel
theorem dX5_isWord_12 : decode cX5_isWord 12 = .ok (.iconst 0, 1) := by decide +kernel
theorem dX5_isWord_13 : decode cX5_isWord 13 = .ok (.istore 4, 2) := by decide +kernel
theorem dX5_isWord_15 : decode cX5_isWord 15 = .ok (.iload 4, 2) := by decide +kernel
theorem dX5_isWord_17 : decode cX5_isWord 17 = .ok (.aload_n 3, 1) := by decide +kernel
theorem dX5_isWord_18 : decode cX5_isWord 18 = .ok (.invokevirtual 43, 3) := by decide +kernel
theorem dX5_isWord_21 : decode cX5_isWord 21 = .ok (.if_icmp .ge 28, 3) := by decide +kernel
theorem dX5_isWord_24 : decode cX5_isWord 24 = .ok (.aload_n 0, 1) := by decide +kernel
theorem dX5_isWord_25 : decode cX5_isWord 25 = .ok (.iload_n 1, 1) := by decide +kernel
theorem dX5_isWord_26 : decode cX5_isWord 26 = .ok (.iload 4, 2) := by decide +kernel
theorem dX5_isWord_28 : decode cX5_isWord 28 = .ok (.iadd, 1) := by decide +kernel
theorem dX5_isWord_29 : decode cX5_isWord 29 = .ok (.invokevirtual 22, 3) := by decide +kernel
theorem dX5_isWord_32 : decode cX5_isWord 32 = .ok (.aload_n 3, 1) := by decide +kernel
theorem dX5_isWord_33 : decode cX5_isWord 33 = .ok (.iload 4, 2) := by decide +kernel
theorem dX5_isWord_35 : decode cX5_isWord 35 = .ok (.invokevirtual 48, 3) := by decide +kernel
theorem dX5_isWord_38 : decode cX5_isWord 38 = .ok (.if_icmp .eq 5, 3) := by decide +kernel
theorem dX5_isWord_41 : decode cX5_isWord 41 = .ok (.iconst 0, 1) := by decide +kernel
theorem dX5_isWord_42 : decode cX5_isWord 42 = .ok (.ireturn, 1) := by decide +kernel
theorem dX5_isWord_43 : decode cX5_isWord 43 = .ok (.iinc 4 1, 3) := by decide +kernel
theorem dX5_isWord_46 : decode cX5_isWord 46 = .ok (.goto (-31), 3) := by decide +kernel
theorem dX5_isWord_49 : decode cX5_isWord 49 = .ok (.iconst 1, 1) := by decide +kernel
theorem dX5_isWord_50 : decode cX5_isWord 50 = .ok (.ireturn, 1) := by decide +kernel
theorem dX6_init_0 : decode cX6_init 0 = .ok (.aload_n 0, 1) := by decide +kernel
theorem dX6_init_1 : decode cX6_init 1 = .ok (.invokespecial 3, 3) := by decide +kernel
theorem dX6_init_4 : decode cX6_init 4 = .ok (.aload_n 0, 1) := by decide +kernel
theorem dX6_init_5 : decode cX6_init 5 = .ok (.iconst 4, 1) := by decide +kernel
theorem dX6_init_6 : decode cX6_init 6 = .ok (.newarray .int, 2) := by decide +kernel
theorem dX6_init_8 : decode cX6_init 8 = .ok (.putfield 9, 3) := by decide +kernel
theorem dX6_init_11 : decode cX6_init 11 = .ok (.aload_n 0, 1) := by decide +kernel
theorem dX6_init_12 : decode cX6_init 12 = .ok (.iconst 0, 1) := by decide +kernel
theorem dX6_init_13 : decode cX6_init 13 = .ok (.putfield 15, 3) := by decide +kernel
theorem dX6_init_16 : decode cX6_init 16 = .ok (.aload_n 0, 1) := by decide +kernel
theorem dX6_init_17 : decode cX6_init 17 = .ok (.iconst 0, 1) := by decide +kernel
theorem dX6_init_18 : decode cX6_init 18 = .ok (.putfield 19, 3) := by decide +kernel
theorem dX6_init_21 : decode cX6_init 21 = .ok (.aload_n 0, 1) := by decide +kernel
theorem dX6_init_22 : decode cX6_init 22 = .ok (.iconst 0, 1) := by decide +kernel
theorem dX6_init_23 : decode cX6_init 23 = .ok (.putfield 22, 3) := by decide +kernel
theorem dX6_init_26 : decode cX6_init 26 = .ok (.aload_n 0, 1) := by decide +kernel
theorem dX6_init_27 : decode cX6_init 27 = .ok (.iconst 0, 1) := by decide +kernel
theorem dX6_init_28 : decode cX6_init 28 = .ok (.putfield 25, 3) := by decide +kernel
theorem dX6_init_31 : decode cX6_init 31 = .ok (.aload_n 0, 1) := by decide +kernel
theorem dX6_init_32 : decode cX6_init 32 = .ok (.iconst 0, 1) := by decide +kernel
theorem dX6_init_33 : decode cX6_init 33 = .ok (.putfield 28, 3) := by decide +kernel
theorem dX6_init_36 : decode cX6_init 36 = .ok (.aload_n 0, 1) := by decide +kernel
theorem dX6_init_37 : decode cX6_init 37 = .ok (.iconst 0, 1) := by decide +kernel
theorem dX6_init_38 : decode cX6_init 38 = .ok (.putfield 31, 3) := by decide +kernel
theorem dX6_init_41 : decode cX6_init 41 = .ok (.aload_n 0, 1) := by decide +kernel
theorem dX6_init_42 : decode cX6_init 42 = .ok (.iconst (-1), 1) := by decide +kernel
theorem dX6_init_43 : decode cX6_init 43 = .ok (.putfield 34, 3) := by decide +kernel
theorem dX6_init_46 : decode cX6_init 46 = .ok (.aload_n 0, 1) := by decide +kernel
theorem dX6_init_47 : decode cX6_init 47 = .ok (.iconst (-1), 1) := by decide +kernel
theorem dX6_init_48 : decode cX6_init 48 = .ok (.putfield 37, 3) := by decide +kernel
theorem dX6_init_51 : decode cX6_init 51 = .ok (.aload_n 0, 1) := by decide +kernel
theorem dX6_init_52 : decode cX6_init 52 = .ok (.iconst 0, 1) := by decide +kernel
theorem dX6_init_53 : decode cX6_init 53 = .ok (.putfield 40, 3) := by decide +kernel
theorem dX6_init_56 : decode cX6_init 56 = .ok (.aload_n 0, 1) := by decide +kernel
theorem dX6_init_57 : decode cX6_init 57 = .ok (.iconst 0, 1) := by decide +kernel
theorem dX6_init_58 : decode cX6_init 58 = .ok (.putfield 43, 3) := by decide +kernel
theorem dX6_init_61 : decode cX6_init 61 = .ok (.return_, 1) := by decide +kernel
theorem dX6_act_0 : decode cX6_act 0 = .ok (.iload_n 1, 1) := by decide +kernel
theorem dX6_act_1 : decode cX6_act 1 = .ok (.ifCond .lt 29, 3) := by decide +kernel
theorem dX6_act_4 : decode cX6_act 4 = .ok (.iload_n 1, 1) := by decide +kernel
theorem dX6_act_5 : decode cX6_act 5 = .ok (.aload_n 0, 1) := by decide +kernel
theorem dX6_act_6 : decode cX6_act 6 = .ok (.getfield 15, 3) := by decide +kernel
theorem dX6_act_9 : decode cX6_act 9 = .ok (.if_icmp .ge 21, 3) := by decide +kernel
theorem dX6_act_12 : decode cX6_act 12 = .ok (.iload_n 1, 1) := by decide +kernel
theorem dX6_act_13 : decode cX6_act 13 = .ok (.aload_n 0, 1) := by decide +kernel
theorem dX6_act_14 : decode cX6_act 14 = .ok (.getfield 9, 3) := by decide +kernel
theorem dX6_act_17 : decode cX6_act 17 = .ok (.arraylength, 1) := by decide +kernel
theorem dX6_act_18 : decode cX6_act 18 = .ok (.if_icmp .ge 12, 3) := by decide +kernel
theorem dX6_act_21 : decode cX6_act 21 = .ok (.aload_n 0, 1) := by decide +kernel
theorem dX6_act_22 : decode cX6_act 22 = .ok (.getfield 9, 3) := by decide +kernel
theorem dX6_act_25 : decode cX6_act 25 = .ok (.iload_n 1, 1) := by decide +kernel
theorem dX6_act_26 : decode cX6_act 26 = .ok (.iaload, 1) := by decide +kernel
theorem dX6_act_27 : decode cX6_act 27 = .ok (.goto 4, 3) := by decide +kernel
theorem dX6_act_30 : decode cX6_act 30 = .ok (.iconst (-1), 1) := by decide +kernel
theorem dX6_act_31 : decode cX6_act 31 = .ok (.ireturn, 1) := by decide +kernel
theorem dX6_go_0 : decode cX6_go 0 = .ok (.aload_n 0, 1) := by decide +kernel
theorem dX6_go_1 : decode cX6_go 1 = .ok (.iconst 0, 1) := by decide +kernel
theorem dX6_go_2 : decode cX6_go 2 = .ok (.putfield 15, 3) := by decide +kernel
theorem dX6_go_5 : decode cX6_go 5 = .ok (.aload_n 0, 1) := by decide +kernel
theorem dX6_go_6 : decode cX6_go 6 = .ok (.iconst 0, 1) := by decide +kernel
theorem dX6_go_7 : decode cX6_go 7 = .ok (.putfield 22, 3) := by decide +kernel
theorem dX6_go_10 : decode cX6_go 10 = .ok (.aload_n 0, 1) := by decide +kernel
theorem dX6_go_11 : decode cX6_go 11 = .ok (.iconst 0, 1) := by decide +kernel
theorem dX6_go_12 : decode cX6_go 12 = .ok (.putfield 25, 3) := by decide +kernel
theorem dX6_go_15 : decode cX6_go 15 = .ok (.aload_n 0, 1) := by decide +kernel
theorem dX6_go_16 : decode cX6_go 16 = .ok (.iconst 0, 1) := by decide +kernel
theorem dX6_go_17 : decode cX6_go 17 = .ok (.putfield 28, 3) := by decide +kernel
theorem dX6_go_20 : decode cX6_go 20 = .ok (.aload_n 0, 1) := by decide +kernel
theorem dX6_go_21 : decode cX6_go 21 = .ok (.iconst 0, 1) := by decide +kernel
theorem dX6_go_22 : decode cX6_go 22 = .ok (.putfield 31, 3) := by decide +kernel
theorem dX6_go_25 : decode cX6_go 25 = .ok (.aload_n 0, 1) := by decide +kernel
theorem dX6_go_26 : decode cX6_go 26 = .ok (.iconst (-1), 1) := by decide +kernel
theorem dX6_go_27 : decode cX6_go 27 = .ok (.putfield 34, 3) := by decide +kernel
theorem dX6_go_30 : decode cX6_go 30 = .ok (.aload_n 0, 1) := by decide +kernel
theorem dX6_go_31 : decode cX6_go 31 = .ok (.iconst (-1), 1) := by decide +kernel
theorem dX6_go_32 : decode cX6_go 32 = .ok (.putfield 37, 3) := by decide +kernel
theorem dX6_go_35 : decode cX6_go 35 = .ok (.aload_n 0, 1) := by decide +kernel
theorem dX6_go_36 : decode cX6_go 36 = .ok (.iconst 0, 1) := by decide +kernel
theorem dX6_go_37 : decode cX6_go 37 = .ok (.putfield 43, 3) := by decide +kernel
theorem dX6_go_40 : decode cX6_go 40 = .ok (.aload_n 0, 1) := by decide +kernel
theorem dX6_go_41 : decode cX6_go 41 = .ok (.iconst 1, 1) := by decide +kernel
theorem dX6_go_42 : decode cX6_go 42 = .ok (.invokevirtual 47, 3) := by decide +kernel
theorem dX6_go_45 : decode cX6_go 45 = .ok (.aload_n 0, 1) := by decide +kernel
theorem dX6_go_46 : decode cX6_go 46 = .ok (.aload_n 0, 1) := by decide +kernel
theorem dX6_go_47 : decode cX6_go 47 = .ok (.aload_n 1, 1) := by decide +kernel
theorem dX6_go_48 : decode cX6_go 48 = .ok (.iload_n 2, 1) := by decide +kernel
theorem dX6_go_49 : decode cX6_go 49 = .ok (.invokevirtual 51, 3) := by decide +kernel
theorem dX6_go_52 : decode cX6_go 52 = .ok (.putfield 19, 3) := by decide +kernel
theorem dX6_go_55 : decode cX6_go 55 = .ok (.aload_n 0, 1) := by decide +kernel
theorem dX6_go_56 : decode cX6_go 56 = .ok (.getfield 19, 3) := by decide +kernel
theorem dX6_go_59 : decode cX6_go 59 = .ok (.ifCond .ne 46, 3) := by decide +kernel
theorem dX6_go_62 : decode cX6_go 62 = .ok (.aload_n 0, 1) := by decide +kernel
theorem dX6_go_63 : decode cX6_go 63 = .ok (.getfield 37, 3) := by decide +kernel
theorem dX6_go_66 : decode cX6_go 66 = .ok (.iconst (-1), 1) := by decide +kernel
theorem dX6_go_67 : decode cX6_go 67 = .ok (.if_icmp .eq 38, 3) := by decide +kernel
theorem dX6_go_70 : decode cX6_go 70 = .ok (.aload_n 0, 1) := by decide +kernel
theorem dX6_go_71 : decode cX6_go 71 = .ok (.aload_n 0, 1) := by decide +kernel
theorem dX6_go_72 : decode cX6_go 72 = .ok (.getfield 37, 3) := by decide +kernel
theorem dX6_go_75 : decode cX6_go 75 = .ok (.bipush 10, 2) := by decide +kernel
theorem dX6_go_77 : decode cX6_go 77 = .ok (.imul, 1) := by decide +kernel
theorem dX6_go_78 : decode cX6_go 78 = .ok (.iconst 1, 1) := by decide +kernel
theorem dX6_go_79 : decode cX6_go 79 = .ok (.iadd, 1) := by decide +kernel
theorem dX6_go_80 : decode cX6_go 80 = .ok (.invokevirtual 47, 3) := by decide +kernel
theorem dX6_go_83 : decode cX6_go 83 = .ok (.aload_n 0, 1) := by decide +kernel
theorem dX6_go_84 : decode cX6_go 84 = .ok (.aload_n 0, 1) := by decide +kernel
theorem dX6_go_85 : decode cX6_go 85 = .ok (.aload_n 1, 1) := by decide +kernel
theorem dX6_go_86 : decode cX6_go 86 = .ok (.invokevirtual 55, 3) := by decide +kernel
theorem dX6_go_89 : decode cX6_go 89 = .ok (.putfield 19, 3) := by decide +kernel
theorem dX6_go_92 : decode cX6_go 92 = .ok (.aload_n 0, 1) := by decide +kernel
theorem dX6_go_93 : decode cX6_go 93 = .ok (.aload_n 0, 1) := by decide +kernel
theorem dX6_go_94 : decode cX6_go 94 = .ok (.getfield 37, 3) := by decide +kernel
theorem dX6_go_97 : decode cX6_go 97 = .ok (.bipush 10, 2) := by decide +kernel
theorem dX6_go_99 : decode cX6_go 99 = .ok (.imul, 1) := by decide +kernel
theorem dX6_go_100 : decode cX6_go 100 = .ok (.iconst 2, 1) := by decide +kernel
theorem dX6_go_101 : decode cX6_go 101 = .ok (.iadd, 1) := by decide +kernel
theorem dX6_go_102 : decode cX6_go 102 = .ok (.invokevirtual 47, 3) := by decide +kernel
theorem dX6_go_105 : decode cX6_go 105 = .ok (.aload_n 0, 1) := by decide +kernel
theorem dX6_go_106 : decode cX6_go 106 = .ok (.iconst 2, 1) := by decide +kernel
theorem dX6_go_107 : decode cX6_go 107 = .ok (.invokevirtual 47, 3) := by decide +kernel
theorem dX6_go_110 : decode cX6_go 110 = .ok (.return_, 1) := by decide +kernel
theorem dX6_note_0 : decode cX6_note 0 = .ok (.aload_n 0, 1) := by decide +kernel
theorem dX6_note_1 : decode cX6_note 1 = .ok (.getfield 15, 3) := by decide +kernel
theorem dX6_note_4 : decode cX6_note 4 = .ok (.aload_n 0, 1) := by decide +kernel
theorem dX6_note_5 : decode cX6_note 5 = .ok (.getfield 9, 3) := by decide +kernel
theorem dX6_note_8 : decode cX6_note 8 = .ok (.arraylength, 1) := by decide +kernel
theorem dX6_note_9 : decode cX6_note 9 = .ok (.if_icmp .ge 23, 3) := by decide +kernel
theorem dX6_note_12 : decode cX6_note 12 = .ok (.aload_n 0, 1) := by decide +kernel
theorem dX6_note_13 : decode cX6_note 13 = .ok (.getfield 9, 3) := by decide +kernel
theorem dX6_note_16 : decode cX6_note 16 = .ok (.aload_n 0, 1) := by decide +kernel
theorem dX6_note_17 : decode cX6_note 17 = .ok (.getfield 15, 3) := by decide +kernel
theorem dX6_note_20 : decode cX6_note 20 = .ok (.iload_n 1, 1) := by decide +kernel
theorem dX6_note_21 : decode cX6_note 21 = .ok (.iastore, 1) := by decide +kernel
theorem dX6_note_22 : decode cX6_note 22 = .ok (.aload_n 0, 1) := by decide +kernel
theorem dX6_note_23 : decode cX6_note 23 = .ok (.dup, 1) := by decide +kernel
theorem dX6_note_24 : decode cX6_note 24 = .ok (.getfield 15, 3) := by decide +kernel
theorem dX6_note_27 : decode cX6_note 27 = .ok (.iconst 1, 1) := by decide +kernel
theorem dX6_note_28 : decode cX6_note 28 = .ok (.iadd, 1) := by decide +kernel
theorem dX6_note_29 : decode cX6_note 29 = .ok (.putfield 15, 3) := by decide +kernel
theorem dX6_note_32 : decode cX6_note 32 = .ok (.return_, 1) := by decide +kernel
theorem dX6_goOuter_0 : decode cX6_goOuter 0 = .ok (.aload_n 1, 1) := by decide +kernel
theorem dX6_goOuter_1 : decode cX6_goOuter 1 = .ok (.invokevirtual 59, 3) := by decide +kernel
theorem dX6_goOuter_4 : decode cX6_goOuter 4 = .ok (.istore_n 3, 1) := by decide +kernel
theorem dX6_goOuter_5 : decode cX6_goOuter 5 = .ok (.iload_n 2, 1) := by decide +kernel
theorem dX6_goOuter_6 : decode cX6_goOuter 6 = .ok (.istore 4, 2) := by decide +kernel
theorem dX6_goOuter_8 : decode cX6_goOuter 8 = .ok (.iconst 0, 1) := by decide +kernel
theorem dX6_goOuter_9 : decode cX6_goOuter 9 = .ok (.istore 5, 2) := by decide +kernel
theorem dX6_goOuter_11 : decode cX6_goOuter 11 = .ok (.iconst 0, 1) := by decide +kernel
theorem dX6_goOuter_12 : decode cX6_goOuter 12 = .ok (.istore 6, 2) := by decide +kernel
theorem dX6_goOuter_14 : decode cX6_goOuter 14 = .ok (.iload 6, 2) := by decide +kernel
theorem dX6_goOuter_16 : decode cX6_goOuter 16 = .ok (.bipush 8, 2) := by decide +kernel
theorem dX6_goOuter_18 : decode cX6_goOuter 18 = .ok (.if_icmp .gt 195, 3) := by decide +kernel
theorem dX6_goOuter_21 : decode cX6_goOuter 21 = .ok (.iload_n 3, 1) := by decide +kernel
theorem dX6_goOuter_22 : decode cX6_goOuter 22 = .ok (.ifCond .eq 13, 3) := by decide +kernel
theorem dX6_goOuter_25 : decode cX6_goOuter 25 = .ok (.aload_n 1, 1) := by decide +kernel
theorem dX6_goOuter_26 : decode cX6_goOuter 26 = .ok (.iload 4, 2) := by decide +kernel
theorem dX6_goOuter_28 : decode cX6_goOuter 28 = .ok (.iconst 0, 1) := by decide +kernel
theorem dX6_goOuter_29 : decode cX6_goOuter 29 = .ok (.invokevirtual 65, 3) := by decide +kernel
theorem dX6_goOuter_32 : decode cX6_goOuter 32 = .ok (.goto 22, 3) := by decide +kernel
theorem dX6_goOuter_35 : decode cX6_goOuter 35 = .ok (.iload 4, 2) := by decide +kernel
theorem dX6_goOuter_37 : decode cX6_goOuter 37 = .ok (.ifCond .lt 16, 3) := by decide +kernel
theorem dX6_goOuter_40 : decode cX6_goOuter 40 = .ok (.iload 4, 2) := by decide +kernel
theorem dX6_goOuter_42 : decode cX6_goOuter 42 = .ok (.aload_n 1, 1) := by decide +kernel
theorem dX6_goOuter_43 : decode cX6_goOuter 43 = .ok (.invokevirtual 69, 3) := by decide +kernel
theorem dX6_goOuter_46 : decode cX6_goOuter 46 = .ok (.if_icmp .ge 7, 3) := by decide +kernel
theorem dX6_goOuter_49 : decode cX6_goOuter 49 = .ok (.iconst 1, 1) := by decide +kernel
theorem dX6_goOuter_50 : decode cX6_goOuter 50 = .ok (.goto 4, 3) := by decide +kernel
theorem dX6_goOuter_53 : decode cX6_goOuter 53 = .ok (.iconst 0, 1) := by decide +kernel
theorem dX6_goOuter_54 : decode cX6_goOuter 54 = .ok (.istore 7, 2) := by decide +kernel
theorem dX6_goOuter_56 : decode cX6_goOuter 56 = .ok (.iload 7, 2) := by decide +kernel
theorem dX6_goOuter_58 : decode cX6_goOuter 58 = .ok (.ifCond .ne 5, 3) := by decide +kernel
theorem dX6_goOuter_61 : decode cX6_goOuter 61 = .ok (.iconst 1, 1) := by decide +kernel
theorem dX6_goOuter_62 : decode cX6_goOuter 62 = .ok (.ireturn, 1) := by decide +kernel
theorem dX6_goOuter_63 : decode cX6_goOuter 63 = .ok (.iload_n 3, 1) := by decide +kernel
theorem dX6_goOuter_64 : decode cX6_goOuter 64 = .ok (.ifCond .eq 12, 3) := by decide +kernel
theorem dX6_goOuter_67 : decode cX6_goOuter 67 = .ok (.aload_n 1, 1) := by decide +kernel
theorem dX6_goOuter_68 : decode cX6_goOuter 68 = .ok (.iload 4, 2) := by decide +kernel
theorem dX6_goOuter_70 : decode cX6_goOuter 70 = .ok (.invokevirtual 72, 3) := by decide +kernel
theorem dX6_goOuter_73 : decode cX6_goOuter 73 = .ok (.goto 5, 3) := by decide +kernel
theorem dX6_goOuter_76 : decode cX6_goOuter 76 = .ok (.iload 4, 2) := by decide +kernel
theorem dX6_goOuter_78 : decode cX6_goOuter 78 = .ok (.istore 8, 2) := by decide +kernel
theorem dX6_goOuter_80 : decode cX6_goOuter 80 = .ok (.iload 5, 2) := by decide +kernel
theorem dX6_goOuter_82 : decode cX6_goOuter 82 = .ok (.iload 8, 2) := by decide +kernel
theorem dX6_goOuter_84 : decode cX6_goOuter 84 = .ok (.ishr, 1) := by decide +kernel
theorem dX6_goOuter_85 : decode cX6_goOuter 85 = .ok (.iconst 1, 1) := by decide +kernel
theorem dX6_goOuter_86 : decode cX6_goOuter 86 = .ok (.iand, 1) := by decide +kernel
theorem dX6_goOuter_87 : decode cX6_goOuter 87 = .ok (.ifCond .eq 5, 3) := by decide +kernel
theorem dX6_goOuter_90 : decode cX6_goOuter 90 = .ok (.iconst 2, 1) := by decide +kernel
theorem dX6_goOuter_91 : decode cX6_goOuter 91 = .ok (.ireturn, 1) := by decide +kernel
theorem dX6_goOuter_92 : decode cX6_goOuter 92 = .ok (.iload 5, 2) := by decide +kernel
theorem dX6_goOuter_94 : decode cX6_goOuter 94 = .ok (.iconst 1, 1) := by decide +kernel
theorem dX6_goOuter_95 : decode cX6_goOuter 95 = .ok (.iload 8, 2) := by decide +kernel
theorem dX6_goOuter_97 : decode cX6_goOuter 97 = .ok (.ishl, 1) := by decide +kernel
theorem dX6_goOuter_98 : decode cX6_goOuter 98 = .ok (.ior, 1) := by decide +kernel
theorem dX6_goOuter_99 : decode cX6_goOuter 99 = .ok (.istore 5, 2) := by decide +kernel
theorem dX6_goOuter_101 : decode cX6_goOuter 101 = .ok (.aload_n 0, 1) := by decide +kernel
theorem dX6_goOuter_102 : decode cX6_goOuter 102 = .ok (.dup, 1) := by decide +kernel
theorem dX6_goOuter_103 : decode cX6_goOuter 103 = .ok (.getfield 31, 3) := by decide +kernel
theorem dX6_goOuter_106 : decode cX6_goOuter 106 = .ok (.iconst 1, 1) := by decide +kernel
theorem dX6_goOuter_107 : decode cX6_goOuter 107 = .ok (.iadd, 1) := by decide +kernel
theorem dX6_goOuter_108 : decode cX6_goOuter 108 = .ok (.putfield 31, 3) := by decide +kernel
theorem dX6_goOuter_111 : decode cX6_goOuter 111 = .ok (.aload_n 0, 1) := by decide +kernel
theorem dX6_goOuter_112 : decode cX6_goOuter 112 = .ok (.aload_n 1, 1) := by decide +kernel
theorem dX6_goOuter_113 : decode cX6_goOuter 113 = .ok (.iconst 0, 1) := by decide +kernel
theorem dX6_goOuter_114 : decode cX6_goOuter 114 = .ok (.iload 8, 2) := by decide +kernel
theorem dX6_goOuter_116 : decode cX6_goOuter 116 = .ok (.iconst 2, 1) := by decide +kernel
theorem dX6_goOuter_117 : decode cX6_goOuter 117 = .ok (.invokevirtual 76, 3) := by decide +kernel
theorem dX6_goOuter_120 : decode cX6_goOuter 120 = .ok (.putfield 34, 3) := by decide +kernel
theorem dX6_goOuter_123 : decode cX6_goOuter 123 = .ok (.aload_n 1, 1) := by decide +kernel
theorem dX6_goOuter_124 : decode cX6_goOuter 124 = .ok (.iconst 0, 1) := by decide +kernel
theorem dX6_goOuter_125 : decode cX6_goOuter 125 = .ok (.iload 8, 2) := by decide +kernel
theorem dX6_goOuter_127 : decode cX6_goOuter 127 = .ok (.iconst 1, 1) := by decide +kernel
theorem dX6_goOuter_128 : decode cX6_goOuter 128 = .ok (.invokevirtual 76, 3) := by decide +kernel
theorem dX6_goOuter_131 : decode cX6_goOuter 131 = .ok (.istore 9, 2) := by decide +kernel
theorem dX6_goOuter_133 : decode cX6_goOuter 133 = .ok (.iload 9, 2) := by decide +kernel
theorem dX6_goOuter_135 : decode cX6_goOuter 135 = .ok (.iconst 4, 1) := by decide +kernel
theorem dX6_goOuter_136 : decode cX6_goOuter 136 = .ok (.iand, 1) := by decide +kernel
theorem dX6_goOuter_137 : decode cX6_goOuter 137 = .ok (.ifCond .eq 21, 3) := by decide +kernel
theorem dX6_goOuter_140 : decode cX6_goOuter 140 = .ok (.aload_n 0, 1) := by decide +kernel
theorem dX6_goOuter_141 : decode cX6_goOuter 141 = .ok (.aload_n 1, 1) := by decide +kernel
theorem dX6_goOuter_142 : decode cX6_goOuter 142 = .ok (.iload 8, 2) := by decide +kernel
theorem dX6_goOuter_144 : decode cX6_goOuter 144 = .ok (.iload 6, 2) := by decide +kernel
theorem dX6_goOuter_146 : decode cX6_goOuter 146 = .ok (.ifCond .ne 7, 3) := by decide +kernel
theorem dX6_goOuter_149 : decode cX6_goOuter 149 = .ok (.iconst 1, 1) := by decide +kernel
theorem dX6_goOuter_150 : decode cX6_goOuter 150 = .ok (.goto 4, 3) := by decide +kernel
theorem dX6_goOuter_153 : decode cX6_goOuter 153 = .ok (.iconst 0, 1) := by decide +kernel
theorem dX6_goOuter_154 : decode cX6_goOuter 154 = .ok (.invokevirtual 80, 3) := by decide +kernel
theorem dX6_goOuter_157 : decode cX6_goOuter 157 = .ok (.ireturn, 1) := by decide +kernel
theorem dX6_goOuter_158 : decode cX6_goOuter 158 = .ok (.aload_n 0, 1) := by decide +kernel
theorem dX6_goOuter_159 : decode cX6_goOuter 159 = .ok (.aload_n 1, 1) := by decide +kernel
theorem dX6_goOuter_160 : decode cX6_goOuter 160 = .ok (.iconst 0, 1) := by decide +kernel
theorem dX6_goOuter_161 : decode cX6_goOuter 161 = .ok (.iload 8, 2) := by decide +kernel
theorem dX6_goOuter_163 : decode cX6_goOuter 163 = .ok (.iconst 0, 1) := by decide +kernel
theorem dX6_goOuter_164 : decode cX6_goOuter 164 = .ok (.invokevirtual 76, 3) := by decide +kernel
theorem dX6_goOuter_167 : decode cX6_goOuter 167 = .ok (.iload 9, 2) := by decide +kernel
theorem dX6_goOuter_169 : decode cX6_goOuter 169 = .ok (.invokevirtual 84, 3) := by decide +kernel
theorem dX6_goOuter_172 : decode cX6_goOuter 172 = .ok (.ifCond .ne 6, 3) := by decide +kernel
theorem dX6_goOuter_175 : decode cX6_goOuter 175 = .ok (.bipush 6, 2) := by decide +kernel
theorem dX6_goOuter_177 : decode cX6_goOuter 177 = .ok (.ireturn, 1) := by decide +kernel
theorem dX6_goOuter_178 : decode cX6_goOuter 178 = .ok (.iload 9, 2) := by decide +kernel
theorem dX6_goOuter_180 : decode cX6_goOuter 180 = .ok (.iconst 1, 1) := by decide +kernel
theorem dX6_goOuter_181 : decode cX6_goOuter 181 = .ok (.iand, 1) := by decide +kernel
theorem dX6_goOuter_182 : decode cX6_goOuter 182 = .ok (.ifCond .ne 5, 3) := by decide +kernel
theorem dX6_goOuter_185 : decode cX6_goOuter 185 = .ok (.iconst 0, 1) := by decide +kernel
theorem dX6_goOuter_186 : decode cX6_goOuter 186 = .ok (.ireturn, 1) := by decide +kernel
theorem dX6_goOuter_187 : decode cX6_goOuter 187 = .ok (.iload_n 3, 1) := by decide +kernel
theorem dX6_goOuter_188 : decode cX6_goOuter 188 = .ok (.ifCond .eq 13, 3) := by decide +kernel
theorem dX6_goOuter_191 : decode cX6_goOuter 191 = .ok (.aload_n 1, 1) := by decide +kernel
theorem dX6_goOuter_192 : decode cX6_goOuter 192 = .ok (.iload 4, 2) := by decide +kernel
theorem dX6_goOuter_194 : decode cX6_goOuter 194 = .ok (.iconst 1, 1) := by decide +kernel
theorem dX6_goOuter_195 : decode cX6_goOuter 195 = .ok (.invokevirtual 88, 3) := by decide +kernel
theorem dX6_goOuter_198 : decode cX6_goOuter 198 = .ok (.goto 7, 3) := by decide +kernel
theorem dX6_goOuter_201 : decode cX6_goOuter 201 = .ok (.aload_n 0, 1) := by decide +kernel
theorem dX6_goOuter_202 : decode cX6_goOuter 202 = .ok (.getfield 34, 3) := by decide +kernel
theorem dX6_goOuter_205 : decode cX6_goOuter 205 = .ok (.istore 4, 2) := by decide +kernel
theorem dX6_goOuter_207 : decode cX6_goOuter 207 = .ok (.iinc 6 1, 3) := by decide +kernel
theorem dX6_goOuter_210 : decode cX6_goOuter 210 = .ok (.goto (-196), 3) := by decide +kernel
theorem dX6_goOuter_213 : decode cX6_goOuter 213 = .ok (.iconst 2, 1) := by decide +kernel
theorem dX6_goOuter_214 : decode cX6_goOuter 214 = .ok (.ireturn, 1) := by decide +kernel
theorem dX6_enterTable_0 : decode cX6_enterTable 0 = .ok (.aload_n 1, 1) := by decide +kernel
theorem dX6_enterTable_1 : decode cX6_enterTable 1 = .ok (.iconst 2, 1) := by decide +kernel
theorem dX6_enterTable_2 : decode cX6_enterTable 2 = .ok (.invokevirtual 92, 3) := by decide +kernel
theorem dX6_enterTable_5 : decode cX6_enterTable 5 = .ok (.ifCond .ne 5, 3) := by decide +kernel
theorem dX6_enterTable_8 : decode cX6_enterTable 8 = .ok (.iconst 3, 1) := by decide +kernel
theorem dX6_enterTable_9 : decode cX6_enterTable 9 = .ok (.ireturn, 1) := by decide +kernel
theorem dX6_enterTable_10 : decode cX6_enterTable 10 = .ok (.iload_n 3, 1) := by decide +kernel
theorem dX6_enterTable_11 : decode cX6_enterTable 11 = .ok (.ifCond .eq 15, 3) := by decide +kernel
theorem dX6_enterTable_14 : decode cX6_enterTable 14 = .ok (.aload_n 1, 1) := by decide +kernel
theorem dX6_enterTable_15 : decode cX6_enterTable 15 = .ok (.iconst 0, 1) := by decide +kernel
theorem dX6_enterTable_16 : decode cX6_enterTable 16 = .ok (.iload_n 2, 1) := by decide +kernel
theorem dX6_enterTable_17 : decode cX6_enterTable 17 = .ok (.iconst 1, 1) := by decide +kernel
theorem dX6_enterTable_18 : decode cX6_enterTable 18 = .ok (.invokevirtual 76, 3) := by decide +kernel
theorem dX6_enterTable_21 : decode cX6_enterTable 21 = .ok (.iconst 1, 1) := by decide +kernel
theorem dX6_enterTable_22 : decode cX6_enterTable 22 = .ok (.iand, 1) := by decide +kernel
theorem dX6_enterTable_23 : decode cX6_enterTable 23 = .ok (.ifCond .eq 5, 3) := by decide +kernel
theorem dX6_enterTable_26 : decode cX6_enterTable 26 = .ok (.iconst 4, 1) := by decide +kernel
theorem dX6_enterTable_27 : decode cX6_enterTable 27 = .ok (.ireturn, 1) := by decide +kernel
theorem dX6_enterTable_28 : decode cX6_enterTable 28 = .ok (.aload_n 1, 1) := by decide +kernel
theorem dX6_enterTable_29 : decode cX6_enterTable 29 = .ok (.iconst 0, 1) := by decide +kernel
theorem dX6_enterTable_30 : decode cX6_enterTable 30 = .ok (.iload_n 2, 1) := by decide +kernel
theorem dX6_enterTable_31 : decode cX6_enterTable 31 = .ok (.iconst 0, 1) := by decide +kernel
theorem dX6_enterTable_32 : decode cX6_enterTable 32 = .ok (.invokevirtual 76, 3) := by decide +kernel
theorem dX6_enterTable_35 : decode cX6_enterTable 35 = .ok (.istore 4, 2) := by decide +kernel
theorem dX6_enterTable_37 : decode cX6_enterTable 37 = .ok (.aload_n 1, 1) := by decide +kernel
theorem dX6_enterTable_38 : decode cX6_enterTable 38 = .ok (.invokevirtual 59, 3) := by decide +kernel
theorem dX6_enterTable_41 : decode cX6_enterTable 41 = .ok (.ifCond .eq 13, 3) := by decide +kernel
theorem dX6_enterTable_44 : decode cX6_enterTable 44 = .ok (.aload_n 0, 1) := by decide +kernel
theorem dX6_enterTable_45 : decode cX6_enterTable 45 = .ok (.getfield 34, 3) := by decide +kernel
theorem dX6_enterTable_48 : decode cX6_enterTable 48 = .ok (.invokestatic 96, 3) := by decide +kernel
theorem dX6_enterTable_51 : decode cX6_enterTable 51 = .ok (.goto 7, 3) := by decide +kernel
theorem dX6_enterTable_54 : decode cX6_enterTable 54 = .ok (.aload_n 0, 1) := by decide +kernel
theorem dX6_enterTable_55 : decode cX6_enterTable 55 = .ok (.getfield 34, 3) := by decide +kernel
theorem dX6_enterTable_58 : decode cX6_enterTable 58 = .ok (.istore 5, 2) := by decide +kernel
theorem dX6_enterTable_60 : decode cX6_enterTable 60 = .ok (.iload 5, 2) := by decide +kernel
theorem dX6_enterTable_62 : decode cX6_enterTable 62 = .ok (.iconst 1, 1) := by decide +kernel
theorem dX6_enterTable_63 : decode cX6_enterTable 63 = .ok (.if_icmp .lt 13, 3) := by decide +kernel
theorem dX6_enterTable_66 : decode cX6_enterTable 66 = .ok (.iload 5, 2) := by decide +kernel
theorem dX6_enterTable_68 : decode cX6_enterTable 68 = .ok (.iconst 5, 1) := by decide +kernel
theorem dX6_enterTable_69 : decode cX6_enterTable 69 = .ok (.if_icmp .ge 7, 3) := by decide +kernel
theorem dX6_enterTable_72 : decode cX6_enterTable 72 = .ok (.iconst 1, 1) := by decide +kernel
theorem dX6_enterTable_73 : decode cX6_enterTable 73 = .ok (.goto 4, 3) := by decide +kernel
theorem dX6_enterTable_76 : decode cX6_enterTable 76 = .ok (.iconst 0, 1) := by decide +kernel
theorem dX6_enterTable_77 : decode cX6_enterTable 77 = .ok (.istore 6, 2) := by decide +kernel
theorem dX6_enterTable_79 : decode cX6_enterTable 79 = .ok (.iload 6, 2) := by decide +kernel
theorem dX6_enterTable_81 : decode cX6_enterTable 81 = .ok (.ifCond .eq 19, 3) := by decide +kernel
theorem dX6_enterTable_84 : decode cX6_enterTable 84 = .ok (.iload 4, 2) := by decide +kernel
theorem dX6_enterTable_86 : decode cX6_enterTable 86 = .ok (.ifCond .le 14, 3) := by decide +kernel
theorem dX6_enterTable_89 : decode cX6_enterTable 89 = .ok (.iload 4, 2) := by decide +kernel
theorem dX6_enterTable_91 : decode cX6_enterTable 91 = .ok (.aload_n 1, 1) := by decide +kernel
theorem dX6_enterTable_92 : decode cX6_enterTable 92 = .ok (.iload 5, 2) := by decide +kernel
theorem dX6_enterTable_94 : decode cX6_enterTable 94 = .ok (.invokevirtual 99, 3) := by decide +kernel
theorem dX6_enterTable_97 : decode cX6_enterTable 97 = .ok (.if_icmp .le 5, 3) := by decide +kernel
theorem dX6_enterTable_100 : decode cX6_enterTable 100 = .ok (.iconst 5, 1) := by decide +kernel
theorem dX6_enterTable_101 : decode cX6_enterTable 101 = .ok (.ireturn, 1) := by decide +kernel
theorem dX6_enterTable_102 : decode cX6_enterTable 102 = .ok (.aload_n 0, 1) := by decide +kernel
theorem dX6_enterTable_103 : decode cX6_enterTable 103 = .ok (.iload 5, 2) := by decide +kernel
theorem dX6_enterTable_105 : decode cX6_enterTable 105 = .ok (.putfield 37, 3) := by decide +kernel
theorem dX6_enterTable_108 : decode cX6_enterTable 108 = .ok (.aload_n 0, 1) := by decide +kernel
theorem dX6_enterTable_109 : decode cX6_enterTable 109 = .ok (.iload 4, 2) := by decide +kernel
theorem dX6_enterTable_111 : decode cX6_enterTable 111 = .ok (.putfield 40, 3) := by decide +kernel
theorem dX6_enterTable_114 : decode cX6_enterTable 114 = .ok (.iconst 0, 1) := by decide +kernel
theorem dX6_enterTable_115 : decode cX6_enterTable 115 = .ok (.ireturn, 1) := by decide +kernel
theorem dX6_goInner_0 : decode cX6_goInner 0 = .ok (.aload_n 1, 1) := by decide +kernel
theorem dX6_goInner_1 : decode cX6_goInner 1 = .ok (.invokevirtual 59, 3) := by decide +kernel
theorem dX6_goInner_4 : decode cX6_goInner 4 = .ok (.ifCond .eq 10, 3) := by decide +kernel
theorem dX6_goInner_7 : decode cX6_goInner 7 = .ok (.aload_n 1, 1) := by decide +kernel
theorem dX6_goInner_8 : decode cX6_goInner 8 = .ok (.invokevirtual 69, 3) := by decide +kernel
theorem dX6_goInner_11 : decode cX6_goInner 11 = .ok (.goto 5, 3) := by decide +kernel
theorem dX6_goInner_14 : decode cX6_goInner 14 = .ok (.bipush 8, 2) := by decide +kernel
theorem dX6_goInner_16 : decode cX6_goInner 16 = .ok (.istore_n 2, 1) := by decide +kernel
theorem dX6_goInner_17 : decode cX6_goInner 17 = .ok (.iconst 0, 1) := by decide +kernel
theorem dX6_goInner_18 : decode cX6_goInner 18 = .ok (.istore_n 3, 1) := by decide +kernel
theorem dX6_goInner_19 : decode cX6_goInner 19 = .ok (.iconst 0, 1) := by decide +kernel
theorem dX6_goInner_20 : decode cX6_goInner 20 = .ok (.istore 4, 2) := by decide +kernel
theorem dX6_goInner_22 : decode cX6_goInner 22 = .ok (.iconst 0, 1) := by decide +kernel
theorem dX6_goInner_23 : decode cX6_goInner 23 = .ok (.istore 5, 2) := by decide +kernel
theorem dX6_goInner_25 : decode cX6_goInner 25 = .ok (.iload 5, 2) := by decide +kernel
theorem dX6_goInner_27 : decode cX6_goInner 27 = .ok (.bipush 8, 2) := by decide +kernel
theorem dX6_goInner_29 : decode cX6_goInner 29 = .ok (.if_icmp .gt 111, 3) := by decide +kernel
theorem dX6_goInner_32 : decode cX6_goInner 32 = .ok (.iload_n 3, 1) := by decide +kernel
theorem dX6_goInner_33 : decode cX6_goInner 33 = .ok (.ifCond .lt 11, 3) := by decide +kernel
theorem dX6_goInner_36 : decode cX6_goInner 36 = .ok (.iload_n 3, 1) := by decide +kernel
theorem dX6_goInner_37 : decode cX6_goInner 37 = .ok (.aload_n 0, 1) := by decide +kernel
theorem dX6_goInner_38 : decode cX6_goInner 38 = .ok (.getfield 40, 3) := by decide +kernel
theorem dX6_goInner_41 : decode cX6_goInner 41 = .ok (.if_icmp .lt 5, 3) := by decide +kernel
theorem dX6_goInner_44 : decode cX6_goInner 44 = .ok (.iconst 1, 1) := by decide +kernel
theorem dX6_goInner_45 : decode cX6_goInner 45 = .ok (.ireturn, 1) := by decide +kernel
theorem dX6_goInner_46 : decode cX6_goInner 46 = .ok (.iload 4, 2) := by decide +kernel
theorem dX6_goInner_48 : decode cX6_goInner 48 = .ok (.iload_n 3, 1) := by decide +kernel
theorem dX6_goInner_49 : decode cX6_goInner 49 = .ok (.ishr, 1) := by decide +kernel
theorem dX6_goInner_50 : decode cX6_goInner 50 = .ok (.iconst 1, 1) := by decide +kernel
theorem dX6_goInner_51 : decode cX6_goInner 51 = .ok (.iand, 1) := by decide +kernel
theorem dX6_goInner_52 : decode cX6_goInner 52 = .ok (.ifCond .ne 9, 3) := by decide +kernel
theorem dX6_goInner_55 : decode cX6_goInner 55 = .ok (.iload 5, 2) := by decide +kernel
theorem dX6_goInner_57 : decode cX6_goInner 57 = .ok (.iload_n 2, 1) := by decide +kernel
theorem dX6_goInner_58 : decode cX6_goInner 58 = .ok (.if_icmp .lt 5, 3) := by decide +kernel
theorem dX6_goInner_61 : decode cX6_goInner 61 = .ok (.iconst 2, 1) := by decide +kernel
theorem dX6_goInner_62 : decode cX6_goInner 62 = .ok (.ireturn, 1) := by decide +kernel
theorem dX6_goInner_63 : decode cX6_goInner 63 = .ok (.iload 4, 2) := by decide +kernel
theorem dX6_goInner_65 : decode cX6_goInner 65 = .ok (.iconst 1, 1) := by decide +kernel
theorem dX6_goInner_66 : decode cX6_goInner 66 = .ok (.iload_n 3, 1) := by decide +kernel
theorem dX6_goInner_67 : decode cX6_goInner 67 = .ok (.ishl, 1) := by decide +kernel
theorem dX6_goInner_68 : decode cX6_goInner 68 = .ok (.ior, 1) := by decide +kernel
theorem dX6_goInner_69 : decode cX6_goInner 69 = .ok (.istore 4, 2) := by decide +kernel
theorem dX6_goInner_71 : decode cX6_goInner 71 = .ok (.aload_n 1, 1) := by decide +kernel
theorem dX6_goInner_72 : decode cX6_goInner 72 = .ok (.aload_n 0, 1) := by decide +kernel
theorem dX6_goInner_73 : decode cX6_goInner 73 = .ok (.getfield 37, 3) := by decide +kernel
theorem dX6_goInner_76 : decode cX6_goInner 76 = .ok (.iload_n 3, 1) := by decide +kernel
theorem dX6_goInner_77 : decode cX6_goInner 77 = .ok (.iconst 1, 1) := by decide +kernel
theorem dX6_goInner_78 : decode cX6_goInner 78 = .ok (.invokevirtual 76, 3) := by decide +kernel
theorem dX6_goInner_81 : decode cX6_goInner 81 = .ok (.istore 6, 2) := by decide +kernel
theorem dX6_goInner_83 : decode cX6_goInner 83 = .ok (.iload 6, 2) := by decide +kernel
theorem dX6_goInner_85 : decode cX6_goInner 85 = .ok (.iconst 4, 1) := by decide +kernel
theorem dX6_goInner_86 : decode cX6_goInner 86 = .ok (.iand, 1) := by decide +kernel
theorem dX6_goInner_87 : decode cX6_goInner 87 = .ok (.ifCond .eq 5, 3) := by decide +kernel
theorem dX6_goInner_90 : decode cX6_goInner 90 = .ok (.iconst 4, 1) := by decide +kernel
theorem dX6_goInner_91 : decode cX6_goInner 91 = .ok (.ireturn, 1) := by decide +kernel
theorem dX6_goInner_92 : decode cX6_goInner 92 = .ok (.aload_n 0, 1) := by decide +kernel
theorem dX6_goInner_93 : decode cX6_goInner 93 = .ok (.aload_n 1, 1) := by decide +kernel
theorem dX6_goInner_94 : decode cX6_goInner 94 = .ok (.aload_n 0, 1) := by decide +kernel
theorem dX6_goInner_95 : decode cX6_goInner 95 = .ok (.getfield 37, 3) := by decide +kernel
theorem dX6_goInner_98 : decode cX6_goInner 98 = .ok (.iload_n 3, 1) := by decide +kernel
theorem dX6_goInner_99 : decode cX6_goInner 99 = .ok (.iconst 0, 1) := by decide +kernel
theorem dX6_goInner_100 : decode cX6_goInner 100 = .ok (.invokevirtual 76, 3) := by decide +kernel
theorem dX6_goInner_103 : decode cX6_goInner 103 = .ok (.iload 6, 2) := by decide +kernel
theorem dX6_goInner_105 : decode cX6_goInner 105 = .ok (.invokevirtual 84, 3) := by decide +kernel
theorem dX6_goInner_108 : decode cX6_goInner 108 = .ok (.ifCond .ne 6, 3) := by decide +kernel
theorem dX6_goInner_111 : decode cX6_goInner 111 = .ok (.bipush 6, 2) := by decide +kernel
theorem dX6_goInner_113 : decode cX6_goInner 113 = .ok (.ireturn, 1) := by decide +kernel
theorem dX6_goInner_114 : decode cX6_goInner 114 = .ok (.iload 6, 2) := by decide +kernel
theorem dX6_goInner_116 : decode cX6_goInner 116 = .ok (.iconst 1, 1) := by decide +kernel
theorem dX6_goInner_117 : decode cX6_goInner 117 = .ok (.iand, 1) := by decide +kernel
theorem dX6_goInner_118 : decode cX6_goInner 118 = .ok (.ifCond .ne 5, 3) := by decide +kernel
theorem dX6_goInner_121 : decode cX6_goInner 121 = .ok (.iconst 0, 1) := by decide +kernel
theorem dX6_goInner_122 : decode cX6_goInner 122 = .ok (.ireturn, 1) := by decide +kernel
theorem dX6_goInner_123 : decode cX6_goInner 123 = .ok (.aload_n 1, 1) := by decide +kernel
theorem dX6_goInner_124 : decode cX6_goInner 124 = .ok (.aload_n 0, 1) := by decide +kernel
theorem dX6_goInner_125 : decode cX6_goInner 125 = .ok (.getfield 37, 3) := by decide +kernel
theorem dX6_goInner_128 : decode cX6_goInner 128 = .ok (.iload_n 3, 1) := by decide +kernel
theorem dX6_goInner_129 : decode cX6_goInner 129 = .ok (.iconst 2, 1) := by decide +kernel
theorem dX6_goInner_130 : decode cX6_goInner 130 = .ok (.invokevirtual 76, 3) := by decide +kernel
theorem dX6_goInner_133 : decode cX6_goInner 133 = .ok (.istore_n 3, 1) := by decide +kernel
theorem dX6_goInner_134 : decode cX6_goInner 134 = .ok (.iinc 5 1, 3) := by decide +kernel
theorem dX6_goInner_137 : decode cX6_goInner 137 = .ok (.goto (-112), 3) := by decide +kernel
theorem dX6_goInner_140 : decode cX6_goInner 140 = .ok (.iconst 2, 1) := by decide +kernel
theorem dX6_goInner_141 : decode cX6_goInner 141 = .ok (.ireturn, 1) := by decide +kernel
theorem dX6_isPartTaken_0 : decode cX6_isPartTaken 0 = .ok (.iload_n 2, 1) := by decide +kernel
theorem dX6_isPartTaken_1 : decode cX6_isPartTaken 1 = .ok (.iconst 2, 1) := by decide +kernel
theorem dX6_isPartTaken_2 : decode cX6_isPartTaken 2 = .ok (.iand, 1) := by decide +kernel
theorem dX6_isPartTaken_3 : decode cX6_isPartTaken 3 = .ok (.ifCond .eq 7, 3) := by decide +kernel
theorem dX6_isPartTaken_6 : decode cX6_isPartTaken 6 = .ok (.iconst 1, 1) := by decide +kernel
theorem dX6_isPartTaken_7 : decode cX6_isPartTaken 7 = .ok (.goto 4, 3) := by decide +kernel
theorem dX6_isPartTaken_10 : decode cX6_isPartTaken 10 = .ok (.iconst 0, 1) := by decide +kernel
theorem dX6_isPartTaken_11 : decode cX6_isPartTaken 11 = .ok (.istore_n 3, 1) := by decide +kernel
theorem dX6_isPartTaken_12 : decode cX6_isPartTaken 12 = .ok (.aload_n 0, 1) := by decide +kernel
theorem dX6_isPartTaken_13 : decode cX6_isPartTaken 13 = .ok (.getfield 43, 3) := by decide +kernel
theorem dX6_isPartTaken_16 : decode cX6_isPartTaken 16 = .ok (.ifCond .eq 9, 3) := by decide +kernel
theorem dX6_isPartTaken_19 : decode cX6_isPartTaken 19 = .ok (.iload_n 3, 1) := by decide +kernel
theorem dX6_isPartTaken_20 : decode cX6_isPartTaken 20 = .ok (.ifCond .ne 5, 3) := by decide +kernel
theorem dX6_isPartTaken_23 : decode cX6_isPartTaken 23 = .ok (.iconst 0, 1) := by decide +kernel
theorem dX6_isPartTaken_24 : decode cX6_isPartTaken 24 = .ok (.ireturn, 1) := by decide +kernel
theorem dX6_isPartTaken_25 : decode cX6_isPartTaken 25 = .ok (.aload_n 0, 1) := by decide +kernel
theorem dX6_isPartTaken_26 : decode cX6_isPartTaken 26 = .ok (.iload_n 3, 1) := by decide +kernel
theorem dX6_isPartTaken_27 : decode cX6_isPartTaken 27 = .ok (.putfield 43, 3) := by decide +kernel
theorem dX6_isPartTaken_30 : decode cX6_isPartTaken 30 = .ok (.aload_n 0, 1) := by decide +kernel
theorem dX6_isPartTaken_31 : decode cX6_isPartTaken 31 = .ok (.dup, 1) := by decide +kernel
theorem dX6_isPartTaken_32 : decode cX6_isPartTaken 32 = .ok (.getfield 22, 3) := by decide +kernel
theorem dX6_isPartTaken_35 : decode cX6_isPartTaken 35 = .ok (.iconst 1, 1) := by decide +kernel
theorem dX6_isPartTaken_36 : decode cX6_isPartTaken 36 = .ok (.iadd, 1) := by decide +kernel
theorem dX6_isPartTaken_37 : decode cX6_isPartTaken 37 = .ok (.putfield 22, 3) := by decide +kernel
theorem dX6_isPartTaken_40 : decode cX6_isPartTaken 40 = .ok (.aload_n 0, 1) := by decide +kernel
theorem dX6_isPartTaken_41 : decode cX6_isPartTaken 41 = .ok (.dup, 1) := by decide +kernel
theorem dX6_isPartTaken_42 : decode cX6_isPartTaken 42 = .ok (.getfield 25, 3) := by decide +kernel
theorem dX6_isPartTaken_45 : decode cX6_isPartTaken 45 = .ok (.iload_n 3, 1) := by decide +kernel
theorem dX6_isPartTaken_46 : decode cX6_isPartTaken 46 = .ok (.ifCond .eq 7, 3) := by decide +kernel
theorem dX6_isPartTaken_49 : decode cX6_isPartTaken 49 = .ok (.iload_n 1, 1) := by decide +kernel
theorem dX6_isPartTaken_50 : decode cX6_isPartTaken 50 = .ok (.goto 4, 3) := by decide +kernel
theorem dX6_isPartTaken_53 : decode cX6_isPartTaken 53 = .ok (.iconst 0, 1) := by decide +kernel
theorem dX6_isPartTaken_54 : decode cX6_isPartTaken 54 = .ok (.iadd, 1) := by decide +kernel
theorem dX6_isPartTaken_55 : decode cX6_isPartTaken 55 = .ok (.putfield 25, 3) := by decide +kernel
theorem dX6_isPartTaken_58 : decode cX6_isPartTaken 58 = .ok (.aload_n 0, 1) := by decide +kernel
theorem dX6_isPartTaken_59 : decode cX6_isPartTaken 59 = .ok (.dup, 1) := by decide +kernel
theorem dX6_isPartTaken_60 : decode cX6_isPartTaken 60 = .ok (.getfield 28, 3) := by decide +kernel
theorem dX6_isPartTaken_63 : decode cX6_isPartTaken 63 = .ok (.iload_n 3, 1) := by decide +kernel
theorem dX6_isPartTaken_64 : decode cX6_isPartTaken 64 = .ok (.ifCond .eq 7, 3) := by decide +kernel
theorem dX6_isPartTaken_67 : decode cX6_isPartTaken 67 = .ok (.iconst 0, 1) := by decide +kernel
theorem dX6_isPartTaken_68 : decode cX6_isPartTaken 68 = .ok (.goto 4, 3) := by decide +kernel
theorem dX6_isPartTaken_71 : decode cX6_isPartTaken 71 = .ok (.iload_n 1, 1) := by decide +kernel
theorem dX6_isPartTaken_72 : decode cX6_isPartTaken 72 = .ok (.iadd, 1) := by decide +kernel
theorem dX6_isPartTaken_73 : decode cX6_isPartTaken 73 = .ok (.putfield 28, 3) := by decide +kernel
theorem dX6_isPartTaken_76 : decode cX6_isPartTaken 76 = .ok (.iconst 1, 1) := by decide +kernel
theorem dX6_isPartTaken_77 : decode cX6_isPartTaken 77 = .ok (.ireturn, 1) := by decide +kernel
theorem dX7_init_0 : decode cX7_init 0 = .ok (.aload_n 0, 1) := by decide +kernel
theorem dX7_init_1 : decode cX7_init 1 = .ok (.invokespecial 1, 3) := by decide +kernel
theorem dX7_init_4 : decode cX7_init 4 = .ok (.aload_n 0, 1) := by decide +kernel
theorem dX7_init_5 : decode cX7_init 5 = .ok (.new 7, 3) := by decide +kernel
theorem dX7_init_8 : decode cX7_init 8 = .ok (.dup, 1) := by decide +kernel
theorem dX7_init_9 : decode cX7_init 9 = .ok (.invokespecial 9, 3) := by decide +kernel
theorem dX7_init_12 : decode cX7_init 12 = .ok (.putfield 10, 3) := by decide +kernel
theorem dX7_init_15 : decode cX7_init 15 = .ok (.aload_n 0, 1) := by decide +kernel
theorem dX7_init_16 : decode cX7_init 16 = .ok (.new 16, 3) := by decide +kernel
theorem dX7_init_19 : decode cX7_init 19 = .ok (.dup, 1) := by decide +kernel
theorem dX7_init_20 : decode cX7_init 20 = .ok (.invokespecial 18, 3) := by decide +kernel
theorem dX7_init_23 : decode cX7_init 23 = .ok (.putfield 19, 3) := by decide +kernel
theorem dX7_init_26 : decode cX7_init 26 = .ok (.aload_n 0, 1) := by decide +kernel
theorem dX7_init_27 : decode cX7_init 27 = .ok (.new 23, 3) := by decide +kernel
theorem dX7_init_30 : decode cX7_init 30 = .ok (.dup, 1) := by decide +kernel
theorem dX7_init_31 : decode cX7_init 31 = .ok (.invokespecial 25, 3) := by decide +kernel
theorem dX7_init_34 : decode cX7_init 34 = .ok (.putfield 26, 3) := by decide +kernel
theorem dX7_init_37 : decode cX7_init 37 = .ok (.aload_n 0, 1) := by decide +kernel
theorem dX7_init_38 : decode cX7_init 38 = .ok (.iconst 2, 1) := by decide +kernel
theorem dX7_init_39 : decode cX7_init 39 = .ok (.anewarray 23, 3) := by decide +kernel
theorem dX7_init_42 : decode cX7_init 42 = .ok (.putfield 30, 3) := by decide +kernel
theorem dX7_init_45 : decode cX7_init 45 = .ok (.aload_n 0, 1) := by decide +kernel
theorem dX7_init_46 : decode cX7_init 46 = .ok (.new 34, 3) := by decide +kernel
theorem dX7_init_49 : decode cX7_init 49 = .ok (.dup, 1) := by decide +kernel
theorem dX7_init_50 : decode cX7_init 50 = .ok (.invokespecial 36, 3) := by decide +kernel
theorem dX7_init_53 : decode cX7_init 53 = .ok (.putfield 37, 3) := by decide +kernel
theorem dX7_init_56 : decode cX7_init 56 = .ok (.aload_n 0, 1) := by decide +kernel
theorem dX7_init_57 : decode cX7_init 57 = .ok (.new 34, 3) := by decide +kernel
theorem dX7_init_60 : decode cX7_init 60 = .ok (.dup, 1) := by decide +kernel
theorem dX7_init_61 : decode cX7_init 61 = .ok (.invokespecial 36, 3) := by decide +kernel
theorem dX7_init_64 : decode cX7_init 64 = .ok (.putfield 41, 3) := by decide +kernel
theorem dX7_init_67 : decode cX7_init 67 = .ok (.aload_n 0, 1) := by decide +kernel
theorem dX7_init_68 : decode cX7_init 68 = .ok (.new 44, 3) := by decide +kernel
theorem dX7_init_71 : decode cX7_init 71 = .ok (.dup, 1) := by decide +kernel
theorem dX7_init_72 : decode cX7_init 72 = .ok (.invokespecial 46, 3) := by decide +kernel
theorem dX7_init_75 : decode cX7_init 75 = .ok (.putfield 47, 3) := by decide +kernel
theorem dX7_init_78 : decode cX7_init 78 = .ok (.aload_n 0, 1) := by decide +kernel
theorem dX7_init_79 : decode cX7_init 79 = .ok (.new 51, 3) := by decide +kernel
theorem dX7_init_82 : decode cX7_init 82 = .ok (.dup, 1) := by decide +kernel
theorem dX7_init_83 : decode cX7_init 83 = .ok (.invokespecial 53, 3) := by decide +kernel
theorem dX7_init_86 : decode cX7_init 86 = .ok (.putfield 54, 3) := by decide +kernel
theorem dX7_init_89 : decode cX7_init 89 = .ok (.aload_n 0, 1) := by decide +kernel
theorem dX7_init_90 : decode cX7_init 90 = .ok (.bipush 8, 2) := by decide +kernel
theorem dX7_init_92 : decode cX7_init 92 = .ok (.newarray .int, 2) := by decide +kernel
theorem dX7_init_94 : decode cX7_init 94 = .ok (.putfield 58, 3) := by decide +kernel
theorem dX7_init_97 : decode cX7_init 97 = .ok (.aload_n 0, 1) := by decide +kernel
theorem dX7_init_98 : decode cX7_init 98 = .ok (.iconst 0, 1) := by decide +kernel
theorem dX7_init_99 : decode cX7_init 99 = .ok (.putfield 62, 3) := by decide +kernel
theorem dX7_init_102 : decode cX7_init 102 = .ok (.aload_n 0, 1) := by decide +kernel
theorem dX7_init_103 : decode cX7_init 103 = .ok (.iconst (-1), 1) := by decide +kernel
theorem dX7_init_104 : decode cX7_init 104 = .ok (.putfield 66, 3) := by decide +kernel
theorem dX7_init_107 : decode cX7_init 107 = .ok (.aload_n 0, 1) := by decide +kernel
theorem dX7_init_108 : decode cX7_init 108 = .ok (.iconst 0, 1) := by decide +kernel
theorem dX7_init_109 : decode cX7_init 109 = .ok (.putfield 69, 3) := by decide +kernel
theorem dX7_init_112 : decode cX7_init 112 = .ok (.aload_n 0, 1) := by decide +kernel
theorem dX7_init_113 : decode cX7_init 113 = .ok (.aconst_null, 1) := by decide +kernel
theorem dX7_init_114 : decode cX7_init 114 = .ok (.putfield 72, 3) := by decide +kernel
theorem dX7_init_117 : decode cX7_init 117 = .ok (.return_, 1) := by decide +kernel
theorem dX7_feed_0 : decode cX7_feed 0 = .ok (.aload_n 0, 1) := by decide +kernel
theorem dX7_feed_1 : decode cX7_feed 1 = .ok (.getfield 10, 3) := by decide +kernel
theorem dX7_feed_4 : decode cX7_feed 4 = .ok (.bipush 20, 2) := by decide +kernel
theorem dX7_feed_6 : decode cX7_feed 6 = .ok (.invokevirtual 76, 3) := by decide +kernel
theorem dX7_feed_9 : decode cX7_feed 9 = .ok (.ifCond .ne 5, 3) := by decide +kernel
theorem dX7_feed_12 : decode cX7_feed 12 = .ok (.iconst (-1), 1) := by decide +kernel
theorem dX7_feed_13 : decode cX7_feed 13 = .ok (.ireturn, 1) := by decide +kernel
theorem dX7_feed_14 : decode cX7_feed 14 = .ok (.aload_n 0, 1) := by decide +kernel
theorem dX7_feed_15 : decode cX7_feed 15 = .ok (.getfield 10, 3) := by decide +kernel
theorem dX7_feed_18 : decode cX7_feed 18 = .ok (.iload_n 1, 1) := by decide +kernel
theorem dX7_feed_19 : decode cX7_feed 19 = .ok (.invokevirtual 80, 3) := by decide +kernel
theorem dX7_feed_22 : decode cX7_feed 22 = .ok (.aload_n 0, 1) := by decide +kernel
theorem dX7_feed_23 : decode cX7_feed 23 = .ok (.getfield 10, 3) := by decide +kernel
theorem dX7_feed_26 : decode cX7_feed 26 = .ok (.iload_n 2, 1) := by decide +kernel
theorem dX7_feed_27 : decode cX7_feed 27 = .ok (.invokevirtual 80, 3) := by decide +kernel
theorem dX7_feed_30 : decode cX7_feed 30 = .ok (.aload_n 0, 1) := by decide +kernel
theorem dX7_feed_31 : decode cX7_feed 31 = .ok (.getfield 10, 3) := by decide +kernel
theorem dX7_feed_34 : decode cX7_feed 34 = .ok (.iload_n 3, 1) := by decide +kernel
theorem dX7_feed_35 : decode cX7_feed 35 = .ok (.invokevirtual 80, 3) := by decide +kernel
theorem dX7_feed_38 : decode cX7_feed 38 = .ok (.aload_n 0, 1) := by decide +kernel
theorem dX7_feed_39 : decode cX7_feed 39 = .ok (.getfield 10, 3) := by decide +kernel
theorem dX7_feed_42 : decode cX7_feed 42 = .ok (.iload 4, 2) := by decide +kernel
theorem dX7_feed_44 : decode cX7_feed 44 = .ok (.invokevirtual 80, 3) := by decide +kernel
theorem dX7_feed_47 : decode cX7_feed 47 = .ok (.aload_n 0, 1) := by decide +kernel
theorem dX7_feed_48 : decode cX7_feed 48 = .ok (.getfield 10, 3) := by decide +kernel
theorem dX7_feed_51 : decode cX7_feed 51 = .ok (.iload 5, 2) := by decide +kernel
theorem dX7_feed_53 : decode cX7_feed 53 = .ok (.invokevirtual 80, 3) := by decide +kernel
theorem dX7_feed_56 : decode cX7_feed 56 = .ok (.aload_n 0, 1) := by decide +kernel
theorem dX7_feed_57 : decode cX7_feed 57 = .ok (.getfield 10, 3) := by decide +kernel
theorem dX7_feed_60 : decode cX7_feed 60 = .ok (.getfield 84, 3) := by decide +kernel
theorem dX7_feed_63 : decode cX7_feed 63 = .ok (.ireturn, 1) := by decide +kernel
theorem dX7_end_0 : decode cX7_end 0 = .ok (.iload_n 1, 1) := by decide +kernel
theorem dX7_end_1 : decode cX7_end 1 = .ok (.ifCond .lt 14, 3) := by decide +kernel
theorem dX7_end_4 : decode cX7_end 4 = .ok (.iload_n 1, 1) := by decide +kernel
theorem dX7_end_5 : decode cX7_end 5 = .ok (.aload_n 0, 1) := by decide +kernel
theorem dX7_end_6 : decode cX7_end 6 = .ok (.getfield 10, 3) := by decide +kernel
theorem dX7_end_9 : decode cX7_end 9 = .ok (.getfield 84, 3) := by decide +kernel
theorem dX7_end_12 : decode cX7_end 12 = .ok (.if_icmp .le 5, 3) := by decide +kernel
theorem dX7_end_15 : decode cX7_end 15 = .ok (.iconst 0, 1) := by decide +kernel
theorem dX7_end_16 : decode cX7_end 16 = .ok (.ireturn, 1) := by decide +kernel
theorem dX7_end_17 : decode cX7_end 17 = .ok (.aload_n 0, 1) := by decide +kernel
theorem dX7_end_18 : decode cX7_end 18 = .ok (.getfield 10, 3) := by decide +kernel
theorem dX7_end_21 : decode cX7_end 21 = .ok (.iload_n 1, 1) := by decide +kernel
theorem dX7_end_22 : decode cX7_end 22 = .ok (.putfield 84, 3) := by decide +kernel
theorem dX7_end_25 : decode cX7_end 25 = .ok (.iconst 1, 1) := by decide +kernel
theorem dX7_end_26 : decode cX7_end 26 = .ok (.ireturn, 1) := by decide +kernel
theorem dX7_setup_0 : decode cX7_setup 0 = .ok (.iload_n 1, 1) := by decide +kernel
theorem dX7_setup_1 : decode cX7_setup 1 = .ok (.ifCond .eq 8, 3) := by decide +kernel
theorem dX7_setup_4 : decode cX7_setup 4 = .ok (.iload_n 1, 1) := by decide +kernel
theorem dX7_setup_5 : decode cX7_setup 5 = .ok (.iconst 1, 1) := by decide +kernel
theorem dX7_setup_6 : decode cX7_setup 6 = .ok (.if_icmp .ne 23, 3) := by decide +kernel
theorem dX7_setup_9 : decode cX7_setup 9 = .ok (.iload_n 2, 1) := by decide +kernel
theorem dX7_setup_10 : decode cX7_setup 10 = .ok (.iconst 2, 1) := by decide +kernel
theorem dX7_setup_11 : decode cX7_setup 11 = .ok (.if_icmp .eq 14, 3) := by decide +kernel
theorem dX7_setup_14 : decode cX7_setup 14 = .ok (.iload_n 2, 1) := by decide +kernel
theorem dX7_setup_15 : decode cX7_setup 15 = .ok (.iconst 4, 1) := by decide +kernel
theorem dX7_setup_16 : decode cX7_setup 16 = .ok (.if_icmp .eq 9, 3) := by decide +kernel
theorem dX7_setup_19 : decode cX7_setup 19 = .ok (.iload_n 2, 1) := by decide +kernel
theorem dX7_setup_20 : decode cX7_setup 20 = .ok (.bipush 8, 2) := by decide +kernel
theorem dX7_setup_22 : decode cX7_setup 22 = .ok (.if_icmp .ne 7, 3) := by decide +kernel
theorem dX7_setup_25 : decode cX7_setup 25 = .ok (.iconst 1, 1) := by decide +kernel
theorem dX7_setup_26 : decode cX7_setup 26 = .ok (.goto 4, 3) := by decide +kernel
theorem dX7_setup_29 : decode cX7_setup 29 = .ok (.iconst 0, 1) := by decide +kernel
theorem dX7_setup_30 : decode cX7_setup 30 = .ok (.istore 4, 2) := by decide +kernel
theorem dX7_setup_32 : decode cX7_setup 32 = .ok (.iload 4, 2) := by decide +kernel
theorem dX7_setup_34 : decode cX7_setup 34 = .ok (.ifCond .eq 13, 3) := by decide +kernel
theorem dX7_setup_37 : decode cX7_setup 37 = .ok (.iload_n 3, 1) := by decide +kernel
theorem dX7_setup_38 : decode cX7_setup 38 = .ok (.ifCond .lt 9, 3) := by decide +kernel
theorem dX7_setup_41 : decode cX7_setup 41 = .ok (.iload_n 3, 1) := by decide +kernel
theorem dX7_setup_42 : decode cX7_setup 42 = .ok (.bipush 7, 2) := by decide +kernel
theorem dX7_setup_44 : decode cX7_setup 44 = .ok (.if_icmp .le 5, 3) := by decide +kernel
theorem dX7_setup_47 : decode cX7_setup 47 = .ok (.iconst (-1), 1) := by decide +kernel
theorem dX7_setup_48 : decode cX7_setup 48 = .ok (.ireturn, 1) := by decide +kernel
theorem dX7_setup_49 : decode cX7_setup 49 = .ok (.aload_n 0, 1) := by decide +kernel
theorem dX7_setup_50 : decode cX7_setup 50 = .ok (.getfield 26, 3) := by decide +kernel
theorem dX7_setup_53 : decode cX7_setup 53 = .ok (.iload_n 1, 1) := by decide +kernel
theorem dX7_setup_54 : decode cX7_setup 54 = .ok (.iload_n 2, 1) := by decide +kernel
theorem dX7_setup_55 : decode cX7_setup 55 = .ok (.iload_n 3, 1) := by decide +kernel
theorem dX7_setup_56 : decode cX7_setup 56 = .ok (.invokevirtual 87, 3) := by decide +kernel
theorem dX7_setup_59 : decode cX7_setup 59 = .ok (.iconst 0, 1) := by decide +kernel
theorem dX7_setup_60 : decode cX7_setup 60 = .ok (.ireturn, 1) := by decide +kernel
theorem dX7_offer_0 : decode cX7_offer 0 = .ok (.iload_n 1, 1) := by decide +kernel
theorem dX7_offer_1 : decode cX7_offer 1 = .ok (.ifCond .eq 8, 3) := by decide +kernel
theorem dX7_offer_4 : decode cX7_offer 4 = .ok (.iload_n 1, 1) := by decide +kernel
theorem dX7_offer_5 : decode cX7_offer 5 = .ok (.iconst 1, 1) := by decide +kernel
theorem dX7_offer_6 : decode cX7_offer 6 = .ok (.if_icmp .ne 17, 3) := by decide +kernel
theorem dX7_offer_9 : decode cX7_offer 9 = .ok (.aload_n 0, 1) := by decide +kernel
theorem dX7_offer_10 : decode cX7_offer 10 = .ok (.getfield 19, 3) := by decide +kernel
theorem dX7_offer_13 : decode cX7_offer 13 = .ok (.aload_n 0, 1) := by decide +kernel
theorem dX7_offer_14 : decode cX7_offer 14 = .ok (.getfield 10, 3) := by decide +kernel
theorem dX7_offer_17 : decode cX7_offer 17 = .ok (.invokevirtual 91, 3) := by decide +kernel
theorem dX7_offer_20 : decode cX7_offer 20 = .ok (.goto 4, 3) := by decide +kernel
theorem dX7_offer_23 : decode cX7_offer 23 = .ok (.iconst (-1), 1) := by decide +kernel
theorem dX7_offer_24 : decode cX7_offer 24 = .ok (.istore_n 2, 1) := by decide +kernel
theorem dX7_offer_25 : decode cX7_offer 25 = .ok (.aload_n 0, 1) := by decide +kernel
theorem dX7_offer_26 : decode cX7_offer 26 = .ok (.getfield 10, 3) := by decide +kernel
theorem dX7_offer_29 : decode cX7_offer 29 = .ok (.iconst 0, 1) := by decide +kernel
theorem dX7_offer_30 : decode cX7_offer 30 = .ok (.putfield 84, 3) := by decide +kernel
theorem dX7_offer_33 : decode cX7_offer 33 = .ok (.iload_n 1, 1) := by decide +kernel
theorem dX7_offer_34 : decode cX7_offer 34 = .ok (.ifCond .eq 11, 3) := by decide +kernel
theorem dX7_offer_37 : decode cX7_offer 37 = .ok (.iload_n 1, 1) := by decide +kernel
theorem dX7_offer_38 : decode cX7_offer 38 = .ok (.iconst 1, 1) := by decide +kernel
theorem dX7_offer_39 : decode cX7_offer 39 = .ok (.if_icmp .eq 6, 3) := by decide +kernel
theorem dX7_offer_42 : decode cX7_offer 42 = .ok (.bipush (-2), 2) := by decide +kernel
theorem dX7_offer_44 : decode cX7_offer 44 = .ok (.ireturn, 1) := by decide +kernel
theorem dX7_offer_45 : decode cX7_offer 45 = .ok (.iload_n 2, 1) := by decide +kernel
theorem dX7_offer_46 : decode cX7_offer 46 = .ok (.iconst (-1), 1) := by decide +kernel
theorem dX7_offer_47 : decode cX7_offer 47 = .ok (.if_icmp .eq 11, 3) := by decide +kernel
theorem dX7_offer_50 : decode cX7_offer 50 = .ok (.sipush (-1000), 3) := by decide +kernel
theorem dX7_offer_53 : decode cX7_offer 53 = .ok (.iload_n 2, 1) := by decide +kernel
theorem dX7_offer_54 : decode cX7_offer 54 = .ok (.isub, 1) := by decide +kernel
theorem dX7_offer_55 : decode cX7_offer 55 = .ok (.goto 24, 3) := by decide +kernel
theorem dX7_offer_58 : decode cX7_offer 58 = .ok (.aload_n 0, 1) := by decide +kernel
theorem dX7_offer_59 : decode cX7_offer 59 = .ok (.getfield 26, 3) := by decide +kernel
theorem dX7_offer_62 : decode cX7_offer 62 = .ok (.aload_n 0, 1) := by decide +kernel
theorem dX7_offer_63 : decode cX7_offer 63 = .ok (.getfield 19, 3) := by decide +kernel
theorem dX7_offer_66 : decode cX7_offer 66 = .ok (.iload_n 1, 1) := by decide +kernel
theorem dX7_offer_67 : decode cX7_offer 67 = .ok (.iconst 1, 1) := by decide +kernel
theorem dX7_offer_68 : decode cX7_offer 68 = .ok (.if_icmp .ne 7, 3) := by decide +kernel
theorem dX7_offer_71 : decode cX7_offer 71 = .ok (.iconst 1, 1) := by decide +kernel
theorem dX7_offer_72 : decode cX7_offer 72 = .ok (.goto 4, 3) := by decide +kernel
theorem dX7_offer_75 : decode cX7_offer 75 = .ok (.iconst 0, 1) := by decide +kernel
theorem dX7_offer_76 : decode cX7_offer 76 = .ok (.invokevirtual 95, 3) := by decide +kernel
theorem dX7_offer_79 : decode cX7_offer 79 = .ok (.ireturn, 1) := by decide +kernel
theorem dX7_fetch_0 : decode cX7_fetch 0 = .ok (.aload_n 0, 1) := by decide +kernel
theorem dX7_fetch_1 : decode cX7_fetch 1 = .ok (.getfield 26, 3) := by decide +kernel
theorem dX7_fetch_4 : decode cX7_fetch 4 = .ok (.aload_n 0, 1) := by decide +kernel
theorem dX7_fetch_5 : decode cX7_fetch 5 = .ok (.getfield 37, 3) := by decide +kernel
theorem dX7_fetch_8 : decode cX7_fetch 8 = .ok (.invokevirtual 99, 3) := by decide +kernel
theorem dX7_fetch_11 : decode cX7_fetch 11 = .ok (.ireturn, 1) := by decide +kernel
theorem dX7_finish_0 : decode cX7_finish 0 = .ok (.aload_n 0, 1) := by decide +kernel
theorem dX7_finish_1 : decode cX7_finish 1 = .ok (.getfield 26, 3) := by decide +kernel
theorem dX7_finish_4 : decode cX7_finish 4 = .ok (.iload_n 1, 1) := by decide +kernel
theorem dX7_finish_5 : decode cX7_finish 5 = .ok (.iload_n 2, 1) := by decide +kernel
theorem dX7_finish_6 : decode cX7_finish 6 = .ok (.iconst 0, 1) := by decide +kernel
theorem dX7_finish_7 : decode cX7_finish 7 = .ok (.invokevirtual 103, 3) := by decide +kernel
theorem dX7_finish_10 : decode cX7_finish 10 = .ok (.ireturn, 1) := by decide +kernel
theorem dX7_batch_0 : decode cX7_batch 0 = .ok (.aload_n 0, 1) := by decide +kernel
theorem dX7_batch_1 : decode cX7_batch 1 = .ok (.getfield 26, 3) := by decide +kernel
theorem dX7_batch_4 : decode cX7_batch 4 = .ok (.iload_n 1, 1) := by decide +kernel
theorem dX7_batch_5 : decode cX7_batch 5 = .ok (.iload_n 2, 1) := by decide +kernel
theorem dX7_batch_6 : decode cX7_batch 6 = .ok (.iconst 1, 1) := by decide +kernel
theorem dX7_batch_7 : decode cX7_batch 7 = .ok (.invokevirtual 103, 3) := by decide +kernel
theorem dX7_batch_10 : decode cX7_batch 10 = .ok (.ireturn, 1) := by decide +kernel
theorem dX7_reap_0 : decode cX7_reap 0 = .ok (.aload_n 0, 1) := by decide +kernel
theorem dX7_reap_1 : decode cX7_reap 1 = .ok (.getfield 26, 3) := by decide +kernel
theorem dX7_reap_4 : decode cX7_reap 4 = .ok (.invokevirtual 107, 3) := by decide +kernel
theorem dX7_reap_7 : decode cX7_reap 7 = .ok (.istore_n 1, 1) := by decide +kernel
theorem dX7_reap_8 : decode cX7_reap 8 = .ok (.iload_n 1, 1) := by decide +kernel
theorem dX7_reap_9 : decode cX7_reap 9 = .ok (.ifCond .lt 14, 3) := by decide +kernel
theorem dX7_reap_12 : decode cX7_reap 12 = .ok (.aload_n 0, 1) := by decide +kernel
theorem dX7_reap_13 : decode cX7_reap 13 = .ok (.aload_n 0, 1) := by decide +kernel
theorem dX7_reap_14 : decode cX7_reap 14 = .ok (.getfield 26, 3) := by decide +kernel
theorem dX7_reap_17 : decode cX7_reap 17 = .ok (.invokevirtual 111, 3) := by decide +kernel
theorem dX7_reap_20 : decode cX7_reap 20 = .ok (.putfield 66, 3) := by decide +kernel
theorem dX7_reap_23 : decode cX7_reap 23 = .ok (.iload_n 1, 1) := by decide +kernel
theorem dX7_reap_24 : decode cX7_reap 24 = .ok (.ireturn, 1) := by decide +kernel
theorem dX7_length_0 : decode cX7_length 0 = .ok (.aload_n 0, 1) := by decide +kernel
theorem dX7_length_1 : decode cX7_length 1 = .ok (.getfield 66, 3) := by decide +kernel
theorem dX7_length_4 : decode cX7_length 4 = .ok (.ireturn, 1) := by decide +kernel
theorem dX7_kick_0 : decode cX7_kick 0 = .ok (.aload_n 0, 1) := by decide +kernel
theorem dX7_kick_1 : decode cX7_kick 1 = .ok (.getfield 26, 3) := by decide +kernel
theorem dX7_kick_4 : decode cX7_kick 4 = .ok (.invokevirtual 114, 3) := by decide +kernel
theorem dX7_kick_7 : decode cX7_kick 7 = .ok (.ireturn, 1) := by decide +kernel
theorem dX7_signal_0 : decode cX7_signal 0 = .ok (.aload_n 0, 1) := by decide +kernel
theorem dX7_signal_1 : decode cX7_signal 1 = .ok (.getfield 26, 3) := by decide +kernel
theorem dX7_signal_4 : decode cX7_signal 4 = .ok (.invokevirtual 117, 3) := by decide +kernel
theorem dX7_signal_7 : decode cX7_signal 7 = .ok (.ireturn, 1) := by decide +kernel
theorem dX7_event_0 : decode cX7_event 0 = .ok (.aload_n 0, 1) := by decide +kernel
theorem dX7_event_1 : decode cX7_event 1 = .ok (.getfield 26, 3) := by decide +kernel
theorem dX7_event_4 : decode cX7_event 4 = .ok (.iload_n 1, 1) := by decide +kernel
theorem dX7_event_5 : decode cX7_event 5 = .ok (.iload_n 2, 1) := by decide +kernel
theorem dX7_event_6 : decode cX7_event 6 = .ok (.invokevirtual 120, 3) := by decide +kernel
theorem dX7_event_9 : decode cX7_event 9 = .ok (.ireturn, 1) := by decide +kernel
theorem dX7_hush_0 : decode cX7_hush 0 = .ok (.aload_n 0, 1) := by decide +kernel
theorem dX7_hush_1 : decode cX7_hush 1 = .ok (.getfield 26, 3) := by decide +kernel
theorem dX7_hush_4 : decode cX7_hush 4 = .ok (.iload_n 1, 1) := by decide +kernel
theorem dX7_hush_5 : decode cX7_hush 5 = .ok (.iload_n 2, 1) := by decide +kernel
theorem dX7_hush_6 : decode cX7_hush 6 = .ok (.invokevirtual 124, 3) := by decide +kernel
theorem dX7_hush_9 : decode cX7_hush 9 = .ok (.ireturn, 1) := by decide +kernel
theorem dX7_reset_0 : decode cX7_reset 0 = .ok (.aload_n 0, 1) := by decide +kernel
theorem dX7_reset_1 : decode cX7_reset 1 = .ok (.aload_n 0, 1) := by decide +kernel
theorem dX7_reset_2 : decode cX7_reset 2 = .ok (.getfield 26, 3) := by decide +kernel
theorem dX7_reset_5 : decode cX7_reset 5 = .ok (.aload_n 0, 1) := by decide +kernel
theorem dX7_reset_6 : decode cX7_reset 6 = .ok (.getfield 58, 3) := by decide +kernel
theorem dX7_reset_9 : decode cX7_reset 9 = .ok (.invokevirtual 127, 3) := by decide +kernel
theorem dX7_reset_12 : decode cX7_reset 12 = .ok (.putfield 62, 3) := by decide +kernel
theorem dX7_reset_15 : decode cX7_reset 15 = .ok (.aload_n 0, 1) := by decide +kernel
theorem dX7_reset_16 : decode cX7_reset 16 = .ok (.getfield 62, 3) := by decide +kernel
theorem dX7_reset_19 : decode cX7_reset 19 = .ok (.ireturn, 1) := by decide +kernel
theorem dX7_drained_0 : decode cX7_drained 0 = .ok (.iload_n 1, 1) := by decide +kernel
theorem dX7_drained_1 : decode cX7_drained 1 = .ok (.ifCond .lt 29, 3) := by decide +kernel
theorem dX7_drained_4 : decode cX7_drained 4 = .ok (.iload_n 1, 1) := by decide +kernel
theorem dX7_drained_5 : decode cX7_drained 5 = .ok (.aload_n 0, 1) := by decide +kernel
theorem dX7_drained_6 : decode cX7_drained 6 = .ok (.getfield 62, 3) := by decide +kernel
theorem dX7_drained_9 : decode cX7_drained 9 = .ok (.if_icmp .ge 21, 3) := by decide +kernel
theorem dX7_drained_12 : decode cX7_drained 12 = .ok (.iload_n 1, 1) := by decide +kernel
theorem dX7_drained_13 : decode cX7_drained 13 = .ok (.aload_n 0, 1) := by decide +kernel
theorem dX7_drained_14 : decode cX7_drained 14 = .ok (.getfield 58, 3) := by decide +kernel
theorem dX7_drained_17 : decode cX7_drained 17 = .ok (.arraylength, 1) := by decide +kernel
theorem dX7_drained_18 : decode cX7_drained 18 = .ok (.if_icmp .ge 12, 3) := by decide +kernel
theorem dX7_drained_21 : decode cX7_drained 21 = .ok (.aload_n 0, 1) := by decide +kernel
theorem dX7_drained_22 : decode cX7_drained 22 = .ok (.getfield 58, 3) := by decide +kernel
theorem dX7_drained_25 : decode cX7_drained 25 = .ok (.iload_n 1, 1) := by decide +kernel
theorem dX7_drained_26 : decode cX7_drained 26 = .ok (.iaload, 1) := by decide +kernel
theorem dX7_drained_27 : decode cX7_drained 27 = .ok (.goto 4, 3) := by decide +kernel
theorem dX7_drained_30 : decode cX7_drained 30 = .ok (.iconst (-1), 1) := by decide +kernel
theorem dX7_drained_31 : decode cX7_drained 31 = .ok (.ireturn, 1) := by decide +kernel
theorem dX7_spoil_0 : decode cX7_spoil 0 = .ok (.iload_n 3, 1) := by decide +kernel
theorem dX7_spoil_1 : decode cX7_spoil 1 = .ok (.ifCond .ne 9, 3) := by decide +kernel
theorem dX7_spoil_4 : decode cX7_spoil 4 = .ok (.sipush 999, 3) := by decide +kernel
theorem dX7_spoil_7 : decode cX7_spoil 7 = .ok (.goto 15, 3) := by decide +kernel
theorem dX7_spoil_10 : decode cX7_spoil 10 = .ok (.iload_n 3, 1) := by decide +kernel
theorem dX7_spoil_11 : decode cX7_spoil 11 = .ok (.iconst 1, 1) := by decide +kernel
theorem dX7_spoil_12 : decode cX7_spoil 12 = .ok (.if_icmp .ne 8, 3) := by decide +kernel
theorem dX7_spoil_15 : decode cX7_spoil 15 = .ok (.bipush 31, 2) := by decide +kernel
theorem dX7_spoil_17 : decode cX7_spoil 17 = .ok (.goto 5, 3) := by decide +kernel
theorem dX7_spoil_20 : decode cX7_spoil 20 = .ok (.bipush 99, 2) := by decide +kernel
theorem dX7_spoil_22 : decode cX7_spoil 22 = .ok (.istore 5, 2) := by decide +kernel
theorem dX7_spoil_24 : decode cX7_spoil 24 = .ok (.aload_n 0, 1) := by decide +kernel
theorem dX7_spoil_25 : decode cX7_spoil 25 = .ok (.getfield 26, 3) := by decide +kernel
theorem dX7_spoil_28 : decode cX7_spoil 28 = .ok (.iload_n 1, 1) := by decide +kernel
theorem dX7_spoil_29 : decode cX7_spoil 29 = .ok (.iload_n 2, 1) := by decide +kernel
theorem dX7_spoil_30 : decode cX7_spoil 30 = .ok (.iload_n 3, 1) := by decide +kernel
theorem dX7_spoil_31 : decode cX7_spoil 31 = .ok (.invokevirtual 131, 3) := by decide +kernel
theorem dX7_spoil_34 : decode cX7_spoil 34 = .ok (.istore 6, 2) := by decide +kernel
theorem dX7_spoil_36 : decode cX7_spoil 36 = .ok (.iload 6, 2) := by decide +kernel
theorem dX7_spoil_38 : decode cX7_spoil 38 = .ok (.iconst (-1), 1) := by decide +kernel
theorem dX7_spoil_39 : decode cX7_spoil 39 = .ok (.if_icmp .eq 15, 3) := by decide +kernel
theorem dX7_spoil_42 : decode cX7_spoil 42 = .ok (.iload 4, 2) := by decide +kernel
theorem dX7_spoil_44 : decode cX7_spoil 44 = .ok (.ifCond .lt 10, 3) := by decide +kernel
theorem dX7_spoil_47 : decode cX7_spoil 47 = .ok (.iload 4, 2) := by decide +kernel
theorem dX7_spoil_49 : decode cX7_spoil 49 = .ok (.iload 5, 2) := by decide +kernel
theorem dX7_spoil_51 : decode cX7_spoil 51 = .ok (.if_icmp .le 5, 3) := by decide +kernel
theorem dX7_spoil_54 : decode cX7_spoil 54 = .ok (.iconst (-1), 1) := by decide +kernel
theorem dX7_spoil_55 : decode cX7_spoil 55 = .ok (.ireturn, 1) := by decide +kernel
theorem dX7_spoil_56 : decode cX7_spoil 56 = .ok (.aload_n 0, 1) := by decide +kernel
theorem dX7_spoil_57 : decode cX7_spoil 57 = .ok (.getfield 26, 3) := by decide +kernel
theorem dX7_spoil_60 : decode cX7_spoil 60 = .ok (.iload_n 1, 1) := by decide +kernel
theorem dX7_spoil_61 : decode cX7_spoil 61 = .ok (.iload_n 2, 1) := by decide +kernel
theorem dX7_spoil_62 : decode cX7_spoil 62 = .ok (.iload_n 3, 1) := by decide +kernel
theorem dX7_spoil_63 : decode cX7_spoil 63 = .ok (.iload 4, 2) := by decide +kernel
theorem dX7_spoil_65 : decode cX7_spoil 65 = .ok (.invokevirtual 135, 3) := by decide +kernel
theorem dX7_spoil_68 : decode cX7_spoil 68 = .ok (.iload 6, 2) := by decide +kernel
theorem dX7_spoil_70 : decode cX7_spoil 70 = .ok (.ireturn, 1) := by decide +kernel
theorem dX7_descriptor_0 : decode cX7_descriptor 0 = .ok (.aload_n 0, 1) := by decide +kernel
theorem dX7_descriptor_1 : decode cX7_descriptor 1 = .ok (.getfield 26, 3) := by decide +kernel
theorem dX7_descriptor_4 : decode cX7_descriptor 4 = .ok (.iload_n 1, 1) := by decide +kernel
theorem dX7_descriptor_5 : decode cX7_descriptor 5 = .ok (.iload_n 2, 1) := by decide +kernel
theorem dX7_descriptor_6 : decode cX7_descriptor 6 = .ok (.iload_n 3, 1) := by decide +kernel
theorem dX7_descriptor_7 : decode cX7_descriptor 7 = .ok (.invokevirtual 131, 3) := by decide +kernel
theorem dX7_descriptor_10 : decode cX7_descriptor 10 = .ok (.ireturn, 1) := by decide +kernel
theorem dX7_table_0 : decode cX7_table 0 = .ok (.aload_n 0, 1) := by decide +kernel
theorem dX7_table_1 : decode cX7_table 1 = .ok (.getfield 26, 3) := by decide +kernel
theorem dX7_table_4 : decode cX7_table 4 = .ok (.iload_n 1, 1) := by decide +kernel
theorem dX7_table_5 : decode cX7_table 5 = .ok (.invokevirtual 139, 3) := by decide +kernel
theorem dX7_table_8 : decode cX7_table 8 = .ok (.ireturn, 1) := by decide +kernel
theorem dX7_row_0 : decode cX7_row 0 = .ok (.aload_n 0, 1) := by decide +kernel
theorem dX7_row_1 : decode cX7_row 1 = .ok (.getfield 26, 3) := by decide +kernel
theorem dX7_row_4 : decode cX7_row 4 = .ok (.iload_n 1, 1) := by decide +kernel
theorem dX7_row_5 : decode cX7_row 5 = .ok (.iload_n 2, 1) := by decide +kernel
theorem dX7_row_6 : decode cX7_row 6 = .ok (.invokevirtual 143, 3) := by decide +kernel
theorem dX7_row_9 : decode cX7_row 9 = .ok (.ireturn, 1) := by decide +kernel
theorem dX7_buffer_0 : decode cX7_buffer 0 = .ok (.aload_n 0, 1) := by decide +kernel
theorem dX7_buffer_1 : decode cX7_buffer 1 = .ok (.getfield 26, 3) := by decide +kernel
theorem dX7_buffer_4 : decode cX7_buffer 4 = .ok (.iload_n 1, 1) := by decide +kernel
theorem dX7_buffer_5 : decode cX7_buffer 5 = .ok (.iload_n 2, 1) := by decide +kernel
theorem dX7_buffer_6 : decode cX7_buffer 6 = .ok (.invokevirtual 146, 3) := by decide +kernel
theorem dX7_buffer_9 : decode cX7_buffer 9 = .ok (.ireturn, 1) := by decide +kernel
theorem dX7_now_0 : decode cX7_now 0 = .ok (.iload_n 1, 1) := by decide +kernel
theorem dX7_now_1 : decode cX7_now 1 = .ok (.ifCond .lt 21, 3) := by decide +kernel
theorem dX7_now_4 : decode cX7_now 4 = .ok (.iload_n 1, 1) := by decide +kernel
theorem dX7_now_5 : decode cX7_now 5 = .ok (.bipush 12, 2) := by decide +kernel
theorem dX7_now_7 : decode cX7_now 7 = .ok (.if_icmp .gt 15, 3) := by decide +kernel
theorem dX7_now_10 : decode cX7_now 10 = .ok (.aload_n 0, 1) := by decide +kernel
theorem dX7_now_11 : decode cX7_now 11 = .ok (.getfield 26, 3) := by decide +kernel
theorem dX7_now_14 : decode cX7_now 14 = .ok (.getfield 149, 3) := by decide +kernel
theorem dX7_now_17 : decode cX7_now 17 = .ok (.iload_n 1, 1) := by decide +kernel
theorem dX7_now_18 : decode cX7_now 18 = .ok (.iaload, 1) := by decide +kernel
theorem dX7_now_19 : decode cX7_now 19 = .ok (.goto 4, 3) := by decide +kernel
theorem dX7_now_22 : decode cX7_now 22 = .ok (.iconst (-1), 1) := by decide +kernel
theorem dX7_now_23 : decode cX7_now 23 = .ok (.ireturn, 1) := by decide +kernel
theorem dX7_walked_0 : decode cX7_walked 0 = .ok (.aload_n 0, 1) := by decide +kernel
theorem dX7_walked_1 : decode cX7_walked 1 = .ok (.getfield 37, 3) := by decide +kernel
theorem dX7_walked_4 : decode cX7_walked 4 = .ok (.iload_n 1, 1) := by decide +kernel
theorem dX7_walked_5 : decode cX7_walked 5 = .ok (.invokevirtual 152, 3) := by decide +kernel
theorem dX7_walked_8 : decode cX7_walked 8 = .ok (.ireturn, 1) := by decide +kernel
theorem dX7_chain_0 : decode cX7_chain 0 = .ok (.aload_n 0, 1) := by decide +kernel
theorem dX7_chain_1 : decode cX7_chain 1 = .ok (.getfield 26, 3) := by decide +kernel
theorem dX7_chain_4 : decode cX7_chain 4 = .ok (.invokevirtual 155, 3) := by decide +kernel
theorem dX7_chain_7 : decode cX7_chain 7 = .ok (.ifCond .eq 5, 3) := by decide +kernel
theorem dX7_chain_10 : decode cX7_chain 10 = .ok (.iconst (-1), 1) := by decide +kernel
theorem dX7_chain_11 : decode cX7_chain 11 = .ok (.ireturn, 1) := by decide +kernel
theorem dX7_chain_12 : decode cX7_chain 12 = .ok (.aload_n 0, 1) := by decide +kernel
theorem dX7_chain_13 : decode cX7_chain 13 = .ok (.getfield 41, 3) := by decide +kernel
theorem dX7_chain_16 : decode cX7_chain 16 = .ok (.aload_n 0, 1) := by decide +kernel
theorem dX7_chain_17 : decode cX7_chain 17 = .ok (.getfield 26, 3) := by decide +kernel
theorem dX7_chain_20 : decode cX7_chain 20 = .ok (.iload_n 1, 1) := by decide +kernel
theorem dX7_chain_21 : decode cX7_chain 21 = .ok (.invokevirtual 159, 3) := by decide +kernel
theorem dX7_chain_24 : decode cX7_chain 24 = .ok (.aload_n 0, 1) := by decide +kernel
theorem dX7_chain_25 : decode cX7_chain 25 = .ok (.getfield 41, 3) := by decide +kernel
theorem dX7_chain_28 : decode cX7_chain 28 = .ok (.getfield 163, 3) := by decide +kernel
theorem dX7_chain_31 : decode cX7_chain 31 = .ok (.ifCond .ne 13, 3) := by decide +kernel
theorem dX7_chain_34 : decode cX7_chain 34 = .ok (.aload_n 0, 1) := by decide +kernel
theorem dX7_chain_35 : decode cX7_chain 35 = .ok (.getfield 41, 3) := by decide +kernel
theorem dX7_chain_38 : decode cX7_chain 38 = .ok (.getfield 166, 3) := by decide +kernel
theorem dX7_chain_41 : decode cX7_chain 41 = .ok (.goto 13, 3) := by decide +kernel
theorem dX7_chain_44 : decode cX7_chain 44 = .ok (.bipush (-10), 2) := by decide +kernel
theorem dX7_chain_46 : decode cX7_chain 46 = .ok (.aload_n 0, 1) := by decide +kernel
theorem dX7_chain_47 : decode cX7_chain 47 = .ok (.getfield 41, 3) := by decide +kernel
theorem dX7_chain_50 : decode cX7_chain 50 = .ok (.getfield 163, 3) := by decide +kernel
theorem dX7_chain_53 : decode cX7_chain 53 = .ok (.isub, 1) := by decide +kernel
theorem dX7_chain_54 : decode cX7_chain 54 = .ok (.ireturn, 1) := by decide +kernel
theorem dX7_due_0 : decode cX7_due 0 = .ok (.aload_n 0, 1) := by decide +kernel
theorem dX7_due_1 : decode cX7_due 1 = .ok (.getfield 26, 3) := by decide +kernel
theorem dX7_due_4 : decode cX7_due 4 = .ok (.invokevirtual 169, 3) := by decide +kernel
theorem dX7_due_7 : decode cX7_due 7 = .ok (.istore 4, 2) := by decide +kernel
theorem dX7_due_9 : decode cX7_due 9 = .ok (.iload_n 1, 1) := by decide +kernel
theorem dX7_due_10 : decode cX7_due 10 = .ok (.ifCond .lt 33, 3) := by decide +kernel
theorem dX7_due_13 : decode cX7_due 13 = .ok (.iload_n 1, 1) := by decide +kernel
theorem dX7_due_14 : decode cX7_due 14 = .ok (.iload 4, 2) := by decide +kernel
theorem dX7_due_16 : decode cX7_due 16 = .ok (.if_icmp .ge 27, 3) := by decide +kernel
theorem dX7_due_19 : decode cX7_due 19 = .ok (.iload_n 2, 1) := by decide +kernel
theorem dX7_due_20 : decode cX7_due 20 = .ok (.ifCond .lt 23, 3) := by decide +kernel
theorem dX7_due_23 : decode cX7_due 23 = .ok (.iload_n 2, 1) := by decide +kernel
theorem dX7_due_24 : decode cX7_due 24 = .ok (.iload 4, 2) := by decide +kernel
theorem dX7_due_26 : decode cX7_due 26 = .ok (.if_icmp .ge 17, 3) := by decide +kernel
theorem dX7_due_29 : decode cX7_due 29 = .ok (.iload_n 3, 1) := by decide +kernel
theorem dX7_due_30 : decode cX7_due 30 = .ok (.ifCond .lt 13, 3) := by decide +kernel
theorem dX7_due_33 : decode cX7_due 33 = .ok (.iload_n 3, 1) := by decide +kernel
theorem dX7_due_34 : decode cX7_due 34 = .ok (.iload 4, 2) := by decide +kernel
theorem dX7_due_36 : decode cX7_due 36 = .ok (.if_icmp .ge 7, 3) := by decide +kernel
theorem dX7_due_39 : decode cX7_due 39 = .ok (.iconst 1, 1) := by decide +kernel
theorem dX7_due_40 : decode cX7_due 40 = .ok (.goto 4, 3) := by decide +kernel
theorem dX7_due_43 : decode cX7_due 43 = .ok (.iconst 0, 1) := by decide +kernel
theorem dX7_due_44 : decode cX7_due 44 = .ok (.istore 5, 2) := by decide +kernel
theorem dX7_due_46 : decode cX7_due 46 = .ok (.iload 5, 2) := by decide +kernel
theorem dX7_due_48 : decode cX7_due 48 = .ok (.ifCond .ne 5, 3) := by decide +kernel
theorem dX7_due_51 : decode cX7_due 51 = .ok (.iconst (-1), 1) := by decide +kernel
theorem dX7_due_52 : decode cX7_due 52 = .ok (.ireturn, 1) := by decide +kernel
theorem dX7_due_53 : decode cX7_due 53 = .ok (.iload_n 1, 1) := by decide +kernel
theorem dX7_due_54 : decode cX7_due 54 = .ok (.iload_n 2, 1) := by decide +kernel
theorem dX7_due_55 : decode cX7_due 55 = .ok (.iload_n 3, 1) := by decide +kernel
theorem dX7_due_56 : decode cX7_due 56 = .ok (.iload 4, 2) := by decide +kernel
theorem dX7_due_58 : decode cX7_due 58 = .ok (.invokestatic 172, 3) := by decide +kernel
theorem dX7_due_61 : decode cX7_due 61 = .ok (.ifCond .eq 7, 3) := by decide +kernel
theorem dX7_due_64 : decode cX7_due 64 = .ok (.iconst 1, 1) := by decide +kernel
theorem dX7_due_65 : decode cX7_due 65 = .ok (.goto 4, 3) := by decide +kernel
theorem dX7_due_68 : decode cX7_due 68 = .ok (.iconst 0, 1) := by decide +kernel
theorem dX7_due_69 : decode cX7_due 69 = .ok (.ireturn, 1) := by decide +kernel
theorem dX7_steps_0 : decode cX7_steps 0 = .ok (.iload_n 1, 1) := by decide +kernel
theorem dX7_steps_1 : decode cX7_steps 1 = .ok (.ifCond .eq 8, 3) := by decide +kernel
theorem dX7_steps_4 : decode cX7_steps 4 = .ok (.iload_n 1, 1) := by decide +kernel
theorem dX7_steps_5 : decode cX7_steps 5 = .ok (.iconst 1, 1) := by decide +kernel
theorem dX7_steps_6 : decode cX7_steps 6 = .ok (.if_icmp .ne 18, 3) := by decide +kernel
theorem dX7_steps_9 : decode cX7_steps 9 = .ok (.aload_n 0, 1) := by decide +kernel
theorem dX7_steps_10 : decode cX7_steps 10 = .ok (.getfield 47, 3) := by decide +kernel
theorem dX7_steps_13 : decode cX7_steps 13 = .ok (.aload_n 0, 1) := by decide +kernel
theorem dX7_steps_14 : decode cX7_steps 14 = .ok (.getfield 10, 3) := by decide +kernel
theorem dX7_steps_17 : decode cX7_steps 17 = .ok (.iload_n 1, 1) := by decide +kernel
theorem dX7_steps_18 : decode cX7_steps 18 = .ok (.invokevirtual 176, 3) := by decide +kernel
theorem dX7_steps_21 : decode cX7_steps 21 = .ok (.goto 4, 3) := by decide +kernel
theorem dX7_steps_24 : decode cX7_steps 24 = .ok (.iconst (-1), 1) := by decide +kernel
theorem dX7_steps_25 : decode cX7_steps 25 = .ok (.istore_n 2, 1) := by decide +kernel
theorem dX7_steps_26 : decode cX7_steps 26 = .ok (.aload_n 0, 1) := by decide +kernel
theorem dX7_steps_27 : decode cX7_steps 27 = .ok (.getfield 10, 3) := by decide +kernel
theorem dX7_steps_30 : decode cX7_steps 30 = .ok (.iconst 0, 1) := by decide +kernel
theorem dX7_steps_31 : decode cX7_steps 31 = .ok (.putfield 84, 3) := by decide +kernel
theorem dX7_steps_34 : decode cX7_steps 34 = .ok (.iload_n 1, 1) := by decide +kernel
theorem dX7_steps_35 : decode cX7_steps 35 = .ok (.ifCond .eq 11, 3) := by decide +kernel
theorem dX7_steps_38 : decode cX7_steps 38 = .ok (.iload_n 1, 1) := by decide +kernel
theorem dX7_steps_39 : decode cX7_steps 39 = .ok (.iconst 1, 1) := by decide +kernel
theorem dX7_steps_40 : decode cX7_steps 40 = .ok (.if_icmp .eq 6, 3) := by decide +kernel
theorem dX7_steps_43 : decode cX7_steps 43 = .ok (.bipush (-2), 2) := by decide +kernel
theorem dX7_steps_45 : decode cX7_steps 45 = .ok (.ireturn, 1) := by decide +kernel
theorem dX7_steps_46 : decode cX7_steps 46 = .ok (.iload_n 2, 1) := by decide +kernel
theorem dX7_steps_47 : decode cX7_steps 47 = .ok (.iconst (-1), 1) := by decide +kernel
theorem dX7_steps_48 : decode cX7_steps 48 = .ok (.if_icmp .eq 9, 3) := by decide +kernel
theorem dX7_steps_51 : decode cX7_steps 51 = .ok (.sipush (-1000), 3) := by decide +kernel
theorem dX7_steps_54 : decode cX7_steps 54 = .ok (.iload_n 2, 1) := by decide +kernel
theorem dX7_steps_55 : decode cX7_steps 55 = .ok (.isub, 1) := by decide +kernel
theorem dX7_steps_56 : decode cX7_steps 56 = .ok (.ireturn, 1) := by decide +kernel
theorem dX7_steps_57 : decode cX7_steps 57 = .ok (.aload_n 0, 1) := by decide +kernel
theorem dX7_steps_58 : decode cX7_steps 58 = .ok (.getfield 54, 3) := by decide +kernel
theorem dX7_steps_61 : decode cX7_steps 61 = .ok (.invokevirtual 179, 3) := by decide +kernel
theorem dX7_steps_64 : decode cX7_steps 64 = .ok (.aload_n 0, 1) := by decide +kernel
theorem dX7_steps_65 : decode cX7_steps 65 = .ok (.getfield 72, 3) := by decide +kernel
theorem dX7_steps_68 : decode cX7_steps 68 = .ok (.ifnull 11, 3) := by decide +kernel
theorem dX7_steps_71 : decode cX7_steps 71 = .ok (.aload_n 0, 1) := by decide +kernel
theorem dX7_steps_72 : decode cX7_steps 72 = .ok (.getfield 72, 3) := by decide +kernel
theorem dX7_steps_75 : decode cX7_steps 75 = .ok (.iconst 1, 1) := by decide +kernel
theorem dX7_steps_76 : decode cX7_steps 76 = .ok (.putfield 182, 3) := by decide +kernel
theorem dX7_steps_79 : decode cX7_steps 79 = .ok (.aload_n 0, 1) := by decide +kernel
theorem dX7_steps_80 : decode cX7_steps 80 = .ok (.getfield 47, 3) := by decide +kernel
theorem dX7_steps_83 : decode cX7_steps 83 = .ok (.iload_n 1, 1) := by decide +kernel
theorem dX7_steps_84 : decode cX7_steps 84 = .ok (.invokevirtual 188, 3) := by decide +kernel
theorem dX7_steps_87 : decode cX7_steps 87 = .ok (.ireturn, 1) := by decide +kernel
theorem dX7_states_0 : decode cX7_states 0 = .ok (.aload_n 0, 1) := by decide +kernel
theorem dX7_states_1 : decode cX7_states 1 = .ok (.invokevirtual 191, 3) := by decide +kernel
theorem dX7_states_4 : decode cX7_states 4 = .ok (.invokevirtual 195, 3) := by decide +kernel
theorem dX7_states_7 : decode cX7_states 7 = .ok (.ireturn, 1) := by decide +kernel
theorem dX7_missed_0 : decode cX7_missed 0 = .ok (.aload_n 0, 1) := by decide +kernel
theorem dX7_missed_1 : decode cX7_missed 1 = .ok (.invokevirtual 191, 3) := by decide +kernel
theorem dX7_missed_4 : decode cX7_missed 4 = .ok (.invokevirtual 198, 3) := by decide +kernel
theorem dX7_missed_7 : decode cX7_missed 7 = .ok (.ireturn, 1) := by decide +kernel
theorem dX7_missedBy_0 : decode cX7_missedBy 0 = .ok (.aload_n 0, 1) := by decide +kernel
theorem dX7_missedBy_1 : decode cX7_missedBy 1 = .ok (.getfield 72, 3) := by decide +kernel
theorem dX7_missedBy_4 : decode cX7_missedBy 4 = .ok (.ifnonnull 7, 3) := by decide +kernel
theorem dX7_missedBy_7 : decode cX7_missedBy 7 = .ok (.iconst (-1), 1) := by decide +kernel
theorem dX7_missedBy_8 : decode cX7_missedBy 8 = .ok (.goto 11, 3) := by decide +kernel
theorem dX7_missedBy_11 : decode cX7_missedBy 11 = .ok (.aload_n 0, 1) := by decide +kernel
theorem dX7_missedBy_12 : decode cX7_missedBy 12 = .ok (.getfield 72, 3) := by decide +kernel
theorem dX7_missedBy_15 : decode cX7_missedBy 15 = .ok (.iload_n 1, 1) := by decide +kernel
theorem dX7_missedBy_16 : decode cX7_missedBy 16 = .ok (.invokevirtual 201, 3) := by decide +kernel
theorem dX7_missedBy_19 : decode cX7_missedBy 19 = .ok (.ireturn, 1) := by decide +kernel
theorem dX7_misses_0 : decode cX7_misses 0 = .ok (.aload_n 0, 1) := by decide +kernel
theorem dX7_misses_1 : decode cX7_misses 1 = .ok (.invokevirtual 191, 3) := by decide +kernel
theorem dX7_misses_4 : decode cX7_misses 4 = .ok (.astore_n 1, 1) := by decide +kernel
theorem dX7_misses_5 : decode cX7_misses 5 = .ok (.aload_n 1, 1) := by decide +kernel
theorem dX7_misses_6 : decode cX7_misses 6 = .ok (.invokevirtual 204, 3) := by decide +kernel
theorem dX7_misses_9 : decode cX7_misses 9 = .ok (.ifCond .eq 7, 3) := by decide +kernel
theorem dX7_misses_12 : decode cX7_misses 12 = .ok (.iconst (-1), 1) := by decide +kernel
theorem dX7_misses_13 : decode cX7_misses 13 = .ok (.goto 7, 3) := by decide +kernel
theorem dX7_misses_16 : decode cX7_misses 16 = .ok (.aload_n 1, 1) := by decide +kernel
theorem dX7_misses_17 : decode cX7_misses 17 = .ok (.getfield 207, 3) := by decide +kernel
theorem dX7_misses_20 : decode cX7_misses 20 = .ok (.ireturn, 1) := by decide +kernel
theorem dX7_play_0 : decode cX7_play 0 = .ok (.aload_n 0, 1) := by decide +kernel
theorem dX7_play_1 : decode cX7_play 1 = .ok (.getfield 54, 3) := by decide +kernel
theorem dX7_play_4 : decode cX7_play 4 = .ok (.invokevirtual 179, 3) := by decide +kernel
theorem dX7_play_7 : decode cX7_play 7 = .ok (.iconst 0, 1) := by decide +kernel
theorem dX7_play_8 : decode cX7_play 8 = .ok (.istore_n 1, 1) := by decide +kernel
theorem dX7_play_9 : decode cX7_play 9 = .ok (.iload_n 1, 1) := by decide +kernel
theorem dX7_play_10 : decode cX7_play 10 = .ok (.aload_n 0, 1) := by decide +kernel
theorem dX7_play_11 : decode cX7_play 11 = .ok (.getfield 10, 3) := by decide +kernel
theorem dX7_play_14 : decode cX7_play 14 = .ok (.getfield 84, 3) := by decide +kernel
theorem dX7_play_17 : decode cX7_play 17 = .ok (.if_icmp .ge 31, 3) := by decide +kernel
theorem dX7_play_20 : decode cX7_play 20 = .ok (.aload_n 0, 1) := by decide +kernel
theorem dX7_play_21 : decode cX7_play 21 = .ok (.getfield 47, 3) := by decide +kernel
theorem dX7_play_24 : decode cX7_play 24 = .ok (.aload_n 0, 1) := by decide +kernel
theorem dX7_play_25 : decode cX7_play 25 = .ok (.getfield 54, 3) := by decide +kernel
theorem dX7_play_28 : decode cX7_play 28 = .ok (.aload_n 0, 1) := by decide +kernel
theorem dX7_play_29 : decode cX7_play 29 = .ok (.getfield 10, 3) := by decide +kernel
theorem dX7_play_32 : decode cX7_play 32 = .ok (.iload_n 1, 1) := by decide +kernel
theorem dX7_play_33 : decode cX7_play 33 = .ok (.invokevirtual 210, 3) := by decide +kernel
theorem dX7_play_36 : decode cX7_play 36 = .ok (.invokevirtual 213, 3) := by decide +kernel
theorem dX7_play_39 : decode cX7_play 39 = .ok (.ifCond .eq 9, 3) := by decide +kernel
theorem dX7_play_42 : decode cX7_play 42 = .ok (.iinc 1 1, 3) := by decide +kernel
theorem dX7_play_45 : decode cX7_play 45 = .ok (.goto (-36), 3) := by decide +kernel
theorem dX7_play_48 : decode cX7_play 48 = .ok (.aload_n 0, 1) := by decide +kernel
theorem dX7_play_49 : decode cX7_play 49 = .ok (.getfield 10, 3) := by decide +kernel
theorem dX7_play_52 : decode cX7_play 52 = .ok (.iconst 0, 1) := by decide +kernel
theorem dX7_play_53 : decode cX7_play 53 = .ok (.putfield 84, 3) := by decide +kernel
theorem dX7_play_56 : decode cX7_play 56 = .ok (.iload_n 1, 1) := by decide +kernel
theorem dX7_play_57 : decode cX7_play 57 = .ok (.ireturn, 1) := by decide +kernel
theorem dX7_played_0 : decode cX7_played 0 = .ok (.iload_n 1, 1) := by decide +kernel
theorem dX7_played_1 : decode cX7_played 1 = .ok (.bipush 9, 2) := by decide +kernel
theorem dX7_played_3 : decode cX7_played 3 = .ok (.if_icmp .ne 25, 3) := by decide +kernel
theorem dX7_played_6 : decode cX7_played 6 = .ok (.aload_n 0, 1) := by decide +kernel
theorem dX7_played_7 : decode cX7_played 7 = .ok (.getfield 47, 3) := by decide +kernel
theorem dX7_played_10 : decode cX7_played 10 = .ok (.aload_n 0, 1) := by decide +kernel
theorem dX7_played_11 : decode cX7_played 11 = .ok (.getfield 54, 3) := by decide +kernel
theorem dX7_played_14 : decode cX7_played 14 = .ok (.invokevirtual 216, 3) := by decide +kernel
theorem dX7_played_17 : decode cX7_played 17 = .ok (.ifCond .eq 7, 3) := by decide +kernel
theorem dX7_played_20 : decode cX7_played 20 = .ok (.iconst 1, 1) := by decide +kernel
theorem dX7_played_21 : decode cX7_played 21 = .ok (.goto 15, 3) := by decide +kernel
theorem dX7_played_24 : decode cX7_played 24 = .ok (.iconst 0, 1) := by decide +kernel
theorem dX7_played_25 : decode cX7_played 25 = .ok (.goto 11, 3) := by decide +kernel
theorem dX7_played_28 : decode cX7_played 28 = .ok (.aload_n 0, 1) := by decide +kernel
theorem dX7_played_29 : decode cX7_played 29 = .ok (.getfield 54, 3) := by decide +kernel
theorem dX7_played_32 : decode cX7_played 32 = .ok (.iload_n 1, 1) := by decide +kernel
theorem dX7_played_33 : decode cX7_played 33 = .ok (.invokevirtual 220, 3) := by decide +kernel
theorem dX7_played_36 : decode cX7_played 36 = .ok (.ireturn, 1) := by decide +kernel
theorem dX7_notices_0 : decode cX7_notices 0 = .ok (.iload_n 1, 1) := by decide +kernel
theorem dX7_notices_1 : decode cX7_notices 1 = .ok (.ifCond .eq 10, 3) := by decide +kernel
theorem dX7_notices_4 : decode cX7_notices 4 = .ok (.iload_n 1, 1) := by decide +kernel
theorem dX7_notices_5 : decode cX7_notices 5 = .ok (.iconst 1, 1) := by decide +kernel
theorem dX7_notices_6 : decode cX7_notices 6 = .ok (.if_icmp .eq 5, 3) := by decide +kernel
theorem dX7_notices_9 : decode cX7_notices 9 = .ok (.iconst (-1), 1) := by decide +kernel
theorem dX7_notices_10 : decode cX7_notices 10 = .ok (.ireturn, 1) := by decide +kernel
theorem dX7_notices_11 : decode cX7_notices 11 = .ok (.aload_n 0, 1) := by decide +kernel
theorem dX7_notices_12 : decode cX7_notices 12 = .ok (.invokevirtual 191, 3) := by decide +kernel
theorem dX7_notices_15 : decode cX7_notices 15 = .ok (.astore_n 2, 1) := by decide +kernel
theorem dX7_notices_16 : decode cX7_notices 16 = .ok (.aload_n 2, 1) := by decide +kernel
theorem dX7_notices_17 : decode cX7_notices 17 = .ok (.invokevirtual 204, 3) := by decide +kernel
theorem dX7_notices_20 : decode cX7_notices 20 = .ok (.ifCond .eq 5, 3) := by decide +kernel
theorem dX7_notices_23 : decode cX7_notices 23 = .ok (.iconst (-1), 1) := by decide +kernel
theorem dX7_notices_24 : decode cX7_notices 24 = .ok (.ireturn, 1) := by decide +kernel
theorem dX7_notices_25 : decode cX7_notices 25 = .ok (.iload_n 1, 1) := by decide +kernel
theorem dX7_notices_26 : decode cX7_notices 26 = .ok (.ifCond .ne 10, 3) := by decide +kernel
theorem dX7_notices_29 : decode cX7_notices 29 = .ok (.aload_n 2, 1) := by decide +kernel
theorem dX7_notices_30 : decode cX7_notices 30 = .ok (.getfield 223, 3) := by decide +kernel
theorem dX7_notices_33 : decode cX7_notices 33 = .ok (.goto 7, 3) := by decide +kernel
theorem dX7_notices_36 : decode cX7_notices 36 = .ok (.aload_n 2, 1) := by decide +kernel
theorem dX7_notices_37 : decode cX7_notices 37 = .ok (.getfield 226, 3) := by decide +kernel
theorem dX7_notices_40 : decode cX7_notices 40 = .ok (.ireturn, 1) := by decide +kernel
theorem dX7_drawn_0 : decode cX7_drawn 0 = .ok (.iload_n 1, 1) := by decide +kernel
theorem dX7_drawn_1 : decode cX7_drawn 1 = .ok (.iconst 1, 1) := by decide +kernel
theorem dX7_drawn_2 : decode cX7_drawn 2 = .ok (.if_icmp .lt 9, 3) := by decide +kernel
theorem dX7_drawn_5 : decode cX7_drawn 5 = .ok (.iload_n 1, 1) := by decide +kernel
theorem dX7_drawn_6 : decode cX7_drawn 6 = .ok (.bipush 60, 2) := by decide +kernel
theorem dX7_drawn_8 : decode cX7_drawn 8 = .ok (.if_icmp .le 5, 3) := by decide +kernel
theorem dX7_drawn_11 : decode cX7_drawn 11 = .ok (.iconst (-1), 1) := by decide +kernel
theorem dX7_drawn_12 : decode cX7_drawn 12 = .ok (.ireturn, 1) := by decide +kernel
theorem dX7_drawn_13 : decode cX7_drawn 13 = .ok (.aload_n 0, 1) := by decide +kernel
theorem dX7_drawn_14 : decode cX7_drawn 14 = .ok (.iload_n 2, 1) := by decide +kernel
theorem dX7_drawn_15 : decode cX7_drawn 15 = .ok (.putfield 69, 3) := by decide +kernel
theorem dX7_drawn_18 : decode cX7_drawn 18 = .ok (.iconst 0, 1) := by decide +kernel
theorem dX7_drawn_19 : decode cX7_drawn 19 = .ok (.istore_n 3, 1) := by decide +kernel
theorem dX7_drawn_20 : decode cX7_drawn 20 = .ok (.iconst 0, 1) := by decide +kernel
theorem dX7_drawn_21 : decode cX7_drawn 21 = .ok (.istore 4, 2) := by decide +kernel
theorem dX7_drawn_23 : decode cX7_drawn 23 = .ok (.iload 4, 2) := by decide +kernel
theorem dX7_drawn_25 : decode cX7_drawn 25 = .ok (.iload_n 1, 1) := by decide +kernel
theorem dX7_drawn_26 : decode cX7_drawn 26 = .ok (.if_icmp .ge 25, 3) := by decide +kernel
theorem dX7_drawn_29 : decode cX7_drawn 29 = .ok (.aload_n 0, 1) := by decide +kernel
theorem dX7_drawn_30 : decode cX7_drawn 30 = .ok (.aload_n 0, 1) := by decide +kernel
theorem dX7_drawn_31 : decode cX7_drawn 31 = .ok (.bipush 8, 2) := by decide +kernel
theorem dX7_drawn_33 : decode cX7_drawn 33 = .ok (.invokevirtual 229, 3) := by decide +kernel
theorem dX7_drawn_36 : decode cX7_drawn 36 = .ok (.invokevirtual 232, 3) := by decide +kernel
theorem dX7_drawn_39 : decode cX7_drawn 39 = .ok (.ifCond .eq 6, 3) := by decide +kernel
theorem dX7_drawn_42 : decode cX7_drawn 42 = .ok (.iinc 3 1, 3) := by decide +kernel
theorem dX7_drawn_45 : decode cX7_drawn 45 = .ok (.iinc 4 1, 3) := by decide +kernel
theorem dX7_drawn_48 : decode cX7_drawn 48 = .ok (.goto (-25), 3) := by decide +kernel
theorem dX7_drawn_51 : decode cX7_drawn 51 = .ok (.iload_n 3, 1) := by decide +kernel
theorem dX7_drawn_52 : decode cX7_drawn 52 = .ok (.ireturn, 1) := by decide +kernel
theorem dX7_image_0 : decode cX7_image 0 = .ok (.iload_n 1, 1) := by decide +kernel
theorem dX7_image_1 : decode cX7_image 1 = .ok (.ifCond .lt 12, 3) := by decide +kernel
theorem dX7_image_4 : decode cX7_image 4 = .ok (.iload_n 1, 1) := by decide +kernel
theorem dX7_image_5 : decode cX7_image 5 = .ok (.aload_n 0, 1) := by decide +kernel
theorem dX7_image_6 : decode cX7_image 6 = .ok (.getfield 30, 3) := by decide +kernel
theorem dX7_image_9 : decode cX7_image 9 = .ok (.arraylength, 1) := by decide +kernel
theorem dX7_image_10 : decode cX7_image 10 = .ok (.if_icmp .lt 5, 3) := by decide +kernel
theorem dX7_image_13 : decode cX7_image 13 = .ok (.iconst 0, 1) := by decide +kernel
theorem dX7_image_14 : decode cX7_image 14 = .ok (.ireturn, 1) := by decide +kernel
theorem dX7_image_15 : decode cX7_image 15 = .ok (.aload_n 0, 1) := by decide +kernel
theorem dX7_image_16 : decode cX7_image 16 = .ok (.getfield 30, 3) := by decide +kernel
theorem dX7_image_19 : decode cX7_image 19 = .ok (.iload_n 1, 1) := by decide +kernel
theorem dX7_image_20 : decode cX7_image 20 = .ok (.aaload, 1) := by decide +kernel
theorem dX7_image_21 : decode cX7_image 21 = .ok (.astore_n 2, 1) := by decide +kernel
theorem dX7_image_22 : decode cX7_image 22 = .ok (.aload_n 2, 1) := by decide +kernel
theorem dX7_image_23 : decode cX7_image 23 = .ok (.ifnonnull 18, 3) := by decide +kernel
theorem dX7_image_26 : decode cX7_image 26 = .ok (.new 23, 3) := by decide +kernel
theorem dX7_image_29 : decode cX7_image 29 = .ok (.dup, 1) := by decide +kernel
theorem dX7_image_30 : decode cX7_image 30 = .ok (.invokespecial 25, 3) := by decide +kernel
theorem dX7_image_33 : decode cX7_image 33 = .ok (.astore_n 2, 1) := by decide +kernel
theorem dX7_image_34 : decode cX7_image 34 = .ok (.aload_n 0, 1) := by decide +kernel
theorem dX7_image_35 : decode cX7_image 35 = .ok (.getfield 30, 3) := by decide +kernel
theorem dX7_image_38 : decode cX7_image 38 = .ok (.iload_n 1, 1) := by decide +kernel
theorem dX7_image_39 : decode cX7_image 39 = .ok (.aload_n 2, 1) := by decide +kernel
theorem dX7_image_40 : decode cX7_image 40 = .ok (.aastore, 1) := by decide +kernel
theorem dX7_image_41 : decode cX7_image 41 = .ok (.aload_n 2, 1) := by decide +kernel
theorem dX7_image_42 : decode cX7_image 42 = .ok (.aload_n 0, 1) := by decide +kernel
theorem dX7_image_43 : decode cX7_image 43 = .ok (.getfield 26, 3) := by decide +kernel
theorem dX7_image_46 : decode cX7_image 46 = .ok (.invokevirtual 235, 3) := by decide +kernel
theorem dX7_image_49 : decode cX7_image 49 = .ok (.iconst 1, 1) := by decide +kernel
theorem dX7_image_50 : decode cX7_image 50 = .ok (.ireturn, 1) := by decide +kernel
theorem dX7_restore_0 : decode cX7_restore 0 = .ok (.iload_n 1, 1) := by decide +kernel
theorem dX7_restore_1 : decode cX7_restore 1 = .ok (.ifCond .lt 12, 3) := by decide +kernel
theorem dX7_restore_4 : decode cX7_restore 4 = .ok (.iload_n 1, 1) := by decide +kernel
theorem dX7_restore_5 : decode cX7_restore 5 = .ok (.aload_n 0, 1) := by decide +kernel
theorem dX7_restore_6 : decode cX7_restore 6 = .ok (.getfield 30, 3) := by decide +kernel
theorem dX7_restore_9 : decode cX7_restore 9 = .ok (.arraylength, 1) := by decide +kernel
theorem dX7_restore_10 : decode cX7_restore 10 = .ok (.if_icmp .lt 5, 3) := by decide +kernel
theorem dX7_restore_13 : decode cX7_restore 13 = .ok (.iconst 0, 1) := by decide +kernel
theorem dX7_restore_14 : decode cX7_restore 14 = .ok (.ireturn, 1) := by decide +kernel
theorem dX7_restore_15 : decode cX7_restore 15 = .ok (.aload_n 0, 1) := by decide +kernel
theorem dX7_restore_16 : decode cX7_restore 16 = .ok (.getfield 30, 3) := by decide +kernel
theorem dX7_restore_19 : decode cX7_restore 19 = .ok (.iload_n 1, 1) := by decide +kernel
theorem dX7_restore_20 : decode cX7_restore 20 = .ok (.aaload, 1) := by decide +kernel
theorem dX7_restore_21 : decode cX7_restore 21 = .ok (.astore_n 2, 1) := by decide +kernel
theorem dX7_restore_22 : decode cX7_restore 22 = .ok (.aload_n 2, 1) := by decide +kernel
theorem dX7_restore_23 : decode cX7_restore 23 = .ok (.ifnonnull 5, 3) := by decide +kernel
theorem dX7_restore_26 : decode cX7_restore 26 = .ok (.iconst 0, 1) := by decide +kernel
theorem dX7_restore_27 : decode cX7_restore 27 = .ok (.ireturn, 1) := by decide +kernel
theorem dX7_restore_28 : decode cX7_restore 28 = .ok (.aload_n 0, 1) := by decide +kernel
theorem dX7_restore_29 : decode cX7_restore 29 = .ok (.getfield 26, 3) := by decide +kernel
theorem dX7_restore_32 : decode cX7_restore 32 = .ok (.aload_n 2, 1) := by decide +kernel
theorem dX7_restore_33 : decode cX7_restore 33 = .ok (.invokevirtual 235, 3) := by decide +kernel
theorem dX7_restore_36 : decode cX7_restore 36 = .ok (.iconst 1, 1) := by decide +kernel
theorem dX7_restore_37 : decode cX7_restore 37 = .ok (.ireturn, 1) := by decide +kernel
theorem dX7_count_0 : decode cX7_count 0 = .ok (.iload_n 1, 1) := by decide +kernel
theorem dX7_count_1 : decode cX7_count 1 = .ok (.tableswitch 107 0 6 #[43, 54, 62, 73, 81, 89, 98], 43) := by decide +kernel
theorem dX7_count_44 : decode cX7_count 44 = .ok (.aload_n 0, 1) := by decide +kernel
theorem dX7_count_45 : decode cX7_count 45 = .ok (.getfield 26, 3) := by decide +kernel
theorem dX7_count_48 : decode cX7_count 48 = .ok (.getfield 149, 3) := by decide +kernel
theorem dX7_count_51 : decode cX7_count 51 = .ok (.bipush 18, 2) := by decide +kernel
theorem dX7_count_53 : decode cX7_count 53 = .ok (.iaload, 1) := by decide +kernel
theorem dX7_count_54 : decode cX7_count 54 = .ok (.ireturn, 1) := by decide +kernel
theorem dX7_count_55 : decode cX7_count 55 = .ok (.aload_n 0, 1) := by decide +kernel
theorem dX7_count_56 : decode cX7_count 56 = .ok (.getfield 26, 3) := by decide +kernel
theorem dX7_count_59 : decode cX7_count 59 = .ok (.invokevirtual 239, 3) := by decide +kernel
theorem dX7_count_62 : decode cX7_count 62 = .ok (.ireturn, 1) := by decide +kernel
theorem dX7_count_63 : decode cX7_count 63 = .ok (.aload_n 0, 1) := by decide +kernel
theorem dX7_count_64 : decode cX7_count 64 = .ok (.getfield 26, 3) := by decide +kernel
theorem dX7_count_67 : decode cX7_count 67 = .ok (.getfield 149, 3) := by decide +kernel
theorem dX7_count_70 : decode cX7_count 70 = .ok (.bipush 20, 2) := by decide +kernel
theorem dX7_count_72 : decode cX7_count 72 = .ok (.iaload, 1) := by decide +kernel
theorem dX7_count_73 : decode cX7_count 73 = .ok (.ireturn, 1) := by decide +kernel
theorem dX7_count_74 : decode cX7_count 74 = .ok (.aload_n 0, 1) := by decide +kernel
theorem dX7_count_75 : decode cX7_count 75 = .ok (.getfield 26, 3) := by decide +kernel
theorem dX7_count_78 : decode cX7_count 78 = .ok (.invokevirtual 169, 3) := by decide +kernel
theorem dX7_count_81 : decode cX7_count 81 = .ok (.ireturn, 1) := by decide +kernel
theorem dX7_count_82 : decode cX7_count 82 = .ok (.aload_n 0, 1) := by decide +kernel
theorem dX7_count_83 : decode cX7_count 83 = .ok (.getfield 10, 3) := by decide +kernel
theorem dX7_count_86 : decode cX7_count 86 = .ok (.getfield 84, 3) := by decide +kernel
theorem dX7_count_89 : decode cX7_count 89 = .ok (.ireturn, 1) := by decide +kernel
theorem dX7_count_90 : decode cX7_count 90 = .ok (.aload_n 0, 1) := by decide +kernel
theorem dX7_count_91 : decode cX7_count 91 = .ok (.getfield 47, 3) := by decide +kernel
theorem dX7_count_94 : decode cX7_count 94 = .ok (.iconst 0, 1) := by decide +kernel
theorem dX7_count_95 : decode cX7_count 95 = .ok (.invokevirtual 188, 3) := by decide +kernel
theorem dX7_count_98 : decode cX7_count 98 = .ok (.ireturn, 1) := by decide +kernel
theorem dX7_count_99 : decode cX7_count 99 = .ok (.aload_n 0, 1) := by decide +kernel
theorem dX7_count_100 : decode cX7_count 100 = .ok (.getfield 47, 3) := by decide +kernel
theorem dX7_count_103 : decode cX7_count 103 = .ok (.iconst 1, 1) := by decide +kernel
theorem dX7_count_104 : decode cX7_count 104 = .ok (.invokevirtual 188, 3) := by decide +kernel
theorem dX7_count_107 : decode cX7_count 107 = .ok (.ireturn, 1) := by decide +kernel
theorem dX7_count_108 : decode cX7_count 108 = .ok (.iconst (-1), 1) := by decide +kernel
theorem dX7_count_109 : decode cX7_count 109 = .ok (.ireturn, 1) := by decide +kernel
theorem dX7_searched_0 : decode cX7_searched 0 = .ok (.aload_n 0, 1) := by decide +kernel
theorem dX7_searched_1 : decode cX7_searched 1 = .ok (.getfield 72, 3) := by decide +kernel
theorem dX7_searched_4 : decode cX7_searched 4 = .ok (.ifnonnull 14, 3) := by decide +kernel
theorem dX7_searched_7 : decode cX7_searched 7 = .ok (.aload_n 0, 1) := by decide +kernel
theorem dX7_searched_8 : decode cX7_searched 8 = .ok (.new 183, 3) := by decide +kernel
theorem dX7_searched_11 : decode cX7_searched 11 = .ok (.dup, 1) := by decide +kernel
theorem dX7_searched_12 : decode cX7_searched 12 = .ok (.invokespecial 242, 3) := by decide +kernel
theorem dX7_searched_15 : decode cX7_searched 15 = .ok (.putfield 72, 3) := by decide +kernel
theorem dX7_searched_18 : decode cX7_searched 18 = .ok (.aload_n 0, 1) := by decide +kernel
theorem dX7_searched_19 : decode cX7_searched 19 = .ok (.getfield 72, 3) := by decide +kernel
theorem dX7_searched_22 : decode cX7_searched 22 = .ok (.getfield 182, 3) := by decide +kernel
theorem dX7_searched_25 : decode cX7_searched 25 = .ok (.ifCond .eq 14, 3) := by decide +kernel
theorem dX7_searched_28 : decode cX7_searched 28 = .ok (.aload_n 0, 1) := by decide +kernel
theorem dX7_searched_29 : decode cX7_searched 29 = .ok (.getfield 72, 3) := by decide +kernel
theorem dX7_searched_32 : decode cX7_searched 32 = .ok (.aload_n 0, 1) := by decide +kernel
theorem dX7_searched_33 : decode cX7_searched 33 = .ok (.getfield 47, 3) := by decide +kernel
theorem dX7_searched_36 : decode cX7_searched 36 = .ok (.invokevirtual 243, 3) := by decide +kernel
theorem dX7_searched_39 : decode cX7_searched 39 = .ok (.aload_n 0, 1) := by decide +kernel
theorem dX7_searched_40 : decode cX7_searched 40 = .ok (.getfield 72, 3) := by decide +kernel
theorem dX7_searched_43 : decode cX7_searched 43 = .ok (.areturn, 1) := by decide +kernel
theorem dX7_draw_0 : decode cX7_draw 0 = .ok (.aload_n 0, 1) := by decide +kernel
theorem dX7_draw_1 : decode cX7_draw 1 = .ok (.aload_n 0, 1) := by decide +kernel
theorem dX7_draw_2 : decode cX7_draw 2 = .ok (.getfield 69, 3) := by decide +kernel
theorem dX7_draw_5 : decode cX7_draw 5 = .ok (.ldc 247, 2) := by decide +kernel
theorem dX7_draw_7 : decode cX7_draw 7 = .ok (.imul, 1) := by decide +kernel
theorem dX7_draw_8 : decode cX7_draw 8 = .ok (.sipush 12345, 3) := by decide +kernel
theorem dX7_draw_11 : decode cX7_draw 11 = .ok (.iadd, 1) := by decide +kernel
theorem dX7_draw_12 : decode cX7_draw 12 = .ok (.putfield 69, 3) := by decide +kernel
theorem dX7_draw_15 : decode cX7_draw 15 = .ok (.iload_n 1, 1) := by decide +kernel
theorem dX7_draw_16 : decode cX7_draw 16 = .ok (.ifCond .le 15, 3) := by decide +kernel
theorem dX7_draw_19 : decode cX7_draw 19 = .ok (.aload_n 0, 1) := by decide +kernel
theorem dX7_draw_20 : decode cX7_draw 20 = .ok (.getfield 69, 3) := by decide +kernel
theorem dX7_draw_23 : decode cX7_draw 23 = .ok (.bipush 8, 2) := by decide +kernel
theorem dX7_draw_25 : decode cX7_draw 25 = .ok (.iushr, 1) := by decide +kernel
theorem dX7_draw_26 : decode cX7_draw 26 = .ok (.iload_n 1, 1) := by decide +kernel
theorem dX7_draw_27 : decode cX7_draw 27 = .ok (.irem, 1) := by decide +kernel
theorem dX7_draw_28 : decode cX7_draw 28 = .ok (.goto 4, 3) := by decide +kernel
theorem dX7_draw_31 : decode cX7_draw 31 = .ok (.iconst 0, 1) := by decide +kernel
theorem dX7_draw_32 : decode cX7_draw 32 = .ok (.ireturn, 1) := by decide +kernel
theorem dX7_isDeedDone_0 : decode cX7_isDeedDone 0 = .ok (.iload_n 1, 1) := by decide +kernel
theorem dX7_isDeedDone_1 : decode cX7_isDeedDone 1 = .ok (.tableswitch 86 0 6 #[43, 43, 48, 48, 68, 68, 73], 43) := by decide +kernel
theorem dX7_isDeedDone_44 : decode cX7_isDeedDone 44 = .ok (.aload_n 0, 1) := by decide +kernel
theorem dX7_isDeedDone_45 : decode cX7_isDeedDone 45 = .ok (.invokevirtual 248, 3) := by decide +kernel
theorem dX7_isDeedDone_48 : decode cX7_isDeedDone 48 = .ok (.ireturn, 1) := by decide +kernel
theorem dX7_isDeedDone_49 : decode cX7_isDeedDone 49 = .ok (.aload_n 0, 1) := by decide +kernel
theorem dX7_isDeedDone_50 : decode cX7_isDeedDone 50 = .ok (.getfield 26, 3) := by decide +kernel
theorem dX7_isDeedDone_53 : decode cX7_isDeedDone 53 = .ok (.aload_n 0, 1) := by decide +kernel
theorem dX7_isDeedDone_54 : decode cX7_isDeedDone 54 = .ok (.getfield 37, 3) := by decide +kernel
theorem dX7_isDeedDone_57 : decode cX7_isDeedDone 57 = .ok (.invokevirtual 99, 3) := by decide +kernel
theorem dX7_isDeedDone_60 : decode cX7_isDeedDone 60 = .ok (.ifCond .lt 7, 3) := by decide +kernel
theorem dX7_isDeedDone_63 : decode cX7_isDeedDone 63 = .ok (.iconst 1, 1) := by decide +kernel
theorem dX7_isDeedDone_64 : decode cX7_isDeedDone 64 = .ok (.goto 4, 3) := by decide +kernel
theorem dX7_isDeedDone_67 : decode cX7_isDeedDone 67 = .ok (.iconst 0, 1) := by decide +kernel
theorem dX7_isDeedDone_68 : decode cX7_isDeedDone 68 = .ok (.ireturn, 1) := by decide +kernel
theorem dX7_isDeedDone_69 : decode cX7_isDeedDone 69 = .ok (.aload_n 0, 1) := by decide +kernel
theorem dX7_isDeedDone_70 : decode cX7_isDeedDone 70 = .ok (.invokevirtual 251, 3) := by decide +kernel
theorem dX7_isDeedDone_73 : decode cX7_isDeedDone 73 = .ok (.ireturn, 1) := by decide +kernel
theorem dX7_isDeedDone_74 : decode cX7_isDeedDone 74 = .ok (.aload_n 0, 1) := by decide +kernel
theorem dX7_isDeedDone_75 : decode cX7_isDeedDone 75 = .ok (.invokevirtual 254, 3) := by decide +kernel
theorem dX7_isDeedDone_78 : decode cX7_isDeedDone 78 = .ok (.ifCond .lt 7, 3) := by decide +kernel
theorem dX7_isDeedDone_81 : decode cX7_isDeedDone 81 = .ok (.iconst 1, 1) := by decide +kernel
theorem dX7_isDeedDone_82 : decode cX7_isDeedDone 82 = .ok (.goto 4, 3) := by decide +kernel
theorem dX7_isDeedDone_85 : decode cX7_isDeedDone 85 = .ok (.iconst 0, 1) := by decide +kernel
theorem dX7_isDeedDone_86 : decode cX7_isDeedDone 86 = .ok (.ireturn, 1) := by decide +kernel
theorem dX7_isDeedDone_87 : decode cX7_isDeedDone 87 = .ok (.aload_n 0, 1) := by decide +kernel
theorem dX7_isDeedDone_88 : decode cX7_isDeedDone 88 = .ok (.getfield 26, 3) := by decide +kernel
theorem dX7_isDeedDone_91 : decode cX7_isDeedDone 91 = .ok (.invokevirtual 114, 3) := by decide +kernel
theorem dX7_isDeedDone_94 : decode cX7_isDeedDone 94 = .ok (.aload_n 0, 1) := by decide +kernel
theorem dX7_isDeedDone_95 : decode cX7_isDeedDone 95 = .ok (.getfield 26, 3) := by decide +kernel
theorem dX7_isDeedDone_98 : decode cX7_isDeedDone 98 = .ok (.invokevirtual 117, 3) := by decide +kernel
theorem dX7_isDeedDone_101 : decode cX7_isDeedDone 101 = .ok (.iadd, 1) := by decide +kernel
theorem dX7_isDeedDone_102 : decode cX7_isDeedDone 102 = .ok (.ifCond .le 7, 3) := by decide +kernel
theorem dX7_isDeedDone_105 : decode cX7_isDeedDone 105 = .ok (.iconst 1, 1) := by decide +kernel
theorem dX7_isDeedDone_106 : decode cX7_isDeedDone 106 = .ok (.goto 4, 3) := by decide +kernel
theorem dX7_isDeedDone_109 : decode cX7_isDeedDone 109 = .ok (.iconst 0, 1) := by decide +kernel
theorem dX7_isDeedDone_110 : decode cX7_isDeedDone 110 = .ok (.ireturn, 1) := by decide +kernel
theorem dX7_isDrawnChainLaid_0 : decode cX7_isDrawnChainLaid 0 = .ok (.aload_n 0, 1) := by decide +kernel
theorem dX7_isDrawnChainLaid_1 : decode cX7_isDrawnChainLaid 1 = .ok (.iconst 3, 1) := by decide +kernel
theorem dX7_isDrawnChainLaid_2 : decode cX7_isDrawnChainLaid 2 = .ok (.invokevirtual 229, 3) := by decide +kernel
theorem dX7_isDrawnChainLaid_5 : decode cX7_isDrawnChainLaid 5 = .ok (.iconst 1, 1) := by decide +kernel
theorem dX7_isDrawnChainLaid_6 : decode cX7_isDrawnChainLaid 6 = .ok (.iadd, 1) := by decide +kernel
theorem dX7_isDrawnChainLaid_7 : decode cX7_isDrawnChainLaid 7 = .ok (.istore_n 1, 1) := by decide +kernel
theorem dX7_isDrawnChainLaid_8 : decode cX7_isDrawnChainLaid 8 = .ok (.aload_n 0, 1) := by decide +kernel
theorem dX7_isDrawnChainLaid_9 : decode cX7_isDrawnChainLaid 9 = .ok (.iconst 2, 1) := by decide +kernel
theorem dX7_isDrawnChainLaid_10 : decode cX7_isDrawnChainLaid 10 = .ok (.invokevirtual 229, 3) := by decide +kernel
theorem dX7_isDrawnChainLaid_13 : decode cX7_isDrawnChainLaid 13 = .ok (.istore_n 2, 1) := by decide +kernel
theorem dX7_isDrawnChainLaid_14 : decode cX7_isDrawnChainLaid 14 = .ok (.aload_n 0, 1) := by decide +kernel
theorem dX7_isDrawnChainLaid_15 : decode cX7_isDrawnChainLaid 15 = .ok (.getfield 19, 3) := by decide +kernel
theorem dX7_isDrawnChainLaid_18 : decode cX7_isDrawnChainLaid 18 = .ok (.invokevirtual 257, 3) := by decide +kernel
theorem dX7_isDrawnChainLaid_21 : decode cX7_isDrawnChainLaid 21 = .ok (.iconst 0, 1) := by decide +kernel
theorem dX7_isDrawnChainLaid_22 : decode cX7_isDrawnChainLaid 22 = .ok (.istore_n 3, 1) := by decide +kernel
theorem dX7_isDrawnChainLaid_23 : decode cX7_isDrawnChainLaid 23 = .ok (.iload_n 3, 1) := by decide +kernel
theorem dX7_isDrawnChainLaid_24 : decode cX7_isDrawnChainLaid 24 = .ok (.iload_n 1, 1) := by decide +kernel
theorem dX7_isDrawnChainLaid_25 : decode cX7_isDrawnChainLaid 25 = .ok (.if_icmp .ge 18, 3) := by decide +kernel
theorem dX7_isDrawnChainLaid_28 : decode cX7_isDrawnChainLaid 28 = .ok (.aload_n 0, 1) := by decide +kernel
theorem dX7_isDrawnChainLaid_29 : decode cX7_isDrawnChainLaid 29 = .ok (.getfield 19, 3) := by decide +kernel
theorem dX7_isDrawnChainLaid_32 : decode cX7_isDrawnChainLaid 32 = .ok (.iconst 4, 1) := by decide +kernel
theorem dX7_isDrawnChainLaid_33 : decode cX7_isDrawnChainLaid 33 = .ok (.iconst 0, 1) := by decide +kernel
theorem dX7_isDrawnChainLaid_34 : decode cX7_isDrawnChainLaid 34 = .ok (.invokevirtual 258, 3) := by decide +kernel
theorem dX7_isDrawnChainLaid_37 : decode cX7_isDrawnChainLaid 37 = .ok (.iinc 3 1, 3) := by decide +kernel
theorem dX7_isDrawnChainLaid_40 : decode cX7_isDrawnChainLaid 40 = .ok (.goto (-17), 3) := by decide +kernel
theorem dX7_isDrawnChainLaid_43 : decode cX7_isDrawnChainLaid 43 = .ok (.iconst 0, 1) := by decide +kernel
theorem dX7_isDrawnChainLaid_44 : decode cX7_isDrawnChainLaid 44 = .ok (.istore_n 3, 1) := by decide +kernel
theorem dX7_isDrawnChainLaid_45 : decode cX7_isDrawnChainLaid 45 = .ok (.iload_n 3, 1) := by decide +kernel
theorem dX7_isDrawnChainLaid_46 : decode cX7_isDrawnChainLaid 46 = .ok (.iload_n 2, 1) := by decide +kernel
theorem dX7_isDrawnChainLaid_47 : decode cX7_isDrawnChainLaid 47 = .ok (.if_icmp .ge 19, 3) := by decide +kernel
theorem dX7_isDrawnChainLaid_50 : decode cX7_isDrawnChainLaid 50 = .ok (.aload_n 0, 1) := by decide +kernel
theorem dX7_isDrawnChainLaid_51 : decode cX7_isDrawnChainLaid 51 = .ok (.getfield 19, 3) := by decide +kernel
theorem dX7_isDrawnChainLaid_54 : decode cX7_isDrawnChainLaid 54 = .ok (.bipush 9, 2) := by decide +kernel
theorem dX7_isDrawnChainLaid_56 : decode cX7_isDrawnChainLaid 56 = .ok (.iconst 1, 1) := by decide +kernel
theorem dX7_isDrawnChainLaid_57 : decode cX7_isDrawnChainLaid 57 = .ok (.invokevirtual 258, 3) := by decide +kernel
theorem dX7_isDrawnChainLaid_60 : decode cX7_isDrawnChainLaid 60 = .ok (.iinc 3 1, 3) := by decide +kernel
theorem dX7_isDrawnChainLaid_63 : decode cX7_isDrawnChainLaid 63 = .ok (.goto (-18), 3) := by decide +kernel
theorem dX7_isDrawnChainLaid_66 : decode cX7_isDrawnChainLaid 66 = .ok (.aload_n 0, 1) := by decide +kernel
theorem dX7_isDrawnChainLaid_67 : decode cX7_isDrawnChainLaid 67 = .ok (.getfield 26, 3) := by decide +kernel
theorem dX7_isDrawnChainLaid_70 : decode cX7_isDrawnChainLaid 70 = .ok (.aload_n 0, 1) := by decide +kernel
theorem dX7_isDrawnChainLaid_71 : decode cX7_isDrawnChainLaid 71 = .ok (.getfield 19, 3) := by decide +kernel
theorem dX7_isDrawnChainLaid_74 : decode cX7_isDrawnChainLaid 74 = .ok (.iconst 0, 1) := by decide +kernel
theorem dX7_isDrawnChainLaid_75 : decode cX7_isDrawnChainLaid 75 = .ok (.invokevirtual 95, 3) := by decide +kernel
theorem dX7_isDrawnChainLaid_78 : decode cX7_isDrawnChainLaid 78 = .ok (.ifCond .lt 7, 3) := by decide +kernel
theorem dX7_isDrawnChainLaid_81 : decode cX7_isDrawnChainLaid 81 = .ok (.iconst 1, 1) := by decide +kernel
theorem dX7_isDrawnChainLaid_82 : decode cX7_isDrawnChainLaid 82 = .ok (.goto 4, 3) := by decide +kernel
theorem dX7_isDrawnChainLaid_85 : decode cX7_isDrawnChainLaid 85 = .ok (.iconst 0, 1) := by decide +kernel
theorem dX7_isDrawnChainLaid_86 : decode cX7_isDrawnChainLaid 86 = .ok (.ireturn, 1) := by decide +kernel
theorem dX7_isFirstFetchedFinished_0 : decode cX7_isFirstFetchedFinished 0 = .ok (.aload_n 0, 1) := by decide +kernel
theorem dX7_isFirstFetchedFinished_1 : decode cX7_isFirstFetchedFinished 1 = .ok (.getfield 26, 3) := by decide +kernel
theorem dX7_isFirstFetchedFinished_4 : decode cX7_isFirstFetchedFinished 4 = .ok (.invokevirtual 262, 3) := by decide +kernel
theorem dX7_isFirstFetchedFinished_7 : decode cX7_isFirstFetchedFinished 7 = .ok (.istore_n 1, 1) := by decide +kernel
theorem dX7_isFirstFetchedFinished_8 : decode cX7_isFirstFetchedFinished 8 = .ok (.iload_n 1, 1) := by decide +kernel
theorem dX7_isFirstFetchedFinished_9 : decode cX7_isFirstFetchedFinished 9 = .ok (.iconst (-1), 1) := by decide +kernel
theorem dX7_isFirstFetchedFinished_10 : decode cX7_isFirstFetchedFinished 10 = .ok (.if_icmp .eq 25, 3) := by decide +kernel
theorem dX7_isFirstFetchedFinished_13 : decode cX7_isFirstFetchedFinished 13 = .ok (.aload_n 0, 1) := by decide +kernel
theorem dX7_isFirstFetchedFinished_14 : decode cX7_isFirstFetchedFinished 14 = .ok (.getfield 26, 3) := by decide +kernel
theorem dX7_isFirstFetchedFinished_17 : decode cX7_isFirstFetchedFinished 17 = .ok (.iload_n 1, 1) := by decide +kernel
theorem dX7_isFirstFetchedFinished_18 : decode cX7_isFirstFetchedFinished 18 = .ok (.aload_n 0, 1) := by decide +kernel
theorem dX7_isFirstFetchedFinished_19 : decode cX7_isFirstFetchedFinished 19 = .ok (.bipush 10, 2) := by decide +kernel
theorem dX7_isFirstFetchedFinished_21 : decode cX7_isFirstFetchedFinished 21 = .ok (.invokevirtual 229, 3) := by decide +kernel
theorem dX7_isFirstFetchedFinished_24 : decode cX7_isFirstFetchedFinished 24 = .ok (.iconst 0, 1) := by decide +kernel
theorem dX7_isFirstFetchedFinished_25 : decode cX7_isFirstFetchedFinished 25 = .ok (.invokevirtual 103, 3) := by decide +kernel
theorem dX7_isFirstFetchedFinished_28 : decode cX7_isFirstFetchedFinished 28 = .ok (.ifCond .ne 7, 3) := by decide +kernel
theorem dX7_isFirstFetchedFinished_31 : decode cX7_isFirstFetchedFinished 31 = .ok (.iconst 1, 1) := by decide +kernel
theorem dX7_isFirstFetchedFinished_32 : decode cX7_isFirstFetchedFinished 32 = .ok (.goto 4, 3) := by decide +kernel
theorem dX7_isFirstFetchedFinished_35 : decode cX7_isFirstFetchedFinished 35 = .ok (.iconst 0, 1) := by decide +kernel
theorem dX7_isFirstFetchedFinished_36 : decode cX7_isFirstFetchedFinished 36 = .ok (.ireturn, 1) := by decide +kernel
theorem dX8_init_0 : decode cX8_init 0 = .ok (.aload_n 0, 1) := by decide +kernel
theorem dX8_init_1 : decode cX8_init 1 = .ok (.invokespecial 1, 3) := by decide +kernel
theorem dX8_init_4 : decode cX8_init 4 = .ok (.aload_n 0, 1) := by decide +kernel
theorem dX8_init_5 : decode cX8_init 5 = .ok (.bipush 100, 2) := by decide +kernel
theorem dX8_init_7 : decode cX8_init 7 = .ok (.newarray .byte, 2) := by decide +kernel
theorem dX8_init_9 : decode cX8_init 9 = .ok (.putfield 7, 3) := by decide +kernel
theorem dX8_init_12 : decode cX8_init 12 = .ok (.aload_n 0, 1) := by decide +kernel
theorem dX8_init_13 : decode cX8_init 13 = .ok (.sipush 4668, 3) := by decide +kernel
theorem dX8_init_16 : decode cX8_init 16 = .ok (.newarray .int, 2) := by decide +kernel
theorem dX8_init_18 : decode cX8_init 18 = .ok (.putfield 13, 3) := by decide +kernel
theorem dX8_init_21 : decode cX8_init 21 = .ok (.aload_n 0, 1) := by decide +kernel
theorem dX8_init_22 : decode cX8_init 22 = .ok (.sipush 9336, 3) := by decide +kernel
theorem dX8_init_25 : decode cX8_init 25 = .ok (.newarray .int, 2) := by decide +kernel
theorem dX8_init_27 : decode cX8_init 27 = .ok (.putfield 17, 3) := by decide +kernel
theorem dX8_init_30 : decode cX8_init 30 = .ok (.aload_n 0, 1) := by decide +kernel
theorem dX8_init_31 : decode cX8_init 31 = .ok (.iconst 2, 1) := by decide +kernel
theorem dX8_init_32 : decode cX8_init 32 = .ok (.newarray .boolean, 2) := by decide +kernel
theorem dX8_init_34 : decode cX8_init 34 = .ok (.putfield 20, 3) := by decide +kernel
theorem dX8_init_37 : decode cX8_init 37 = .ok (.aload_n 0, 1) := by decide +kernel
theorem dX8_init_38 : decode cX8_init 38 = .ok (.bipush 8, 2) := by decide +kernel
theorem dX8_init_40 : decode cX8_init 40 = .ok (.newarray .int, 2) := by decide +kernel
theorem dX8_init_42 : decode cX8_init 42 = .ok (.putfield 24, 3) := by decide +kernel
theorem dX8_init_45 : decode cX8_init 45 = .ok (.aload_n 0, 1) := by decide +kernel
theorem dX8_init_46 : decode cX8_init 46 = .ok (.bipush 8, 2) := by decide +kernel
theorem dX8_init_48 : decode cX8_init 48 = .ok (.newarray .int, 2) := by decide +kernel
theorem dX8_init_50 : decode cX8_init 50 = .ok (.putfield 27, 3) := by decide +kernel
theorem dX8_init_53 : decode cX8_init 53 = .ok (.aload_n 0, 1) := by decide +kernel
theorem dX8_init_54 : decode cX8_init 54 = .ok (.bipush 8, 2) := by decide +kernel
theorem dX8_init_56 : decode cX8_init 56 = .ok (.newarray .int, 2) := by decide +kernel
theorem dX8_init_58 : decode cX8_init 58 = .ok (.putfield 30, 3) := by decide +kernel
theorem dX8_init_61 : decode cX8_init 61 = .ok (.aload_n 0, 1) := by decide +kernel
theorem dX8_init_62 : decode cX8_init 62 = .ok (.iconst (-1), 1) := by decide +kernel
theorem dX8_init_63 : decode cX8_init 63 = .ok (.putfield 33, 3) := by decide +kernel
theorem dX8_init_66 : decode cX8_init 66 = .ok (.aload_n 0, 1) := by decide +kernel
theorem dX8_init_67 : decode cX8_init 67 = .ok (.bipush 8, 2) := by decide +kernel
theorem dX8_init_69 : decode cX8_init 69 = .ok (.newarray .int, 2) := by decide +kernel
theorem dX8_init_71 : decode cX8_init 71 = .ok (.putfield 37, 3) := by decide +kernel
theorem dX8_init_74 : decode cX8_init 74 = .ok (.aload_n 0, 1) := by decide +kernel
theorem dX8_init_75 : decode cX8_init 75 = .ok (.bipush 16, 2) := by decide +kernel
theorem dX8_init_77 : decode cX8_init 77 = .ok (.newarray .int, 2) := by decide +kernel
theorem dX8_init_79 : decode cX8_init 79 = .ok (.putfield 40, 3) := by decide +kernel
theorem dX8_init_82 : decode cX8_init 82 = .ok (.aload_n 0, 1) := by decide +kernel
theorem dX8_init_83 : decode cX8_init 83 = .ok (.bipush 8, 2) := by decide +kernel
theorem dX8_init_85 : decode cX8_init 85 = .ok (.newarray .int, 2) := by decide +kernel
theorem dX8_init_87 : decode cX8_init 87 = .ok (.putfield 43, 3) := by decide +kernel
theorem dX8_init_90 : decode cX8_init 90 = .ok (.aload_n 0, 1) := by decide +kernel
