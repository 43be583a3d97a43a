theorem dX10_init_0 : decode cX10_init 0 = .ok (.aload_n 0, 1) := by decide +kernel
theorem dX10_init_1 : decode cX10_init 1 = .ok (.invokespecial 1, 3) := by decide +kernel
theorem dX10_init_4 : decode cX10_init 4 = .ok (.aload_n 0, 1) := by decide +kernel
theorem dX10_init_5 : decode cX10_init 5 = .ok (.new 7, 3) := by decide +kernel
theorem dX10_init_8 : decode cX10_init 8 = .ok (.dup, 1) := by decide +kernel
theorem dX10_init_9 : decode cX10_init 9 = .ok (.invokespecial 9, 3) := by decide +kernel
theorem dX10_init_12 : decode cX10_init 12 = .ok (.putfield 10, 3) := by decide +kernel
theorem dX10_init_15 : decode cX10_init 15 = .ok (.aload_n 0, 1) := by decide +kernel
theorem dX10_init_16 : decode cX10_init 16 = .ok (.new 16, 3) := by decide +kernel
theorem dX10_init_19 : decode cX10_init 19 = .ok (.dup, 1) := by decide +kernel
theorem dX10_init_20 : decode cX10_init 20 = .ok (.invokespecial 18, 3) := by decide +kernel
theorem dX10_init_23 : decode cX10_init 23 = .ok (.putfield 19, 3) := by decide +kernel
theorem dX10_init_26 : decode cX10_init 26 = .ok (.aload_n 0, 1) := by decide +kernel
theorem dX10_init_27 : decode cX10_init 27 = .ok (.new 23, 3) := by decide +kernel
theorem dX10_init_30 : decode cX10_init 30 = .ok (.dup, 1) := by decide +kernel
theorem dX10_init_31 : decode cX10_init 31 = .ok (.invokespecial 25, 3) := by decide +kernel
theorem dX10_init_34 : decode cX10_init 34 = .ok (.putfield 26, 3) := by decide +kernel
theorem dX10_init_37 : decode cX10_init 37 = .ok (.aload_n 0, 1) := by decide +kernel
theorem dX10_init_38 : decode cX10_init 38 = .ok (.new 30, 3) := by decide +kernel
theorem dX10_init_41 : decode cX10_init 41 = .ok (.dup, 1) := by decide +kernel
theorem dX10_init_42 : decode cX10_init 42 = .ok (.invokespecial 32, 3) := by decide +kernel
theorem dX10_init_45 : decode cX10_init 45 = .ok (.putfield 33, 3) := by decide +kernel
theorem dX10_init_48 : decode cX10_init 48 = .ok (.aload_n 0, 1) := by decide +kernel
theorem dX10_init_49 : decode cX10_init 49 = .ok (.new 37, 3) := by decide +kernel
theorem dX10_init_52 : decode cX10_init 52 = .ok (.dup, 1) := by decide +kernel
theorem dX10_init_53 : decode cX10_init 53 = .ok (.invokespecial 39, 3) := by decide +kernel
theorem dX10_init_56 : decode cX10_init 56 = .ok (.putfield 40, 3) := by decide +kernel
theorem dX10_init_59 : decode cX10_init 59 = .ok (.aload_n 0, 1) := by decide +kernel
theorem dX10_init_60 : decode cX10_init 60 = .ok (.new 44, 3) := by decide +kernel
theorem dX10_init_63 : decode cX10_init 63 = .ok (.dup, 1) := by decide +kernel
theorem dX10_init_64 : decode cX10_init 64 = .ok (.invokespecial 46, 3) := by decide +kernel
theorem dX10_init_67 : decode cX10_init 67 = .ok (.putfield 47, 3) := by decide +kernel
theorem dX10_init_70 : decode cX10_init 70 = .ok (.aload_n 0, 1) := by decide +kernel
theorem dX10_init_71 : decode cX10_init 71 = .ok (.new 51, 3) := by decide +kernel
theorem dX10_init_74 : decode cX10_init 74 = .ok (.dup, 1) := by decide +kernel
theorem dX10_init_75 : decode cX10_init 75 = .ok (.invokespecial 53, 3) := by decide +kernel
theorem dX10_init_78 : decode cX10_init 78 = .ok (.putfield 54, 3) := by decide +kernel
theorem dX10_init_81 : decode cX10_init 81 = .ok (.aload_n 0, 1) := by decide +kernel
theorem dX10_init_82 : decode cX10_init 82 = .ok (.new 58, 3) := by decide +kernel
theorem dX10_init_85 : decode cX10_init 85 = .ok (.dup, 1) := by decide +kernel
theorem dX10_init_86 : decode cX10_init 86 = .ok (.invokespecial 60, 3) := by decide +kernel
theorem dX10_init_89 : decode cX10_init 89 = .ok (.putfield 61, 3) := by decide +kernel
theorem dX10_init_92 : decode cX10_init 92 = .ok (.aload_n 0, 1) := by decide +kernel
theorem dX10_init_93 : decode cX10_init 93 = .ok (.iconst 0, 1) := by decide +kernel
theorem dX10_init_94 : decode cX10_init 94 = .ok (.putfield 65, 3) := by decide +kernel
theorem dX10_init_97 : decode cX10_init 97 = .ok (.aload_n 0, 1) := by decide +kernel
theorem dX10_init_98 : decode cX10_init 98 = .ok (.iconst 0, 1) := by decide +kernel
theorem dX10_init_99 : decode cX10_init 99 = .ok (.putfield 69, 3) := by decide +kernel
theorem dX10_init_102 : decode cX10_init 102 = .ok (.return_, 1) := by decide +kernel
theorem dX10_feed_0 : decode cX10_feed 0 = .ok (.aload_n 0, 1) := by decide +kernel
theorem dX10_feed_1 : decode cX10_feed 1 = .ok (.getfield 10, 3) := by decide +kernel
theorem dX10_feed_4 : decode cX10_feed 4 = .ok (.getfield 72, 3) := by decide +kernel
theorem dX10_feed_7 : decode cX10_feed 7 = .ok (.bipush 20, 2) := by decide +kernel
theorem dX10_feed_9 : decode cX10_feed 9 = .ok (.iadd, 1) := by decide +kernel
theorem dX10_feed_10 : decode cX10_feed 10 = .ok (.sipush 600, 3) := by decide +kernel
theorem dX10_feed_13 : decode cX10_feed 13 = .ok (.if_icmp .le 5, 3) := by decide +kernel
theorem dX10_feed_16 : decode cX10_feed 16 = .ok (.iconst (-1), 1) := by decide +kernel
theorem dX10_feed_17 : decode cX10_feed 17 = .ok (.ireturn, 1) := by decide +kernel
theorem dX10_feed_18 : decode cX10_feed 18 = .ok (.aload_n 0, 1) := by decide +kernel
theorem dX10_feed_19 : decode cX10_feed 19 = .ok (.getfield 10, 3) := by decide +kernel
theorem dX10_feed_22 : decode cX10_feed 22 = .ok (.iload_n 1, 1) := by decide +kernel
theorem dX10_feed_23 : decode cX10_feed 23 = .ok (.invokevirtual 75, 3) := by decide +kernel
theorem dX10_feed_26 : decode cX10_feed 26 = .ok (.aload_n 0, 1) := by decide +kernel
theorem dX10_feed_27 : decode cX10_feed 27 = .ok (.getfield 10, 3) := by decide +kernel
theorem dX10_feed_30 : decode cX10_feed 30 = .ok (.iload_n 2, 1) := by decide +kernel
theorem dX10_feed_31 : decode cX10_feed 31 = .ok (.invokevirtual 75, 3) := by decide +kernel
theorem dX10_feed_34 : decode cX10_feed 34 = .ok (.aload_n 0, 1) := by decide +kernel
theorem dX10_feed_35 : decode cX10_feed 35 = .ok (.getfield 10, 3) := by decide +kernel
theorem dX10_feed_38 : decode cX10_feed 38 = .ok (.iload_n 3, 1) := by decide +kernel
theorem dX10_feed_39 : decode cX10_feed 39 = .ok (.invokevirtual 75, 3) := by decide +kernel
theorem dX10_feed_42 : decode cX10_feed 42 = .ok (.aload_n 0, 1) := by decide +kernel
theorem dX10_feed_43 : decode cX10_feed 43 = .ok (.getfield 10, 3) := by decide +kernel
theorem dX10_feed_46 : decode cX10_feed 46 = .ok (.iload 4, 2) := by decide +kernel
theorem dX10_feed_48 : decode cX10_feed 48 = .ok (.invokevirtual 75, 3) := by decide +kernel
theorem dX10_feed_51 : decode cX10_feed 51 = .ok (.aload_n 0, 1) := by decide +kernel
theorem dX10_feed_52 : decode cX10_feed 52 = .ok (.getfield 10, 3) := by decide +kernel
theorem dX10_feed_55 : decode cX10_feed 55 = .ok (.iload 5, 2) := by decide +kernel
theorem dX10_feed_57 : decode cX10_feed 57 = .ok (.invokevirtual 75, 3) := by decide +kernel
theorem dX10_feed_60 : decode cX10_feed 60 = .ok (.aload_n 0, 1) := by decide +kernel
theorem dX10_feed_61 : decode cX10_feed 61 = .ok (.getfield 10, 3) := by decide +kernel
theorem dX10_feed_64 : decode cX10_feed 64 = .ok (.getfield 72, 3) := by decide +kernel
theorem dX10_feed_67 : decode cX10_feed 67 = .ok (.ireturn, 1) := by decide +kernel
theorem dX10_statute_0 : decode cX10_statute 0 = .ok (.iload_n 1, 1) := by decide +kernel
theorem dX10_statute_1 : decode cX10_statute 1 = .ok (.ifCond .lt 33, 3) := by decide +kernel
theorem dX10_statute_4 : decode cX10_statute 4 = .ok (.iload_n 1, 1) := by decide +kernel
theorem dX10_statute_5 : decode cX10_statute 5 = .ok (.aload_n 0, 1) := by decide +kernel
theorem dX10_statute_6 : decode cX10_statute 6 = .ok (.getfield 10, 3) := by decide +kernel
theorem dX10_statute_9 : decode cX10_statute 9 = .ok (.getfield 72, 3) := by decide +kernel
theorem dX10_statute_12 : decode cX10_statute 12 = .ok (.if_icmp .gt 22, 3) := by decide +kernel
theorem dX10_statute_15 : decode cX10_statute 15 = .ok (.iload_n 2, 1) := by decide +kernel
theorem dX10_statute_16 : decode cX10_statute 16 = .ok (.invokestatic 79, 3) := by decide +kernel
theorem dX10_statute_19 : decode cX10_statute 19 = .ok (.ifCond .eq 15, 3) := by decide +kernel
theorem dX10_statute_22 : decode cX10_statute 22 = .ok (.aload_n 0, 1) := by decide +kernel
theorem dX10_statute_23 : decode cX10_statute 23 = .ok (.getfield 19, 3) := by decide +kernel
theorem dX10_statute_26 : decode cX10_statute 26 = .ok (.getfield 83, 3) := by decide +kernel
theorem dX10_statute_29 : decode cX10_statute 29 = .ok (.bipush 10, 2) := by decide +kernel
theorem dX10_statute_31 : decode cX10_statute 31 = .ok (.if_icmp .lt 6, 3) := by decide +kernel
theorem dX10_statute_34 : decode cX10_statute 34 = .ok (.bipush (-2), 2) := by decide +kernel
theorem dX10_statute_36 : decode cX10_statute 36 = .ok (.ireturn, 1) := by decide +kernel
theorem dX10_statute_37 : decode cX10_statute 37 = .ok (.aload_n 0, 1) := by decide +kernel
theorem dX10_statute_38 : decode cX10_statute 38 = .ok (.getfield 10, 3) := by decide +kernel
theorem dX10_statute_41 : decode cX10_statute 41 = .ok (.iload_n 1, 1) := by decide +kernel
theorem dX10_statute_42 : decode cX10_statute 42 = .ok (.invokevirtual 86, 3) := by decide +kernel
theorem dX10_statute_45 : decode cX10_statute 45 = .ok (.aload_n 0, 1) := by decide +kernel
theorem dX10_statute_46 : decode cX10_statute 46 = .ok (.getfield 10, 3) := by decide +kernel
theorem dX10_statute_49 : decode cX10_statute 49 = .ok (.getfield 89, 3) := by decide +kernel
theorem dX10_statute_52 : decode cX10_statute 52 = .ok (.ifCond .ne 21, 3) := by decide +kernel
theorem dX10_statute_55 : decode cX10_statute 55 = .ok (.aload_n 0, 1) := by decide +kernel
theorem dX10_statute_56 : decode cX10_statute 56 = .ok (.getfield 19, 3) := by decide +kernel
theorem dX10_statute_59 : decode cX10_statute 59 = .ok (.iload_n 2, 1) := by decide +kernel
theorem dX10_statute_60 : decode cX10_statute 60 = .ok (.aload_n 0, 1) := by decide +kernel
theorem dX10_statute_61 : decode cX10_statute 61 = .ok (.getfield 10, 3) := by decide +kernel
theorem dX10_statute_64 : decode cX10_statute 64 = .ok (.getfield 92, 3) := by decide +kernel
theorem dX10_statute_67 : decode cX10_statute 67 = .ok (.invokevirtual 96, 3) := by decide +kernel
theorem dX10_statute_70 : decode cX10_statute 70 = .ok (.goto 4, 3) := by decide +kernel
theorem dX10_statute_73 : decode cX10_statute 73 = .ok (.iconst (-1), 1) := by decide +kernel
theorem dX10_statute_74 : decode cX10_statute 74 = .ok (.ireturn, 1) := by decide +kernel
theorem dX10_fault_0 : decode cX10_fault 0 = .ok (.iload_n 1, 1) := by decide +kernel
theorem dX10_fault_1 : decode cX10_fault 1 = .ok (.lookupswitch 43 #[(0, 27), (1, 35)], 27) := by decide +kernel
theorem dX10_fault_28 : decode cX10_fault 28 = .ok (.aload_n 0, 1) := by decide +kernel
theorem dX10_fault_29 : decode cX10_fault 29 = .ok (.getfield 10, 3) := by decide +kernel
theorem dX10_fault_32 : decode cX10_fault 32 = .ok (.getfield 89, 3) := by decide +kernel
theorem dX10_fault_35 : decode cX10_fault 35 = .ok (.ireturn, 1) := by decide +kernel
theorem dX10_fault_36 : decode cX10_fault 36 = .ok (.aload_n 0, 1) := by decide +kernel
theorem dX10_fault_37 : decode cX10_fault 37 = .ok (.getfield 10, 3) := by decide +kernel
theorem dX10_fault_40 : decode cX10_fault 40 = .ok (.getfield 100, 3) := by decide +kernel
theorem dX10_fault_43 : decode cX10_fault 43 = .ok (.ireturn, 1) := by decide +kernel
theorem dX10_fault_44 : decode cX10_fault 44 = .ok (.iconst (-1), 1) := by decide +kernel
theorem dX10_fault_45 : decode cX10_fault 45 = .ok (.ireturn, 1) := by decide +kernel
theorem dX10_law_0 : decode cX10_law 0 = .ok (.iload_n 1, 1) := by decide +kernel
theorem dX10_law_1 : decode cX10_law 1 = .ok (.ifCond .lt 28, 3) := by decide +kernel
theorem dX10_law_4 : decode cX10_law 4 = .ok (.iload_n 1, 1) := by decide +kernel
theorem dX10_law_5 : decode cX10_law 5 = .ok (.bipush 7, 2) := by decide +kernel
theorem dX10_law_7 : decode cX10_law 7 = .ok (.if_icmp .ge 22, 3) := by decide +kernel
theorem dX10_law_10 : decode cX10_law 10 = .ok (.iload_n 2, 1) := by decide +kernel
theorem dX10_law_11 : decode cX10_law 11 = .ok (.invokestatic 79, 3) := by decide +kernel
theorem dX10_law_14 : decode cX10_law 14 = .ok (.ifCond .eq 15, 3) := by decide +kernel
theorem dX10_law_17 : decode cX10_law 17 = .ok (.aload_n 0, 1) := by decide +kernel
theorem dX10_law_18 : decode cX10_law 18 = .ok (.getfield 19, 3) := by decide +kernel
theorem dX10_law_21 : decode cX10_law 21 = .ok (.iload_n 1, 1) := by decide +kernel
theorem dX10_law_22 : decode cX10_law 22 = .ok (.iload_n 2, 1) := by decide +kernel
theorem dX10_law_23 : decode cX10_law 23 = .ok (.invokevirtual 103, 3) := by decide +kernel
theorem dX10_law_26 : decode cX10_law 26 = .ok (.goto 4, 3) := by decide +kernel
theorem dX10_law_29 : decode cX10_law 29 = .ok (.iconst (-1), 1) := by decide +kernel
theorem dX10_law_30 : decode cX10_law 30 = .ok (.ireturn, 1) := by decide +kernel
theorem dX10_ward_0 : decode cX10_ward 0 = .ok (.aload_n 0, 1) := by decide +kernel
theorem dX10_ward_1 : decode cX10_ward 1 = .ok (.getfield 26, 3) := by decide +kernel
theorem dX10_ward_4 : decode cX10_ward 4 = .ok (.invokevirtual 107, 3) := by decide +kernel
theorem dX10_ward_7 : decode cX10_ward 7 = .ok (.ireturn, 1) := by decide +kernel
theorem dX10_horse_0 : decode cX10_horse 0 = .ok (.iload_n 1, 1) := by decide +kernel
theorem dX10_horse_1 : decode cX10_horse 1 = .ok (.ifCond .lt 21, 3) := by decide +kernel
theorem dX10_horse_4 : decode cX10_horse 4 = .ok (.iload_n 1, 1) := by decide +kernel
theorem dX10_horse_5 : decode cX10_horse 5 = .ok (.sipush 999, 3) := by decide +kernel
theorem dX10_horse_8 : decode cX10_horse 8 = .ok (.if_icmp .gt 14, 3) := by decide +kernel
theorem dX10_horse_11 : decode cX10_horse 11 = .ok (.aload_n 0, 1) := by decide +kernel
theorem dX10_horse_12 : decode cX10_horse 12 = .ok (.getfield 33, 3) := by decide +kernel
theorem dX10_horse_15 : decode cX10_horse 15 = .ok (.iload_n 1, 1) := by decide +kernel
theorem dX10_horse_16 : decode cX10_horse 16 = .ok (.invokevirtual 111, 3) := by decide +kernel
theorem dX10_horse_19 : decode cX10_horse 19 = .ok (.goto 4, 3) := by decide +kernel
theorem dX10_horse_22 : decode cX10_horse 22 = .ok (.iconst (-1), 1) := by decide +kernel
theorem dX10_horse_23 : decode cX10_horse 23 = .ok (.ireturn, 1) := by decide +kernel
theorem dX10_sound_0 : decode cX10_sound 0 = .ok (.aload_n 0, 1) := by decide +kernel
theorem dX10_sound_1 : decode cX10_sound 1 = .ok (.getfield 33, 3) := by decide +kernel
theorem dX10_sound_4 : decode cX10_sound 4 = .ok (.iload_n 1, 1) := by decide +kernel
theorem dX10_sound_5 : decode cX10_sound 5 = .ok (.invokevirtual 115, 3) := by decide +kernel
theorem dX10_sound_8 : decode cX10_sound 8 = .ok (.ifCond .ne 5, 3) := by decide +kernel
theorem dX10_sound_11 : decode cX10_sound 11 = .ok (.iconst 0, 1) := by decide +kernel
theorem dX10_sound_12 : decode cX10_sound 12 = .ok (.ireturn, 1) := by decide +kernel
theorem dX10_sound_13 : decode cX10_sound 13 = .ok (.aload_n 0, 1) := by decide +kernel
theorem dX10_sound_14 : decode cX10_sound 14 = .ok (.getfield 33, 3) := by decide +kernel
theorem dX10_sound_17 : decode cX10_sound 17 = .ok (.getfield 118, 3) := by decide +kernel
theorem dX10_sound_20 : decode cX10_sound 20 = .ok (.iload_n 1, 1) := by decide +kernel
theorem dX10_sound_21 : decode cX10_sound 21 = .ok (.iload_n 2, 1) := by decide +kernel
theorem dX10_sound_22 : decode cX10_sound 22 = .ok (.bastore, 1) := by decide +kernel
theorem dX10_sound_23 : decode cX10_sound 23 = .ok (.iconst 1, 1) := by decide +kernel
theorem dX10_sound_24 : decode cX10_sound 24 = .ok (.ireturn, 1) := by decide +kernel
theorem dX10_choose_0 : decode cX10_choose 0 = .ok (.aload_n 0, 1) := by decide +kernel
theorem dX10_choose_1 : decode cX10_choose 1 = .ok (.getfield 69, 3) := by decide +kernel
theorem dX10_choose_4 : decode cX10_choose 4 = .ok (.ifCond .eq 5, 3) := by decide +kernel
theorem dX10_choose_7 : decode cX10_choose 7 = .ok (.iconst (-1), 1) := by decide +kernel
theorem dX10_choose_8 : decode cX10_choose 8 = .ok (.ireturn, 1) := by decide +kernel
theorem dX10_choose_9 : decode cX10_choose 9 = .ok (.aload_n 0, 1) := by decide +kernel
theorem dX10_choose_10 : decode cX10_choose 10 = .ok (.getfield 26, 3) := by decide +kernel
theorem dX10_choose_13 : decode cX10_choose 13 = .ok (.aload_n 0, 1) := by decide +kernel
theorem dX10_choose_14 : decode cX10_choose 14 = .ok (.getfield 65, 3) := by decide +kernel
theorem dX10_choose_17 : decode cX10_choose 17 = .ok (.invokevirtual 122, 3) := by decide +kernel
theorem dX10_choose_20 : decode cX10_choose 20 = .ok (.istore_n 2, 1) := by decide +kernel
theorem dX10_choose_21 : decode cX10_choose 21 = .ok (.aload_n 0, 1) := by decide +kernel
theorem dX10_choose_22 : decode cX10_choose 22 = .ok (.getfield 19, 3) := by decide +kernel
theorem dX10_choose_25 : decode cX10_choose 25 = .ok (.iconst 0, 1) := by decide +kernel
theorem dX10_choose_26 : decode cX10_choose 26 = .ok (.aload_n 0, 1) := by decide +kernel
theorem dX10_choose_27 : decode cX10_choose 27 = .ok (.getfield 65, 3) := by decide +kernel
theorem dX10_choose_30 : decode cX10_choose 30 = .ok (.invokevirtual 103, 3) := by decide +kernel
theorem dX10_choose_33 : decode cX10_choose 33 = .ok (.iload_n 2, 1) := by decide +kernel
theorem dX10_choose_34 : decode cX10_choose 34 = .ok (.invokestatic 125, 3) := by decide +kernel
theorem dX10_choose_37 : decode cX10_choose 37 = .ok (.istore_n 3, 1) := by decide +kernel
theorem dX10_choose_38 : decode cX10_choose 38 = .ok (.iload_n 3, 1) := by decide +kernel
theorem dX10_choose_39 : decode cX10_choose 39 = .ok (.iconst 2, 1) := by decide +kernel
theorem dX10_choose_40 : decode cX10_choose 40 = .ok (.if_icmp .ge 5, 3) := by decide +kernel
theorem dX10_choose_43 : decode cX10_choose 43 = .ok (.iconst (-1), 1) := by decide +kernel
theorem dX10_choose_44 : decode cX10_choose 44 = .ok (.ireturn, 1) := by decide +kernel
theorem dX10_choose_45 : decode cX10_choose 45 = .ok (.aload_n 0, 1) := by decide +kernel
theorem dX10_choose_46 : decode cX10_choose 46 = .ok (.getfield 61, 3) := by decide +kernel
theorem dX10_choose_49 : decode cX10_choose 49 = .ok (.iload_n 1, 1) := by decide +kernel
theorem dX10_choose_50 : decode cX10_choose 50 = .ok (.invokevirtual 130, 3) := by decide +kernel
theorem dX10_choose_53 : decode cX10_choose 53 = .ok (.aload_n 0, 1) := by decide +kernel
theorem dX10_choose_54 : decode cX10_choose 54 = .ok (.getfield 26, 3) := by decide +kernel
theorem dX10_choose_57 : decode cX10_choose 57 = .ok (.iload_n 3, 1) := by decide +kernel
theorem dX10_choose_58 : decode cX10_choose 58 = .ok (.iload_n 2, 1) := by decide +kernel
theorem dX10_choose_59 : decode cX10_choose 59 = .ok (.aload_n 0, 1) := by decide +kernel
theorem dX10_choose_60 : decode cX10_choose 60 = .ok (.getfield 65, 3) := by decide +kernel
theorem dX10_choose_63 : decode cX10_choose 63 = .ok (.aload_n 0, 1) := by decide +kernel
theorem dX10_choose_64 : decode cX10_choose 64 = .ok (.getfield 61, 3) := by decide +kernel
theorem dX10_choose_67 : decode cX10_choose 67 = .ok (.invokevirtual 133, 3) := by decide +kernel
theorem dX10_choose_70 : decode cX10_choose 70 = .ok (.aload_n 0, 1) := by decide +kernel
theorem dX10_choose_71 : decode cX10_choose 71 = .ok (.getfield 40, 3) := by decide +kernel
theorem dX10_choose_74 : decode cX10_choose 74 = .ok (.aload_n 0, 1) := by decide +kernel
theorem dX10_choose_75 : decode cX10_choose 75 = .ok (.getfield 26, 3) := by decide +kernel
theorem dX10_choose_78 : decode cX10_choose 78 = .ok (.invokevirtual 137, 3) := by decide +kernel
theorem dX10_choose_81 : decode cX10_choose 81 = .ok (.aload_n 0, 1) := by decide +kernel
theorem dX10_choose_82 : decode cX10_choose 82 = .ok (.iconst 1, 1) := by decide +kernel
theorem dX10_choose_83 : decode cX10_choose 83 = .ok (.putfield 69, 3) := by decide +kernel
theorem dX10_choose_86 : decode cX10_choose 86 = .ok (.iload_n 3, 1) := by decide +kernel
theorem dX10_choose_87 : decode cX10_choose 87 = .ok (.ireturn, 1) := by decide +kernel
theorem dX10_pick_0 : decode cX10_pick 0 = .ok (.aload_n 0, 1) := by decide +kernel
theorem dX10_pick_1 : decode cX10_pick 1 = .ok (.getfield 69, 3) := by decide +kernel
theorem dX10_pick_4 : decode cX10_pick 4 = .ok (.iconst 1, 1) := by decide +kernel
theorem dX10_pick_5 : decode cX10_pick 5 = .ok (.if_icmp .eq 5, 3) := by decide +kernel
theorem dX10_pick_8 : decode cX10_pick 8 = .ok (.iconst (-1), 1) := by decide +kernel
theorem dX10_pick_9 : decode cX10_pick 9 = .ok (.ireturn, 1) := by decide +kernel
theorem dX10_pick_10 : decode cX10_pick 10 = .ok (.aload_n 0, 1) := by decide +kernel
theorem dX10_pick_11 : decode cX10_pick 11 = .ok (.getfield 33, 3) := by decide +kernel
theorem dX10_pick_14 : decode cX10_pick 14 = .ok (.aload_n 0, 1) := by decide +kernel
theorem dX10_pick_15 : decode cX10_pick 15 = .ok (.getfield 40, 3) := by decide +kernel
theorem dX10_pick_18 : decode cX10_pick 18 = .ok (.getfield 141, 3) := by decide +kernel
theorem dX10_pick_21 : decode cX10_pick 21 = .ok (.invokevirtual 144, 3) := by decide +kernel
theorem dX10_pick_24 : decode cX10_pick 24 = .ok (.istore_n 1, 1) := by decide +kernel
theorem dX10_pick_25 : decode cX10_pick 25 = .ok (.iload_n 1, 1) := by decide +kernel
theorem dX10_pick_26 : decode cX10_pick 26 = .ok (.iconst (-1), 1) := by decide +kernel
theorem dX10_pick_27 : decode cX10_pick 27 = .ok (.if_icmp .eq 8, 3) := by decide +kernel
theorem dX10_pick_30 : decode cX10_pick 30 = .ok (.aload_n 0, 1) := by decide +kernel
theorem dX10_pick_31 : decode cX10_pick 31 = .ok (.iconst 2, 1) := by decide +kernel
theorem dX10_pick_32 : decode cX10_pick 32 = .ok (.putfield 69, 3) := by decide +kernel
theorem dX10_pick_35 : decode cX10_pick 35 = .ok (.iload_n 1, 1) := by decide +kernel
theorem dX10_pick_36 : decode cX10_pick 36 = .ok (.ireturn, 1) := by decide +kernel
theorem dX10_lots_0 : decode cX10_lots 0 = .ok (.aload_n 0, 1) := by decide +kernel
theorem dX10_lots_1 : decode cX10_lots 1 = .ok (.getfield 69, 3) := by decide +kernel
theorem dX10_lots_4 : decode cX10_lots 4 = .ok (.iconst 2, 1) := by decide +kernel
theorem dX10_lots_5 : decode cX10_lots 5 = .ok (.if_icmp .eq 5, 3) := by decide +kernel
theorem dX10_lots_8 : decode cX10_lots 8 = .ok (.iconst 0, 1) := by decide +kernel
theorem dX10_lots_9 : decode cX10_lots 9 = .ok (.ireturn, 1) := by decide +kernel
theorem dX10_lots_10 : decode cX10_lots 10 = .ok (.aload_n 0, 1) := by decide +kernel
theorem dX10_lots_11 : decode cX10_lots 11 = .ok (.getfield 61, 3) := by decide +kernel
theorem dX10_lots_14 : decode cX10_lots 14 = .ok (.iload_n 1, 1) := by decide +kernel
theorem dX10_lots_15 : decode cX10_lots 15 = .ok (.invokevirtual 130, 3) := by decide +kernel
theorem dX10_lots_18 : decode cX10_lots 18 = .ok (.aload_n 0, 1) := by decide +kernel
theorem dX10_lots_19 : decode cX10_lots 19 = .ok (.getfield 40, 3) := by decide +kernel
theorem dX10_lots_22 : decode cX10_lots 22 = .ok (.aload_n 0, 1) := by decide +kernel
theorem dX10_lots_23 : decode cX10_lots 23 = .ok (.getfield 26, 3) := by decide +kernel
theorem dX10_lots_26 : decode cX10_lots 26 = .ok (.aload_n 0, 1) := by decide +kernel
theorem dX10_lots_27 : decode cX10_lots 27 = .ok (.getfield 33, 3) := by decide +kernel
theorem dX10_lots_30 : decode cX10_lots 30 = .ok (.getfield 147, 3) := by decide +kernel
theorem dX10_lots_33 : decode cX10_lots 33 = .ok (.aload_n 0, 1) := by decide +kernel
theorem dX10_lots_34 : decode cX10_lots 34 = .ok (.getfield 61, 3) := by decide +kernel
theorem dX10_lots_37 : decode cX10_lots 37 = .ok (.invokevirtual 150, 3) := by decide +kernel
theorem dX10_lots_40 : decode cX10_lots 40 = .ok (.aload_n 0, 1) := by decide +kernel
theorem dX10_lots_41 : decode cX10_lots 41 = .ok (.getfield 40, 3) := by decide +kernel
theorem dX10_lots_44 : decode cX10_lots 44 = .ok (.aload_n 0, 1) := by decide +kernel
theorem dX10_lots_45 : decode cX10_lots 45 = .ok (.getfield 61, 3) := by decide +kernel
theorem dX10_lots_48 : decode cX10_lots 48 = .ok (.invokevirtual 154, 3) := by decide +kernel
theorem dX10_lots_51 : decode cX10_lots 51 = .ok (.aload_n 0, 1) := by decide +kernel
theorem dX10_lots_52 : decode cX10_lots 52 = .ok (.iconst 3, 1) := by decide +kernel
theorem dX10_lots_53 : decode cX10_lots 53 = .ok (.putfield 69, 3) := by decide +kernel
theorem dX10_lots_56 : decode cX10_lots 56 = .ok (.iconst 1, 1) := by decide +kernel
theorem dX10_lots_57 : decode cX10_lots 57 = .ok (.ireturn, 1) := by decide +kernel
theorem dX10_drawn_0 : decode cX10_drawn 0 = .ok (.iload_n 2, 1) := by decide +kernel
theorem dX10_drawn_1 : decode cX10_drawn 1 = .ok (.ifCond .lt 14, 3) := by decide +kernel
theorem dX10_drawn_4 : decode cX10_drawn 4 = .ok (.iload_n 2, 1) := by decide +kernel
theorem dX10_drawn_5 : decode cX10_drawn 5 = .ok (.aload_n 0, 1) := by decide +kernel
theorem dX10_drawn_6 : decode cX10_drawn 6 = .ok (.getfield 40, 3) := by decide +kernel
theorem dX10_drawn_9 : decode cX10_drawn 9 = .ok (.getfield 141, 3) := by decide +kernel
theorem dX10_drawn_12 : decode cX10_drawn 12 = .ok (.if_icmp .lt 5, 3) := by decide +kernel
theorem dX10_drawn_15 : decode cX10_drawn 15 = .ok (.iconst (-1), 1) := by decide +kernel
theorem dX10_drawn_16 : decode cX10_drawn 16 = .ok (.ireturn, 1) := by decide +kernel
theorem dX10_drawn_17 : decode cX10_drawn 17 = .ok (.iload_n 1, 1) := by decide +kernel
theorem dX10_drawn_18 : decode cX10_drawn 18 = .ok (.tableswitch 92 0 2 #[26, 48, 70], 26) := by decide +kernel
theorem dX10_drawn_44 : decode cX10_drawn 44 = .ok (.aload_n 0, 1) := by decide +kernel
theorem dX10_drawn_45 : decode cX10_drawn 45 = .ok (.getfield 69, 3) := by decide +kernel
theorem dX10_drawn_48 : decode cX10_drawn 48 = .ok (.iconst 1, 1) := by decide +kernel
theorem dX10_drawn_49 : decode cX10_drawn 49 = .ok (.if_icmp .lt 15, 3) := by decide +kernel
theorem dX10_drawn_52 : decode cX10_drawn 52 = .ok (.aload_n 0, 1) := by decide +kernel
theorem dX10_drawn_53 : decode cX10_drawn 53 = .ok (.getfield 40, 3) := by decide +kernel
theorem dX10_drawn_56 : decode cX10_drawn 56 = .ok (.getfield 158, 3) := by decide +kernel
theorem dX10_drawn_59 : decode cX10_drawn 59 = .ok (.iload_n 2, 1) := by decide +kernel
theorem dX10_drawn_60 : decode cX10_drawn 60 = .ok (.iaload, 1) := by decide +kernel
theorem dX10_drawn_61 : decode cX10_drawn 61 = .ok (.goto 4, 3) := by decide +kernel
theorem dX10_drawn_64 : decode cX10_drawn 64 = .ok (.iconst (-1), 1) := by decide +kernel
theorem dX10_drawn_65 : decode cX10_drawn 65 = .ok (.ireturn, 1) := by decide +kernel
theorem dX10_drawn_66 : decode cX10_drawn 66 = .ok (.aload_n 0, 1) := by decide +kernel
theorem dX10_drawn_67 : decode cX10_drawn 67 = .ok (.getfield 69, 3) := by decide +kernel
theorem dX10_drawn_70 : decode cX10_drawn 70 = .ok (.iconst 2, 1) := by decide +kernel
theorem dX10_drawn_71 : decode cX10_drawn 71 = .ok (.if_icmp .lt 15, 3) := by decide +kernel
theorem dX10_drawn_74 : decode cX10_drawn 74 = .ok (.aload_n 0, 1) := by decide +kernel
theorem dX10_drawn_75 : decode cX10_drawn 75 = .ok (.getfield 33, 3) := by decide +kernel
theorem dX10_drawn_78 : decode cX10_drawn 78 = .ok (.getfield 147, 3) := by decide +kernel
theorem dX10_drawn_81 : decode cX10_drawn 81 = .ok (.iload_n 2, 1) := by decide +kernel
theorem dX10_drawn_82 : decode cX10_drawn 82 = .ok (.iaload, 1) := by decide +kernel
theorem dX10_drawn_83 : decode cX10_drawn 83 = .ok (.goto 4, 3) := by decide +kernel
theorem dX10_drawn_86 : decode cX10_drawn 86 = .ok (.iconst (-1), 1) := by decide +kernel
theorem dX10_drawn_87 : decode cX10_drawn 87 = .ok (.ireturn, 1) := by decide +kernel
theorem dX10_drawn_88 : decode cX10_drawn 88 = .ok (.aload_n 0, 1) := by decide +kernel
theorem dX10_drawn_89 : decode cX10_drawn 89 = .ok (.getfield 69, 3) := by decide +kernel
theorem dX10_drawn_92 : decode cX10_drawn 92 = .ok (.iconst 3, 1) := by decide +kernel
theorem dX10_drawn_93 : decode cX10_drawn 93 = .ok (.if_icmp .lt 15, 3) := by decide +kernel
theorem dX10_drawn_96 : decode cX10_drawn 96 = .ok (.aload_n 0, 1) := by decide +kernel
theorem dX10_drawn_97 : decode cX10_drawn 97 = .ok (.getfield 40, 3) := by decide +kernel
theorem dX10_drawn_100 : decode cX10_drawn 100 = .ok (.getfield 161, 3) := by decide +kernel
theorem dX10_drawn_103 : decode cX10_drawn 103 = .ok (.iload_n 2, 1) := by decide +kernel
theorem dX10_drawn_104 : decode cX10_drawn 104 = .ok (.iaload, 1) := by decide +kernel
theorem dX10_drawn_105 : decode cX10_drawn 105 = .ok (.goto 4, 3) := by decide +kernel
theorem dX10_drawn_108 : decode cX10_drawn 108 = .ok (.iconst (-1), 1) := by decide +kernel
theorem dX10_drawn_109 : decode cX10_drawn 109 = .ok (.ireturn, 1) := by decide +kernel
theorem dX10_drawn_110 : decode cX10_drawn 110 = .ok (.iconst (-1), 1) := by decide +kernel
theorem dX10_drawn_111 : decode cX10_drawn 111 = .ok (.ireturn, 1) := by decide +kernel
theorem dX10_look_0 : decode cX10_look 0 = .ok (.aload_n 0, 1) := by decide +kernel
theorem dX10_look_1 : decode cX10_look 1 = .ok (.getfield 26, 3) := by decide +kernel
theorem dX10_look_4 : decode cX10_look 4 = .ok (.iload_n 1, 1) := by decide +kernel
theorem dX10_look_5 : decode cX10_look 5 = .ok (.invokevirtual 164, 3) := by decide +kernel
theorem dX10_look_8 : decode cX10_look 8 = .ok (.astore_n 3, 1) := by decide +kernel
theorem dX10_look_9 : decode cX10_look 9 = .ok (.aload_n 3, 1) := by decide +kernel
theorem dX10_look_10 : decode cX10_look 10 = .ok (.ifnonnull 5, 3) := by decide +kernel
theorem dX10_look_13 : decode cX10_look 13 = .ok (.iconst (-1), 1) := by decide +kernel
theorem dX10_look_14 : decode cX10_look 14 = .ok (.ireturn, 1) := by decide +kernel
theorem dX10_look_15 : decode cX10_look 15 = .ok (.iload_n 2, 1) := by decide +kernel
theorem dX10_look_16 : decode cX10_look 16 = .ok (.tableswitch 61 0 4 #[36, 41, 46, 51, 56], 36) := by decide +kernel
theorem dX10_look_52 : decode cX10_look 52 = .ok (.aload_n 3, 1) := by decide +kernel
theorem dX10_look_53 : decode cX10_look 53 = .ok (.getfield 168, 3) := by decide +kernel
theorem dX10_look_56 : decode cX10_look 56 = .ok (.ireturn, 1) := by decide +kernel
theorem dX10_look_57 : decode cX10_look 57 = .ok (.aload_n 3, 1) := by decide +kernel
theorem dX10_look_58 : decode cX10_look 58 = .ok (.getfield 173, 3) := by decide +kernel
theorem dX10_look_61 : decode cX10_look 61 = .ok (.ireturn, 1) := by decide +kernel
theorem dX10_look_62 : decode cX10_look 62 = .ok (.aload_n 3, 1) := by decide +kernel
theorem dX10_look_63 : decode cX10_look 63 = .ok (.getfield 176, 3) := by decide +kernel
theorem dX10_look_66 : decode cX10_look 66 = .ok (.ireturn, 1) := by decide +kernel
theorem dX10_look_67 : decode cX10_look 67 = .ok (.aload_n 3, 1) := by decide +kernel
theorem dX10_look_68 : decode cX10_look 68 = .ok (.getfield 179, 3) := by decide +kernel
theorem dX10_look_71 : decode cX10_look 71 = .ok (.ireturn, 1) := by decide +kernel
theorem dX10_look_72 : decode cX10_look 72 = .ok (.aload_n 3, 1) := by decide +kernel
theorem dX10_look_73 : decode cX10_look 73 = .ok (.getfield 182, 3) := by decide +kernel
theorem dX10_look_76 : decode cX10_look 76 = .ok (.ireturn, 1) := by decide +kernel
theorem dX10_look_77 : decode cX10_look 77 = .ok (.iconst (-1), 1) := by decide +kernel
theorem dX10_look_78 : decode cX10_look 78 = .ok (.ireturn, 1) := by decide +kernel
theorem dX10_ring_0 : decode cX10_ring 0 = .ok (.iload_n 1, 1) := by decide +kernel
theorem dX10_ring_1 : decode cX10_ring 1 = .ok (.bipush 12, 2) := by decide +kernel
theorem dX10_ring_3 : decode cX10_ring 3 = .ok (.if_icmp .lt 17, 3) := by decide +kernel
theorem dX10_ring_6 : decode cX10_ring 6 = .ok (.iload_n 1, 1) := by decide +kernel
theorem dX10_ring_7 : decode cX10_ring 7 = .ok (.bipush 60, 2) := by decide +kernel
theorem dX10_ring_9 : decode cX10_ring 9 = .ok (.if_icmp .gt 11, 3) := by decide +kernel
theorem dX10_ring_12 : decode cX10_ring 12 = .ok (.aload_n 0, 1) := by decide +kernel
theorem dX10_ring_13 : decode cX10_ring 13 = .ok (.getfield 69, 3) := by decide +kernel
theorem dX10_ring_16 : decode cX10_ring 16 = .ok (.iconst 4, 1) := by decide +kernel
theorem dX10_ring_17 : decode cX10_ring 17 = .ok (.if_icmp .ne 5, 3) := by decide +kernel
theorem dX10_ring_20 : decode cX10_ring 20 = .ok (.iconst 0, 1) := by decide +kernel
theorem dX10_ring_21 : decode cX10_ring 21 = .ok (.ireturn, 1) := by decide +kernel
theorem dX10_ring_22 : decode cX10_ring 22 = .ok (.aload_n 0, 1) := by decide +kernel
theorem dX10_ring_23 : decode cX10_ring 23 = .ok (.getfield 47, 3) := by decide +kernel
theorem dX10_ring_26 : decode cX10_ring 26 = .ok (.iload_n 1, 1) := by decide +kernel
theorem dX10_ring_27 : decode cX10_ring 27 = .ok (.invokevirtual 185, 3) := by decide +kernel
theorem dX10_ring_30 : decode cX10_ring 30 = .ok (.iconst 1, 1) := by decide +kernel
theorem dX10_ring_31 : decode cX10_ring 31 = .ok (.ireturn, 1) := by decide +kernel
theorem dX10_bend_0 : decode cX10_bend 0 = .ok (.iload_n 1, 1) := by decide +kernel
theorem dX10_bend_1 : decode cX10_bend 1 = .ok (.ifCond .lt 22, 3) := by decide +kernel
theorem dX10_bend_4 : decode cX10_bend 4 = .ok (.iload_n 1, 1) := by decide +kernel
theorem dX10_bend_5 : decode cX10_bend 5 = .ok (.aload_n 0, 1) := by decide +kernel
theorem dX10_bend_6 : decode cX10_bend 6 = .ok (.getfield 47, 3) := by decide +kernel
theorem dX10_bend_9 : decode cX10_bend 9 = .ok (.getfield 188, 3) := by decide +kernel
theorem dX10_bend_12 : decode cX10_bend 12 = .ok (.if_icmp .ge 11, 3) := by decide +kernel
theorem dX10_bend_15 : decode cX10_bend 15 = .ok (.aload_n 0, 1) := by decide +kernel
theorem dX10_bend_16 : decode cX10_bend 16 = .ok (.getfield 69, 3) := by decide +kernel
theorem dX10_bend_19 : decode cX10_bend 19 = .ok (.iconst 4, 1) := by decide +kernel
theorem dX10_bend_20 : decode cX10_bend 20 = .ok (.if_icmp .ne 5, 3) := by decide +kernel
theorem dX10_bend_23 : decode cX10_bend 23 = .ok (.iconst 0, 1) := by decide +kernel
theorem dX10_bend_24 : decode cX10_bend 24 = .ok (.ireturn, 1) := by decide +kernel
theorem dX10_bend_25 : decode cX10_bend 25 = .ok (.aload_n 0, 1) := by decide +kernel
theorem dX10_bend_26 : decode cX10_bend 26 = .ok (.getfield 47, 3) := by decide +kernel
theorem dX10_bend_29 : decode cX10_bend 29 = .ok (.getfield 191, 3) := by decide +kernel
theorem dX10_bend_32 : decode cX10_bend 32 = .ok (.iload_n 1, 1) := by decide +kernel
theorem dX10_bend_33 : decode cX10_bend 33 = .ok (.iload_n 2, 1) := by decide +kernel
theorem dX10_bend_34 : decode cX10_bend 34 = .ok (.bastore, 1) := by decide +kernel
theorem dX10_bend_35 : decode cX10_bend 35 = .ok (.iconst 1, 1) := by decide +kernel
theorem dX10_bend_36 : decode cX10_bend 36 = .ok (.ireturn, 1) := by decide +kernel
theorem dX10_orders_0 : decode cX10_orders 0 = .ok (.aload_n 0, 1) := by decide +kernel
theorem dX10_orders_1 : decode cX10_orders 1 = .ok (.getfield 26, 3) := by decide +kernel
theorem dX10_orders_4 : decode cX10_orders 4 = .ok (.iload_n 1, 1) := by decide +kernel
theorem dX10_orders_5 : decode cX10_orders 5 = .ok (.invokevirtual 194, 3) := by decide +kernel
theorem dX10_orders_8 : decode cX10_orders 8 = .ok (.ifCond .eq 12, 3) := by decide +kernel
theorem dX10_orders_11 : decode cX10_orders 11 = .ok (.iload_n 2, 1) := by decide +kernel
theorem dX10_orders_12 : decode cX10_orders 12 = .ok (.ifCond .lt 8, 3) := by decide +kernel
theorem dX10_orders_15 : decode cX10_orders 15 = .ok (.iload_n 2, 1) := by decide +kernel
theorem dX10_orders_16 : decode cX10_orders 16 = .ok (.iconst 2, 1) := by decide +kernel
theorem dX10_orders_17 : decode cX10_orders 17 = .ok (.if_icmp .le 5, 3) := by decide +kernel
theorem dX10_orders_20 : decode cX10_orders 20 = .ok (.iconst 0, 1) := by decide +kernel
theorem dX10_orders_21 : decode cX10_orders 21 = .ok (.ireturn, 1) := by decide +kernel
theorem dX10_orders_22 : decode cX10_orders 22 = .ok (.iload_n 2, 1) := by decide +kernel
theorem dX10_orders_23 : decode cX10_orders 23 = .ok (.ifCond .eq 21, 3) := by decide +kernel
theorem dX10_orders_26 : decode cX10_orders 26 = .ok (.aload_n 0, 1) := by decide +kernel
theorem dX10_orders_27 : decode cX10_orders 27 = .ok (.getfield 26, 3) := by decide +kernel
theorem dX10_orders_30 : decode cX10_orders 30 = .ok (.iload_n 3, 1) := by decide +kernel
theorem dX10_orders_31 : decode cX10_orders 31 = .ok (.invokevirtual 194, 3) := by decide +kernel
theorem dX10_orders_34 : decode cX10_orders 34 = .ok (.ifCond .eq 8, 3) := by decide +kernel
theorem dX10_orders_37 : decode cX10_orders 37 = .ok (.iload_n 3, 1) := by decide +kernel
theorem dX10_orders_38 : decode cX10_orders 38 = .ok (.iload_n 1, 1) := by decide +kernel
theorem dX10_orders_39 : decode cX10_orders 39 = .ok (.if_icmp .ne 5, 3) := by decide +kernel
theorem dX10_orders_42 : decode cX10_orders 42 = .ok (.iconst 0, 1) := by decide +kernel
theorem dX10_orders_43 : decode cX10_orders 43 = .ok (.ireturn, 1) := by decide +kernel
theorem dX10_orders_44 : decode cX10_orders 44 = .ok (.aload_n 0, 1) := by decide +kernel
theorem dX10_orders_45 : decode cX10_orders 45 = .ok (.getfield 47, 3) := by decide +kernel
theorem dX10_orders_48 : decode cX10_orders 48 = .ok (.getfield 195, 3) := by decide +kernel
theorem dX10_orders_51 : decode cX10_orders 51 = .ok (.iload_n 1, 1) := by decide +kernel
theorem dX10_orders_52 : decode cX10_orders 52 = .ok (.iload_n 2, 1) := by decide +kernel
theorem dX10_orders_53 : decode cX10_orders 53 = .ok (.iastore, 1) := by decide +kernel
theorem dX10_orders_54 : decode cX10_orders 54 = .ok (.aload_n 0, 1) := by decide +kernel
theorem dX10_orders_55 : decode cX10_orders 55 = .ok (.getfield 47, 3) := by decide +kernel
theorem dX10_orders_58 : decode cX10_orders 58 = .ok (.getfield 198, 3) := by decide +kernel
theorem dX10_orders_61 : decode cX10_orders 61 = .ok (.iload_n 1, 1) := by decide +kernel
theorem dX10_orders_62 : decode cX10_orders 62 = .ok (.iload_n 3, 1) := by decide +kernel
theorem dX10_orders_63 : decode cX10_orders 63 = .ok (.iastore, 1) := by decide +kernel
theorem dX10_orders_64 : decode cX10_orders 64 = .ok (.iconst 1, 1) := by decide +kernel
theorem dX10_orders_65 : decode cX10_orders 65 = .ok (.ireturn, 1) := by decide +kernel
theorem dX10_seen_0 : decode cX10_seen 0 = .ok (.aload_n 0, 1) := by decide +kernel
theorem dX10_seen_1 : decode cX10_seen 1 = .ok (.getfield 69, 3) := by decide +kernel
theorem dX10_seen_4 : decode cX10_seen 4 = .ok (.iconst 3, 1) := by decide +kernel
theorem dX10_seen_5 : decode cX10_seen 5 = .ok (.if_icmp .ne 29, 3) := by decide +kernel
theorem dX10_seen_8 : decode cX10_seen 8 = .ok (.iload_n 1, 1) := by decide +kernel
theorem dX10_seen_9 : decode cX10_seen 9 = .ok (.ifCond .lt 25, 3) := by decide +kernel
theorem dX10_seen_12 : decode cX10_seen 12 = .ok (.iload_n 1, 1) := by decide +kernel
theorem dX10_seen_13 : decode cX10_seen 13 = .ok (.aload_n 0, 1) := by decide +kernel
theorem dX10_seen_14 : decode cX10_seen 14 = .ok (.getfield 40, 3) := by decide +kernel
theorem dX10_seen_17 : decode cX10_seen 17 = .ok (.getfield 141, 3) := by decide +kernel
theorem dX10_seen_20 : decode cX10_seen 20 = .ok (.if_icmp .ge 14, 3) := by decide +kernel
theorem dX10_seen_23 : decode cX10_seen 23 = .ok (.aload_n 0, 1) := by decide +kernel
theorem dX10_seen_24 : decode cX10_seen 24 = .ok (.getfield 26, 3) := by decide +kernel
theorem dX10_seen_27 : decode cX10_seen 27 = .ok (.iload_n 2, 1) := by decide +kernel
theorem dX10_seen_28 : decode cX10_seen 28 = .ok (.invokevirtual 201, 3) := by decide +kernel
theorem dX10_seen_31 : decode cX10_seen 31 = .ok (.ifCond .ne 5, 3) := by decide +kernel
theorem dX10_seen_34 : decode cX10_seen 34 = .ok (.iconst 0, 1) := by decide +kernel
theorem dX10_seen_35 : decode cX10_seen 35 = .ok (.ireturn, 1) := by decide +kernel
theorem dX10_seen_36 : decode cX10_seen 36 = .ok (.aload_n 0, 1) := by decide +kernel
theorem dX10_seen_37 : decode cX10_seen 37 = .ok (.getfield 40, 3) := by decide +kernel
theorem dX10_seen_40 : decode cX10_seen 40 = .ok (.getfield 204, 3) := by decide +kernel
theorem dX10_seen_43 : decode cX10_seen 43 = .ok (.iload_n 1, 1) := by decide +kernel
theorem dX10_seen_44 : decode cX10_seen 44 = .ok (.iload_n 2, 1) := by decide +kernel
theorem dX10_seen_45 : decode cX10_seen 45 = .ok (.iastore, 1) := by decide +kernel
theorem dX10_seen_46 : decode cX10_seen 46 = .ok (.iconst 1, 1) := by decide +kernel
theorem dX10_seen_47 : decode cX10_seen 47 = .ok (.ireturn, 1) := by decide +kernel
theorem dX10_drop_0 : decode cX10_drop 0 = .ok (.aload_n 0, 1) := by decide +kernel
theorem dX10_drop_1 : decode cX10_drop 1 = .ok (.getfield 69, 3) := by decide +kernel
theorem dX10_drop_4 : decode cX10_drop 4 = .ok (.iconst 3, 1) := by decide +kernel
theorem dX10_drop_5 : decode cX10_drop 5 = .ok (.if_icmp .eq 6, 3) := by decide +kernel
theorem dX10_drop_8 : decode cX10_drop 8 = .ok (.bipush (-100), 2) := by decide +kernel
theorem dX10_drop_10 : decode cX10_drop 10 = .ok (.ireturn, 1) := by decide +kernel
theorem dX10_drop_11 : decode cX10_drop 11 = .ok (.aload_n 0, 1) := by decide +kernel
theorem dX10_drop_12 : decode cX10_drop 12 = .ok (.getfield 40, 3) := by decide +kernel
theorem dX10_drop_15 : decode cX10_drop 15 = .ok (.invokevirtual 207, 3) := by decide +kernel
theorem dX10_drop_18 : decode cX10_drop 18 = .ok (.istore_n 2, 1) := by decide +kernel
theorem dX10_drop_19 : decode cX10_drop 19 = .ok (.iload_n 2, 1) := by decide +kernel
theorem dX10_drop_20 : decode cX10_drop 20 = .ok (.aload_n 0, 1) := by decide +kernel
theorem dX10_drop_21 : decode cX10_drop 21 = .ok (.getfield 19, 3) := by decide +kernel
theorem dX10_drop_24 : decode cX10_drop 24 = .ok (.iconst 5, 1) := by decide +kernel
theorem dX10_drop_25 : decode cX10_drop 25 = .ok (.aload_n 0, 1) := by decide +kernel
theorem dX10_drop_26 : decode cX10_drop 26 = .ok (.getfield 65, 3) := by decide +kernel
theorem dX10_drop_29 : decode cX10_drop 29 = .ok (.invokevirtual 103, 3) := by decide +kernel
theorem dX10_drop_32 : decode cX10_drop 32 = .ok (.if_icmp .le 49, 3) := by decide +kernel
theorem dX10_drop_35 : decode cX10_drop 35 = .ok (.aload_n 0, 1) := by decide +kernel
theorem dX10_drop_36 : decode cX10_drop 36 = .ok (.getfield 40, 3) := by decide +kernel
theorem dX10_drop_39 : decode cX10_drop 39 = .ok (.aload_n 0, 1) := by decide +kernel
theorem dX10_drop_40 : decode cX10_drop 40 = .ok (.getfield 26, 3) := by decide +kernel
theorem dX10_drop_43 : decode cX10_drop 43 = .ok (.invokevirtual 210, 3) := by decide +kernel
theorem dX10_drop_46 : decode cX10_drop 46 = .ok (.aload_n 0, 1) := by decide +kernel
theorem dX10_drop_47 : decode cX10_drop 47 = .ok (.getfield 40, 3) := by decide +kernel
theorem dX10_drop_50 : decode cX10_drop 50 = .ok (.invokevirtual 213, 3) := by decide +kernel
theorem dX10_drop_53 : decode cX10_drop 53 = .ok (.aload_n 0, 1) := by decide +kernel
theorem dX10_drop_54 : decode cX10_drop 54 = .ok (.getfield 40, 3) := by decide +kernel
theorem dX10_drop_57 : decode cX10_drop 57 = .ok (.aload_n 0, 1) := by decide +kernel
theorem dX10_drop_58 : decode cX10_drop 58 = .ok (.getfield 26, 3) := by decide +kernel
theorem dX10_drop_61 : decode cX10_drop 61 = .ok (.aload_n 0, 1) := by decide +kernel
theorem dX10_drop_62 : decode cX10_drop 62 = .ok (.getfield 19, 3) := by decide +kernel
theorem dX10_drop_65 : decode cX10_drop 65 = .ok (.bipush 6, 2) := by decide +kernel
theorem dX10_drop_67 : decode cX10_drop 67 = .ok (.aload_n 0, 1) := by decide +kernel
theorem dX10_drop_68 : decode cX10_drop 68 = .ok (.getfield 65, 3) := by decide +kernel
theorem dX10_drop_71 : decode cX10_drop 71 = .ok (.invokevirtual 103, 3) := by decide +kernel
theorem dX10_drop_74 : decode cX10_drop 74 = .ok (.invokevirtual 216, 3) := by decide +kernel
theorem dX10_drop_77 : decode cX10_drop 77 = .ok (.iconst (-1), 1) := by decide +kernel
theorem dX10_drop_78 : decode cX10_drop 78 = .ok (.iload_n 2, 1) := by decide +kernel
theorem dX10_drop_79 : decode cX10_drop 79 = .ok (.isub, 1) := by decide +kernel
theorem dX10_drop_80 : decode cX10_drop 80 = .ok (.ireturn, 1) := by decide +kernel
theorem dX10_drop_81 : decode cX10_drop 81 = .ok (.aload_n 0, 1) := by decide +kernel
theorem dX10_drop_82 : decode cX10_drop 82 = .ok (.iload_n 1, 1) := by decide +kernel
theorem dX10_drop_83 : decode cX10_drop 83 = .ok (.invokevirtual 220, 3) := by decide +kernel
theorem dX10_drop_86 : decode cX10_drop 86 = .ok (.iload_n 2, 1) := by decide +kernel
theorem dX10_drop_87 : decode cX10_drop 87 = .ok (.ireturn, 1) := by decide +kernel
theorem dX10_go_0 : decode cX10_go 0 = .ok (.aload_n 0, 1) := by decide +kernel
theorem dX10_go_1 : decode cX10_go 1 = .ok (.getfield 69, 3) := by decide +kernel
theorem dX10_go_4 : decode cX10_go 4 = .ok (.iconst 4, 1) := by decide +kernel
theorem dX10_go_5 : decode cX10_go 5 = .ok (.if_icmp .ne 15, 3) := by decide +kernel
theorem dX10_go_8 : decode cX10_go 8 = .ok (.iload_n 1, 1) := by decide +kernel
theorem dX10_go_9 : decode cX10_go 9 = .ok (.iconst 1, 1) := by decide +kernel
theorem dX10_go_10 : decode cX10_go 10 = .ok (.if_icmp .lt 10, 3) := by decide +kernel
theorem dX10_go_13 : decode cX10_go 13 = .ok (.iload_n 1, 1) := by decide +kernel
theorem dX10_go_14 : decode cX10_go 14 = .ok (.sipush 400, 3) := by decide +kernel
theorem dX10_go_17 : decode cX10_go 17 = .ok (.if_icmp .le 5, 3) := by decide +kernel
theorem dX10_go_20 : decode cX10_go 20 = .ok (.iconst (-1), 1) := by decide +kernel
theorem dX10_go_21 : decode cX10_go 21 = .ok (.ireturn, 1) := by decide +kernel
theorem dX10_go_22 : decode cX10_go 22 = .ok (.iconst 0, 1) := by decide +kernel
theorem dX10_go_23 : decode cX10_go 23 = .ok (.istore_n 2, 1) := by decide +kernel
theorem dX10_go_24 : decode cX10_go 24 = .ok (.iload_n 2, 1) := by decide +kernel
theorem dX10_go_25 : decode cX10_go 25 = .ok (.iload_n 1, 1) := by decide +kernel
theorem dX10_go_26 : decode cX10_go 26 = .ok (.if_icmp .ge 26, 3) := by decide +kernel
theorem dX10_go_29 : decode cX10_go 29 = .ok (.aload_n 0, 1) := by decide +kernel
theorem dX10_go_30 : decode cX10_go 30 = .ok (.getfield 47, 3) := by decide +kernel
theorem dX10_go_33 : decode cX10_go 33 = .ok (.invokevirtual 223, 3) := by decide +kernel
theorem dX10_go_36 : decode cX10_go 36 = .ok (.ifCond .ne 16, 3) := by decide +kernel
theorem dX10_go_39 : decode cX10_go 39 = .ok (.aload_n 0, 1) := by decide +kernel
theorem dX10_go_40 : decode cX10_go 40 = .ok (.getfield 47, 3) := by decide +kernel
theorem dX10_go_43 : decode cX10_go 43 = .ok (.invokevirtual 227, 3) := by decide +kernel
theorem dX10_go_46 : decode cX10_go 46 = .ok (.iinc 2 1, 3) := by decide +kernel
theorem dX10_go_49 : decode cX10_go 49 = .ok (.goto (-25), 3) := by decide +kernel
theorem dX10_go_52 : decode cX10_go 52 = .ok (.aload_n 0, 1) := by decide +kernel
theorem dX10_go_53 : decode cX10_go 53 = .ok (.getfield 47, 3) := by decide +kernel
theorem dX10_go_56 : decode cX10_go 56 = .ok (.invokevirtual 223, 3) := by decide +kernel
theorem dX10_go_59 : decode cX10_go 59 = .ok (.ifCond .eq 26, 3) := by decide +kernel
theorem dX10_go_62 : decode cX10_go 62 = .ok (.aload_n 0, 1) := by decide +kernel
theorem dX10_go_63 : decode cX10_go 63 = .ok (.getfield 54, 3) := by decide +kernel
theorem dX10_go_66 : decode cX10_go 66 = .ok (.aload_n 0, 1) := by decide +kernel
theorem dX10_go_67 : decode cX10_go 67 = .ok (.getfield 26, 3) := by decide +kernel
theorem dX10_go_70 : decode cX10_go 70 = .ok (.aload_n 0, 1) := by decide +kernel
theorem dX10_go_71 : decode cX10_go 71 = .ok (.getfield 47, 3) := by decide +kernel
theorem dX10_go_74 : decode cX10_go 74 = .ok (.getfield 230, 3) := by decide +kernel
theorem dX10_go_77 : decode cX10_go 77 = .ok (.invokevirtual 233, 3) := by decide +kernel
theorem dX10_go_80 : decode cX10_go 80 = .ok (.aload_n 0, 1) := by decide +kernel
theorem dX10_go_81 : decode cX10_go 81 = .ok (.iconst 5, 1) := by decide +kernel
theorem dX10_go_82 : decode cX10_go 82 = .ok (.putfield 69, 3) := by decide +kernel
theorem dX10_go_85 : decode cX10_go 85 = .ok (.iload_n 2, 1) := by decide +kernel
theorem dX10_go_86 : decode cX10_go 86 = .ok (.ireturn, 1) := by decide +kernel
theorem dX10_race_0 : decode cX10_race 0 = .ok (.aload_n 0, 1) := by decide +kernel
theorem dX10_race_1 : decode cX10_race 1 = .ok (.getfield 69, 3) := by decide +kernel
theorem dX10_race_4 : decode cX10_race 4 = .ok (.iconst 4, 1) := by decide +kernel
theorem dX10_race_5 : decode cX10_race 5 = .ok (.if_icmp .lt 14, 3) := by decide +kernel
theorem dX10_race_8 : decode cX10_race 8 = .ok (.aload_n 0, 1) := by decide +kernel
theorem dX10_race_9 : decode cX10_race 9 = .ok (.getfield 47, 3) := by decide +kernel
theorem dX10_race_12 : decode cX10_race 12 = .ok (.iload_n 1, 1) := by decide +kernel
theorem dX10_race_13 : decode cX10_race 13 = .ok (.invokevirtual 236, 3) := by decide +kernel
theorem dX10_race_16 : decode cX10_race 16 = .ok (.goto 4, 3) := by decide +kernel
theorem dX10_race_19 : decode cX10_race 19 = .ok (.aconst_null, 1) := by decide +kernel
theorem dX10_race_20 : decode cX10_race 20 = .ok (.astore_n 3, 1) := by decide +kernel
theorem dX10_race_21 : decode cX10_race 21 = .ok (.aload_n 3, 1) := by decide +kernel
theorem dX10_race_22 : decode cX10_race 22 = .ok (.ifnonnull 6, 3) := by decide +kernel
theorem dX10_race_25 : decode cX10_race 25 = .ok (.bipush (-100), 2) := by decide +kernel
theorem dX10_race_27 : decode cX10_race 27 = .ok (.ireturn, 1) := by decide +kernel
theorem dX10_race_28 : decode cX10_race 28 = .ok (.iload_n 2, 1) := by decide +kernel
theorem dX10_race_29 : decode cX10_race 29 = .ok (.tableswitch 77 0 5 #[39, 44, 49, 54, 67, 72], 39) := by decide +kernel
theorem dX10_race_68 : decode cX10_race 68 = .ok (.aload_n 3, 1) := by decide +kernel
theorem dX10_race_69 : decode cX10_race 69 = .ok (.getfield 239, 3) := by decide +kernel
theorem dX10_race_72 : decode cX10_race 72 = .ok (.ireturn, 1) := by decide +kernel
theorem dX10_race_73 : decode cX10_race 73 = .ok (.aload_n 3, 1) := by decide +kernel
theorem dX10_race_74 : decode cX10_race 74 = .ok (.getfield 244, 3) := by decide +kernel
theorem dX10_race_77 : decode cX10_race 77 = .ok (.ireturn, 1) := by decide +kernel
theorem dX10_race_78 : decode cX10_race 78 = .ok (.aload_n 3, 1) := by decide +kernel
theorem dX10_race_79 : decode cX10_race 79 = .ok (.getfield 247, 3) := by decide +kernel
theorem dX10_race_82 : decode cX10_race 82 = .ok (.ireturn, 1) := by decide +kernel
theorem dX10_race_83 : decode cX10_race 83 = .ok (.aload_n 3, 1) := by decide +kernel
theorem dX10_race_84 : decode cX10_race 84 = .ok (.getfield 250, 3) := by decide +kernel
theorem dX10_race_87 : decode cX10_race 87 = .ok (.ifCond .eq 7, 3) := by decide +kernel
theorem dX10_race_90 : decode cX10_race 90 = .ok (.iconst 1, 1) := by decide +kernel
theorem dX10_race_91 : decode cX10_race 91 = .ok (.goto 4, 3) := by decide +kernel
theorem dX10_race_94 : decode cX10_race 94 = .ok (.iconst 0, 1) := by decide +kernel
theorem dX10_race_95 : decode cX10_race 95 = .ok (.ireturn, 1) := by decide +kernel
theorem dX10_race_96 : decode cX10_race 96 = .ok (.aload_n 3, 1) := by decide +kernel
theorem dX10_race_97 : decode cX10_race 97 = .ok (.getfield 254, 3) := by decide +kernel
theorem dX10_race_100 : decode cX10_race 100 = .ok (.ireturn, 1) := by decide +kernel
theorem dX10_race_101 : decode cX10_race 101 = .ok (.aload_n 3, 1) := by decide +kernel
theorem dX10_race_102 : decode cX10_race 102 = .ok (.getfield 257, 3) := by decide +kernel
theorem dX10_race_105 : decode cX10_race 105 = .ok (.ireturn, 1) := by decide +kernel
theorem dX10_race_106 : decode cX10_race 106 = .ok (.bipush (-100), 2) := by decide +kernel
theorem dX10_race_108 : decode cX10_race 108 = .ok (.ireturn, 1) := by decide +kernel
theorem dX10_won_0 : decode cX10_won 0 = .ok (.aload_n 0, 1) := by decide +kernel
theorem dX10_won_1 : decode cX10_won 1 = .ok (.getfield 69, 3) := by decide +kernel
theorem dX10_won_4 : decode cX10_won 4 = .ok (.iconst 4, 1) := by decide +kernel
theorem dX10_won_5 : decode cX10_won 5 = .ok (.if_icmp .lt 13, 3) := by decide +kernel
theorem dX10_won_8 : decode cX10_won 8 = .ok (.aload_n 0, 1) := by decide +kernel
theorem dX10_won_9 : decode cX10_won 9 = .ok (.getfield 47, 3) := by decide +kernel
theorem dX10_won_12 : decode cX10_won 12 = .ok (.getfield 230, 3) := by decide +kernel
theorem dX10_won_15 : decode cX10_won 15 = .ok (.goto 4, 3) := by decide +kernel
theorem dX10_won_18 : decode cX10_won 18 = .ok (.iconst (-1), 1) := by decide +kernel
theorem dX10_won_19 : decode cX10_won 19 = .ok (.ireturn, 1) := by decide +kernel
theorem dX10_pact_0 : decode cX10_pact 0 = .ok (.aload_n 0, 1) := by decide +kernel
theorem dX10_pact_1 : decode cX10_pact 1 = .ok (.getfield 26, 3) := by decide +kernel
theorem dX10_pact_4 : decode cX10_pact 4 = .ok (.iload_n 1, 1) := by decide +kernel
theorem dX10_pact_5 : decode cX10_pact 5 = .ok (.invokevirtual 194, 3) := by decide +kernel
theorem dX10_pact_8 : decode cX10_pact 8 = .ok (.ifCond .eq 31, 3) := by decide +kernel
theorem dX10_pact_11 : decode cX10_pact 11 = .ok (.aload_n 0, 1) := by decide +kernel
theorem dX10_pact_12 : decode cX10_pact 12 = .ok (.getfield 26, 3) := by decide +kernel
theorem dX10_pact_15 : decode cX10_pact 15 = .ok (.iload_n 2, 1) := by decide +kernel
theorem dX10_pact_16 : decode cX10_pact 16 = .ok (.invokevirtual 194, 3) := by decide +kernel
theorem dX10_pact_19 : decode cX10_pact 19 = .ok (.ifCond .eq 20, 3) := by decide +kernel
theorem dX10_pact_22 : decode cX10_pact 22 = .ok (.iload_n 1, 1) := by decide +kernel
theorem dX10_pact_23 : decode cX10_pact 23 = .ok (.iload_n 2, 1) := by decide +kernel
theorem dX10_pact_24 : decode cX10_pact 24 = .ok (.if_icmp .eq 15, 3) := by decide +kernel
theorem dX10_pact_27 : decode cX10_pact 27 = .ok (.iload_n 3, 1) := by decide +kernel
theorem dX10_pact_28 : decode cX10_pact 28 = .ok (.iconst 1, 1) := by decide +kernel
theorem dX10_pact_29 : decode cX10_pact 29 = .ok (.if_icmp .lt 10, 3) := by decide +kernel
theorem dX10_pact_32 : decode cX10_pact 32 = .ok (.iload_n 3, 1) := by decide +kernel
theorem dX10_pact_33 : decode cX10_pact 33 = .ok (.sipush 9999, 3) := by decide +kernel
theorem dX10_pact_36 : decode cX10_pact 36 = .ok (.if_icmp .le 5, 3) := by decide +kernel
theorem dX10_pact_39 : decode cX10_pact 39 = .ok (.iconst (-1), 1) := by decide +kernel
theorem dX10_pact_40 : decode cX10_pact 40 = .ok (.ireturn, 1) := by decide +kernel
theorem dX10_pact_41 : decode cX10_pact 41 = .ok (.aload_n 0, 1) := by decide +kernel
theorem dX10_pact_42 : decode cX10_pact 42 = .ok (.getfield 54, 3) := by decide +kernel
theorem dX10_pact_45 : decode cX10_pact 45 = .ok (.iload_n 1, 1) := by decide +kernel
theorem dX10_pact_46 : decode cX10_pact 46 = .ok (.iload_n 2, 1) := by decide +kernel
theorem dX10_pact_47 : decode cX10_pact 47 = .ok (.iload_n 3, 1) := by decide +kernel
theorem dX10_pact_48 : decode cX10_pact 48 = .ok (.invokevirtual 260, 3) := by decide +kernel
theorem dX10_pact_51 : decode cX10_pact 51 = .ok (.ireturn, 1) := by decide +kernel
theorem dX10_punish_0 : decode cX10_punish 0 = .ok (.aload_n 0, 1) := by decide +kernel
theorem dX10_punish_1 : decode cX10_punish 1 = .ok (.getfield 26, 3) := by decide +kernel
theorem dX10_punish_4 : decode cX10_punish 4 = .ok (.iload_n 1, 1) := by decide +kernel
theorem dX10_punish_5 : decode cX10_punish 5 = .ok (.invokevirtual 164, 3) := by decide +kernel
theorem dX10_punish_8 : decode cX10_punish 8 = .ok (.astore_n 2, 1) := by decide +kernel
theorem dX10_punish_9 : decode cX10_punish 9 = .ok (.aload_n 0, 1) := by decide +kernel
theorem dX10_punish_10 : decode cX10_punish 10 = .ok (.getfield 69, 3) := by decide +kernel
theorem dX10_punish_13 : decode cX10_punish 13 = .ok (.iconst 5, 1) := by decide +kernel
theorem dX10_punish_14 : decode cX10_punish 14 = .ok (.if_icmp .ne 14, 3) := by decide +kernel
theorem dX10_punish_17 : decode cX10_punish 17 = .ok (.aload_n 2, 1) := by decide +kernel
theorem dX10_punish_18 : decode cX10_punish 18 = .ok (.ifnull 10, 3) := by decide +kernel
theorem dX10_punish_21 : decode cX10_punish 21 = .ok (.aload_n 2, 1) := by decide +kernel
theorem dX10_punish_22 : decode cX10_punish 22 = .ok (.getfield 264, 3) := by decide +kernel
theorem dX10_punish_25 : decode cX10_punish 25 = .ok (.ifCond .ne 6, 3) := by decide +kernel
theorem dX10_punish_28 : decode cX10_punish 28 = .ok (.bipush (-2), 2) := by decide +kernel
theorem dX10_punish_30 : decode cX10_punish 30 = .ok (.ireturn, 1) := by decide +kernel
theorem dX10_punish_31 : decode cX10_punish 31 = .ok (.aload_n 0, 1) := by decide +kernel
theorem dX10_punish_32 : decode cX10_punish 32 = .ok (.getfield 19, 3) := by decide +kernel
theorem dX10_punish_35 : decode cX10_punish 35 = .ok (.iconst 4, 1) := by decide +kernel
theorem dX10_punish_36 : decode cX10_punish 36 = .ok (.aload_n 0, 1) := by decide +kernel
theorem dX10_punish_37 : decode cX10_punish 37 = .ok (.getfield 65, 3) := by decide +kernel
theorem dX10_punish_40 : decode cX10_punish 40 = .ok (.invokevirtual 103, 3) := by decide +kernel
theorem dX10_punish_43 : decode cX10_punish 43 = .ok (.istore_n 3, 1) := by decide +kernel
theorem dX10_punish_44 : decode cX10_punish 44 = .ok (.iload_n 3, 1) := by decide +kernel
theorem dX10_punish_45 : decode cX10_punish 45 = .ok (.ifCond .le 20, 3) := by decide +kernel
theorem dX10_punish_48 : decode cX10_punish 48 = .ok (.aload_n 2, 1) := by decide +kernel
theorem dX10_punish_49 : decode cX10_punish 49 = .ok (.aload_n 2, 1) := by decide +kernel
theorem dX10_punish_50 : decode cX10_punish 50 = .ok (.getfield 176, 3) := by decide +kernel
theorem dX10_punish_53 : decode cX10_punish 53 = .ok (.aload_n 0, 1) := by decide +kernel
theorem dX10_punish_54 : decode cX10_punish 54 = .ok (.getfield 65, 3) := by decide +kernel
theorem dX10_punish_57 : decode cX10_punish 57 = .ok (.iload_n 3, 1) := by decide +kernel
theorem dX10_punish_58 : decode cX10_punish 58 = .ok (.iadd, 1) := by decide +kernel
theorem dX10_punish_59 : decode cX10_punish 59 = .ok (.invokestatic 266, 3) := by decide +kernel
theorem dX10_punish_62 : decode cX10_punish 62 = .ok (.putfield 176, 3) := by decide +kernel
theorem dX10_punish_65 : decode cX10_punish 65 = .ok (.aload_n 2, 1) := by decide +kernel
theorem dX10_punish_66 : decode cX10_punish 66 = .ok (.getfield 176, 3) := by decide +kernel
theorem dX10_punish_69 : decode cX10_punish 69 = .ok (.ireturn, 1) := by decide +kernel
theorem dX10_next_0 : decode cX10_next 0 = .ok (.aload_n 0, 1) := by decide +kernel
theorem dX10_next_1 : decode cX10_next 1 = .ok (.getfield 69, 3) := by decide +kernel
theorem dX10_next_4 : decode cX10_next 4 = .ok (.iconst 4, 1) := by decide +kernel
theorem dX10_next_5 : decode cX10_next 5 = .ok (.if_icmp .eq 12, 3) := by decide +kernel
theorem dX10_next_8 : decode cX10_next 8 = .ok (.aload_n 0, 1) := by decide +kernel
theorem dX10_next_9 : decode cX10_next 9 = .ok (.getfield 65, 3) := by decide +kernel
theorem dX10_next_12 : decode cX10_next 12 = .ok (.bipush 99, 2) := by decide +kernel
theorem dX10_next_14 : decode cX10_next 14 = .ok (.if_icmp .lt 5, 3) := by decide +kernel
theorem dX10_next_17 : decode cX10_next 17 = .ok (.iconst (-1), 1) := by decide +kernel
theorem dX10_next_18 : decode cX10_next 18 = .ok (.ireturn, 1) := by decide +kernel
theorem dX10_next_19 : decode cX10_next 19 = .ok (.aload_n 0, 1) := by decide +kernel
theorem dX10_next_20 : decode cX10_next 20 = .ok (.dup, 1) := by decide +kernel
theorem dX10_next_21 : decode cX10_next 21 = .ok (.getfield 65, 3) := by decide +kernel
theorem dX10_next_24 : decode cX10_next 24 = .ok (.iconst 1, 1) := by decide +kernel
theorem dX10_next_25 : decode cX10_next 25 = .ok (.iadd, 1) := by decide +kernel
theorem dX10_next_26 : decode cX10_next 26 = .ok (.putfield 65, 3) := by decide +kernel
theorem dX10_next_29 : decode cX10_next 29 = .ok (.aload_n 0, 1) := by decide +kernel
theorem dX10_next_30 : decode cX10_next 30 = .ok (.iconst 0, 1) := by decide +kernel
theorem dX10_next_31 : decode cX10_next 31 = .ok (.putfield 69, 3) := by decide +kernel
theorem dX10_next_34 : decode cX10_next 34 = .ok (.aload_n 0, 1) := by decide +kernel
theorem dX10_next_35 : decode cX10_next 35 = .ok (.getfield 26, 3) := by decide +kernel
theorem dX10_next_38 : decode cX10_next 38 = .ok (.invokevirtual 269, 3) := by decide +kernel
theorem dX10_next_41 : decode cX10_next 41 = .ok (.aload_n 0, 1) := by decide +kernel
theorem dX10_next_42 : decode cX10_next 42 = .ok (.getfield 65, 3) := by decide +kernel
theorem dX10_next_45 : decode cX10_next 45 = .ok (.ireturn, 1) := by decide +kernel
theorem dX10_count_0 : decode cX10_count 0 = .ok (.iload_n 1, 1) := by decide +kernel
theorem dX10_count_1 : decode cX10_count 1 = .ok (.tableswitch 117 0 7 #[47, 52, 57, 77, 85, 93, 101, 109], 47) := by decide +kernel
theorem dX10_count_48 : decode cX10_count 48 = .ok (.aload_n 0, 1) := by decide +kernel
theorem dX10_count_49 : decode cX10_count 49 = .ok (.getfield 65, 3) := by decide +kernel
theorem dX10_count_52 : decode cX10_count 52 = .ok (.ireturn, 1) := by decide +kernel
theorem dX10_count_53 : decode cX10_count 53 = .ok (.aload_n 0, 1) := by decide +kernel
theorem dX10_count_54 : decode cX10_count 54 = .ok (.getfield 69, 3) := by decide +kernel
theorem dX10_count_57 : decode cX10_count 57 = .ok (.ireturn, 1) := by decide +kernel
theorem dX10_count_58 : decode cX10_count 58 = .ok (.aload_n 0, 1) := by decide +kernel
theorem dX10_count_59 : decode cX10_count 59 = .ok (.getfield 69, 3) := by decide +kernel
theorem dX10_count_62 : decode cX10_count 62 = .ok (.iconst 4, 1) := by decide +kernel
theorem dX10_count_63 : decode cX10_count 63 = .ok (.if_icmp .lt 13, 3) := by decide +kernel
theorem dX10_count_66 : decode cX10_count 66 = .ok (.aload_n 0, 1) := by decide +kernel
theorem dX10_count_67 : decode cX10_count 67 = .ok (.getfield 47, 3) := by decide +kernel
theorem dX10_count_70 : decode cX10_count 70 = .ok (.getfield 272, 3) := by decide +kernel
theorem dX10_count_73 : decode cX10_count 73 = .ok (.goto 4, 3) := by decide +kernel
theorem dX10_count_76 : decode cX10_count 76 = .ok (.iconst 0, 1) := by decide +kernel
theorem dX10_count_77 : decode cX10_count 77 = .ok (.ireturn, 1) := by decide +kernel
theorem dX10_count_78 : decode cX10_count 78 = .ok (.aload_n 0, 1) := by decide +kernel
theorem dX10_count_79 : decode cX10_count 79 = .ok (.getfield 26, 3) := by decide +kernel
theorem dX10_count_82 : decode cX10_count 82 = .ok (.getfield 275, 3) := by decide +kernel
theorem dX10_count_85 : decode cX10_count 85 = .ok (.ireturn, 1) := by decide +kernel
theorem dX10_count_86 : decode cX10_count 86 = .ok (.aload_n 0, 1) := by decide +kernel
theorem dX10_count_87 : decode cX10_count 87 = .ok (.getfield 33, 3) := by decide +kernel
theorem dX10_count_90 : decode cX10_count 90 = .ok (.getfield 278, 3) := by decide +kernel
theorem dX10_count_93 : decode cX10_count 93 = .ok (.ireturn, 1) := by decide +kernel
theorem dX10_count_94 : decode cX10_count 94 = .ok (.aload_n 0, 1) := by decide +kernel
theorem dX10_count_95 : decode cX10_count 95 = .ok (.getfield 54, 3) := by decide +kernel
theorem dX10_count_98 : decode cX10_count 98 = .ok (.getfield 279, 3) := by decide +kernel
theorem dX10_count_101 : decode cX10_count 101 = .ok (.ireturn, 1) := by decide +kernel
theorem dX10_count_102 : decode cX10_count 102 = .ok (.aload_n 0, 1) := by decide +kernel
theorem dX10_count_103 : decode cX10_count 103 = .ok (.getfield 19, 3) := by decide +kernel
theorem dX10_count_106 : decode cX10_count 106 = .ok (.getfield 83, 3) := by decide +kernel
theorem dX10_count_109 : decode cX10_count 109 = .ok (.ireturn, 1) := by decide +kernel
theorem dX10_count_110 : decode cX10_count 110 = .ok (.aload_n 0, 1) := by decide +kernel
theorem dX10_count_111 : decode cX10_count 111 = .ok (.getfield 47, 3) := by decide +kernel
theorem dX10_count_114 : decode cX10_count 114 = .ok (.getfield 188, 3) := by decide +kernel
theorem dX10_count_117 : decode cX10_count 117 = .ok (.ireturn, 1) := by decide +kernel
theorem dX10_count_118 : decode cX10_count 118 = .ok (.iconst (-1), 1) := by decide +kernel
theorem dX10_count_119 : decode cX10_count 119 = .ok (.ireturn, 1) := by decide +kernel
theorem dX10_isYear_0 : decode cX10_isYear 0 = .ok (.iload_n 0, 1) := by decide +kernel
theorem dX10_isYear_1 : decode cX10_isYear 1 = .ok (.ifCond .lt 13, 3) := by decide +kernel
theorem dX10_isYear_4 : decode cX10_isYear 4 = .ok (.iload_n 0, 1) := by decide +kernel
theorem dX10_isYear_5 : decode cX10_isYear 5 = .ok (.bipush 99, 2) := by decide +kernel
theorem dX10_isYear_7 : decode cX10_isYear 7 = .ok (.if_icmp .gt 7, 3) := by decide +kernel
theorem dX10_isYear_10 : decode cX10_isYear 10 = .ok (.iconst 1, 1) := by decide +kernel
theorem dX10_isYear_11 : decode cX10_isYear 11 = .ok (.goto 4, 3) := by decide +kernel
theorem dX10_isYear_14 : decode cX10_isYear 14 = .ok (.iconst 0, 1) := by decide +kernel
theorem dX10_isYear_15 : decode cX10_isYear 15 = .ok (.ireturn, 1) := by decide +kernel
theorem dX10_startRace_0 : decode cX10_startRace 0 = .ok (.aload_n 0, 1) := by decide +kernel
theorem dX10_startRace_1 : decode cX10_startRace 1 = .ok (.getfield 47, 3) := by decide +kernel
theorem dX10_startRace_4 : decode cX10_startRace 4 = .ok (.iload_n 1, 1) := by decide +kernel
theorem dX10_startRace_5 : decode cX10_startRace 5 = .ok (.invokevirtual 280, 3) := by decide +kernel
theorem dX10_startRace_8 : decode cX10_startRace 8 = .ok (.aload_n 0, 1) := by decide +kernel
theorem dX10_startRace_9 : decode cX10_startRace 9 = .ok (.getfield 47, 3) := by decide +kernel
theorem dX10_startRace_12 : decode cX10_startRace 12 = .ok (.aload_n 0, 1) := by decide +kernel
theorem dX10_startRace_13 : decode cX10_startRace 13 = .ok (.getfield 19, 3) := by decide +kernel
theorem dX10_startRace_16 : decode cX10_startRace 16 = .ok (.iconst 1, 1) := by decide +kernel
theorem dX10_startRace_17 : decode cX10_startRace 17 = .ok (.aload_n 0, 1) := by decide +kernel
theorem dX10_startRace_18 : decode cX10_startRace 18 = .ok (.getfield 65, 3) := by decide +kernel
theorem dX10_startRace_21 : decode cX10_startRace 21 = .ok (.invokevirtual 103, 3) := by decide +kernel
theorem dX10_startRace_24 : decode cX10_startRace 24 = .ok (.aload_n 0, 1) := by decide +kernel
theorem dX10_startRace_25 : decode cX10_startRace 25 = .ok (.getfield 19, 3) := by decide +kernel
theorem dX10_startRace_28 : decode cX10_startRace 28 = .ok (.iconst 2, 1) := by decide +kernel
theorem dX10_startRace_29 : decode cX10_startRace 29 = .ok (.aload_n 0, 1) := by decide +kernel
theorem dX10_startRace_30 : decode cX10_startRace 30 = .ok (.getfield 65, 3) := by decide +kernel
theorem dX10_startRace_33 : decode cX10_startRace 33 = .ok (.invokevirtual 103, 3) := by decide +kernel
theorem dX10_startRace_36 : decode cX10_startRace 36 = .ok (.aload_n 0, 1) := by decide +kernel
theorem dX10_startRace_37 : decode cX10_startRace 37 = .ok (.getfield 19, 3) := by decide +kernel
theorem dX10_startRace_40 : decode cX10_startRace 40 = .ok (.iconst 3, 1) := by decide +kernel
theorem dX10_startRace_41 : decode cX10_startRace 41 = .ok (.aload_n 0, 1) := by decide +kernel
theorem dX10_startRace_42 : decode cX10_startRace 42 = .ok (.getfield 65, 3) := by decide +kernel
theorem dX10_startRace_45 : decode cX10_startRace 45 = .ok (.invokevirtual 103, 3) := by decide +kernel
theorem dX10_startRace_48 : decode cX10_startRace 48 = .ok (.invokevirtual 281, 3) := by decide +kernel
theorem dX10_startRace_51 : decode cX10_startRace 51 = .ok (.iconst 0, 1) := by decide +kernel
theorem dX10_startRace_52 : decode cX10_startRace 52 = .ok (.istore_n 2, 1) := by decide +kernel
theorem dX10_startRace_53 : decode cX10_startRace 53 = .ok (.iload_n 2, 1) := by decide +kernel
theorem dX10_startRace_54 : decode cX10_startRace 54 = .ok (.aload_n 0, 1) := by decide +kernel
theorem dX10_startRace_55 : decode cX10_startRace 55 = .ok (.getfield 40, 3) := by decide +kernel
theorem dX10_startRace_58 : decode cX10_startRace 58 = .ok (.getfield 141, 3) := by decide +kernel
theorem dX10_startRace_61 : decode cX10_startRace 61 = .ok (.if_icmp .ge 65, 3) := by decide +kernel
theorem dX10_startRace_64 : decode cX10_startRace 64 = .ok (.aload_n 0, 1) := by decide +kernel
theorem dX10_startRace_65 : decode cX10_startRace 65 = .ok (.getfield 26, 3) := by decide +kernel
theorem dX10_startRace_68 : decode cX10_startRace 68 = .ok (.aload_n 0, 1) := by decide +kernel
theorem dX10_startRace_69 : decode cX10_startRace 69 = .ok (.getfield 40, 3) := by decide +kernel
theorem dX10_startRace_72 : decode cX10_startRace 72 = .ok (.getfield 161, 3) := by decide +kernel
theorem dX10_startRace_75 : decode cX10_startRace 75 = .ok (.iload_n 2, 1) := by decide +kernel
theorem dX10_startRace_76 : decode cX10_startRace 76 = .ok (.iaload, 1) := by decide +kernel
theorem dX10_startRace_77 : decode cX10_startRace 77 = .ok (.invokevirtual 164, 3) := by decide +kernel
theorem dX10_startRace_80 : decode cX10_startRace 80 = .ok (.astore_n 3, 1) := by decide +kernel
theorem dX10_startRace_81 : decode cX10_startRace 81 = .ok (.aload_n 3, 1) := by decide +kernel
theorem dX10_startRace_82 : decode cX10_startRace 82 = .ok (.ifnull 38, 3) := by decide +kernel
theorem dX10_startRace_85 : decode cX10_startRace 85 = .ok (.aload_n 0, 1) := by decide +kernel
theorem dX10_startRace_86 : decode cX10_startRace 86 = .ok (.getfield 47, 3) := by decide +kernel
theorem dX10_startRace_89 : decode cX10_startRace 89 = .ok (.aload_n 0, 1) := by decide +kernel
theorem dX10_startRace_90 : decode cX10_startRace 90 = .ok (.getfield 40, 3) := by decide +kernel
theorem dX10_startRace_93 : decode cX10_startRace 93 = .ok (.getfield 161, 3) := by decide +kernel
theorem dX10_startRace_96 : decode cX10_startRace 96 = .ok (.iload_n 2, 1) := by decide +kernel
theorem dX10_startRace_97 : decode cX10_startRace 97 = .ok (.iaload, 1) := by decide +kernel
theorem dX10_startRace_98 : decode cX10_startRace 98 = .ok (.aload_n 0, 1) := by decide +kernel
theorem dX10_startRace_99 : decode cX10_startRace 99 = .ok (.getfield 33, 3) := by decide +kernel
theorem dX10_startRace_102 : decode cX10_startRace 102 = .ok (.aload_n 3, 1) := by decide +kernel
theorem dX10_startRace_103 : decode cX10_startRace 103 = .ok (.getfield 168, 3) := by decide +kernel
theorem dX10_startRace_106 : decode cX10_startRace 106 = .ok (.invokevirtual 285, 3) := by decide +kernel
theorem dX10_startRace_109 : decode cX10_startRace 109 = .ok (.invokevirtual 288, 3) := by decide +kernel
theorem dX10_startRace_112 : decode cX10_startRace 112 = .ok (.aload_n 3, 1) := by decide +kernel
theorem dX10_startRace_113 : decode cX10_startRace 113 = .ok (.aload_n 0, 1) := by decide +kernel
theorem dX10_startRace_114 : decode cX10_startRace 114 = .ok (.getfield 65, 3) := by decide +kernel
theorem dX10_startRace_117 : decode cX10_startRace 117 = .ok (.putfield 173, 3) := by decide +kernel
theorem dX10_startRace_120 : decode cX10_startRace 120 = .ok (.iinc 2 1, 3) := by decide +kernel
theorem dX10_startRace_123 : decode cX10_startRace 123 = .ok (.goto (-70), 3) := by decide +kernel
theorem dX10_startRace_126 : decode cX10_startRace 126 = .ok (.aload_n 0, 1) := by decide +kernel
theorem dX10_startRace_127 : decode cX10_startRace 127 = .ok (.iconst 4, 1) := by decide +kernel
theorem dX10_startRace_128 : decode cX10_startRace 128 = .ok (.putfield 69, 3) := by decide +kernel
theorem dX10_startRace_131 : decode cX10_startRace 131 = .ok (.return_, 1) := by decide +kernel
theorem dX2_init_0 : decode cX2_init 0 = .ok (.aload_n 0, 1) := by decide +kernel
theorem dX2_init_1 : decode cX2_init 1 = .ok (.invokespecial 3, 3) := by decide +kernel
theorem dX2_init_4 : decode cX2_init 4 = .ok (.aload_n 0, 1) := by decide +kernel
theorem dX2_init_5 : decode cX2_init 5 = .ok (.bipush 20, 2) := by decide +kernel
theorem dX2_init_7 : decode cX2_init 7 = .ok (.putfield 9, 3) := by decide +kernel
theorem dX2_init_10 : decode cX2_init 10 = .ok (.aload_n 0, 1) := by decide +kernel
theorem dX2_init_11 : decode cX2_init 11 = .ok (.bipush 60, 2) := by decide +kernel
theorem dX2_init_13 : decode cX2_init 13 = .ok (.newarray .boolean, 2) := by decide +kernel
theorem dX2_init_15 : decode cX2_init 15 = .ok (.putfield 15, 3) := by decide +kernel
theorem dX2_init_18 : decode cX2_init 18 = .ok (.aload_n 0, 1) := by decide +kernel
theorem dX2_init_19 : decode cX2_init 19 = .ok (.bipush 17, 2) := by decide +kernel
theorem dX2_init_21 : decode cX2_init 21 = .ok (.newarray .int, 2) := by decide +kernel
theorem dX2_init_23 : decode cX2_init 23 = .ok (.putfield 19, 3) := by decide +kernel
theorem dX2_init_26 : decode cX2_init 26 = .ok (.aload_n 0, 1) := by decide +kernel
theorem dX2_init_27 : decode cX2_init 27 = .ok (.bipush 17, 2) := by decide +kernel
theorem dX2_init_29 : decode cX2_init 29 = .ok (.newarray .int, 2) := by decide +kernel
theorem dX2_init_31 : decode cX2_init 31 = .ok (.putfield 23, 3) := by decide +kernel
theorem dX2_init_34 : decode cX2_init 34 = .ok (.aload_n 0, 1) := by decide +kernel
theorem dX2_init_35 : decode cX2_init 35 = .ok (.bipush 10, 2) := by decide +kernel
theorem dX2_init_37 : decode cX2_init 37 = .ok (.anewarray 26, 3) := by decide +kernel
theorem dX2_init_40 : decode cX2_init 40 = .ok (.putfield 28, 3) := by decide +kernel
theorem dX2_init_43 : decode cX2_init 43 = .ok (.aload_n 0, 1) := by decide +kernel
theorem dX2_init_44 : decode cX2_init 44 = .ok (.bipush 10, 2) := by decide +kernel
theorem dX2_init_46 : decode cX2_init 46 = .ok (.newarray .int, 2) := by decide +kernel
theorem dX2_init_48 : decode cX2_init 48 = .ok (.putfield 32, 3) := by decide +kernel
theorem dX2_init_51 : decode cX2_init 51 = .ok (.aload_n 0, 1) := by decide +kernel
theorem dX2_init_52 : decode cX2_init 52 = .ok (.new 35, 3) := by decide +kernel
theorem dX2_init_55 : decode cX2_init 55 = .ok (.dup, 1) := by decide +kernel
theorem dX2_init_56 : decode cX2_init 56 = .ok (.invokespecial 37, 3) := by decide +kernel
theorem dX2_init_59 : decode cX2_init 59 = .ok (.putfield 38, 3) := by decide +kernel
theorem dX2_init_62 : decode cX2_init 62 = .ok (.aload_n 0, 1) := by decide +kernel
theorem dX2_init_63 : decode cX2_init 63 = .ok (.iconst (-1), 1) := by decide +kernel
theorem dX2_init_64 : decode cX2_init 64 = .ok (.putfield 42, 3) := by decide +kernel
theorem dX2_init_67 : decode cX2_init 67 = .ok (.iconst 0, 1) := by decide +kernel
theorem dX2_init_68 : decode cX2_init 68 = .ok (.istore_n 1, 1) := by decide +kernel
theorem dX2_init_69 : decode cX2_init 69 = .ok (.iload_n 1, 1) := by decide +kernel
theorem dX2_init_70 : decode cX2_init 70 = .ok (.bipush 10, 2) := by decide +kernel
theorem dX2_init_72 : decode cX2_init 72 = .ok (.if_icmp .ge 22, 3) := by decide +kernel
theorem dX2_init_75 : decode cX2_init 75 = .ok (.aload_n 0, 1) := by decide +kernel
theorem dX2_init_76 : decode cX2_init 76 = .ok (.getfield 28, 3) := by decide +kernel
theorem dX2_init_79 : decode cX2_init 79 = .ok (.iload_n 1, 1) := by decide +kernel
theorem dX2_init_80 : decode cX2_init 80 = .ok (.new 26, 3) := by decide +kernel
theorem dX2_init_83 : decode cX2_init 83 = .ok (.dup, 1) := by decide +kernel
theorem dX2_init_84 : decode cX2_init 84 = .ok (.invokespecial 45, 3) := by decide +kernel
theorem dX2_init_87 : decode cX2_init 87 = .ok (.aastore, 1) := by decide +kernel
theorem dX2_init_88 : decode cX2_init 88 = .ok (.iinc 1 1, 3) := by decide +kernel
theorem dX2_init_91 : decode cX2_init 91 = .ok (.goto (-22), 3) := by decide +kernel
theorem dX2_init_94 : decode cX2_init 94 = .ok (.return_, 1) := by decide +kernel
theorem dX2_layRing_0 : decode cX2_layRing 0 = .ok (.aload_n 0, 1) := by decide +kernel
theorem dX2_layRing_1 : decode cX2_layRing 1 = .ok (.iload_n 1, 1) := by decide +kernel
theorem dX2_layRing_2 : decode cX2_layRing 2 = .ok (.putfield 9, 3) := by decide +kernel
theorem dX2_layRing_5 : decode cX2_layRing 5 = .ok (.iconst 0, 1) := by decide +kernel
theorem dX2_layRing_6 : decode cX2_layRing 6 = .ok (.istore_n 2, 1) := by decide +kernel
theorem dX2_layRing_7 : decode cX2_layRing 7 = .ok (.iload_n 2, 1) := by decide +kernel
theorem dX2_layRing_8 : decode cX2_layRing 8 = .ok (.bipush 60, 2) := by decide +kernel
theorem dX2_layRing_10 : decode cX2_layRing 10 = .ok (.if_icmp .ge 16, 3) := by decide +kernel
theorem dX2_layRing_13 : decode cX2_layRing 13 = .ok (.aload_n 0, 1) := by decide +kernel
theorem dX2_layRing_14 : decode cX2_layRing 14 = .ok (.getfield 15, 3) := by decide +kernel
theorem dX2_layRing_17 : decode cX2_layRing 17 = .ok (.iload_n 2, 1) := by decide +kernel
theorem dX2_layRing_18 : decode cX2_layRing 18 = .ok (.iconst 0, 1) := by decide +kernel
theorem dX2_layRing_19 : decode cX2_layRing 19 = .ok (.bastore, 1) := by decide +kernel
theorem dX2_layRing_20 : decode cX2_layRing 20 = .ok (.iinc 2 1, 3) := by decide +kernel
theorem dX2_layRing_23 : decode cX2_layRing 23 = .ok (.goto (-16), 3) := by decide +kernel
theorem dX2_layRing_26 : decode cX2_layRing 26 = .ok (.return_, 1) := by decide +kernel
theorem dX2_begin_0 : decode cX2_begin 0 = .ok (.aload_n 0, 1) := by decide +kernel
theorem dX2_begin_1 : decode cX2_begin 1 = .ok (.getfield 38, 3) := by decide +kernel
theorem dX2_begin_4 : decode cX2_begin 4 = .ok (.iload_n 1, 1) := by decide +kernel
theorem dX2_begin_5 : decode cX2_begin 5 = .ok (.invokevirtual 46, 3) := by decide +kernel
theorem dX2_begin_8 : decode cX2_begin 8 = .ok (.aload_n 0, 1) := by decide +kernel
theorem dX2_begin_9 : decode cX2_begin 9 = .ok (.iconst 0, 1) := by decide +kernel
theorem dX2_begin_10 : decode cX2_begin 10 = .ok (.putfield 50, 3) := by decide +kernel
theorem dX2_begin_13 : decode cX2_begin 13 = .ok (.aload_n 0, 1) := by decide +kernel
theorem dX2_begin_14 : decode cX2_begin 14 = .ok (.iconst 0, 1) := by decide +kernel
theorem dX2_begin_15 : decode cX2_begin 15 = .ok (.putfield 53, 3) := by decide +kernel
theorem dX2_begin_18 : decode cX2_begin 18 = .ok (.aload_n 0, 1) := by decide +kernel
theorem dX2_begin_19 : decode cX2_begin 19 = .ok (.iconst 0, 1) := by decide +kernel
theorem dX2_begin_20 : decode cX2_begin 20 = .ok (.putfield 56, 3) := by decide +kernel
theorem dX2_begin_23 : decode cX2_begin 23 = .ok (.aload_n 0, 1) := by decide +kernel
theorem dX2_begin_24 : decode cX2_begin 24 = .ok (.iconst (-1), 1) := by decide +kernel
theorem dX2_begin_25 : decode cX2_begin 25 = .ok (.putfield 42, 3) := by decide +kernel
theorem dX2_begin_28 : decode cX2_begin 28 = .ok (.return_, 1) := by decide +kernel
theorem dX2_setLaws_0 : decode cX2_setLaws 0 = .ok (.aload_n 0, 1) := by decide +kernel
theorem dX2_setLaws_1 : decode cX2_setLaws 1 = .ok (.iload_n 1, 1) := by decide +kernel
theorem dX2_setLaws_2 : decode cX2_setLaws 2 = .ok (.putfield 59, 3) := by decide +kernel
theorem dX2_setLaws_5 : decode cX2_setLaws 5 = .ok (.aload_n 0, 1) := by decide +kernel
theorem dX2_setLaws_6 : decode cX2_setLaws 6 = .ok (.iload_n 2, 1) := by decide +kernel
theorem dX2_setLaws_7 : decode cX2_setLaws 7 = .ok (.putfield 62, 3) := by decide +kernel
theorem dX2_setLaws_10 : decode cX2_setLaws 10 = .ok (.aload_n 0, 1) := by decide +kernel
theorem dX2_setLaws_11 : decode cX2_setLaws 11 = .ok (.iload_n 3, 1) := by decide +kernel
theorem dX2_setLaws_12 : decode cX2_setLaws 12 = .ok (.iconst 1, 1) := by decide +kernel
theorem dX2_setLaws_13 : decode cX2_setLaws 13 = .ok (.if_icmp .ne 7, 3) := by decide +kernel
theorem dX2_setLaws_16 : decode cX2_setLaws 16 = .ok (.iconst 1, 1) := by decide +kernel
theorem dX2_setLaws_17 : decode cX2_setLaws 17 = .ok (.goto 4, 3) := by decide +kernel
theorem dX2_setLaws_20 : decode cX2_setLaws 20 = .ok (.iconst 0, 1) := by decide +kernel
theorem dX2_setLaws_21 : decode cX2_setLaws 21 = .ok (.putfield 65, 3) := by decide +kernel
theorem dX2_setLaws_24 : decode cX2_setLaws 24 = .ok (.return_, 1) := by decide +kernel
theorem dX2_enter_0 : decode cX2_enter 0 = .ok (.aload_n 0, 1) := by decide +kernel
theorem dX2_enter_1 : decode cX2_enter 1 = .ok (.getfield 50, 3) := by decide +kernel
theorem dX2_enter_4 : decode cX2_enter 4 = .ok (.bipush 10, 2) := by decide +kernel
theorem dX2_enter_6 : decode cX2_enter 6 = .ok (.if_icmp .ge 31, 3) := by decide +kernel
theorem dX2_enter_9 : decode cX2_enter 9 = .ok (.aload_n 0, 1) := by decide +kernel
theorem dX2_enter_10 : decode cX2_enter 10 = .ok (.getfield 28, 3) := by decide +kernel
theorem dX2_enter_13 : decode cX2_enter 13 = .ok (.aload_n 0, 1) := by decide +kernel
theorem dX2_enter_14 : decode cX2_enter 14 = .ok (.getfield 50, 3) := by decide +kernel
theorem dX2_enter_17 : decode cX2_enter 17 = .ok (.aaload, 1) := by decide +kernel
theorem dX2_enter_18 : decode cX2_enter 18 = .ok (.iload_n 1, 1) := by decide +kernel
theorem dX2_enter_19 : decode cX2_enter 19 = .ok (.iload_n 2, 1) := by decide +kernel
theorem dX2_enter_20 : decode cX2_enter 20 = .ok (.aload_n 0, 1) := by decide +kernel
theorem dX2_enter_21 : decode cX2_enter 21 = .ok (.getfield 50, 3) := by decide +kernel
theorem dX2_enter_24 : decode cX2_enter 24 = .ok (.invokevirtual 69, 3) := by decide +kernel
theorem dX2_enter_27 : decode cX2_enter 27 = .ok (.aload_n 0, 1) := by decide +kernel
theorem dX2_enter_28 : decode cX2_enter 28 = .ok (.dup, 1) := by decide +kernel
theorem dX2_enter_29 : decode cX2_enter 29 = .ok (.getfield 50, 3) := by decide +kernel
theorem dX2_enter_32 : decode cX2_enter 32 = .ok (.iconst 1, 1) := by decide +kernel
theorem dX2_enter_33 : decode cX2_enter 33 = .ok (.iadd, 1) := by decide +kernel
theorem dX2_enter_34 : decode cX2_enter 34 = .ok (.putfield 50, 3) := by decide +kernel
theorem dX2_enter_37 : decode cX2_enter 37 = .ok (.return_, 1) := by decide +kernel
theorem dX2_find_0 : decode cX2_find 0 = .ok (.iconst 0, 1) := by decide +kernel
theorem dX2_find_1 : decode cX2_find 1 = .ok (.istore_n 2, 1) := by decide +kernel
theorem dX2_find_2 : decode cX2_find 2 = .ok (.iload_n 2, 1) := by decide +kernel
theorem dX2_find_3 : decode cX2_find 3 = .ok (.aload_n 0, 1) := by decide +kernel
theorem dX2_find_4 : decode cX2_find 4 = .ok (.getfield 50, 3) := by decide +kernel
theorem dX2_find_7 : decode cX2_find 7 = .ok (.if_icmp .ge 29, 3) := by decide +kernel
theorem dX2_find_10 : decode cX2_find 10 = .ok (.aload_n 0, 1) := by decide +kernel
theorem dX2_find_11 : decode cX2_find 11 = .ok (.getfield 28, 3) := by decide +kernel
theorem dX2_find_14 : decode cX2_find 14 = .ok (.iload_n 2, 1) := by decide +kernel
theorem dX2_find_15 : decode cX2_find 15 = .ok (.aaload, 1) := by decide +kernel
theorem dX2_find_16 : decode cX2_find 16 = .ok (.getfield 72, 3) := by decide +kernel
theorem dX2_find_19 : decode cX2_find 19 = .ok (.iload_n 1, 1) := by decide +kernel
theorem dX2_find_20 : decode cX2_find 20 = .ok (.if_icmp .ne 10, 3) := by decide +kernel
theorem dX2_find_23 : decode cX2_find 23 = .ok (.aload_n 0, 1) := by decide +kernel
theorem dX2_find_24 : decode cX2_find 24 = .ok (.getfield 28, 3) := by decide +kernel
theorem dX2_find_27 : decode cX2_find 27 = .ok (.iload_n 2, 1) := by decide +kernel
theorem dX2_find_28 : decode cX2_find 28 = .ok (.aaload, 1) := by decide +kernel
theorem dX2_find_29 : decode cX2_find 29 = .ok (.areturn, 1) := by decide +kernel
theorem dX2_find_30 : decode cX2_find 30 = .ok (.iinc 2 1, 3) := by decide +kernel
theorem dX2_find_33 : decode cX2_find 33 = .ok (.goto (-31), 3) := by decide +kernel
theorem dX2_find_36 : decode cX2_find 36 = .ok (.aconst_null, 1) := by decide +kernel
theorem dX2_find_37 : decode cX2_find 37 = .ok (.areturn, 1) := by decide +kernel
theorem dX2_isOver_0 : decode cX2_isOver 0 = .ok (.aload_n 0, 1) := by decide +kernel
theorem dX2_isOver_1 : decode cX2_isOver 1 = .ok (.getfield 56, 3) := by decide +kernel
theorem dX2_isOver_4 : decode cX2_isOver 4 = .ok (.aload_n 0, 1) := by decide +kernel
theorem dX2_isOver_5 : decode cX2_isOver 5 = .ok (.getfield 50, 3) := by decide +kernel
theorem dX2_isOver_8 : decode cX2_isOver 8 = .ok (.if_icmp .ge 13, 3) := by decide +kernel
theorem dX2_isOver_11 : decode cX2_isOver 11 = .ok (.aload_n 0, 1) := by decide +kernel
theorem dX2_isOver_12 : decode cX2_isOver 12 = .ok (.getfield 53, 3) := by decide +kernel
theorem dX2_isOver_15 : decode cX2_isOver 15 = .ok (.sipush 400, 3) := by decide +kernel
theorem dX2_isOver_18 : decode cX2_isOver 18 = .ok (.if_icmp .lt 7, 3) := by decide +kernel
theorem dX2_isOver_21 : decode cX2_isOver 21 = .ok (.iconst 1, 1) := by decide +kernel
theorem dX2_isOver_22 : decode cX2_isOver 22 = .ok (.goto 4, 3) := by decide +kernel
theorem dX2_isOver_25 : decode cX2_isOver 25 = .ok (.iconst 0, 1) := by decide +kernel
theorem dX2_isOver_26 : decode cX2_isOver 26 = .ok (.ireturn, 1) := by decide +kernel
theorem dX2_tick_0 : decode cX2_tick 0 = .ok (.aload_n 0, 1) := by decide +kernel
theorem dX2_tick_1 : decode cX2_tick 1 = .ok (.invokevirtual 75, 3) := by decide +kernel
theorem dX2_tick_4 : decode cX2_tick 4 = .ok (.istore_n 1, 1) := by decide +kernel
theorem dX2_tick_5 : decode cX2_tick 5 = .ok (.iconst 0, 1) := by decide +kernel
theorem dX2_tick_6 : decode cX2_tick 6 = .ok (.istore_n 2, 1) := by decide +kernel
theorem dX2_tick_7 : decode cX2_tick 7 = .ok (.iload_n 2, 1) := by decide +kernel
theorem dX2_tick_8 : decode cX2_tick 8 = .ok (.iload_n 1, 1) := by decide +kernel
theorem dX2_tick_9 : decode cX2_tick 9 = .ok (.if_icmp .ge 24, 3) := by decide +kernel
theorem dX2_tick_12 : decode cX2_tick 12 = .ok (.aload_n 0, 1) := by decide +kernel
theorem dX2_tick_13 : decode cX2_tick 13 = .ok (.aload_n 0, 1) := by decide +kernel
theorem dX2_tick_14 : decode cX2_tick 14 = .ok (.getfield 28, 3) := by decide +kernel
theorem dX2_tick_17 : decode cX2_tick 17 = .ok (.aload_n 0, 1) := by decide +kernel
theorem dX2_tick_18 : decode cX2_tick 18 = .ok (.getfield 32, 3) := by decide +kernel
theorem dX2_tick_21 : decode cX2_tick 21 = .ok (.iload_n 2, 1) := by decide +kernel
theorem dX2_tick_22 : decode cX2_tick 22 = .ok (.iaload, 1) := by decide +kernel
theorem dX2_tick_23 : decode cX2_tick 23 = .ok (.aaload, 1) := by decide +kernel
theorem dX2_tick_24 : decode cX2_tick 24 = .ok (.invokevirtual 79, 3) := by decide +kernel
theorem dX2_tick_27 : decode cX2_tick 27 = .ok (.iinc 2 1, 3) := by decide +kernel
theorem dX2_tick_30 : decode cX2_tick 30 = .ok (.goto (-23), 3) := by decide +kernel
theorem dX2_tick_33 : decode cX2_tick 33 = .ok (.aload_n 0, 1) := by decide +kernel
theorem dX2_tick_34 : decode cX2_tick 34 = .ok (.dup, 1) := by decide +kernel
theorem dX2_tick_35 : decode cX2_tick 35 = .ok (.getfield 53, 3) := by decide +kernel
theorem dX2_tick_38 : decode cX2_tick 38 = .ok (.iconst 1, 1) := by decide +kernel
theorem dX2_tick_39 : decode cX2_tick 39 = .ok (.iadd, 1) := by decide +kernel
theorem dX2_tick_40 : decode cX2_tick 40 = .ok (.putfield 53, 3) := by decide +kernel
theorem dX2_tick_43 : decode cX2_tick 43 = .ok (.return_, 1) := by decide +kernel
theorem dX2_lineUp_0 : decode cX2_lineUp 0 = .ok (.iconst 0, 1) := by decide +kernel
theorem dX2_lineUp_1 : decode cX2_lineUp 1 = .ok (.istore_n 1, 1) := by decide +kernel
theorem dX2_lineUp_2 : decode cX2_lineUp 2 = .ok (.iconst 0, 1) := by decide +kernel
theorem dX2_lineUp_3 : decode cX2_lineUp 3 = .ok (.istore_n 2, 1) := by decide +kernel
theorem dX2_lineUp_4 : decode cX2_lineUp 4 = .ok (.iload_n 2, 1) := by decide +kernel
theorem dX2_lineUp_5 : decode cX2_lineUp 5 = .ok (.aload_n 0, 1) := by decide +kernel
theorem dX2_lineUp_6 : decode cX2_lineUp 6 = .ok (.getfield 50, 3) := by decide +kernel
theorem dX2_lineUp_9 : decode cX2_lineUp 9 = .ok (.if_icmp .ge 30, 3) := by decide +kernel
theorem dX2_lineUp_12 : decode cX2_lineUp 12 = .ok (.aload_n 0, 1) := by decide +kernel
theorem dX2_lineUp_13 : decode cX2_lineUp 13 = .ok (.getfield 28, 3) := by decide +kernel
theorem dX2_lineUp_16 : decode cX2_lineUp 16 = .ok (.iload_n 2, 1) := by decide +kernel
theorem dX2_lineUp_17 : decode cX2_lineUp 17 = .ok (.aaload, 1) := by decide +kernel
theorem dX2_lineUp_18 : decode cX2_lineUp 18 = .ok (.invokevirtual 83, 3) := by decide +kernel
theorem dX2_lineUp_21 : decode cX2_lineUp 21 = .ok (.ifCond .eq 12, 3) := by decide +kernel
theorem dX2_lineUp_24 : decode cX2_lineUp 24 = .ok (.aload_n 0, 1) := by decide +kernel
theorem dX2_lineUp_25 : decode cX2_lineUp 25 = .ok (.iload_n 2, 1) := by decide +kernel
theorem dX2_lineUp_26 : decode cX2_lineUp 26 = .ok (.iload_n 1, 1) := by decide +kernel
theorem dX2_lineUp_27 : decode cX2_lineUp 27 = .ok (.invokevirtual 87, 3) := by decide +kernel
theorem dX2_lineUp_30 : decode cX2_lineUp 30 = .ok (.iinc 1 1, 3) := by decide +kernel
theorem dX2_lineUp_33 : decode cX2_lineUp 33 = .ok (.iinc 2 1, 3) := by decide +kernel
theorem dX2_lineUp_36 : decode cX2_lineUp 36 = .ok (.goto (-32), 3) := by decide +kernel
theorem dX2_lineUp_39 : decode cX2_lineUp 39 = .ok (.iload_n 1, 1) := by decide +kernel
theorem dX2_lineUp_40 : decode cX2_lineUp 40 = .ok (.ireturn, 1) := by decide +kernel
theorem dX2_insertTurn_0 : decode cX2_insertTurn 0 = .ok (.iload_n 2, 1) := by decide +kernel
theorem dX2_insertTurn_1 : decode cX2_insertTurn 1 = .ok (.istore_n 3, 1) := by decide +kernel
theorem dX2_insertTurn_2 : decode cX2_insertTurn 2 = .ok (.iload_n 3, 1) := by decide +kernel
theorem dX2_insertTurn_3 : decode cX2_insertTurn 3 = .ok (.ifCond .le 48, 3) := by decide +kernel
theorem dX2_insertTurn_6 : decode cX2_insertTurn 6 = .ok (.aload_n 0, 1) := by decide +kernel
theorem dX2_insertTurn_7 : decode cX2_insertTurn 7 = .ok (.getfield 28, 3) := by decide +kernel
theorem dX2_insertTurn_10 : decode cX2_insertTurn 10 = .ok (.iload_n 1, 1) := by decide +kernel
theorem dX2_insertTurn_11 : decode cX2_insertTurn 11 = .ok (.aaload, 1) := by decide +kernel
theorem dX2_insertTurn_12 : decode cX2_insertTurn 12 = .ok (.aload_n 0, 1) := by decide +kernel
theorem dX2_insertTurn_13 : decode cX2_insertTurn 13 = .ok (.getfield 28, 3) := by decide +kernel
theorem dX2_insertTurn_16 : decode cX2_insertTurn 16 = .ok (.aload_n 0, 1) := by decide +kernel
theorem dX2_insertTurn_17 : decode cX2_insertTurn 17 = .ok (.getfield 32, 3) := by decide +kernel
theorem dX2_insertTurn_20 : decode cX2_insertTurn 20 = .ok (.iload_n 3, 1) := by decide +kernel
theorem dX2_insertTurn_21 : decode cX2_insertTurn 21 = .ok (.iconst 1, 1) := by decide +kernel
theorem dX2_insertTurn_22 : decode cX2_insertTurn 22 = .ok (.isub, 1) := by decide +kernel
theorem dX2_insertTurn_23 : decode cX2_insertTurn 23 = .ok (.iaload, 1) := by decide +kernel
theorem dX2_insertTurn_24 : decode cX2_insertTurn 24 = .ok (.aaload, 1) := by decide +kernel
theorem dX2_insertTurn_25 : decode cX2_insertTurn 25 = .ok (.invokevirtual 91, 3) := by decide +kernel
theorem dX2_insertTurn_28 : decode cX2_insertTurn 28 = .ok (.ifCond .eq 23, 3) := by decide +kernel
theorem dX2_insertTurn_31 : decode cX2_insertTurn 31 = .ok (.aload_n 0, 1) := by decide +kernel
theorem dX2_insertTurn_32 : decode cX2_insertTurn 32 = .ok (.getfield 32, 3) := by decide +kernel
theorem dX2_insertTurn_35 : decode cX2_insertTurn 35 = .ok (.iload_n 3, 1) := by decide +kernel
theorem dX2_insertTurn_36 : decode cX2_insertTurn 36 = .ok (.aload_n 0, 1) := by decide +kernel
theorem dX2_insertTurn_37 : decode cX2_insertTurn 37 = .ok (.getfield 32, 3) := by decide +kernel
theorem dX2_insertTurn_40 : decode cX2_insertTurn 40 = .ok (.iload_n 3, 1) := by decide +kernel
theorem dX2_insertTurn_41 : decode cX2_insertTurn 41 = .ok (.iconst 1, 1) := by decide +kernel
theorem dX2_insertTurn_42 : decode cX2_insertTurn 42 = .ok (.isub, 1) := by decide +kernel
theorem dX2_insertTurn_43 : decode cX2_insertTurn 43 = .ok (.iaload, 1) := by decide +kernel
theorem dX2_insertTurn_44 : decode cX2_insertTurn 44 = .ok (.iastore, 1) := by decide +kernel
theorem dX2_insertTurn_45 : decode cX2_insertTurn 45 = .ok (.iinc 3 (-1), 3) := by decide +kernel
theorem dX2_insertTurn_48 : decode cX2_insertTurn 48 = .ok (.goto (-46), 3) := by decide +kernel
theorem dX2_insertTurn_51 : decode cX2_insertTurn 51 = .ok (.aload_n 0, 1) := by decide +kernel
theorem dX2_insertTurn_52 : decode cX2_insertTurn 52 = .ok (.getfield 32, 3) := by decide +kernel
theorem dX2_insertTurn_55 : decode cX2_insertTurn 55 = .ok (.iload_n 3, 1) := by decide +kernel
theorem dX2_insertTurn_56 : decode cX2_insertTurn 56 = .ok (.iload_n 1, 1) := by decide +kernel
theorem dX2_insertTurn_57 : decode cX2_insertTurn 57 = .ok (.iastore, 1) := by decide +kernel
theorem dX2_insertTurn_58 : decode cX2_insertTurn 58 = .ok (.return_, 1) := by decide +kernel
theorem dX2_takeTurn_0 : decode cX2_takeTurn 0 = .ok (.aload_n 1, 1) := by decide +kernel
theorem dX2_takeTurn_1 : decode cX2_takeTurn 1 = .ok (.getfield 95, 3) := by decide +kernel
theorem dX2_takeTurn_4 : decode cX2_takeTurn 4 = .ok (.ifCond .ne 8, 3) := by decide +kernel
theorem dX2_takeTurn_7 : decode cX2_takeTurn 7 = .ok (.aload_n 0, 1) := by decide +kernel
theorem dX2_takeTurn_8 : decode cX2_takeTurn 8 = .ok (.aload_n 1, 1) := by decide +kernel
theorem dX2_takeTurn_9 : decode cX2_takeTurn 9 = .ok (.invokevirtual 98, 3) := by decide +kernel
theorem dX2_takeTurn_12 : decode cX2_takeTurn 12 = .ok (.aload_n 0, 1) := by decide +kernel
theorem dX2_takeTurn_13 : decode cX2_takeTurn 13 = .ok (.aload_n 1, 1) := by decide +kernel
theorem dX2_takeTurn_14 : decode cX2_takeTurn 14 = .ok (.invokevirtual 101, 3) := by decide +kernel
theorem dX2_takeTurn_17 : decode cX2_takeTurn 17 = .ok (.aload_n 1, 1) := by decide +kernel
theorem dX2_takeTurn_18 : decode cX2_takeTurn 18 = .ok (.getfield 104, 3) := by decide +kernel
theorem dX2_takeTurn_21 : decode cX2_takeTurn 21 = .ok (.istore_n 2, 1) := by decide +kernel
theorem dX2_takeTurn_22 : decode cX2_takeTurn 22 = .ok (.iconst 0, 1) := by decide +kernel
theorem dX2_takeTurn_23 : decode cX2_takeTurn 23 = .ok (.istore_n 3, 1) := by decide +kernel
theorem dX2_takeTurn_24 : decode cX2_takeTurn 24 = .ok (.iload_n 3, 1) := by decide +kernel
theorem dX2_takeTurn_25 : decode cX2_takeTurn 25 = .ok (.iload_n 2, 1) := by decide +kernel
theorem dX2_takeTurn_26 : decode cX2_takeTurn 26 = .ok (.if_icmp .ge 18, 3) := by decide +kernel
theorem dX2_takeTurn_29 : decode cX2_takeTurn 29 = .ok (.aload_n 0, 1) := by decide +kernel
theorem dX2_takeTurn_30 : decode cX2_takeTurn 30 = .ok (.aload_n 1, 1) := by decide +kernel
theorem dX2_takeTurn_31 : decode cX2_takeTurn 31 = .ok (.invokevirtual 107, 3) := by decide +kernel
theorem dX2_takeTurn_34 : decode cX2_takeTurn 34 = .ok (.ifCond .ne 4, 3) := by decide +kernel
theorem dX2_takeTurn_37 : decode cX2_takeTurn 37 = .ok (.return_, 1) := by decide +kernel
theorem dX2_takeTurn_38 : decode cX2_takeTurn 38 = .ok (.iinc 3 1, 3) := by decide +kernel
theorem dX2_takeTurn_41 : decode cX2_takeTurn 41 = .ok (.goto (-17), 3) := by decide +kernel
theorem dX2_takeTurn_44 : decode cX2_takeTurn 44 = .ok (.return_, 1) := by decide +kernel
theorem dX2_followOrders_0 : decode cX2_followOrders 0 = .ok (.aload_n 1, 1) := by decide +kernel
theorem dX2_followOrders_1 : decode cX2_followOrders 1 = .ok (.getfield 72, 3) := by decide +kernel
theorem dX2_followOrders_4 : decode cX2_followOrders 4 = .ok (.ifCond .lt 24, 3) := by decide +kernel
theorem dX2_followOrders_7 : decode cX2_followOrders 7 = .ok (.aload_n 1, 1) := by decide +kernel
theorem dX2_followOrders_8 : decode cX2_followOrders 8 = .ok (.getfield 72, 3) := by decide +kernel
theorem dX2_followOrders_11 : decode cX2_followOrders 11 = .ok (.bipush 17, 2) := by decide +kernel
theorem dX2_followOrders_13 : decode cX2_followOrders 13 = .ok (.if_icmp .ge 15, 3) := by decide +kernel
theorem dX2_followOrders_16 : decode cX2_followOrders 16 = .ok (.aload_n 0, 1) := by decide +kernel
theorem dX2_followOrders_17 : decode cX2_followOrders 17 = .ok (.getfield 19, 3) := by decide +kernel
theorem dX2_followOrders_20 : decode cX2_followOrders 20 = .ok (.aload_n 1, 1) := by decide +kernel
theorem dX2_followOrders_21 : decode cX2_followOrders 21 = .ok (.getfield 72, 3) := by decide +kernel
theorem dX2_followOrders_24 : decode cX2_followOrders 24 = .ok (.iaload, 1) := by decide +kernel
theorem dX2_followOrders_25 : decode cX2_followOrders 25 = .ok (.goto 4, 3) := by decide +kernel
theorem dX2_followOrders_28 : decode cX2_followOrders 28 = .ok (.iconst 0, 1) := by decide +kernel
theorem dX2_followOrders_29 : decode cX2_followOrders 29 = .ok (.istore_n 2, 1) := by decide +kernel
theorem dX2_followOrders_30 : decode cX2_followOrders 30 = .ok (.iload_n 2, 1) := by decide +kernel
theorem dX2_followOrders_31 : decode cX2_followOrders 31 = .ok (.ifCond .ne 7, 3) := by decide +kernel
theorem dX2_followOrders_34 : decode cX2_followOrders 34 = .ok (.aconst_null, 1) := by decide +kernel
theorem dX2_followOrders_35 : decode cX2_followOrders 35 = .ok (.goto 16, 3) := by decide +kernel
theorem dX2_followOrders_38 : decode cX2_followOrders 38 = .ok (.aload_n 0, 1) := by decide +kernel
theorem dX2_followOrders_39 : decode cX2_followOrders 39 = .ok (.aload_n 0, 1) := by decide +kernel
theorem dX2_followOrders_40 : decode cX2_followOrders 40 = .ok (.getfield 23, 3) := by decide +kernel
theorem dX2_followOrders_43 : decode cX2_followOrders 43 = .ok (.aload_n 1, 1) := by decide +kernel
theorem dX2_followOrders_44 : decode cX2_followOrders 44 = .ok (.getfield 72, 3) := by decide +kernel
theorem dX2_followOrders_47 : decode cX2_followOrders 47 = .ok (.iaload, 1) := by decide +kernel
theorem dX2_followOrders_48 : decode cX2_followOrders 48 = .ok (.invokevirtual 110, 3) := by decide +kernel
theorem dX2_followOrders_51 : decode cX2_followOrders 51 = .ok (.astore_n 3, 1) := by decide +kernel
theorem dX2_followOrders_52 : decode cX2_followOrders 52 = .ok (.aload_n 3, 1) := by decide +kernel
theorem dX2_followOrders_53 : decode cX2_followOrders 53 = .ok (.ifnull 18, 3) := by decide +kernel
theorem dX2_followOrders_56 : decode cX2_followOrders 56 = .ok (.aload_n 3, 1) := by decide +kernel
theorem dX2_followOrders_57 : decode cX2_followOrders 57 = .ok (.invokevirtual 83, 3) := by decide +kernel
theorem dX2_followOrders_60 : decode cX2_followOrders 60 = .ok (.ifCond .eq 11, 3) := by decide +kernel
theorem dX2_followOrders_63 : decode cX2_followOrders 63 = .ok (.aload_n 1, 1) := by decide +kernel
theorem dX2_followOrders_64 : decode cX2_followOrders 64 = .ok (.aload_n 3, 1) := by decide +kernel
theorem dX2_followOrders_65 : decode cX2_followOrders 65 = .ok (.invokevirtual 114, 3) := by decide +kernel
theorem dX2_followOrders_68 : decode cX2_followOrders 68 = .ok (.ifCond .ne 4, 3) := by decide +kernel
theorem dX2_followOrders_71 : decode cX2_followOrders 71 = .ok (.return_, 1) := by decide +kernel
theorem dX2_followOrders_72 : decode cX2_followOrders 72 = .ok (.aload_n 1, 1) := by decide +kernel
theorem dX2_followOrders_73 : decode cX2_followOrders 73 = .ok (.getfield 117, 3) := by decide +kernel
theorem dX2_followOrders_76 : decode cX2_followOrders 76 = .ok (.istore 4, 2) := by decide +kernel
theorem dX2_followOrders_78 : decode cX2_followOrders 78 = .ok (.iload_n 2, 1) := by decide +kernel
theorem dX2_followOrders_79 : decode cX2_followOrders 79 = .ok (.iconst 1, 1) := by decide +kernel
theorem dX2_followOrders_80 : decode cX2_followOrders 80 = .ok (.if_icmp .ne 41, 3) := by decide +kernel
theorem dX2_followOrders_83 : decode cX2_followOrders 83 = .ok (.iload 4, 2) := by decide +kernel
theorem dX2_followOrders_85 : decode cX2_followOrders 85 = .ok (.aload_n 3, 1) := by decide +kernel
theorem dX2_followOrders_86 : decode cX2_followOrders 86 = .ok (.getfield 117, 3) := by decide +kernel
theorem dX2_followOrders_89 : decode cX2_followOrders 89 = .ok (.isub, 1) := by decide +kernel
theorem dX2_followOrders_90 : decode cX2_followOrders 90 = .ok (.invokestatic 120, 3) := by decide +kernel
theorem dX2_followOrders_93 : decode cX2_followOrders 93 = .ok (.iconst 1, 1) := by decide +kernel
theorem dX2_followOrders_94 : decode cX2_followOrders 94 = .ok (.if_icmp .ne 27, 3) := by decide +kernel
theorem dX2_followOrders_97 : decode cX2_followOrders 97 = .ok (.aload_n 0, 1) := by decide +kernel
theorem dX2_followOrders_98 : decode cX2_followOrders 98 = .ok (.aload_n 1, 1) := by decide +kernel
theorem dX2_followOrders_99 : decode cX2_followOrders 99 = .ok (.getfield 126, 3) := by decide +kernel
theorem dX2_followOrders_102 : decode cX2_followOrders 102 = .ok (.aload_n 3, 1) := by decide +kernel
theorem dX2_followOrders_103 : decode cX2_followOrders 103 = .ok (.getfield 117, 3) := by decide +kernel
theorem dX2_followOrders_106 : decode cX2_followOrders 106 = .ok (.invokevirtual 129, 3) := by decide +kernel
theorem dX2_followOrders_109 : decode cX2_followOrders 109 = .ok (.ifCond .eq 12, 3) := by decide +kernel
theorem dX2_followOrders_112 : decode cX2_followOrders 112 = .ok (.aload_n 3, 1) := by decide +kernel
theorem dX2_followOrders_113 : decode cX2_followOrders 113 = .ok (.getfield 117, 3) := by decide +kernel
theorem dX2_followOrders_116 : decode cX2_followOrders 116 = .ok (.istore 4, 2) := by decide +kernel
theorem dX2_followOrders_118 : decode cX2_followOrders 118 = .ok (.goto 29, 3) := by decide +kernel
theorem dX2_followOrders_121 : decode cX2_followOrders 121 = .ok (.iload_n 2, 1) := by decide +kernel
theorem dX2_followOrders_122 : decode cX2_followOrders 122 = .ok (.iconst 2, 1) := by decide +kernel
theorem dX2_followOrders_123 : decode cX2_followOrders 123 = .ok (.if_icmp .ne 24, 3) := by decide +kernel
theorem dX2_followOrders_126 : decode cX2_followOrders 126 = .ok (.iload 4, 2) := by decide +kernel
theorem dX2_followOrders_128 : decode cX2_followOrders 128 = .ok (.aload_n 3, 1) := by decide +kernel
theorem dX2_followOrders_129 : decode cX2_followOrders 129 = .ok (.getfield 117, 3) := by decide +kernel
theorem dX2_followOrders_132 : decode cX2_followOrders 132 = .ok (.if_icmp .ne 15, 3) := by decide +kernel
theorem dX2_followOrders_135 : decode cX2_followOrders 135 = .ok (.aload_n 0, 1) := by decide +kernel
theorem dX2_followOrders_136 : decode cX2_followOrders 136 = .ok (.aload_n 1, 1) := by decide +kernel
theorem dX2_followOrders_137 : decode cX2_followOrders 137 = .ok (.getfield 126, 3) := by decide +kernel
theorem dX2_followOrders_140 : decode cX2_followOrders 140 = .ok (.iload 4, 2) := by decide +kernel
theorem dX2_followOrders_142 : decode cX2_followOrders 142 = .ok (.invokevirtual 133, 3) := by decide +kernel
theorem dX2_followOrders_145 : decode cX2_followOrders 145 = .ok (.istore 4, 2) := by decide +kernel
theorem dX2_followOrders_147 : decode cX2_followOrders 147 = .ok (.iload 4, 2) := by decide +kernel
theorem dX2_followOrders_149 : decode cX2_followOrders 149 = .ok (.iconst (-1), 1) := by decide +kernel
theorem dX2_followOrders_150 : decode cX2_followOrders 150 = .ok (.if_icmp .eq 9, 3) := by decide +kernel
theorem dX2_followOrders_153 : decode cX2_followOrders 153 = .ok (.aload_n 1, 1) := by decide +kernel
theorem dX2_followOrders_154 : decode cX2_followOrders 154 = .ok (.iload 4, 2) := by decide +kernel
theorem dX2_followOrders_156 : decode cX2_followOrders 156 = .ok (.putfield 117, 3) := by decide +kernel
theorem dX2_followOrders_159 : decode cX2_followOrders 159 = .ok (.return_, 1) := by decide +kernel
theorem dX2_setPace_0 : decode cX2_setPace 0 = .ok (.aload_n 1, 1) := by decide +kernel
theorem dX2_setPace_1 : decode cX2_setPace 1 = .ok (.getfield 104, 3) := by decide +kernel
theorem dX2_setPace_4 : decode cX2_setPace 4 = .ok (.iconst 1, 1) := by decide +kernel
theorem dX2_setPace_5 : decode cX2_setPace 5 = .ok (.iadd, 1) := by decide +kernel
theorem dX2_setPace_6 : decode cX2_setPace 6 = .ok (.aload_n 1, 1) := by decide +kernel
theorem dX2_setPace_7 : decode cX2_setPace 7 = .ok (.getfield 137, 3) := by decide +kernel
theorem dX2_setPace_10 : decode cX2_setPace 10 = .ok (.invokestatic 140, 3) := by decide +kernel
theorem dX2_setPace_13 : decode cX2_setPace 13 = .ok (.istore_n 2, 1) := by decide +kernel
theorem dX2_setPace_14 : decode cX2_setPace 14 = .ok (.aload_n 0, 1) := by decide +kernel
theorem dX2_setPace_15 : decode cX2_setPace 15 = .ok (.getfield 38, 3) := by decide +kernel
theorem dX2_setPace_18 : decode cX2_setPace 18 = .ok (.bipush 8, 2) := by decide +kernel
theorem dX2_setPace_20 : decode cX2_setPace 20 = .ok (.invokevirtual 143, 3) := by decide +kernel
theorem dX2_setPace_23 : decode cX2_setPace 23 = .ok (.ifCond .ne 6, 3) := by decide +kernel
theorem dX2_setPace_26 : decode cX2_setPace 26 = .ok (.iinc 2 (-1), 3) := by decide +kernel
theorem dX2_setPace_29 : decode cX2_setPace 29 = .ok (.aload_n 1, 1) := by decide +kernel
theorem dX2_setPace_30 : decode cX2_setPace 30 = .ok (.iload_n 2, 1) := by decide +kernel
theorem dX2_setPace_31 : decode cX2_setPace 31 = .ok (.iconst 1, 1) := by decide +kernel
theorem dX2_setPace_32 : decode cX2_setPace 32 = .ok (.invokestatic 146, 3) := by decide +kernel
theorem dX2_setPace_35 : decode cX2_setPace 35 = .ok (.putfield 104, 3) := by decide +kernel
theorem dX2_setPace_38 : decode cX2_setPace 38 = .ok (.return_, 1) := by decide +kernel
theorem dX2_stepOn_0 : decode cX2_stepOn 0 = .ok (.aload_n 1, 1) := by decide +kernel
theorem dX2_stepOn_1 : decode cX2_stepOn 1 = .ok (.getfield 126, 3) := by decide +kernel
theorem dX2_stepOn_4 : decode cX2_stepOn 4 = .ok (.iconst 1, 1) := by decide +kernel
theorem dX2_stepOn_5 : decode cX2_stepOn 5 = .ok (.iadd, 1) := by decide +kernel
theorem dX2_stepOn_6 : decode cX2_stepOn 6 = .ok (.istore_n 2, 1) := by decide +kernel
theorem dX2_stepOn_7 : decode cX2_stepOn 7 = .ok (.aload_n 0, 1) := by decide +kernel
theorem dX2_stepOn_8 : decode cX2_stepOn 8 = .ok (.iload_n 2, 1) := by decide +kernel
theorem dX2_stepOn_9 : decode cX2_stepOn 9 = .ok (.aload_n 1, 1) := by decide +kernel
theorem dX2_stepOn_10 : decode cX2_stepOn 10 = .ok (.getfield 117, 3) := by decide +kernel
theorem dX2_stepOn_13 : decode cX2_stepOn 13 = .ok (.invokevirtual 129, 3) := by decide +kernel
theorem dX2_stepOn_16 : decode cX2_stepOn 16 = .ok (.ifCond .eq 10, 3) := by decide +kernel
theorem dX2_stepOn_19 : decode cX2_stepOn 19 = .ok (.aload_n 1, 1) := by decide +kernel
theorem dX2_stepOn_20 : decode cX2_stepOn 20 = .ok (.getfield 117, 3) := by decide +kernel
theorem dX2_stepOn_23 : decode cX2_stepOn 23 = .ok (.goto 12, 3) := by decide +kernel
theorem dX2_stepOn_26 : decode cX2_stepOn 26 = .ok (.aload_n 0, 1) := by decide +kernel
theorem dX2_stepOn_27 : decode cX2_stepOn 27 = .ok (.iload_n 2, 1) := by decide +kernel
theorem dX2_stepOn_28 : decode cX2_stepOn 28 = .ok (.aload_n 1, 1) := by decide +kernel
theorem dX2_stepOn_29 : decode cX2_stepOn 29 = .ok (.getfield 117, 3) := by decide +kernel
theorem dX2_stepOn_32 : decode cX2_stepOn 32 = .ok (.invokevirtual 133, 3) := by decide +kernel
theorem dX2_stepOn_35 : decode cX2_stepOn 35 = .ok (.istore_n 3, 1) := by decide +kernel
theorem dX2_stepOn_36 : decode cX2_stepOn 36 = .ok (.iload_n 3, 1) := by decide +kernel
theorem dX2_stepOn_37 : decode cX2_stepOn 37 = .ok (.iconst (-1), 1) := by decide +kernel
theorem dX2_stepOn_38 : decode cX2_stepOn 38 = .ok (.if_icmp .ne 20, 3) := by decide +kernel
theorem dX2_stepOn_41 : decode cX2_stepOn 41 = .ok (.aload_n 1, 1) := by decide +kernel
theorem dX2_stepOn_42 : decode cX2_stepOn 42 = .ok (.iconst 0, 1) := by decide +kernel
theorem dX2_stepOn_43 : decode cX2_stepOn 43 = .ok (.putfield 104, 3) := by decide +kernel
theorem dX2_stepOn_46 : decode cX2_stepOn 46 = .ok (.aload_n 1, 1) := by decide +kernel
theorem dX2_stepOn_47 : decode cX2_stepOn 47 = .ok (.dup, 1) := by decide +kernel
theorem dX2_stepOn_48 : decode cX2_stepOn 48 = .ok (.getfield 149, 3) := by decide +kernel
theorem dX2_stepOn_51 : decode cX2_stepOn 51 = .ok (.iconst 1, 1) := by decide +kernel
theorem dX2_stepOn_52 : decode cX2_stepOn 52 = .ok (.iadd, 1) := by decide +kernel
theorem dX2_stepOn_53 : decode cX2_stepOn 53 = .ok (.putfield 149, 3) := by decide +kernel
theorem dX2_stepOn_56 : decode cX2_stepOn 56 = .ok (.iconst 0, 1) := by decide +kernel
theorem dX2_stepOn_57 : decode cX2_stepOn 57 = .ok (.ireturn, 1) := by decide +kernel
theorem dX2_stepOn_58 : decode cX2_stepOn 58 = .ok (.aload_n 1, 1) := by decide +kernel
theorem dX2_stepOn_59 : decode cX2_stepOn 59 = .ok (.iload_n 2, 1) := by decide +kernel
theorem dX2_stepOn_60 : decode cX2_stepOn 60 = .ok (.putfield 126, 3) := by decide +kernel
theorem dX2_stepOn_63 : decode cX2_stepOn 63 = .ok (.aload_n 1, 1) := by decide +kernel
theorem dX2_stepOn_64 : decode cX2_stepOn 64 = .ok (.iload_n 3, 1) := by decide +kernel
theorem dX2_stepOn_65 : decode cX2_stepOn 65 = .ok (.putfield 117, 3) := by decide +kernel
theorem dX2_stepOn_68 : decode cX2_stepOn 68 = .ok (.aload_n 0, 1) := by decide +kernel
theorem dX2_stepOn_69 : decode cX2_stepOn 69 = .ok (.aload_n 1, 1) := by decide +kernel
theorem dX2_stepOn_70 : decode cX2_stepOn 70 = .ok (.invokevirtual 152, 3) := by decide +kernel
theorem dX2_stepOn_73 : decode cX2_stepOn 73 = .ok (.istore 4, 2) := by decide +kernel
theorem dX2_stepOn_75 : decode cX2_stepOn 75 = .ok (.iload 4, 2) := by decide +kernel
theorem dX2_stepOn_77 : decode cX2_stepOn 77 = .ok (.ifCond .eq 13, 3) := by decide +kernel
theorem dX2_stepOn_80 : decode cX2_stepOn 80 = .ok (.aload_n 1, 1) := by decide +kernel
theorem dX2_stepOn_81 : decode cX2_stepOn 81 = .ok (.iconst 1, 1) := by decide +kernel
theorem dX2_stepOn_82 : decode cX2_stepOn 82 = .ok (.putfield 95, 3) := by decide +kernel
theorem dX2_stepOn_85 : decode cX2_stepOn 85 = .ok (.aload_n 1, 1) := by decide +kernel
theorem dX2_stepOn_86 : decode cX2_stepOn 86 = .ok (.iconst 1, 1) := by decide +kernel
theorem dX2_stepOn_87 : decode cX2_stepOn 87 = .ok (.putfield 104, 3) := by decide +kernel
theorem dX2_stepOn_90 : decode cX2_stepOn 90 = .ok (.iload_n 2, 1) := by decide +kernel
theorem dX2_stepOn_91 : decode cX2_stepOn 91 = .ok (.aload_n 0, 1) := by decide +kernel
theorem dX2_stepOn_92 : decode cX2_stepOn 92 = .ok (.getfield 59, 3) := by decide +kernel
theorem dX2_stepOn_95 : decode cX2_stepOn 95 = .ok (.aload_n 0, 1) := by decide +kernel
theorem dX2_stepOn_96 : decode cX2_stepOn 96 = .ok (.getfield 9, 3) := by decide +kernel
theorem dX2_stepOn_99 : decode cX2_stepOn 99 = .ok (.imul, 1) := by decide +kernel
theorem dX2_stepOn_100 : decode cX2_stepOn 100 = .ok (.if_icmp .ne 10, 3) := by decide +kernel
theorem dX2_stepOn_103 : decode cX2_stepOn 103 = .ok (.aload_n 0, 1) := by decide +kernel
theorem dX2_stepOn_104 : decode cX2_stepOn 104 = .ok (.aload_n 1, 1) := by decide +kernel
theorem dX2_stepOn_105 : decode cX2_stepOn 105 = .ok (.invokevirtual 155, 3) := by decide +kernel
theorem dX2_stepOn_108 : decode cX2_stepOn 108 = .ok (.iconst 0, 1) := by decide +kernel
theorem dX2_stepOn_109 : decode cX2_stepOn 109 = .ok (.ireturn, 1) := by decide +kernel
theorem dX2_stepOn_110 : decode cX2_stepOn 110 = .ok (.iload 4, 2) := by decide +kernel
theorem dX2_stepOn_112 : decode cX2_stepOn 112 = .ok (.ifCond .ne 7, 3) := by decide +kernel
theorem dX2_stepOn_115 : decode cX2_stepOn 115 = .ok (.iconst 1, 1) := by decide +kernel
theorem dX2_stepOn_116 : decode cX2_stepOn 116 = .ok (.goto 4, 3) := by decide +kernel
theorem dX2_stepOn_119 : decode cX2_stepOn 119 = .ok (.iconst 0, 1) := by decide +kernel
theorem dX2_stepOn_120 : decode cX2_stepOn 120 = .ok (.ireturn, 1) := by decide +kernel
theorem dX2_fallsHere_0 : decode cX2_fallsHere 0 = .ok (.aload_n 0, 1) := by decide +kernel
theorem dX2_fallsHere_1 : decode cX2_fallsHere 1 = .ok (.aload_n 1, 1) := by decide +kernel
theorem dX2_fallsHere_2 : decode cX2_fallsHere 2 = .ok (.getfield 126, 3) := by decide +kernel
theorem dX2_fallsHere_5 : decode cX2_fallsHere 5 = .ok (.invokevirtual 158, 3) := by decide +kernel
theorem dX2_fallsHere_8 : decode cX2_fallsHere 8 = .ok (.ifCond .eq 36, 3) := by decide +kernel
theorem dX2_fallsHere_11 : decode cX2_fallsHere 11 = .ok (.aload_n 1, 1) := by decide +kernel
theorem dX2_fallsHere_12 : decode cX2_fallsHere 12 = .ok (.getfield 95, 3) := by decide +kernel
theorem dX2_fallsHere_15 : decode cX2_fallsHere 15 = .ok (.ifCond .ne 29, 3) := by decide +kernel
theorem dX2_fallsHere_18 : decode cX2_fallsHere 18 = .ok (.aload_n 1, 1) := by decide +kernel
theorem dX2_fallsHere_19 : decode cX2_fallsHere 19 = .ok (.getfield 104, 3) := by decide +kernel
theorem dX2_fallsHere_22 : decode cX2_fallsHere 22 = .ok (.aload_n 0, 1) := by decide +kernel
theorem dX2_fallsHere_23 : decode cX2_fallsHere 23 = .ok (.getfield 62, 3) := by decide +kernel
theorem dX2_fallsHere_26 : decode cX2_fallsHere 26 = .ok (.if_icmp .le 18, 3) := by decide +kernel
theorem dX2_fallsHere_29 : decode cX2_fallsHere 29 = .ok (.aload_n 0, 1) := by decide +kernel
theorem dX2_fallsHere_30 : decode cX2_fallsHere 30 = .ok (.getfield 38, 3) := by decide +kernel
theorem dX2_fallsHere_33 : decode cX2_fallsHere 33 = .ok (.iconst 4, 1) := by decide +kernel
theorem dX2_fallsHere_34 : decode cX2_fallsHere 34 = .ok (.invokevirtual 143, 3) := by decide +kernel
theorem dX2_fallsHere_37 : decode cX2_fallsHere 37 = .ok (.ifCond .ne 7, 3) := by decide +kernel
theorem dX2_fallsHere_40 : decode cX2_fallsHere 40 = .ok (.iconst 1, 1) := by decide +kernel
theorem dX2_fallsHere_41 : decode cX2_fallsHere 41 = .ok (.goto 4, 3) := by decide +kernel
theorem dX2_fallsHere_44 : decode cX2_fallsHere 44 = .ok (.iconst 0, 1) := by decide +kernel
theorem dX2_fallsHere_45 : decode cX2_fallsHere 45 = .ok (.ireturn, 1) := by decide +kernel
theorem dX2_arrive_0 : decode cX2_arrive 0 = .ok (.aload_n 1, 1) := by decide +kernel
theorem dX2_arrive_1 : decode cX2_arrive 1 = .ok (.aload_n 0, 1) := by decide +kernel
theorem dX2_arrive_2 : decode cX2_arrive 2 = .ok (.getfield 56, 3) := by decide +kernel
theorem dX2_arrive_5 : decode cX2_arrive 5 = .ok (.putfield 162, 3) := by decide +kernel
theorem dX2_arrive_8 : decode cX2_arrive 8 = .ok (.aload_n 0, 1) := by decide +kernel
theorem dX2_arrive_9 : decode cX2_arrive 9 = .ok (.dup, 1) := by decide +kernel
theorem dX2_arrive_10 : decode cX2_arrive 10 = .ok (.getfield 56, 3) := by decide +kernel
theorem dX2_arrive_13 : decode cX2_arrive 13 = .ok (.iconst 1, 1) := by decide +kernel
theorem dX2_arrive_14 : decode cX2_arrive 14 = .ok (.iadd, 1) := by decide +kernel
theorem dX2_arrive_15 : decode cX2_arrive 15 = .ok (.putfield 56, 3) := by decide +kernel
theorem dX2_arrive_18 : decode cX2_arrive 18 = .ok (.aload_n 0, 1) := by decide +kernel
theorem dX2_arrive_19 : decode cX2_arrive 19 = .ok (.getfield 42, 3) := by decide +kernel
theorem dX2_arrive_22 : decode cX2_arrive 22 = .ok (.iconst (-1), 1) := by decide +kernel
theorem dX2_arrive_23 : decode cX2_arrive 23 = .ok (.if_icmp .ne 25, 3) := by decide +kernel
theorem dX2_arrive_26 : decode cX2_arrive 26 = .ok (.aload_n 0, 1) := by decide +kernel
theorem dX2_arrive_27 : decode cX2_arrive 27 = .ok (.getfield 65, 3) := by decide +kernel
theorem dX2_arrive_30 : decode cX2_arrive 30 = .ok (.ifCond .ne 10, 3) := by decide +kernel
theorem dX2_arrive_33 : decode cX2_arrive 33 = .ok (.aload_n 1, 1) := by decide +kernel
theorem dX2_arrive_34 : decode cX2_arrive 34 = .ok (.getfield 95, 3) := by decide +kernel
theorem dX2_arrive_37 : decode cX2_arrive 37 = .ok (.ifCond .ne 11, 3) := by decide +kernel
theorem dX2_arrive_40 : decode cX2_arrive 40 = .ok (.aload_n 0, 1) := by decide +kernel
theorem dX2_arrive_41 : decode cX2_arrive 41 = .ok (.aload_n 1, 1) := by decide +kernel
theorem dX2_arrive_42 : decode cX2_arrive 42 = .ok (.getfield 72, 3) := by decide +kernel
theorem dX2_arrive_45 : decode cX2_arrive 45 = .ok (.putfield 42, 3) := by decide +kernel
theorem dX2_arrive_48 : decode cX2_arrive 48 = .ok (.return_, 1) := by decide +kernel
theorem dX2_laneBeside_0 : decode cX2_laneBeside 0 = .ok (.iload_n 2, 1) := by decide +kernel
theorem dX2_laneBeside_1 : decode cX2_laneBeside 1 = .ok (.ifCond .le 18, 3) := by decide +kernel
theorem dX2_laneBeside_4 : decode cX2_laneBeside 4 = .ok (.aload_n 0, 1) := by decide +kernel
theorem dX2_laneBeside_5 : decode cX2_laneBeside 5 = .ok (.iload_n 1, 1) := by decide +kernel
theorem dX2_laneBeside_6 : decode cX2_laneBeside 6 = .ok (.iload_n 2, 1) := by decide +kernel
theorem dX2_laneBeside_7 : decode cX2_laneBeside 7 = .ok (.iconst 1, 1) := by decide +kernel
theorem dX2_laneBeside_8 : decode cX2_laneBeside 8 = .ok (.isub, 1) := by decide +kernel
theorem dX2_laneBeside_9 : decode cX2_laneBeside 9 = .ok (.invokevirtual 129, 3) := by decide +kernel
theorem dX2_laneBeside_12 : decode cX2_laneBeside 12 = .ok (.ifCond .eq 7, 3) := by decide +kernel
theorem dX2_laneBeside_15 : decode cX2_laneBeside 15 = .ok (.iload_n 2, 1) := by decide +kernel
theorem dX2_laneBeside_16 : decode cX2_laneBeside 16 = .ok (.iconst 1, 1) := by decide +kernel
theorem dX2_laneBeside_17 : decode cX2_laneBeside 17 = .ok (.isub, 1) := by decide +kernel
theorem dX2_laneBeside_18 : decode cX2_laneBeside 18 = .ok (.ireturn, 1) := by decide +kernel
theorem dX2_laneBeside_19 : decode cX2_laneBeside 19 = .ok (.iload_n 2, 1) := by decide +kernel
theorem dX2_laneBeside_20 : decode cX2_laneBeside 20 = .ok (.iconst 3, 1) := by decide +kernel
theorem dX2_laneBeside_21 : decode cX2_laneBeside 21 = .ok (.if_icmp .ge 20, 3) := by decide +kernel
theorem dX2_laneBeside_24 : decode cX2_laneBeside 24 = .ok (.aload_n 0, 1) := by decide +kernel
theorem dX2_laneBeside_25 : decode cX2_laneBeside 25 = .ok (.iload_n 1, 1) := by decide +kernel
theorem dX2_laneBeside_26 : decode cX2_laneBeside 26 = .ok (.iload_n 2, 1) := by decide +kernel
theorem dX2_laneBeside_27 : decode cX2_laneBeside 27 = .ok (.iconst 1, 1) := by decide +kernel
theorem dX2_laneBeside_28 : decode cX2_laneBeside 28 = .ok (.iadd, 1) := by decide +kernel
theorem dX2_laneBeside_29 : decode cX2_laneBeside 29 = .ok (.invokevirtual 129, 3) := by decide +kernel
theorem dX2_laneBeside_32 : decode cX2_laneBeside 32 = .ok (.ifCond .eq 9, 3) := by decide +kernel
theorem dX2_laneBeside_35 : decode cX2_laneBeside 35 = .ok (.iload_n 2, 1) := by decide +kernel
theorem dX2_laneBeside_36 : decode cX2_laneBeside 36 = .ok (.iconst 1, 1) := by decide +kernel
theorem dX2_laneBeside_37 : decode cX2_laneBeside 37 = .ok (.iadd, 1) := by decide +kernel
theorem dX2_laneBeside_38 : decode cX2_laneBeside 38 = .ok (.goto 4, 3) := by decide +kernel
theorem dX2_laneBeside_41 : decode cX2_laneBeside 41 = .ok (.iconst (-1), 1) := by decide +kernel
theorem dX2_laneBeside_42 : decode cX2_laneBeside 42 = .ok (.ireturn, 1) := by decide +kernel
theorem dX2_isFree_0 : decode cX2_isFree 0 = .ok (.iconst 0, 1) := by decide +kernel
theorem dX2_isFree_1 : decode cX2_isFree 1 = .ok (.istore_n 3, 1) := by decide +kernel
theorem dX2_isFree_2 : decode cX2_isFree 2 = .ok (.iload_n 3, 1) := by decide +kernel
theorem dX2_isFree_3 : decode cX2_isFree 3 = .ok (.aload_n 0, 1) := by decide +kernel
theorem dX2_isFree_4 : decode cX2_isFree 4 = .ok (.getfield 50, 3) := by decide +kernel
theorem dX2_isFree_7 : decode cX2_isFree 7 = .ok (.if_icmp .ge 58, 3) := by decide +kernel
theorem dX2_isFree_10 : decode cX2_isFree 10 = .ok (.aload_n 0, 1) := by decide +kernel
theorem dX2_isFree_11 : decode cX2_isFree 11 = .ok (.getfield 9, 3) := by decide +kernel
theorem dX2_isFree_14 : decode cX2_isFree 14 = .ok (.ifCond .le 51, 3) := by decide +kernel
theorem dX2_isFree_17 : decode cX2_isFree 17 = .ok (.aload_n 0, 1) := by decide +kernel
theorem dX2_isFree_18 : decode cX2_isFree 18 = .ok (.getfield 28, 3) := by decide +kernel
theorem dX2_isFree_21 : decode cX2_isFree 21 = .ok (.iload_n 3, 1) := by decide +kernel
theorem dX2_isFree_22 : decode cX2_isFree 22 = .ok (.aaload, 1) := by decide +kernel
theorem dX2_isFree_23 : decode cX2_isFree 23 = .ok (.astore 4, 2) := by decide +kernel
theorem dX2_isFree_25 : decode cX2_isFree 25 = .ok (.aload 4, 2) := by decide +kernel
theorem dX2_isFree_27 : decode cX2_isFree 27 = .ok (.invokevirtual 83, 3) := by decide +kernel
theorem dX2_isFree_30 : decode cX2_isFree 30 = .ok (.ifCond .eq 29, 3) := by decide +kernel
theorem dX2_isFree_33 : decode cX2_isFree 33 = .ok (.aload 4, 2) := by decide +kernel
theorem dX2_isFree_35 : decode cX2_isFree 35 = .ok (.getfield 117, 3) := by decide +kernel
theorem dX2_isFree_38 : decode cX2_isFree 38 = .ok (.iload_n 2, 1) := by decide +kernel
theorem dX2_isFree_39 : decode cX2_isFree 39 = .ok (.if_icmp .ne 20, 3) := by decide +kernel
theorem dX2_isFree_42 : decode cX2_isFree 42 = .ok (.aload 4, 2) := by decide +kernel
theorem dX2_isFree_44 : decode cX2_isFree 44 = .ok (.getfield 126, 3) := by decide +kernel
theorem dX2_isFree_47 : decode cX2_isFree 47 = .ok (.iload_n 1, 1) := by decide +kernel
theorem dX2_isFree_48 : decode cX2_isFree 48 = .ok (.isub, 1) := by decide +kernel
theorem dX2_isFree_49 : decode cX2_isFree 49 = .ok (.aload_n 0, 1) := by decide +kernel
theorem dX2_isFree_50 : decode cX2_isFree 50 = .ok (.getfield 9, 3) := by decide +kernel
theorem dX2_isFree_53 : decode cX2_isFree 53 = .ok (.irem, 1) := by decide +kernel
theorem dX2_isFree_54 : decode cX2_isFree 54 = .ok (.ifCond .ne 5, 3) := by decide +kernel
theorem dX2_isFree_57 : decode cX2_isFree 57 = .ok (.iconst 0, 1) := by decide +kernel
theorem dX2_isFree_58 : decode cX2_isFree 58 = .ok (.ireturn, 1) := by decide +kernel
theorem dX2_isFree_59 : decode cX2_isFree 59 = .ok (.iinc 3 1, 3) := by decide +kernel
theorem dX2_isFree_62 : decode cX2_isFree 62 = .ok (.goto (-60), 3) := by decide +kernel
theorem dX2_isFree_65 : decode cX2_isFree 65 = .ok (.iconst 1, 1) := by decide +kernel
theorem dX2_isFree_66 : decode cX2_isFree 66 = .ok (.ireturn, 1) := by decide +kernel
theorem dX2_isBend_0 : decode cX2_isBend 0 = .ok (.aload_n 0, 1) := by decide +kernel
theorem dX2_isBend_1 : decode cX2_isBend 1 = .ok (.getfield 9, 3) := by decide +kernel
theorem dX2_isBend_4 : decode cX2_isBend 4 = .ok (.ifCond .le 14, 3) := by decide +kernel
theorem dX2_isBend_7 : decode cX2_isBend 7 = .ok (.iload_n 1, 1) := by decide +kernel
theorem dX2_isBend_8 : decode cX2_isBend 8 = .ok (.aload_n 0, 1) := by decide +kernel
theorem dX2_isBend_9 : decode cX2_isBend 9 = .ok (.getfield 9, 3) := by decide +kernel
theorem dX2_isBend_12 : decode cX2_isBend 12 = .ok (.invokestatic 165, 3) := by decide +kernel
theorem dX2_isBend_15 : decode cX2_isBend 15 = .ok (.goto 4, 3) := by decide +kernel
theorem dX2_isBend_18 : decode cX2_isBend 18 = .ok (.iconst (-1), 1) := by decide +kernel
theorem dX2_isBend_19 : decode cX2_isBend 19 = .ok (.istore_n 2, 1) := by decide +kernel
theorem dX2_isBend_20 : decode cX2_isBend 20 = .ok (.iload_n 2, 1) := by decide +kernel
theorem dX2_isBend_21 : decode cX2_isBend 21 = .ok (.ifCond .lt 22, 3) := by decide +kernel
theorem dX2_isBend_24 : decode cX2_isBend 24 = .ok (.iload_n 2, 1) := by decide +kernel
theorem dX2_isBend_25 : decode cX2_isBend 25 = .ok (.bipush 60, 2) := by decide +kernel
theorem dX2_isBend_27 : decode cX2_isBend 27 = .ok (.if_icmp .ge 16, 3) := by decide +kernel
theorem dX2_isBend_30 : decode cX2_isBend 30 = .ok (.aload_n 0, 1) := by decide +kernel
theorem dX2_isBend_31 : decode cX2_isBend 31 = .ok (.getfield 15, 3) := by decide +kernel
theorem dX2_isBend_34 : decode cX2_isBend 34 = .ok (.iload_n 2, 1) := by decide +kernel
theorem dX2_isBend_35 : decode cX2_isBend 35 = .ok (.baload, 1) := by decide +kernel
theorem dX2_isBend_36 : decode cX2_isBend 36 = .ok (.ifCond .eq 7, 3) := by decide +kernel
theorem dX2_isBend_39 : decode cX2_isBend 39 = .ok (.iconst 1, 1) := by decide +kernel
theorem dX2_isBend_40 : decode cX2_isBend 40 = .ok (.goto 4, 3) := by decide +kernel
theorem dX2_isBend_43 : decode cX2_isBend 43 = .ok (.iconst 0, 1) := by decide +kernel
theorem dX2_isBend_44 : decode cX2_isBend 44 = .ok (.ireturn, 1) := by decide +kernel
theorem dX7_init_0 : decode cX7_init 0 = .ok (.aload_n 0, 1) := by decide +kernel
theorem dX7_init_1 : decode cX7_init 1 = .ok (.invokespecial 3, 3) := by decide +kernel
theorem dX7_init_4 : decode cX7_init 4 = .ok (.aload_n 0, 1) := by decide +kernel
theorem dX7_init_5 : decode cX7_init 5 = .ok (.sipush 600, 3) := by decide +kernel
theorem dX7_init_8 : decode cX7_init 8 = .ok (.newarray .byte, 2) := by decide +kernel
theorem dX7_init_10 : decode cX7_init 10 = .ok (.putfield 9, 3) := by decide +kernel
theorem dX7_init_13 : decode cX7_init 13 = .ok (.aload_n 0, 1) := by decide +kernel
theorem dX7_init_14 : decode cX7_init 14 = .ok (.bipush 7, 2) := by decide +kernel
theorem dX7_init_16 : decode cX7_init 16 = .ok (.newarray .int, 2) := by decide +kernel
theorem dX7_init_18 : decode cX7_init 18 = .ok (.putfield 15, 3) := by decide +kernel
theorem dX7_init_21 : decode cX7_init 21 = .ok (.aload_n 0, 1) := by decide +kernel
theorem dX7_init_22 : decode cX7_init 22 = .ok (.iconst 0, 1) := by decide +kernel
theorem dX7_init_23 : decode cX7_init 23 = .ok (.putfield 19, 3) := by decide +kernel
theorem dX7_init_26 : decode cX7_init 26 = .ok (.aload_n 0, 1) := by decide +kernel
theorem dX7_init_27 : decode cX7_init 27 = .ok (.iconst (-1), 1) := by decide +kernel
theorem dX7_init_28 : decode cX7_init 28 = .ok (.putfield 23, 3) := by decide +kernel
theorem dX7_init_31 : decode cX7_init 31 = .ok (.return_, 1) := by decide +kernel
theorem dX7_append_0 : decode cX7_append 0 = .ok (.bipush 24, 2) := by decide +kernel
theorem dX7_append_2 : decode cX7_append 2 = .ok (.istore_n 2, 1) := by decide +kernel
theorem dX7_append_3 : decode cX7_append 3 = .ok (.iload_n 2, 1) := by decide +kernel
theorem dX7_append_4 : decode cX7_append 4 = .ok (.ifCond .lt 42, 3) := by decide +kernel
theorem dX7_append_7 : decode cX7_append 7 = .ok (.aload_n 0, 1) := by decide +kernel
theorem dX7_append_8 : decode cX7_append 8 = .ok (.getfield 26, 3) := by decide +kernel
theorem dX7_append_11 : decode cX7_append 11 = .ok (.sipush 600, 3) := by decide +kernel
theorem dX7_append_14 : decode cX7_append 14 = .ok (.if_icmp .ge 32, 3) := by decide +kernel
theorem dX7_append_17 : decode cX7_append 17 = .ok (.aload_n 0, 1) := by decide +kernel
theorem dX7_append_18 : decode cX7_append 18 = .ok (.getfield 9, 3) := by decide +kernel
theorem dX7_append_21 : decode cX7_append 21 = .ok (.aload_n 0, 1) := by decide +kernel
theorem dX7_append_22 : decode cX7_append 22 = .ok (.getfield 26, 3) := by decide +kernel
theorem dX7_append_25 : decode cX7_append 25 = .ok (.iload_n 1, 1) := by decide +kernel
theorem dX7_append_26 : decode cX7_append 26 = .ok (.iload_n 2, 1) := by decide +kernel
theorem dX7_append_27 : decode cX7_append 27 = .ok (.ishr, 1) := by decide +kernel
theorem dX7_append_28 : decode cX7_append 28 = .ok (.i2b, 1) := by decide +kernel
theorem dX7_append_29 : decode cX7_append 29 = .ok (.bastore, 1) := by decide +kernel
theorem dX7_append_30 : decode cX7_append 30 = .ok (.aload_n 0, 1) := by decide +kernel
theorem dX7_append_31 : decode cX7_append 31 = .ok (.dup, 1) := by decide +kernel
theorem dX7_append_32 : decode cX7_append 32 = .ok (.getfield 26, 3) := by decide +kernel
theorem dX7_append_35 : decode cX7_append 35 = .ok (.iconst 1, 1) := by decide +kernel
theorem dX7_append_36 : decode cX7_append 36 = .ok (.iadd, 1) := by decide +kernel
theorem dX7_append_37 : decode cX7_append 37 = .ok (.putfield 26, 3) := by decide +kernel
theorem dX7_append_40 : decode cX7_append 40 = .ok (.iinc 2 (-8), 3) := by decide +kernel
theorem dX7_append_43 : decode cX7_append 43 = .ok (.goto (-40), 3) := by decide +kernel
theorem dX7_append_46 : decode cX7_append 46 = .ok (.return_, 1) := by decide +kernel
theorem dX7_readText_0 : decode cX7_readText 0 = .ok (.aload_n 0, 1) := by decide +kernel
theorem dX7_readText_1 : decode cX7_readText 1 = .ok (.iconst 0, 1) := by decide +kernel
theorem dX7_readText_2 : decode cX7_readText 2 = .ok (.putfield 29, 3) := by decide +kernel
theorem dX7_readText_5 : decode cX7_readText 5 = .ok (.aload_n 0, 1) := by decide +kernel
theorem dX7_readText_6 : decode cX7_readText 6 = .ok (.iload_n 1, 1) := by decide +kernel
theorem dX7_readText_7 : decode cX7_readText 7 = .ok (.aload_n 0, 1) := by decide +kernel
theorem dX7_readText_8 : decode cX7_readText 8 = .ok (.getfield 26, 3) := by decide +kernel
theorem dX7_readText_11 : decode cX7_readText 11 = .ok (.invokestatic 32, 3) := by decide +kernel
theorem dX7_readText_14 : decode cX7_readText 14 = .ok (.putfield 38, 3) := by decide +kernel
theorem dX7_readText_17 : decode cX7_readText 17 = .ok (.aload_n 0, 1) := by decide +kernel
theorem dX7_readText_18 : decode cX7_readText 18 = .ok (.iconst 0, 1) := by decide +kernel
theorem dX7_readText_19 : decode cX7_readText 19 = .ok (.putfield 19, 3) := by decide +kernel
theorem dX7_readText_22 : decode cX7_readText 22 = .ok (.aload_n 0, 1) := by decide +kernel
theorem dX7_readText_23 : decode cX7_readText 23 = .ok (.iconst (-1), 1) := by decide +kernel
theorem dX7_readText_24 : decode cX7_readText 24 = .ok (.putfield 23, 3) := by decide +kernel
theorem dX7_readText_27 : decode cX7_readText 27 = .ok (.aload_n 0, 1) := by decide +kernel
theorem dX7_readText_28 : decode cX7_readText 28 = .ok (.getfield 15, 3) := by decide +kernel
theorem dX7_readText_31 : decode cX7_readText 31 = .ok (.iconst (-1), 1) := by decide +kernel
theorem dX7_readText_32 : decode cX7_readText 32 = .ok (.invokestatic 41, 3) := by decide +kernel
theorem dX7_readText_35 : decode cX7_readText 35 = .ok (.aload_n 0, 1) := by decide +kernel
theorem dX7_readText_36 : decode cX7_readText 36 = .ok (.invokevirtual 47, 3) := by decide +kernel
theorem dX7_readText_39 : decode cX7_readText 39 = .ok (.iconst 0, 1) := by decide +kernel
theorem dX7_readText_40 : decode cX7_readText 40 = .ok (.istore_n 2, 1) := by decide +kernel
theorem dX7_readText_41 : decode cX7_readText 41 = .ok (.iload_n 2, 1) := by decide +kernel
theorem dX7_readText_42 : decode cX7_readText 42 = .ok (.iload_n 1, 1) := by decide +kernel
theorem dX7_readText_43 : decode cX7_readText 43 = .ok (.if_icmp .ge 35, 3) := by decide +kernel
theorem dX7_readText_46 : decode cX7_readText 46 = .ok (.aload_n 0, 1) := by decide +kernel
theorem dX7_readText_47 : decode cX7_readText 47 = .ok (.getfield 29, 3) := by decide +kernel
theorem dX7_readText_50 : decode cX7_readText 50 = .ok (.aload_n 0, 1) := by decide +kernel
theorem dX7_readText_51 : decode cX7_readText 51 = .ok (.getfield 38, 3) := by decide +kernel
theorem dX7_readText_54 : decode cX7_readText 54 = .ok (.if_icmp .ge 24, 3) := by decide +kernel
theorem dX7_readText_57 : decode cX7_readText 57 = .ok (.aload_n 0, 1) := by decide +kernel
theorem dX7_readText_58 : decode cX7_readText 58 = .ok (.getfield 19, 3) := by decide +kernel
theorem dX7_readText_61 : decode cX7_readText 61 = .ok (.ifCond .ne 17, 3) := by decide +kernel
theorem dX7_readText_64 : decode cX7_readText 64 = .ok (.aload_n 0, 1) := by decide +kernel
theorem dX7_readText_65 : decode cX7_readText 65 = .ok (.invokevirtual 50, 3) := by decide +kernel
theorem dX7_readText_68 : decode cX7_readText 68 = .ok (.aload_n 0, 1) := by decide +kernel
theorem dX7_readText_69 : decode cX7_readText 69 = .ok (.invokevirtual 47, 3) := by decide +kernel
theorem dX7_readText_72 : decode cX7_readText 72 = .ok (.iinc 2 1, 3) := by decide +kernel
theorem dX7_readText_75 : decode cX7_readText 75 = .ok (.goto (-34), 3) := by decide +kernel
theorem dX7_readText_78 : decode cX7_readText 78 = .ok (.aload_n 0, 1) := by decide +kernel
theorem dX7_readText_79 : decode cX7_readText 79 = .ok (.iconst 0, 1) := by decide +kernel
theorem dX7_readText_80 : decode cX7_readText 80 = .ok (.putfield 26, 3) := by decide +kernel
theorem dX7_readText_83 : decode cX7_readText 83 = .ok (.return_, 1) := by decide +kernel
theorem dX7_readLine_0 : decode cX7_readLine 0 = .ok (.aload_n 0, 1) := by decide +kernel
theorem dX7_readLine_1 : decode cX7_readLine 1 = .ok (.getfield 29, 3) := by decide +kernel
theorem dX7_readLine_4 : decode cX7_readLine 4 = .ok (.istore_n 1, 1) := by decide +kernel
theorem dX7_readLine_5 : decode cX7_readLine 5 = .ok (.aload_n 0, 1) := by decide +kernel
theorem dX7_readLine_6 : decode cX7_readLine 6 = .ok (.invokevirtual 53, 3) := by decide +kernel
theorem dX7_readLine_9 : decode cX7_readLine 9 = .ok (.istore_n 2, 1) := by decide +kernel
theorem dX7_readLine_10 : decode cX7_readLine 10 = .ok (.iload_n 2, 1) := by decide +kernel
theorem dX7_readLine_11 : decode cX7_readLine 11 = .ok (.iconst (-1), 1) := by decide +kernel
theorem dX7_readLine_12 : decode cX7_readLine 12 = .ok (.if_icmp .ne 10, 3) := by decide +kernel
theorem dX7_readLine_15 : decode cX7_readLine 15 = .ok (.aload_n 0, 1) := by decide +kernel
theorem dX7_readLine_16 : decode cX7_readLine 16 = .ok (.iconst 1, 1) := by decide +kernel
theorem dX7_readLine_17 : decode cX7_readLine 17 = .ok (.iload_n 1, 1) := by decide +kernel
theorem dX7_readLine_18 : decode cX7_readLine 18 = .ok (.invokevirtual 57, 3) := by decide +kernel
theorem dX7_readLine_21 : decode cX7_readLine 21 = .ok (.return_, 1) := by decide +kernel
theorem dX7_readLine_22 : decode cX7_readLine 22 = .ok (.aload_n 0, 1) := by decide +kernel
theorem dX7_readLine_23 : decode cX7_readLine 23 = .ok (.invokevirtual 47, 3) := by decide +kernel
theorem dX7_readLine_26 : decode cX7_readLine 26 = .ok (.aload_n 0, 1) := by decide +kernel
theorem dX7_readLine_27 : decode cX7_readLine 27 = .ok (.getfield 29, 3) := by decide +kernel
theorem dX7_readLine_30 : decode cX7_readLine 30 = .ok (.istore_n 3, 1) := by decide +kernel
theorem dX7_readLine_31 : decode cX7_readLine 31 = .ok (.aload_n 0, 1) := by decide +kernel
theorem dX7_readLine_32 : decode cX7_readLine 32 = .ok (.invokevirtual 61, 3) := by decide +kernel
theorem dX7_readLine_35 : decode cX7_readLine 35 = .ok (.istore 4, 2) := by decide +kernel
theorem dX7_readLine_37 : decode cX7_readLine 37 = .ok (.iload 4, 2) := by decide +kernel
theorem dX7_readLine_39 : decode cX7_readLine 39 = .ok (.iconst (-1), 1) := by decide +kernel
theorem dX7_readLine_40 : decode cX7_readLine 40 = .ok (.if_icmp .ne 12, 3) := by decide +kernel
theorem dX7_readLine_43 : decode cX7_readLine 43 = .ok (.aload_n 0, 1) := by decide +kernel
theorem dX7_readLine_44 : decode cX7_readLine 44 = .ok (.iconst 1, 1) := by decide +kernel
theorem dX7_readLine_45 : decode cX7_readLine 45 = .ok (.iload_n 3, 1) := by decide +kernel
theorem dX7_readLine_46 : decode cX7_readLine 46 = .ok (.invokevirtual 57, 3) := by decide +kernel
theorem dX7_readLine_49 : decode cX7_readLine 49 = .ok (.goto 63, 3) := by decide +kernel
theorem dX7_readLine_52 : decode cX7_readLine 52 = .ok (.iload 4, 2) := by decide +kernel
theorem dX7_readLine_54 : decode cX7_readLine 54 = .ok (.getstatic 64, 3) := by decide +kernel
theorem dX7_readLine_57 : decode cX7_readLine 57 = .ok (.iload_n 2, 1) := by decide +kernel
theorem dX7_readLine_58 : decode cX7_readLine 58 = .ok (.iaload, 1) := by decide +kernel
theorem dX7_readLine_59 : decode cX7_readLine 59 = .ok (.if_icmp .lt 13, 3) := by decide +kernel
theorem dX7_readLine_62 : decode cX7_readLine 62 = .ok (.iload 4, 2) := by decide +kernel
theorem dX7_readLine_64 : decode cX7_readLine 64 = .ok (.getstatic 67, 3) := by decide +kernel
theorem dX7_readLine_67 : decode cX7_readLine 67 = .ok (.iload_n 2, 1) := by decide +kernel
theorem dX7_readLine_68 : decode cX7_readLine 68 = .ok (.iaload, 1) := by decide +kernel
theorem dX7_readLine_69 : decode cX7_readLine 69 = .ok (.if_icmp .le 12, 3) := by decide +kernel
theorem dX7_readLine_72 : decode cX7_readLine 72 = .ok (.aload_n 0, 1) := by decide +kernel
theorem dX7_readLine_73 : decode cX7_readLine 73 = .ok (.iconst 2, 1) := by decide +kernel
theorem dX7_readLine_74 : decode cX7_readLine 74 = .ok (.iload_n 3, 1) := by decide +kernel
theorem dX7_readLine_75 : decode cX7_readLine 75 = .ok (.invokevirtual 57, 3) := by decide +kernel
theorem dX7_readLine_78 : decode cX7_readLine 78 = .ok (.goto 34, 3) := by decide +kernel
theorem dX7_readLine_81 : decode cX7_readLine 81 = .ok (.aload_n 0, 1) := by decide +kernel
theorem dX7_readLine_82 : decode cX7_readLine 82 = .ok (.getfield 15, 3) := by decide +kernel
theorem dX7_readLine_85 : decode cX7_readLine 85 = .ok (.iload_n 2, 1) := by decide +kernel
theorem dX7_readLine_86 : decode cX7_readLine 86 = .ok (.iaload, 1) := by decide +kernel
theorem dX7_readLine_87 : decode cX7_readLine 87 = .ok (.iconst (-1), 1) := by decide +kernel
theorem dX7_readLine_88 : decode cX7_readLine 88 = .ok (.if_icmp .eq 12, 3) := by decide +kernel
theorem dX7_readLine_91 : decode cX7_readLine 91 = .ok (.aload_n 0, 1) := by decide +kernel
theorem dX7_readLine_92 : decode cX7_readLine 92 = .ok (.iconst 3, 1) := by decide +kernel
theorem dX7_readLine_93 : decode cX7_readLine 93 = .ok (.iload_n 1, 1) := by decide +kernel
theorem dX7_readLine_94 : decode cX7_readLine 94 = .ok (.invokevirtual 57, 3) := by decide +kernel
theorem dX7_readLine_97 : decode cX7_readLine 97 = .ok (.goto 15, 3) := by decide +kernel
theorem dX7_readLine_100 : decode cX7_readLine 100 = .ok (.aload_n 0, 1) := by decide +kernel
theorem dX7_readLine_101 : decode cX7_readLine 101 = .ok (.getfield 15, 3) := by decide +kernel
theorem dX7_readLine_104 : decode cX7_readLine 104 = .ok (.iload_n 2, 1) := by decide +kernel
theorem dX7_readLine_105 : decode cX7_readLine 105 = .ok (.iload 4, 2) := by decide +kernel
theorem dX7_readLine_107 : decode cX7_readLine 107 = .ok (.iastore, 1) := by decide +kernel
theorem dX7_readLine_108 : decode cX7_readLine 108 = .ok (.aload_n 0, 1) := by decide +kernel
theorem dX7_readLine_109 : decode cX7_readLine 109 = .ok (.invokevirtual 70, 3) := by decide +kernel
theorem dX7_readLine_112 : decode cX7_readLine 112 = .ok (.return_, 1) := by decide +kernel
theorem dX7_blame_0 : decode cX7_blame 0 = .ok (.aload_n 0, 1) := by decide +kernel
theorem dX7_blame_1 : decode cX7_blame 1 = .ok (.iload_n 1, 1) := by decide +kernel
theorem dX7_blame_2 : decode cX7_blame 2 = .ok (.putfield 19, 3) := by decide +kernel
theorem dX7_blame_5 : decode cX7_blame 5 = .ok (.aload_n 0, 1) := by decide +kernel
theorem dX7_blame_6 : decode cX7_blame 6 = .ok (.iload_n 2, 1) := by decide +kernel
theorem dX7_blame_7 : decode cX7_blame 7 = .ok (.putfield 23, 3) := by decide +kernel
theorem dX7_blame_10 : decode cX7_blame 10 = .ok (.return_, 1) := by decide +kernel
theorem dX7_byteHere_0 : decode cX7_byteHere 0 = .ok (.aload_n 0, 1) := by decide +kernel
theorem dX7_byteHere_1 : decode cX7_byteHere 1 = .ok (.getfield 29, 3) := by decide +kernel
theorem dX7_byteHere_4 : decode cX7_byteHere 4 = .ok (.ifCond .lt 40, 3) := by decide +kernel
theorem dX7_byteHere_7 : decode cX7_byteHere 7 = .ok (.aload_n 0, 1) := by decide +kernel
theorem dX7_byteHere_8 : decode cX7_byteHere 8 = .ok (.getfield 29, 3) := by decide +kernel
theorem dX7_byteHere_11 : decode cX7_byteHere 11 = .ok (.aload_n 0, 1) := by decide +kernel
theorem dX7_byteHere_12 : decode cX7_byteHere 12 = .ok (.getfield 38, 3) := by decide +kernel
theorem dX7_byteHere_15 : decode cX7_byteHere 15 = .ok (.if_icmp .ge 29, 3) := by decide +kernel
theorem dX7_byteHere_18 : decode cX7_byteHere 18 = .ok (.aload_n 0, 1) := by decide +kernel
theorem dX7_byteHere_19 : decode cX7_byteHere 19 = .ok (.getfield 29, 3) := by decide +kernel
theorem dX7_byteHere_22 : decode cX7_byteHere 22 = .ok (.sipush 600, 3) := by decide +kernel
theorem dX7_byteHere_25 : decode cX7_byteHere 25 = .ok (.if_icmp .ge 19, 3) := by decide +kernel
theorem dX7_byteHere_28 : decode cX7_byteHere 28 = .ok (.aload_n 0, 1) := by decide +kernel
theorem dX7_byteHere_29 : decode cX7_byteHere 29 = .ok (.getfield 9, 3) := by decide +kernel
theorem dX7_byteHere_32 : decode cX7_byteHere 32 = .ok (.aload_n 0, 1) := by decide +kernel
theorem dX7_byteHere_33 : decode cX7_byteHere 33 = .ok (.getfield 29, 3) := by decide +kernel
theorem dX7_byteHere_36 : decode cX7_byteHere 36 = .ok (.baload, 1) := by decide +kernel
theorem dX7_byteHere_37 : decode cX7_byteHere 37 = .ok (.sipush 255, 3) := by decide +kernel
theorem dX7_byteHere_40 : decode cX7_byteHere 40 = .ok (.iand, 1) := by decide +kernel
theorem dX7_byteHere_41 : decode cX7_byteHere 41 = .ok (.goto 4, 3) := by decide +kernel
theorem dX7_byteHere_44 : decode cX7_byteHere 44 = .ok (.iconst (-1), 1) := by decide +kernel
theorem dX7_byteHere_45 : decode cX7_byteHere 45 = .ok (.ireturn, 1) := by decide +kernel
theorem dX7_skipBlanks_0 : decode cX7_skipBlanks 0 = .ok (.aload_n 0, 1) := by decide +kernel
theorem dX7_skipBlanks_1 : decode cX7_skipBlanks 1 = .ok (.getfield 29, 3) := by decide +kernel
theorem dX7_skipBlanks_4 : decode cX7_skipBlanks 4 = .ok (.aload_n 0, 1) := by decide +kernel
theorem dX7_skipBlanks_5 : decode cX7_skipBlanks 5 = .ok (.getfield 38, 3) := by decide +kernel
theorem dX7_skipBlanks_8 : decode cX7_skipBlanks 8 = .ok (.if_icmp .ge 34, 3) := by decide +kernel
theorem dX7_skipBlanks_11 : decode cX7_skipBlanks 11 = .ok (.aload_n 0, 1) := by decide +kernel
theorem dX7_skipBlanks_12 : decode cX7_skipBlanks 12 = .ok (.invokevirtual 73, 3) := by decide +kernel
theorem dX7_skipBlanks_15 : decode cX7_skipBlanks 15 = .ok (.bipush 10, 2) := by decide +kernel
theorem dX7_skipBlanks_17 : decode cX7_skipBlanks 17 = .ok (.if_icmp .eq 12, 3) := by decide +kernel
theorem dX7_skipBlanks_20 : decode cX7_skipBlanks 20 = .ok (.aload_n 0, 1) := by decide +kernel
theorem dX7_skipBlanks_21 : decode cX7_skipBlanks 21 = .ok (.invokevirtual 73, 3) := by decide +kernel
theorem dX7_skipBlanks_24 : decode cX7_skipBlanks 24 = .ok (.bipush 32, 2) := by decide +kernel
theorem dX7_skipBlanks_26 : decode cX7_skipBlanks 26 = .ok (.if_icmp .ne 16, 3) := by decide +kernel
theorem dX7_skipBlanks_29 : decode cX7_skipBlanks 29 = .ok (.aload_n 0, 1) := by decide +kernel
theorem dX7_skipBlanks_30 : decode cX7_skipBlanks 30 = .ok (.dup, 1) := by decide +kernel
theorem dX7_skipBlanks_31 : decode cX7_skipBlanks 31 = .ok (.getfield 29, 3) := by decide +kernel
theorem dX7_skipBlanks_34 : decode cX7_skipBlanks 34 = .ok (.iconst 1, 1) := by decide +kernel
theorem dX7_skipBlanks_35 : decode cX7_skipBlanks 35 = .ok (.iadd, 1) := by decide +kernel
theorem dX7_skipBlanks_36 : decode cX7_skipBlanks 36 = .ok (.putfield 29, 3) := by decide +kernel
theorem dX7_skipBlanks_39 : decode cX7_skipBlanks 39 = .ok (.goto (-39), 3) := by decide +kernel
theorem dX7_skipBlanks_42 : decode cX7_skipBlanks 42 = .ok (.return_, 1) := by decide +kernel
theorem dX7_takeWord_0 : decode cX7_takeWord 0 = .ok (.aload_n 0, 1) := by decide +kernel
theorem dX7_takeWord_1 : decode cX7_takeWord 1 = .ok (.getfield 29, 3) := by decide +kernel
theorem dX7_takeWord_4 : decode cX7_takeWord 4 = .ok (.istore_n 1, 1) := by decide +kernel
theorem dX7_takeWord_5 : decode cX7_takeWord 5 = .ok (.aload_n 0, 1) := by decide +kernel
theorem dX7_takeWord_6 : decode cX7_takeWord 6 = .ok (.getfield 29, 3) := by decide +kernel
theorem dX7_takeWord_9 : decode cX7_takeWord 9 = .ok (.aload_n 0, 1) := by decide +kernel
theorem dX7_takeWord_10 : decode cX7_takeWord 10 = .ok (.getfield 38, 3) := by decide +kernel
theorem dX7_takeWord_13 : decode cX7_takeWord 13 = .ok (.if_icmp .ge 34, 3) := by decide +kernel
theorem dX7_takeWord_16 : decode cX7_takeWord 16 = .ok (.aload_n 0, 1) := by decide +kernel
theorem dX7_takeWord_17 : decode cX7_takeWord 17 = .ok (.invokevirtual 73, 3) := by decide +kernel
theorem dX7_takeWord_20 : decode cX7_takeWord 20 = .ok (.bipush 97, 2) := by decide +kernel
theorem dX7_takeWord_22 : decode cX7_takeWord 22 = .ok (.if_icmp .lt 25, 3) := by decide +kernel
theorem dX7_takeWord_25 : decode cX7_takeWord 25 = .ok (.aload_n 0, 1) := by decide +kernel
theorem dX7_takeWord_26 : decode cX7_takeWord 26 = .ok (.invokevirtual 73, 3) := by decide +kernel
theorem dX7_takeWord_29 : decode cX7_takeWord 29 = .ok (.bipush 122, 2) := by decide +kernel
theorem dX7_takeWord_31 : decode cX7_takeWord 31 = .ok (.if_icmp .gt 16, 3) := by decide +kernel
theorem dX7_takeWord_34 : decode cX7_takeWord 34 = .ok (.aload_n 0, 1) := by decide +kernel
theorem dX7_takeWord_35 : decode cX7_takeWord 35 = .ok (.dup, 1) := by decide +kernel
theorem dX7_takeWord_36 : decode cX7_takeWord 36 = .ok (.getfield 29, 3) := by decide +kernel
theorem dX7_takeWord_39 : decode cX7_takeWord 39 = .ok (.iconst 1, 1) := by decide +kernel
theorem dX7_takeWord_40 : decode cX7_takeWord 40 = .ok (.iadd, 1) := by decide +kernel
theorem dX7_takeWord_41 : decode cX7_takeWord 41 = .ok (.putfield 29, 3) := by decide +kernel
theorem dX7_takeWord_44 : decode cX7_takeWord 44 = .ok (.goto (-39), 3) := by decide +kernel
theorem dX7_takeWord_47 : decode cX7_takeWord 47 = .ok (.iconst 0, 1) := by decide +kernel
theorem dX7_takeWord_48 : decode cX7_takeWord 48 = .ok (.istore_n 2, 1) := by decide +kernel
theorem dX7_takeWord_49 : decode cX7_takeWord 49 = .ok (.iload_n 2, 1) := by decide +kernel
theorem dX7_takeWord_50 : decode cX7_takeWord 50 = .ok (.bipush 7, 2) := by decide +kernel
theorem dX7_takeWord_52 : decode cX7_takeWord 52 = .ok (.if_icmp .ge 29, 3) := by decide +kernel
theorem dX7_takeWord_55 : decode cX7_takeWord 55 = .ok (.aload_n 0, 1) := by decide +kernel
theorem dX7_takeWord_56 : decode cX7_takeWord 56 = .ok (.iload_n 2, 1) := by decide +kernel
theorem dX7_takeWord_57 : decode cX7_takeWord 57 = .ok (.invokestatic 76, 3) := by decide +kernel
theorem dX7_takeWord_60 : decode cX7_takeWord 60 = .ok (.iload_n 1, 1) := by decide +kernel
theorem dX7_takeWord_61 : decode cX7_takeWord 61 = .ok (.aload_n 0, 1) := by decide +kernel
theorem dX7_takeWord_62 : decode cX7_takeWord 62 = .ok (.getfield 29, 3) := by decide +kernel
theorem dX7_takeWord_65 : decode cX7_takeWord 65 = .ok (.iload_n 1, 1) := by decide +kernel
theorem dX7_takeWord_66 : decode cX7_takeWord 66 = .ok (.isub, 1) := by decide +kernel
theorem dX7_takeWord_67 : decode cX7_takeWord 67 = .ok (.invokevirtual 80, 3) := by decide +kernel
theorem dX7_takeWord_70 : decode cX7_takeWord 70 = .ok (.ifCond .eq 5, 3) := by decide +kernel
theorem dX7_takeWord_73 : decode cX7_takeWord 73 = .ok (.iload_n 2, 1) := by decide +kernel
theorem dX7_takeWord_74 : decode cX7_takeWord 74 = .ok (.ireturn, 1) := by decide +kernel
theorem dX7_takeWord_75 : decode cX7_takeWord 75 = .ok (.iinc 2 1, 3) := by decide +kernel
theorem dX7_takeWord_78 : decode cX7_takeWord 78 = .ok (.goto (-29), 3) := by decide +kernel
theorem dX7_takeWord_81 : decode cX7_takeWord 81 = .ok (.iconst (-1), 1) := by decide +kernel
theorem dX7_takeWord_82 : decode cX7_takeWord 82 = .ok (.ireturn, 1) := by decide +kernel
theorem dX7_spells_0 : decode cX7_spells 0 = .ok (.iload_n 2, 1) := by decide +kernel
theorem dX7_spells_1 : decode cX7_spells 1 = .ok (.ifCond .lt 20, 3) := by decide +kernel
theorem dX7_spells_4 : decode cX7_spells 4 = .ok (.iload_n 3, 1) := by decide +kernel
theorem dX7_spells_5 : decode cX7_spells 5 = .ok (.aload_n 1, 1) := by decide +kernel
theorem dX7_spells_6 : decode cX7_spells 6 = .ok (.invokevirtual 84, 3) := by decide +kernel
theorem dX7_spells_9 : decode cX7_spells 9 = .ok (.if_icmp .ne 12, 3) := by decide +kernel
theorem dX7_spells_12 : decode cX7_spells 12 = .ok (.iload_n 2, 1) := by decide +kernel
theorem dX7_spells_13 : decode cX7_spells 13 = .ok (.iload_n 3, 1) := by decide +kernel
theorem dX7_spells_14 : decode cX7_spells 14 = .ok (.iadd, 1) := by decide +kernel
theorem dX7_spells_15 : decode cX7_spells 15 = .ok (.sipush 600, 3) := by decide +kernel
theorem dX7_spells_18 : decode cX7_spells 18 = .ok (.if_icmp .le 5, 3) := by decide +kernel
theorem dX7_spells_21 : decode cX7_spells 21 = .ok (.iconst 0, 1) := by decide +kernel
theorem dX7_spells_22 : decode cX7_spells 22 = .ok (.ireturn, 1) := by decide +kernel
theorem dX7_spells_23 : decode cX7_spells 23 = .ok (.iconst 0, 1) := by decide +kernel
theorem dX7_spells_24 : decode cX7_spells 24 = .ok (.istore 4, 2) := by decide +kernel
theorem dX7_spells_26 : decode cX7_spells 26 = .ok (.iload 4, 2) := by decide +kernel
theorem dX7_spells_28 : decode cX7_spells 28 = .ok (.iload_n 3, 1) := by decide +kernel
theorem dX7_spells_29 : decode cX7_spells 29 = .ok (.if_icmp .ge 29, 3) := by decide +kernel
theorem dX7_spells_32 : decode cX7_spells 32 = .ok (.aload_n 0, 1) := by decide +kernel
theorem dX7_spells_33 : decode cX7_spells 33 = .ok (.getfield 9, 3) := by decide +kernel
theorem dX7_spells_36 : decode cX7_spells 36 = .ok (.iload_n 2, 1) := by decide +kernel
theorem dX7_spells_37 : decode cX7_spells 37 = .ok (.iload 4, 2) := by decide +kernel
theorem dX7_spells_39 : decode cX7_spells 39 = .ok (.iadd, 1) := by decide +kernel
theorem dX7_spells_40 : decode cX7_spells 40 = .ok (.baload, 1) := by decide +kernel
theorem dX7_spells_41 : decode cX7_spells 41 = .ok (.aload_n 1, 1) := by decide +kernel
theorem dX7_spells_42 : decode cX7_spells 42 = .ok (.iload 4, 2) := by decide +kernel
theorem dX7_spells_44 : decode cX7_spells 44 = .ok (.invokevirtual 88, 3) := by decide +kernel
theorem dX7_spells_47 : decode cX7_spells 47 = .ok (.if_icmp .eq 5, 3) := by decide +kernel
theorem dX7_spells_50 : decode cX7_spells 50 = .ok (.iconst 0, 1) := by decide +kernel
theorem dX7_spells_51 : decode cX7_spells 51 = .ok (.ireturn, 1) := by decide +kernel
theorem dX7_spells_52 : decode cX7_spells 52 = .ok (.iinc 4 1, 3) := by decide +kernel
theorem dX7_spells_55 : decode cX7_spells 55 = .ok (.goto (-29), 3) := by decide +kernel
theorem dX7_spells_58 : decode cX7_spells 58 = .ok (.iconst 1, 1) := by decide +kernel
theorem dX7_spells_59 : decode cX7_spells 59 = .ok (.ireturn, 1) := by decide +kernel
theorem dX7_spelling_0 : decode cX7_spelling 0 = .ok (.iload_n 0, 1) := by decide +kernel
theorem dX7_spelling_1 : decode cX7_spelling 1 = .ok (.tableswitch 57 0 5 #[39, 42, 45, 48, 51, 54], 39) := by decide +kernel
theorem dX7_spelling_40 : decode cX7_spelling 40 = .ok (.ldc 92, 2) := by decide +kernel
theorem dX7_spelling_42 : decode cX7_spelling 42 = .ok (.areturn, 1) := by decide +kernel
theorem dX7_spelling_43 : decode cX7_spelling 43 = .ok (.ldc 94, 2) := by decide +kernel
theorem dX7_spelling_45 : decode cX7_spelling 45 = .ok (.areturn, 1) := by decide +kernel
theorem dX7_spelling_46 : decode cX7_spelling 46 = .ok (.ldc 96, 2) := by decide +kernel
theorem dX7_spelling_48 : decode cX7_spelling 48 = .ok (.areturn, 1) := by decide +kernel
theorem dX7_spelling_49 : decode cX7_spelling 49 = .ok (.ldc 98, 2) := by decide +kernel
theorem dX7_spelling_51 : decode cX7_spelling 51 = .ok (.areturn, 1) := by decide +kernel
theorem dX7_spelling_52 : decode cX7_spelling 52 = .ok (.ldc 100, 2) := by decide +kernel
theorem dX7_spelling_54 : decode cX7_spelling 54 = .ok (.areturn, 1) := by decide +kernel
theorem dX7_spelling_55 : decode cX7_spelling 55 = .ok (.ldc 102, 2) := by decide +kernel
theorem dX7_spelling_57 : decode cX7_spelling 57 = .ok (.areturn, 1) := by decide +kernel
theorem dX7_spelling_58 : decode cX7_spelling 58 = .ok (.ldc 104, 2) := by decide +kernel
theorem dX7_spelling_60 : decode cX7_spelling 60 = .ok (.areturn, 1) := by decide +kernel
theorem dX7_takeNumber_0 : decode cX7_takeNumber 0 = .ok (.iconst (-1), 1) := by decide +kernel
theorem dX7_takeNumber_1 : decode cX7_takeNumber 1 = .ok (.istore_n 1, 1) := by decide +kernel
theorem dX7_takeNumber_2 : decode cX7_takeNumber 2 = .ok (.aload_n 0, 1) := by decide +kernel
theorem dX7_takeNumber_3 : decode cX7_takeNumber 3 = .ok (.getfield 29, 3) := by decide +kernel
theorem dX7_takeNumber_6 : decode cX7_takeNumber 6 = .ok (.aload_n 0, 1) := by decide +kernel
theorem dX7_takeNumber_7 : decode cX7_takeNumber 7 = .ok (.getfield 38, 3) := by decide +kernel
theorem dX7_takeNumber_10 : decode cX7_takeNumber 10 = .ok (.if_icmp .ge 57, 3) := by decide +kernel
theorem dX7_takeNumber_13 : decode cX7_takeNumber 13 = .ok (.aload_n 0, 1) := by decide +kernel
theorem dX7_takeNumber_14 : decode cX7_takeNumber 14 = .ok (.invokevirtual 73, 3) := by decide +kernel
theorem dX7_takeNumber_17 : decode cX7_takeNumber 17 = .ok (.bipush 48, 2) := by decide +kernel
theorem dX7_takeNumber_19 : decode cX7_takeNumber 19 = .ok (.if_icmp .lt 48, 3) := by decide +kernel
theorem dX7_takeNumber_22 : decode cX7_takeNumber 22 = .ok (.aload_n 0, 1) := by decide +kernel
theorem dX7_takeNumber_23 : decode cX7_takeNumber 23 = .ok (.invokevirtual 73, 3) := by decide +kernel
theorem dX7_takeNumber_26 : decode cX7_takeNumber 26 = .ok (.bipush 57, 2) := by decide +kernel
theorem dX7_takeNumber_28 : decode cX7_takeNumber 28 = .ok (.if_icmp .gt 39, 3) := by decide +kernel
theorem dX7_takeNumber_31 : decode cX7_takeNumber 31 = .ok (.sipush 1000, 3) := by decide +kernel
theorem dX7_takeNumber_34 : decode cX7_takeNumber 34 = .ok (.iload_n 1, 1) := by decide +kernel
theorem dX7_takeNumber_35 : decode cX7_takeNumber 35 = .ok (.iconst 0, 1) := by decide +kernel
theorem dX7_takeNumber_36 : decode cX7_takeNumber 36 = .ok (.invokestatic 106, 3) := by decide +kernel
theorem dX7_takeNumber_39 : decode cX7_takeNumber 39 = .ok (.bipush 10, 2) := by decide +kernel
theorem dX7_takeNumber_41 : decode cX7_takeNumber 41 = .ok (.imul, 1) := by decide +kernel
theorem dX7_takeNumber_42 : decode cX7_takeNumber 42 = .ok (.aload_n 0, 1) := by decide +kernel
theorem dX7_takeNumber_43 : decode cX7_takeNumber 43 = .ok (.invokevirtual 73, 3) := by decide +kernel
theorem dX7_takeNumber_46 : decode cX7_takeNumber 46 = .ok (.iadd, 1) := by decide +kernel
theorem dX7_takeNumber_47 : decode cX7_takeNumber 47 = .ok (.bipush 48, 2) := by decide +kernel
theorem dX7_takeNumber_49 : decode cX7_takeNumber 49 = .ok (.isub, 1) := by decide +kernel
theorem dX7_takeNumber_50 : decode cX7_takeNumber 50 = .ok (.invokestatic 32, 3) := by decide +kernel
theorem dX7_takeNumber_53 : decode cX7_takeNumber 53 = .ok (.istore_n 1, 1) := by decide +kernel
theorem dX7_takeNumber_54 : decode cX7_takeNumber 54 = .ok (.aload_n 0, 1) := by decide +kernel
theorem dX7_takeNumber_55 : decode cX7_takeNumber 55 = .ok (.dup, 1) := by decide +kernel
theorem dX7_takeNumber_56 : decode cX7_takeNumber 56 = .ok (.getfield 29, 3) := by decide +kernel
theorem dX7_takeNumber_59 : decode cX7_takeNumber 59 = .ok (.iconst 1, 1) := by decide +kernel
theorem dX7_takeNumber_60 : decode cX7_takeNumber 60 = .ok (.iadd, 1) := by decide +kernel
theorem dX7_takeNumber_61 : decode cX7_takeNumber 61 = .ok (.putfield 29, 3) := by decide +kernel
theorem dX7_takeNumber_64 : decode cX7_takeNumber 64 = .ok (.goto (-62), 3) := by decide +kernel
theorem dX7_takeNumber_67 : decode cX7_takeNumber 67 = .ok (.iload_n 1, 1) := by decide +kernel
theorem dX7_takeNumber_68 : decode cX7_takeNumber 68 = .ok (.ireturn, 1) := by decide +kernel
theorem dX7_takeLineEnd_0 : decode cX7_takeLineEnd 0 = .ok (.aload_n 0, 1) := by decide +kernel
theorem dX7_takeLineEnd_1 : decode cX7_takeLineEnd 1 = .ok (.invokevirtual 47, 3) := by decide +kernel
theorem dX7_takeLineEnd_4 : decode cX7_takeLineEnd 4 = .ok (.aload_n 0, 1) := by decide +kernel
theorem dX7_takeLineEnd_5 : decode cX7_takeLineEnd 5 = .ok (.invokevirtual 73, 3) := by decide +kernel
theorem dX7_takeLineEnd_8 : decode cX7_takeLineEnd 8 = .ok (.bipush 59, 2) := by decide +kernel
theorem dX7_takeLineEnd_10 : decode cX7_takeLineEnd 10 = .ok (.if_icmp .ne 16, 3) := by decide +kernel
theorem dX7_takeLineEnd_13 : decode cX7_takeLineEnd 13 = .ok (.aload_n 0, 1) := by decide +kernel
theorem dX7_takeLineEnd_14 : decode cX7_takeLineEnd 14 = .ok (.dup, 1) := by decide +kernel
theorem dX7_takeLineEnd_15 : decode cX7_takeLineEnd 15 = .ok (.getfield 29, 3) := by decide +kernel
theorem dX7_takeLineEnd_18 : decode cX7_takeLineEnd 18 = .ok (.iconst 1, 1) := by decide +kernel
theorem dX7_takeLineEnd_19 : decode cX7_takeLineEnd 19 = .ok (.iadd, 1) := by decide +kernel
theorem dX7_takeLineEnd_20 : decode cX7_takeLineEnd 20 = .ok (.putfield 29, 3) := by decide +kernel
theorem dX7_takeLineEnd_23 : decode cX7_takeLineEnd 23 = .ok (.goto 12, 3) := by decide +kernel
theorem dX7_takeLineEnd_26 : decode cX7_takeLineEnd 26 = .ok (.aload_n 0, 1) := by decide +kernel
theorem dX7_takeLineEnd_27 : decode cX7_takeLineEnd 27 = .ok (.iconst 1, 1) := by decide +kernel
theorem dX7_takeLineEnd_28 : decode cX7_takeLineEnd 28 = .ok (.aload_n 0, 1) := by decide +kernel
theorem dX7_takeLineEnd_29 : decode cX7_takeLineEnd 29 = .ok (.getfield 29, 3) := by decide +kernel
theorem dX7_takeLineEnd_32 : decode cX7_takeLineEnd 32 = .ok (.invokevirtual 57, 3) := by decide +kernel
theorem dX7_takeLineEnd_35 : decode cX7_takeLineEnd 35 = .ok (.return_, 1) := by decide +kernel
