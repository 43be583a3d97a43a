theorem dX0_init_0 : decode cX0_init 0 = .ok (.aload_n 0, 1) := by decide +kernel
theorem dX0_init_1 : decode cX0_init 1 = .ok (.invokespecial 1, 3) := by decide +kernel
theorem dX0_init_4 : decode cX0_init 4 = .ok (.return_, 1) := by decide +kernel
theorem dX0_begin_0 : decode cX0_begin 0 = .ok (.aload_n 0, 1) := by decide +kernel
theorem dX0_begin_1 : decode cX0_begin 1 = .ok (.iload_n 1, 1) := by decide +kernel
theorem dX0_begin_2 : decode cX0_begin 2 = .ok (.putfield 7, 3) := by decide +kernel
theorem dX0_begin_5 : decode cX0_begin 5 = .ok (.return_, 1) := by decide +kernel
theorem dX0_below_0 : decode cX0_below 0 = .ok (.aload_n 0, 1) := by decide +kernel
theorem dX0_below_1 : decode cX0_below 1 = .ok (.ldc 13, 2) := by decide +kernel
theorem dX0_below_3 : decode cX0_below 3 = .ok (.aload_n 0, 1) := by decide +kernel
theorem dX0_below_4 : decode cX0_below 4 = .ok (.getfield 7, 3) := by decide +kernel
theorem dX0_below_7 : decode cX0_below 7 = .ok (.imul, 1) := by decide +kernel
theorem dX0_below_8 : decode cX0_below 8 = .ok (.sipush 12345, 3) := by decide +kernel
theorem dX0_below_11 : decode cX0_below 11 = .ok (.iadd, 1) := by decide +kernel
theorem dX0_below_12 : decode cX0_below 12 = .ok (.putfield 7, 3) := by decide +kernel
theorem dX0_below_15 : decode cX0_below 15 = .ok (.aload_n 0, 1) := by decide +kernel
theorem dX0_below_16 : decode cX0_below 16 = .ok (.getfield 7, 3) := by decide +kernel
theorem dX0_below_19 : decode cX0_below 19 = .ok (.bipush 16, 2) := by decide +kernel
theorem dX0_below_21 : decode cX0_below 21 = .ok (.ishr, 1) := by decide +kernel
theorem dX0_below_22 : decode cX0_below 22 = .ok (.sipush 32767, 3) := by decide +kernel
theorem dX0_below_25 : decode cX0_below 25 = .ok (.iand, 1) := by decide +kernel
theorem dX0_below_26 : decode cX0_below 26 = .ok (.istore_n 2, 1) := by decide +kernel
theorem dX0_below_27 : decode cX0_below 27 = .ok (.iload_n 1, 1) := by decide +kernel
theorem dX0_below_28 : decode cX0_below 28 = .ok (.ifCond .le 9, 3) := by decide +kernel
theorem dX0_below_31 : decode cX0_below 31 = .ok (.iload_n 2, 1) := by decide +kernel
theorem dX0_below_32 : decode cX0_below 32 = .ok (.iload_n 1, 1) := by decide +kernel
theorem dX0_below_33 : decode cX0_below 33 = .ok (.irem, 1) := by decide +kernel
theorem dX0_below_34 : decode cX0_below 34 = .ok (.goto 4, 3) := by decide +kernel
theorem dX0_below_37 : decode cX0_below 37 = .ok (.iconst 0, 1) := by decide +kernel
theorem dX0_below_38 : decode cX0_below 38 = .ok (.ireturn, 1) := by decide +kernel
theorem dX1_init_0 : decode cX1_init 0 = .ok (.aload_n 0, 1) := by decide +kernel
theorem dX1_init_1 : decode cX1_init 1 = .ok (.invokespecial 3, 3) := by decide +kernel
theorem dX1_init_4 : decode cX1_init 4 = .ok (.aload_n 0, 1) := by decide +kernel
theorem dX1_init_5 : decode cX1_init 5 = .ok (.bipush 40, 2) := by decide +kernel
theorem dX1_init_7 : decode cX1_init 7 = .ok (.newarray .int, 2) := by decide +kernel
theorem dX1_init_9 : decode cX1_init 9 = .ok (.putfield 9, 3) := by decide +kernel
theorem dX1_init_12 : decode cX1_init 12 = .ok (.aload_n 0, 1) := by decide +kernel
theorem dX1_init_13 : decode cX1_init 13 = .ok (.bipush 40, 2) := by decide +kernel
theorem dX1_init_15 : decode cX1_init 15 = .ok (.newarray .int, 2) := by decide +kernel
theorem dX1_init_17 : decode cX1_init 17 = .ok (.putfield 15, 3) := by decide +kernel
theorem dX1_init_20 : decode cX1_init 20 = .ok (.aload_n 0, 1) := by decide +kernel
theorem dX1_init_21 : decode cX1_init 21 = .ok (.bipush 40, 2) := by decide +kernel
theorem dX1_init_23 : decode cX1_init 23 = .ok (.newarray .int, 2) := by decide +kernel
theorem dX1_init_25 : decode cX1_init 25 = .ok (.putfield 18, 3) := by decide +kernel
theorem dX1_init_28 : decode cX1_init 28 = .ok (.return_, 1) := by decide +kernel
theorem dX1_add_0 : decode cX1_add 0 = .ok (.aload_n 0, 1) := by decide +kernel
theorem dX1_add_1 : decode cX1_add 1 = .ok (.getfield 21, 3) := by decide +kernel
theorem dX1_add_4 : decode cX1_add 4 = .ok (.bipush 40, 2) := by decide +kernel
theorem dX1_add_6 : decode cX1_add 6 = .ok (.if_icmp .lt 5, 3) := by decide +kernel
theorem dX1_add_9 : decode cX1_add 9 = .ok (.iconst (-1), 1) := by decide +kernel
theorem dX1_add_10 : decode cX1_add 10 = .ok (.ireturn, 1) := by decide +kernel
theorem dX1_add_11 : decode cX1_add 11 = .ok (.aload_n 0, 1) := by decide +kernel
theorem dX1_add_12 : decode cX1_add 12 = .ok (.getfield 9, 3) := by decide +kernel
theorem dX1_add_15 : decode cX1_add 15 = .ok (.aload_n 0, 1) := by decide +kernel
theorem dX1_add_16 : decode cX1_add 16 = .ok (.getfield 21, 3) := by decide +kernel
theorem dX1_add_19 : decode cX1_add 19 = .ok (.iload_n 1, 1) := by decide +kernel
theorem dX1_add_20 : decode cX1_add 20 = .ok (.iastore, 1) := by decide +kernel
theorem dX1_add_21 : decode cX1_add 21 = .ok (.aload_n 0, 1) := by decide +kernel
theorem dX1_add_22 : decode cX1_add 22 = .ok (.getfield 15, 3) := by decide +kernel
theorem dX1_add_25 : decode cX1_add 25 = .ok (.aload_n 0, 1) := by decide +kernel
theorem dX1_add_26 : decode cX1_add 26 = .ok (.getfield 21, 3) := by decide +kernel
theorem dX1_add_29 : decode cX1_add 29 = .ok (.iload_n 2, 1) := by decide +kernel
theorem dX1_add_30 : decode cX1_add 30 = .ok (.iastore, 1) := by decide +kernel
theorem dX1_add_31 : decode cX1_add 31 = .ok (.aload_n 0, 1) := by decide +kernel
theorem dX1_add_32 : decode cX1_add 32 = .ok (.getfield 18, 3) := by decide +kernel
theorem dX1_add_35 : decode cX1_add 35 = .ok (.aload_n 0, 1) := by decide +kernel
theorem dX1_add_36 : decode cX1_add 36 = .ok (.getfield 21, 3) := by decide +kernel
theorem dX1_add_39 : decode cX1_add 39 = .ok (.iload_n 3, 1) := by decide +kernel
theorem dX1_add_40 : decode cX1_add 40 = .ok (.iastore, 1) := by decide +kernel
theorem dX1_add_41 : decode cX1_add 41 = .ok (.aload_n 0, 1) := by decide +kernel
theorem dX1_add_42 : decode cX1_add 42 = .ok (.dup, 1) := by decide +kernel
theorem dX1_add_43 : decode cX1_add 43 = .ok (.getfield 21, 3) := by decide +kernel
theorem dX1_add_46 : decode cX1_add 46 = .ok (.iconst 1, 1) := by decide +kernel
theorem dX1_add_47 : decode cX1_add 47 = .ok (.iadd, 1) := by decide +kernel
theorem dX1_add_48 : decode cX1_add 48 = .ok (.putfield 21, 3) := by decide +kernel
theorem dX1_add_51 : decode cX1_add 51 = .ok (.aload_n 0, 1) := by decide +kernel
theorem dX1_add_52 : decode cX1_add 52 = .ok (.getfield 21, 3) := by decide +kernel
theorem dX1_add_55 : decode cX1_add 55 = .ok (.ireturn, 1) := by decide +kernel
theorem dX1_settle_0 : decode cX1_settle 0 = .ok (.iconst 0, 1) := by decide +kernel
theorem dX1_settle_1 : decode cX1_settle 1 = .ok (.istore_n 3, 1) := by decide +kernel
theorem dX1_settle_2 : decode cX1_settle 2 = .ok (.iload_n 3, 1) := by decide +kernel
theorem dX1_settle_3 : decode cX1_settle 3 = .ok (.aload_n 0, 1) := by decide +kernel
theorem dX1_settle_4 : decode cX1_settle 4 = .ok (.getfield 21, 3) := by decide +kernel
theorem dX1_settle_7 : decode cX1_settle 7 = .ok (.if_icmp .ge 85, 3) := by decide +kernel
theorem dX1_settle_10 : decode cX1_settle 10 = .ok (.aload_n 1, 1) := by decide +kernel
theorem dX1_settle_11 : decode cX1_settle 11 = .ok (.aload_n 0, 1) := by decide +kernel
theorem dX1_settle_12 : decode cX1_settle 12 = .ok (.getfield 9, 3) := by decide +kernel
theorem dX1_settle_15 : decode cX1_settle 15 = .ok (.iload_n 3, 1) := by decide +kernel
theorem dX1_settle_16 : decode cX1_settle 16 = .ok (.iaload, 1) := by decide +kernel
theorem dX1_settle_17 : decode cX1_settle 17 = .ok (.invokevirtual 25, 3) := by decide +kernel
theorem dX1_settle_20 : decode cX1_settle 20 = .ok (.astore 4, 2) := by decide +kernel
theorem dX1_settle_22 : decode cX1_settle 22 = .ok (.aload_n 1, 1) := by decide +kernel
theorem dX1_settle_23 : decode cX1_settle 23 = .ok (.aload_n 0, 1) := by decide +kernel
theorem dX1_settle_24 : decode cX1_settle 24 = .ok (.getfield 15, 3) := by decide +kernel
theorem dX1_settle_27 : decode cX1_settle 27 = .ok (.iload_n 3, 1) := by decide +kernel
theorem dX1_settle_28 : decode cX1_settle 28 = .ok (.iaload, 1) := by decide +kernel
theorem dX1_settle_29 : decode cX1_settle 29 = .ok (.invokevirtual 25, 3) := by decide +kernel
theorem dX1_settle_32 : decode cX1_settle 32 = .ok (.astore 5, 2) := by decide +kernel
theorem dX1_settle_34 : decode cX1_settle 34 = .ok (.aload_n 0, 1) := by decide +kernel
theorem dX1_settle_35 : decode cX1_settle 35 = .ok (.getfield 9, 3) := by decide +kernel
theorem dX1_settle_38 : decode cX1_settle 38 = .ok (.iload_n 3, 1) := by decide +kernel
theorem dX1_settle_39 : decode cX1_settle 39 = .ok (.iaload, 1) := by decide +kernel
theorem dX1_settle_40 : decode cX1_settle 40 = .ok (.iload_n 2, 1) := by decide +kernel
theorem dX1_settle_41 : decode cX1_settle 41 = .ok (.if_icmp .ne 45, 3) := by decide +kernel
theorem dX1_settle_44 : decode cX1_settle 44 = .ok (.aload 4, 2) := by decide +kernel
theorem dX1_settle_46 : decode cX1_settle 46 = .ok (.ifnull 40, 3) := by decide +kernel
theorem dX1_settle_49 : decode cX1_settle 49 = .ok (.aload 5, 2) := by decide +kernel
theorem dX1_settle_51 : decode cX1_settle 51 = .ok (.ifnull 35, 3) := by decide +kernel
theorem dX1_settle_54 : decode cX1_settle 54 = .ok (.aload 4, 2) := by decide +kernel
theorem dX1_settle_56 : decode cX1_settle 56 = .ok (.dup, 1) := by decide +kernel
theorem dX1_settle_57 : decode cX1_settle 57 = .ok (.getfield 31, 3) := by decide +kernel
theorem dX1_settle_60 : decode cX1_settle 60 = .ok (.aload_n 0, 1) := by decide +kernel
theorem dX1_settle_61 : decode cX1_settle 61 = .ok (.getfield 18, 3) := by decide +kernel
theorem dX1_settle_64 : decode cX1_settle 64 = .ok (.iload_n 3, 1) := by decide +kernel
theorem dX1_settle_65 : decode cX1_settle 65 = .ok (.iaload, 1) := by decide +kernel
theorem dX1_settle_66 : decode cX1_settle 66 = .ok (.isub, 1) := by decide +kernel
theorem dX1_settle_67 : decode cX1_settle 67 = .ok (.putfield 31, 3) := by decide +kernel
theorem dX1_settle_70 : decode cX1_settle 70 = .ok (.aload 5, 2) := by decide +kernel
theorem dX1_settle_72 : decode cX1_settle 72 = .ok (.dup, 1) := by decide +kernel
theorem dX1_settle_73 : decode cX1_settle 73 = .ok (.getfield 31, 3) := by decide +kernel
theorem dX1_settle_76 : decode cX1_settle 76 = .ok (.aload_n 0, 1) := by decide +kernel
theorem dX1_settle_77 : decode cX1_settle 77 = .ok (.getfield 18, 3) := by decide +kernel
theorem dX1_settle_80 : decode cX1_settle 80 = .ok (.iload_n 3, 1) := by decide +kernel
theorem dX1_settle_81 : decode cX1_settle 81 = .ok (.iaload, 1) := by decide +kernel
theorem dX1_settle_82 : decode cX1_settle 82 = .ok (.iadd, 1) := by decide +kernel
theorem dX1_settle_83 : decode cX1_settle 83 = .ok (.putfield 31, 3) := by decide +kernel
theorem dX1_settle_86 : decode cX1_settle 86 = .ok (.iinc 3 1, 3) := by decide +kernel
theorem dX1_settle_89 : decode cX1_settle 89 = .ok (.goto (-87), 3) := by decide +kernel
theorem dX1_settle_92 : decode cX1_settle 92 = .ok (.aload_n 0, 1) := by decide +kernel
theorem dX1_settle_93 : decode cX1_settle 93 = .ok (.iconst 0, 1) := by decide +kernel
theorem dX1_settle_94 : decode cX1_settle 94 = .ok (.putfield 21, 3) := by decide +kernel
theorem dX1_settle_97 : decode cX1_settle 97 = .ok (.return_, 1) := by decide +kernel
theorem dX3_init_0 : decode cX3_init 0 = .ok (.aload_n 0, 1) := by decide +kernel
theorem dX3_init_1 : decode cX3_init 1 = .ok (.invokespecial 3, 3) := by decide +kernel
theorem dX3_init_4 : decode cX3_init 4 = .ok (.aload_n 0, 1) := by decide +kernel
theorem dX3_init_5 : decode cX3_init 5 = .ok (.bipush 10, 2) := by decide +kernel
theorem dX3_init_7 : decode cX3_init 7 = .ok (.newarray .int, 2) := by decide +kernel
theorem dX3_init_9 : decode cX3_init 9 = .ok (.putfield 9, 3) := by decide +kernel
theorem dX3_init_12 : decode cX3_init 12 = .ok (.aload_n 0, 1) := by decide +kernel
theorem dX3_init_13 : decode cX3_init 13 = .ok (.bipush 10, 2) := by decide +kernel
theorem dX3_init_15 : decode cX3_init 15 = .ok (.newarray .int, 2) := by decide +kernel
theorem dX3_init_17 : decode cX3_init 17 = .ok (.putfield 15, 3) := by decide +kernel
theorem dX3_init_20 : decode cX3_init 20 = .ok (.aload_n 0, 1) := by decide +kernel
theorem dX3_init_21 : decode cX3_init 21 = .ok (.bipush 10, 2) := by decide +kernel
theorem dX3_init_23 : decode cX3_init 23 = .ok (.newarray .int, 2) := by decide +kernel
theorem dX3_init_25 : decode cX3_init 25 = .ok (.putfield 18, 3) := by decide +kernel
theorem dX3_init_28 : decode cX3_init 28 = .ok (.aload_n 0, 1) := by decide +kernel
theorem dX3_init_29 : decode cX3_init 29 = .ok (.bipush 10, 2) := by decide +kernel
theorem dX3_init_31 : decode cX3_init 31 = .ok (.newarray .int, 2) := by decide +kernel
theorem dX3_init_33 : decode cX3_init 33 = .ok (.putfield 21, 3) := by decide +kernel
theorem dX3_init_36 : decode cX3_init 36 = .ok (.return_, 1) := by decide +kernel
theorem dX3_listRunners_0 : decode cX3_listRunners 0 = .ok (.aload_n 0, 1) := by decide +kernel
theorem dX3_listRunners_1 : decode cX3_listRunners 1 = .ok (.iconst 0, 1) := by decide +kernel
theorem dX3_listRunners_2 : decode cX3_listRunners 2 = .ok (.putfield 24, 3) := by decide +kernel
theorem dX3_listRunners_5 : decode cX3_listRunners 5 = .ok (.iconst 0, 1) := by decide +kernel
theorem dX3_listRunners_6 : decode cX3_listRunners 6 = .ok (.istore_n 2, 1) := by decide +kernel
theorem dX3_listRunners_7 : decode cX3_listRunners 7 = .ok (.iload_n 2, 1) := by decide +kernel
theorem dX3_listRunners_8 : decode cX3_listRunners 8 = .ok (.aload_n 1, 1) := by decide +kernel
theorem dX3_listRunners_9 : decode cX3_listRunners 9 = .ok (.getfield 28, 3) := by decide +kernel
theorem dX3_listRunners_12 : decode cX3_listRunners 12 = .ok (.if_icmp .ge 46, 3) := by decide +kernel
theorem dX3_listRunners_15 : decode cX3_listRunners 15 = .ok (.aload_n 0, 1) := by decide +kernel
theorem dX3_listRunners_16 : decode cX3_listRunners 16 = .ok (.getfield 24, 3) := by decide +kernel
theorem dX3_listRunners_19 : decode cX3_listRunners 19 = .ok (.bipush 10, 2) := by decide +kernel
theorem dX3_listRunners_21 : decode cX3_listRunners 21 = .ok (.if_icmp .ge 37, 3) := by decide +kernel
theorem dX3_listRunners_24 : decode cX3_listRunners 24 = .ok (.aload_n 1, 1) := by decide +kernel
theorem dX3_listRunners_25 : decode cX3_listRunners 25 = .ok (.iload_n 2, 1) := by decide +kernel
theorem dX3_listRunners_26 : decode cX3_listRunners 26 = .ok (.invokevirtual 33, 3) := by decide +kernel
theorem dX3_listRunners_29 : decode cX3_listRunners 29 = .ok (.ifCond .eq 23, 3) := by decide +kernel
theorem dX3_listRunners_32 : decode cX3_listRunners 32 = .ok (.aload_n 0, 1) := by decide +kernel
theorem dX3_listRunners_33 : decode cX3_listRunners 33 = .ok (.getfield 9, 3) := by decide +kernel
theorem dX3_listRunners_36 : decode cX3_listRunners 36 = .ok (.aload_n 0, 1) := by decide +kernel
theorem dX3_listRunners_37 : decode cX3_listRunners 37 = .ok (.getfield 24, 3) := by decide +kernel
theorem dX3_listRunners_40 : decode cX3_listRunners 40 = .ok (.iload_n 2, 1) := by decide +kernel
theorem dX3_listRunners_41 : decode cX3_listRunners 41 = .ok (.iastore, 1) := by decide +kernel
theorem dX3_listRunners_42 : decode cX3_listRunners 42 = .ok (.aload_n 0, 1) := by decide +kernel
theorem dX3_listRunners_43 : decode cX3_listRunners 43 = .ok (.dup, 1) := by decide +kernel
theorem dX3_listRunners_44 : decode cX3_listRunners 44 = .ok (.getfield 24, 3) := by decide +kernel
theorem dX3_listRunners_47 : decode cX3_listRunners 47 = .ok (.iconst 1, 1) := by decide +kernel
theorem dX3_listRunners_48 : decode cX3_listRunners 48 = .ok (.iadd, 1) := by decide +kernel
theorem dX3_listRunners_49 : decode cX3_listRunners 49 = .ok (.putfield 24, 3) := by decide +kernel
theorem dX3_listRunners_52 : decode cX3_listRunners 52 = .ok (.iinc 2 1, 3) := by decide +kernel
theorem dX3_listRunners_55 : decode cX3_listRunners 55 = .ok (.goto (-48), 3) := by decide +kernel
theorem dX3_listRunners_58 : decode cX3_listRunners 58 = .ok (.return_, 1) := by decide +kernel
theorem dX3_drawHorses_0 : decode cX3_drawHorses 0 = .ok (.aload_n 0, 1) := by decide +kernel
theorem dX3_drawHorses_1 : decode cX3_drawHorses 1 = .ok (.aload_n 2, 1) := by decide +kernel
theorem dX3_drawHorses_2 : decode cX3_drawHorses 2 = .ok (.invokevirtual 37, 3) := by decide +kernel
theorem dX3_drawHorses_5 : decode cX3_drawHorses 5 = .ok (.iconst 0, 1) := by decide +kernel
theorem dX3_drawHorses_6 : decode cX3_drawHorses 6 = .ok (.istore 4, 2) := by decide +kernel
theorem dX3_drawHorses_8 : decode cX3_drawHorses 8 = .ok (.iload 4, 2) := by decide +kernel
theorem dX3_drawHorses_10 : decode cX3_drawHorses 10 = .ok (.aload_n 0, 1) := by decide +kernel
theorem dX3_drawHorses_11 : decode cX3_drawHorses 11 = .ok (.getfield 24, 3) := by decide +kernel
theorem dX3_drawHorses_14 : decode cX3_drawHorses 14 = .ok (.if_icmp .ge 51, 3) := by decide +kernel
theorem dX3_drawHorses_17 : decode cX3_drawHorses 17 = .ok (.aload_n 0, 1) := by decide +kernel
theorem dX3_drawHorses_18 : decode cX3_drawHorses 18 = .ok (.aload_n 3, 1) := by decide +kernel
theorem dX3_drawHorses_19 : decode cX3_drawHorses 19 = .ok (.aload_n 0, 1) := by decide +kernel
theorem dX3_drawHorses_20 : decode cX3_drawHorses 20 = .ok (.getfield 24, 3) := by decide +kernel
theorem dX3_drawHorses_23 : decode cX3_drawHorses 23 = .ok (.iload 4, 2) := by decide +kernel
theorem dX3_drawHorses_25 : decode cX3_drawHorses 25 = .ok (.isub, 1) := by decide +kernel
theorem dX3_drawHorses_26 : decode cX3_drawHorses 26 = .ok (.invokevirtual 41, 3) := by decide +kernel
theorem dX3_drawHorses_29 : decode cX3_drawHorses 29 = .ok (.invokevirtual 47, 3) := by decide +kernel
theorem dX3_drawHorses_32 : decode cX3_drawHorses 32 = .ok (.istore 5, 2) := by decide +kernel
theorem dX3_drawHorses_34 : decode cX3_drawHorses 34 = .ok (.aload_n 1, 1) := by decide +kernel
theorem dX3_drawHorses_35 : decode cX3_drawHorses 35 = .ok (.aload_n 0, 1) := by decide +kernel
theorem dX3_drawHorses_36 : decode cX3_drawHorses 36 = .ok (.getfield 9, 3) := by decide +kernel
theorem dX3_drawHorses_39 : decode cX3_drawHorses 39 = .ok (.iload 4, 2) := by decide +kernel
theorem dX3_drawHorses_41 : decode cX3_drawHorses 41 = .ok (.iaload, 1) := by decide +kernel
theorem dX3_drawHorses_42 : decode cX3_drawHorses 42 = .ok (.invokevirtual 50, 3) := by decide +kernel
theorem dX3_drawHorses_45 : decode cX3_drawHorses 45 = .ok (.astore 6, 2) := by decide +kernel
theorem dX3_drawHorses_47 : decode cX3_drawHorses 47 = .ok (.aload 6, 2) := by decide +kernel
theorem dX3_drawHorses_49 : decode cX3_drawHorses 49 = .ok (.ifnull 10, 3) := by decide +kernel
theorem dX3_drawHorses_52 : decode cX3_drawHorses 52 = .ok (.aload 6, 2) := by decide +kernel
theorem dX3_drawHorses_54 : decode cX3_drawHorses 54 = .ok (.iload 5, 2) := by decide +kernel
theorem dX3_drawHorses_56 : decode cX3_drawHorses 56 = .ok (.putfield 54, 3) := by decide +kernel
theorem dX3_drawHorses_59 : decode cX3_drawHorses 59 = .ok (.iinc 4 1, 3) := by decide +kernel
theorem dX3_drawHorses_62 : decode cX3_drawHorses 62 = .ok (.goto (-54), 3) := by decide +kernel
theorem dX3_drawHorses_65 : decode cX3_drawHorses 65 = .ok (.return_, 1) := by decide +kernel
theorem dX3_drawPlaces_0 : decode cX3_drawPlaces 0 = .ok (.aload_n 0, 1) := by decide +kernel
theorem dX3_drawPlaces_1 : decode cX3_drawPlaces 1 = .ok (.aload_n 0, 1) := by decide +kernel
theorem dX3_drawPlaces_2 : decode cX3_drawPlaces 2 = .ok (.getfield 9, 3) := by decide +kernel
theorem dX3_drawPlaces_5 : decode cX3_drawPlaces 5 = .ok (.invokevirtual 37, 3) := by decide +kernel
theorem dX3_drawPlaces_8 : decode cX3_drawPlaces 8 = .ok (.iconst 0, 1) := by decide +kernel
theorem dX3_drawPlaces_9 : decode cX3_drawPlaces 9 = .ok (.istore_n 2, 1) := by decide +kernel
theorem dX3_drawPlaces_10 : decode cX3_drawPlaces 10 = .ok (.iload_n 2, 1) := by decide +kernel
theorem dX3_drawPlaces_11 : decode cX3_drawPlaces 11 = .ok (.aload_n 0, 1) := by decide +kernel
theorem dX3_drawPlaces_12 : decode cX3_drawPlaces 12 = .ok (.getfield 24, 3) := by decide +kernel
theorem dX3_drawPlaces_15 : decode cX3_drawPlaces 15 = .ok (.if_icmp .ge 29, 3) := by decide +kernel
theorem dX3_drawPlaces_18 : decode cX3_drawPlaces 18 = .ok (.aload_n 0, 1) := by decide +kernel
theorem dX3_drawPlaces_19 : decode cX3_drawPlaces 19 = .ok (.getfield 15, 3) := by decide +kernel
theorem dX3_drawPlaces_22 : decode cX3_drawPlaces 22 = .ok (.iload_n 2, 1) := by decide +kernel
theorem dX3_drawPlaces_23 : decode cX3_drawPlaces 23 = .ok (.aload_n 0, 1) := by decide +kernel
theorem dX3_drawPlaces_24 : decode cX3_drawPlaces 24 = .ok (.aload_n 1, 1) := by decide +kernel
theorem dX3_drawPlaces_25 : decode cX3_drawPlaces 25 = .ok (.aload_n 0, 1) := by decide +kernel
theorem dX3_drawPlaces_26 : decode cX3_drawPlaces 26 = .ok (.getfield 24, 3) := by decide +kernel
theorem dX3_drawPlaces_29 : decode cX3_drawPlaces 29 = .ok (.iload_n 2, 1) := by decide +kernel
theorem dX3_drawPlaces_30 : decode cX3_drawPlaces 30 = .ok (.isub, 1) := by decide +kernel
theorem dX3_drawPlaces_31 : decode cX3_drawPlaces 31 = .ok (.invokevirtual 41, 3) := by decide +kernel
theorem dX3_drawPlaces_34 : decode cX3_drawPlaces 34 = .ok (.invokevirtual 47, 3) := by decide +kernel
theorem dX3_drawPlaces_37 : decode cX3_drawPlaces 37 = .ok (.iastore, 1) := by decide +kernel
theorem dX3_drawPlaces_38 : decode cX3_drawPlaces 38 = .ok (.iinc 2 1, 3) := by decide +kernel
theorem dX3_drawPlaces_41 : decode cX3_drawPlaces 41 = .ok (.goto (-31), 3) := by decide +kernel
theorem dX3_drawPlaces_44 : decode cX3_drawPlaces 44 = .ok (.aload_n 0, 1) := by decide +kernel
theorem dX3_drawPlaces_45 : decode cX3_drawPlaces 45 = .ok (.invokevirtual 59, 3) := by decide +kernel
theorem dX3_drawPlaces_48 : decode cX3_drawPlaces 48 = .ok (.return_, 1) := by decide +kernel
theorem dX3_layOut_0 : decode cX3_layOut 0 = .ok (.iconst 0, 1) := by decide +kernel
theorem dX3_layOut_1 : decode cX3_layOut 1 = .ok (.istore_n 2, 1) := by decide +kernel
theorem dX3_layOut_2 : decode cX3_layOut 2 = .ok (.iload_n 2, 1) := by decide +kernel
theorem dX3_layOut_3 : decode cX3_layOut 3 = .ok (.aload_n 0, 1) := by decide +kernel
theorem dX3_layOut_4 : decode cX3_layOut 4 = .ok (.getfield 24, 3) := by decide +kernel
theorem dX3_layOut_7 : decode cX3_layOut 7 = .ok (.if_icmp .ge 24, 3) := by decide +kernel
theorem dX3_layOut_10 : decode cX3_layOut 10 = .ok (.iload_n 2, 1) := by decide +kernel
theorem dX3_layOut_11 : decode cX3_layOut 11 = .ok (.aload_n 1, 1) := by decide +kernel
theorem dX3_layOut_12 : decode cX3_layOut 12 = .ok (.arraylength, 1) := by decide +kernel
theorem dX3_layOut_13 : decode cX3_layOut 13 = .ok (.if_icmp .ge 18, 3) := by decide +kernel
theorem dX3_layOut_16 : decode cX3_layOut 16 = .ok (.aload_n 0, 1) := by decide +kernel
theorem dX3_layOut_17 : decode cX3_layOut 17 = .ok (.getfield 21, 3) := by decide +kernel
theorem dX3_layOut_20 : decode cX3_layOut 20 = .ok (.iload_n 2, 1) := by decide +kernel
theorem dX3_layOut_21 : decode cX3_layOut 21 = .ok (.aload_n 1, 1) := by decide +kernel
theorem dX3_layOut_22 : decode cX3_layOut 22 = .ok (.iload_n 2, 1) := by decide +kernel
theorem dX3_layOut_23 : decode cX3_layOut 23 = .ok (.iaload, 1) := by decide +kernel
theorem dX3_layOut_24 : decode cX3_layOut 24 = .ok (.iastore, 1) := by decide +kernel
theorem dX3_layOut_25 : decode cX3_layOut 25 = .ok (.iinc 2 1, 3) := by decide +kernel
theorem dX3_layOut_28 : decode cX3_layOut 28 = .ok (.goto (-26), 3) := by decide +kernel
theorem dX3_layOut_31 : decode cX3_layOut 31 = .ok (.return_, 1) := by decide +kernel
theorem dX3_takeLeft_0 : decode cX3_takeLeft 0 = .ok (.iload_n 1, 1) := by decide +kernel
theorem dX3_takeLeft_1 : decode cX3_takeLeft 1 = .ok (.ifCond .lt 11, 3) := by decide +kernel
theorem dX3_takeLeft_4 : decode cX3_takeLeft 4 = .ok (.iload_n 1, 1) := by decide +kernel
theorem dX3_takeLeft_5 : decode cX3_takeLeft 5 = .ok (.aload_n 0, 1) := by decide +kernel
theorem dX3_takeLeft_6 : decode cX3_takeLeft 6 = .ok (.getfield 24, 3) := by decide +kernel
theorem dX3_takeLeft_9 : decode cX3_takeLeft 9 = .ok (.if_icmp .lt 5, 3) := by decide +kernel
theorem dX3_takeLeft_12 : decode cX3_takeLeft 12 = .ok (.iconst (-1), 1) := by decide +kernel
theorem dX3_takeLeft_13 : decode cX3_takeLeft 13 = .ok (.ireturn, 1) := by decide +kernel
theorem dX3_takeLeft_14 : decode cX3_takeLeft 14 = .ok (.aload_n 0, 1) := by decide +kernel
theorem dX3_takeLeft_15 : decode cX3_takeLeft 15 = .ok (.getfield 21, 3) := by decide +kernel
theorem dX3_takeLeft_18 : decode cX3_takeLeft 18 = .ok (.iload_n 1, 1) := by decide +kernel
theorem dX3_takeLeft_19 : decode cX3_takeLeft 19 = .ok (.iaload, 1) := by decide +kernel
theorem dX3_takeLeft_20 : decode cX3_takeLeft 20 = .ok (.istore_n 2, 1) := by decide +kernel
theorem dX3_takeLeft_21 : decode cX3_takeLeft 21 = .ok (.aload_n 0, 1) := by decide +kernel
theorem dX3_takeLeft_22 : decode cX3_takeLeft 22 = .ok (.aload_n 0, 1) := by decide +kernel
theorem dX3_takeLeft_23 : decode cX3_takeLeft 23 = .ok (.getfield 21, 3) := by decide +kernel
theorem dX3_takeLeft_26 : decode cX3_takeLeft 26 = .ok (.iload_n 1, 1) := by decide +kernel
theorem dX3_takeLeft_27 : decode cX3_takeLeft 27 = .ok (.invokevirtual 62, 3) := by decide +kernel
theorem dX3_takeLeft_30 : decode cX3_takeLeft 30 = .ok (.iload_n 2, 1) := by decide +kernel
theorem dX3_takeLeft_31 : decode cX3_takeLeft 31 = .ok (.ireturn, 1) := by decide +kernel
theorem dX3_closeGap_0 : decode cX3_closeGap 0 = .ok (.iload_n 2, 1) := by decide +kernel
theorem dX3_closeGap_1 : decode cX3_closeGap 1 = .ok (.istore_n 3, 1) := by decide +kernel
theorem dX3_closeGap_2 : decode cX3_closeGap 2 = .ok (.iload_n 3, 1) := by decide +kernel
theorem dX3_closeGap_3 : decode cX3_closeGap 3 = .ok (.iconst 1, 1) := by decide +kernel
theorem dX3_closeGap_4 : decode cX3_closeGap 4 = .ok (.iadd, 1) := by decide +kernel
theorem dX3_closeGap_5 : decode cX3_closeGap 5 = .ok (.aload_n 0, 1) := by decide +kernel
theorem dX3_closeGap_6 : decode cX3_closeGap 6 = .ok (.getfield 24, 3) := by decide +kernel
theorem dX3_closeGap_9 : decode cX3_closeGap 9 = .ok (.if_icmp .ge 25, 3) := by decide +kernel
theorem dX3_closeGap_12 : decode cX3_closeGap 12 = .ok (.iload_n 3, 1) := by decide +kernel
theorem dX3_closeGap_13 : decode cX3_closeGap 13 = .ok (.iconst 1, 1) := by decide +kernel
theorem dX3_closeGap_14 : decode cX3_closeGap 14 = .ok (.iadd, 1) := by decide +kernel
theorem dX3_closeGap_15 : decode cX3_closeGap 15 = .ok (.aload_n 1, 1) := by decide +kernel
theorem dX3_closeGap_16 : decode cX3_closeGap 16 = .ok (.arraylength, 1) := by decide +kernel
theorem dX3_closeGap_17 : decode cX3_closeGap 17 = .ok (.if_icmp .ge 17, 3) := by decide +kernel
theorem dX3_closeGap_20 : decode cX3_closeGap 20 = .ok (.aload_n 1, 1) := by decide +kernel
theorem dX3_closeGap_21 : decode cX3_closeGap 21 = .ok (.iload_n 3, 1) := by decide +kernel
theorem dX3_closeGap_22 : decode cX3_closeGap 22 = .ok (.aload_n 1, 1) := by decide +kernel
theorem dX3_closeGap_23 : decode cX3_closeGap 23 = .ok (.iload_n 3, 1) := by decide +kernel
theorem dX3_closeGap_24 : decode cX3_closeGap 24 = .ok (.iconst 1, 1) := by decide +kernel
theorem dX3_closeGap_25 : decode cX3_closeGap 25 = .ok (.iadd, 1) := by decide +kernel
theorem dX3_closeGap_26 : decode cX3_closeGap 26 = .ok (.iaload, 1) := by decide +kernel
theorem dX3_closeGap_27 : decode cX3_closeGap 27 = .ok (.iastore, 1) := by decide +kernel
theorem dX3_closeGap_28 : decode cX3_closeGap 28 = .ok (.iinc 3 1, 3) := by decide +kernel
theorem dX3_closeGap_31 : decode cX3_closeGap 31 = .ok (.goto (-29), 3) := by decide +kernel
theorem dX3_closeGap_34 : decode cX3_closeGap 34 = .ok (.return_, 1) := by decide +kernel
theorem dX3_forgetSeen_0 : decode cX3_forgetSeen 0 = .ok (.aload_n 0, 1) := by decide +kernel
theorem dX3_forgetSeen_1 : decode cX3_forgetSeen 1 = .ok (.getfield 18, 3) := by decide +kernel
theorem dX3_forgetSeen_4 : decode cX3_forgetSeen 4 = .ok (.iconst (-1), 1) := by decide +kernel
theorem dX3_forgetSeen_5 : decode cX3_forgetSeen 5 = .ok (.invokestatic 66, 3) := by decide +kernel
theorem dX3_forgetSeen_8 : decode cX3_forgetSeen 8 = .ok (.return_, 1) := by decide +kernel
theorem dX3_hasOther_0 : decode cX3_hasOther 0 = .ok (.aload_n 0, 1) := by decide +kernel
theorem dX3_hasOther_1 : decode cX3_hasOther 1 = .ok (.getfield 18, 3) := by decide +kernel
theorem dX3_hasOther_4 : decode cX3_hasOther 4 = .ok (.iload_n 1, 1) := by decide +kernel
theorem dX3_hasOther_5 : decode cX3_hasOther 5 = .ok (.iaload, 1) := by decide +kernel
theorem dX3_hasOther_6 : decode cX3_hasOther 6 = .ok (.iconst (-1), 1) := by decide +kernel
theorem dX3_hasOther_7 : decode cX3_hasOther 7 = .ok (.if_icmp .eq 22, 3) := by decide +kernel
theorem dX3_hasOther_10 : decode cX3_hasOther 10 = .ok (.aload_n 0, 1) := by decide +kernel
theorem dX3_hasOther_11 : decode cX3_hasOther 11 = .ok (.getfield 18, 3) := by decide +kernel
theorem dX3_hasOther_14 : decode cX3_hasOther 14 = .ok (.iload_n 1, 1) := by decide +kernel
theorem dX3_hasOther_15 : decode cX3_hasOther 15 = .ok (.iaload, 1) := by decide +kernel
theorem dX3_hasOther_16 : decode cX3_hasOther 16 = .ok (.aload_n 0, 1) := by decide +kernel
theorem dX3_hasOther_17 : decode cX3_hasOther 17 = .ok (.getfield 15, 3) := by decide +kernel
theorem dX3_hasOther_20 : decode cX3_hasOther 20 = .ok (.iload_n 1, 1) := by decide +kernel
theorem dX3_hasOther_21 : decode cX3_hasOther 21 = .ok (.iaload, 1) := by decide +kernel
theorem dX3_hasOther_22 : decode cX3_hasOther 22 = .ok (.if_icmp .eq 7, 3) := by decide +kernel
theorem dX3_hasOther_25 : decode cX3_hasOther 25 = .ok (.iconst 1, 1) := by decide +kernel
theorem dX3_hasOther_26 : decode cX3_hasOther 26 = .ok (.goto 4, 3) := by decide +kernel
theorem dX3_hasOther_29 : decode cX3_hasOther 29 = .ok (.iconst 0, 1) := by decide +kernel
theorem dX3_hasOther_30 : decode cX3_hasOther 30 = .ok (.ireturn, 1) := by decide +kernel
theorem dX3_countOthers_0 : decode cX3_countOthers 0 = .ok (.iconst 0, 1) := by decide +kernel
theorem dX3_countOthers_1 : decode cX3_countOthers 1 = .ok (.istore_n 1, 1) := by decide +kernel
theorem dX3_countOthers_2 : decode cX3_countOthers 2 = .ok (.iconst 0, 1) := by decide +kernel
theorem dX3_countOthers_3 : decode cX3_countOthers 3 = .ok (.istore_n 2, 1) := by decide +kernel
theorem dX3_countOthers_4 : decode cX3_countOthers 4 = .ok (.iload_n 2, 1) := by decide +kernel
theorem dX3_countOthers_5 : decode cX3_countOthers 5 = .ok (.aload_n 0, 1) := by decide +kernel
theorem dX3_countOthers_6 : decode cX3_countOthers 6 = .ok (.getfield 24, 3) := by decide +kernel
theorem dX3_countOthers_9 : decode cX3_countOthers 9 = .ok (.if_icmp .ge 20, 3) := by decide +kernel
theorem dX3_countOthers_12 : decode cX3_countOthers 12 = .ok (.aload_n 0, 1) := by decide +kernel
theorem dX3_countOthers_13 : decode cX3_countOthers 13 = .ok (.iload_n 2, 1) := by decide +kernel
theorem dX3_countOthers_14 : decode cX3_countOthers 14 = .ok (.invokevirtual 71, 3) := by decide +kernel
theorem dX3_countOthers_17 : decode cX3_countOthers 17 = .ok (.ifCond .eq 6, 3) := by decide +kernel
theorem dX3_countOthers_20 : decode cX3_countOthers 20 = .ok (.iinc 1 1, 3) := by decide +kernel
theorem dX3_countOthers_23 : decode cX3_countOthers 23 = .ok (.iinc 2 1, 3) := by decide +kernel
theorem dX3_countOthers_26 : decode cX3_countOthers 26 = .ok (.goto (-22), 3) := by decide +kernel
theorem dX3_countOthers_29 : decode cX3_countOthers 29 = .ok (.iload_n 1, 1) := by decide +kernel
theorem dX3_countOthers_30 : decode cX3_countOthers 30 = .ok (.ireturn, 1) := by decide +kernel
theorem dX3_addFalseStarts_0 : decode cX3_addFalseStarts 0 = .ok (.iconst 0, 1) := by decide +kernel
theorem dX3_addFalseStarts_1 : decode cX3_addFalseStarts 1 = .ok (.istore_n 2, 1) := by decide +kernel
theorem dX3_addFalseStarts_2 : decode cX3_addFalseStarts 2 = .ok (.iload_n 2, 1) := by decide +kernel
theorem dX3_addFalseStarts_3 : decode cX3_addFalseStarts 3 = .ok (.aload_n 0, 1) := by decide +kernel
theorem dX3_addFalseStarts_4 : decode cX3_addFalseStarts 4 = .ok (.getfield 24, 3) := by decide +kernel
theorem dX3_addFalseStarts_7 : decode cX3_addFalseStarts 7 = .ok (.if_icmp .ge 42, 3) := by decide +kernel
theorem dX3_addFalseStarts_10 : decode cX3_addFalseStarts 10 = .ok (.aload_n 1, 1) := by decide +kernel
theorem dX3_addFalseStarts_11 : decode cX3_addFalseStarts 11 = .ok (.aload_n 0, 1) := by decide +kernel
theorem dX3_addFalseStarts_12 : decode cX3_addFalseStarts 12 = .ok (.getfield 15, 3) := by decide +kernel
theorem dX3_addFalseStarts_15 : decode cX3_addFalseStarts 15 = .ok (.iload_n 2, 1) := by decide +kernel
theorem dX3_addFalseStarts_16 : decode cX3_addFalseStarts 16 = .ok (.iaload, 1) := by decide +kernel
theorem dX3_addFalseStarts_17 : decode cX3_addFalseStarts 17 = .ok (.invokevirtual 50, 3) := by decide +kernel
theorem dX3_addFalseStarts_20 : decode cX3_addFalseStarts 20 = .ok (.astore_n 3, 1) := by decide +kernel
theorem dX3_addFalseStarts_21 : decode cX3_addFalseStarts 21 = .ok (.aload_n 3, 1) := by decide +kernel
theorem dX3_addFalseStarts_22 : decode cX3_addFalseStarts 22 = .ok (.ifnull 21, 3) := by decide +kernel
theorem dX3_addFalseStarts_25 : decode cX3_addFalseStarts 25 = .ok (.aload_n 0, 1) := by decide +kernel
theorem dX3_addFalseStarts_26 : decode cX3_addFalseStarts 26 = .ok (.iload_n 2, 1) := by decide +kernel
theorem dX3_addFalseStarts_27 : decode cX3_addFalseStarts 27 = .ok (.invokevirtual 71, 3) := by decide +kernel
theorem dX3_addFalseStarts_30 : decode cX3_addFalseStarts 30 = .ok (.ifCond .eq 13, 3) := by decide +kernel
theorem dX3_addFalseStarts_33 : decode cX3_addFalseStarts 33 = .ok (.aload_n 3, 1) := by decide +kernel
theorem dX3_addFalseStarts_34 : decode cX3_addFalseStarts 34 = .ok (.dup, 1) := by decide +kernel
theorem dX3_addFalseStarts_35 : decode cX3_addFalseStarts 35 = .ok (.getfield 74, 3) := by decide +kernel
theorem dX3_addFalseStarts_38 : decode cX3_addFalseStarts 38 = .ok (.iconst 1, 1) := by decide +kernel
theorem dX3_addFalseStarts_39 : decode cX3_addFalseStarts 39 = .ok (.iadd, 1) := by decide +kernel
theorem dX3_addFalseStarts_40 : decode cX3_addFalseStarts 40 = .ok (.putfield 74, 3) := by decide +kernel
theorem dX3_addFalseStarts_43 : decode cX3_addFalseStarts 43 = .ok (.iinc 2 1, 3) := by decide +kernel
theorem dX3_addFalseStarts_46 : decode cX3_addFalseStarts 46 = .ok (.goto (-44), 3) := by decide +kernel
theorem dX3_addFalseStarts_49 : decode cX3_addFalseStarts 49 = .ok (.return_, 1) := by decide +kernel
theorem dX3_sendBack_0 : decode cX3_sendBack 0 = .ok (.iconst 0, 1) := by decide +kernel
theorem dX3_sendBack_1 : decode cX3_sendBack 1 = .ok (.istore_n 3, 1) := by decide +kernel
theorem dX3_sendBack_2 : decode cX3_sendBack 2 = .ok (.iload_n 3, 1) := by decide +kernel
theorem dX3_sendBack_3 : decode cX3_sendBack 3 = .ok (.aload_n 0, 1) := by decide +kernel
theorem dX3_sendBack_4 : decode cX3_sendBack 4 = .ok (.getfield 24, 3) := by decide +kernel
theorem dX3_sendBack_7 : decode cX3_sendBack 7 = .ok (.if_icmp .ge 55, 3) := by decide +kernel
theorem dX3_sendBack_10 : decode cX3_sendBack 10 = .ok (.iload_n 2, 1) := by decide +kernel
theorem dX3_sendBack_11 : decode cX3_sendBack 11 = .ok (.ifCond .le 51, 3) := by decide +kernel
theorem dX3_sendBack_14 : decode cX3_sendBack 14 = .ok (.aload_n 1, 1) := by decide +kernel
theorem dX3_sendBack_15 : decode cX3_sendBack 15 = .ok (.aload_n 0, 1) := by decide +kernel
theorem dX3_sendBack_16 : decode cX3_sendBack 16 = .ok (.getfield 9, 3) := by decide +kernel
theorem dX3_sendBack_19 : decode cX3_sendBack 19 = .ok (.iload_n 3, 1) := by decide +kernel
theorem dX3_sendBack_20 : decode cX3_sendBack 20 = .ok (.iaload, 1) := by decide +kernel
theorem dX3_sendBack_21 : decode cX3_sendBack 21 = .ok (.invokevirtual 50, 3) := by decide +kernel
theorem dX3_sendBack_24 : decode cX3_sendBack 24 = .ok (.astore 4, 2) := by decide +kernel
theorem dX3_sendBack_26 : decode cX3_sendBack 26 = .ok (.aload 4, 2) := by decide +kernel
theorem dX3_sendBack_28 : decode cX3_sendBack 28 = .ok (.ifnull 28, 3) := by decide +kernel
theorem dX3_sendBack_31 : decode cX3_sendBack 31 = .ok (.aload 4, 2) := by decide +kernel
theorem dX3_sendBack_33 : decode cX3_sendBack 33 = .ok (.getfield 74, 3) := by decide +kernel
theorem dX3_sendBack_36 : decode cX3_sendBack 36 = .ok (.iload_n 2, 1) := by decide +kernel
theorem dX3_sendBack_37 : decode cX3_sendBack 37 = .ok (.if_icmp .lt 19, 3) := by decide +kernel
theorem dX3_sendBack_40 : decode cX3_sendBack 40 = .ok (.aload_n 0, 1) := by decide +kernel
theorem dX3_sendBack_41 : decode cX3_sendBack 41 = .ok (.aload_n 0, 1) := by decide +kernel
theorem dX3_sendBack_42 : decode cX3_sendBack 42 = .ok (.getfield 9, 3) := by decide +kernel
theorem dX3_sendBack_45 : decode cX3_sendBack 45 = .ok (.iload_n 3, 1) := by decide +kernel
theorem dX3_sendBack_46 : decode cX3_sendBack 46 = .ok (.iaload, 1) := by decide +kernel
theorem dX3_sendBack_47 : decode cX3_sendBack 47 = .ok (.invokevirtual 77, 3) := by decide +kernel
theorem dX3_sendBack_50 : decode cX3_sendBack 50 = .ok (.aload 4, 2) := by decide +kernel
theorem dX3_sendBack_52 : decode cX3_sendBack 52 = .ok (.iconst 0, 1) := by decide +kernel
theorem dX3_sendBack_53 : decode cX3_sendBack 53 = .ok (.putfield 74, 3) := by decide +kernel
theorem dX3_sendBack_56 : decode cX3_sendBack 56 = .ok (.iinc 3 1, 3) := by decide +kernel
theorem dX3_sendBack_59 : decode cX3_sendBack 59 = .ok (.goto (-57), 3) := by decide +kernel
theorem dX3_sendBack_62 : decode cX3_sendBack 62 = .ok (.return_, 1) := by decide +kernel
theorem dX3_moveToEnd_0 : decode cX3_moveToEnd 0 = .ok (.iconst 0, 1) := by decide +kernel
theorem dX3_moveToEnd_1 : decode cX3_moveToEnd 1 = .ok (.istore_n 2, 1) := by decide +kernel
theorem dX3_moveToEnd_2 : decode cX3_moveToEnd 2 = .ok (.iload_n 2, 1) := by decide +kernel
theorem dX3_moveToEnd_3 : decode cX3_moveToEnd 3 = .ok (.aload_n 0, 1) := by decide +kernel
theorem dX3_moveToEnd_4 : decode cX3_moveToEnd 4 = .ok (.getfield 24, 3) := by decide +kernel
theorem dX3_moveToEnd_7 : decode cX3_moveToEnd 7 = .ok (.if_icmp .ge 41, 3) := by decide +kernel
theorem dX3_moveToEnd_10 : decode cX3_moveToEnd 10 = .ok (.aload_n 0, 1) := by decide +kernel
theorem dX3_moveToEnd_11 : decode cX3_moveToEnd 11 = .ok (.getfield 15, 3) := by decide +kernel
theorem dX3_moveToEnd_14 : decode cX3_moveToEnd 14 = .ok (.iload_n 2, 1) := by decide +kernel
theorem dX3_moveToEnd_15 : decode cX3_moveToEnd 15 = .ok (.iaload, 1) := by decide +kernel
theorem dX3_moveToEnd_16 : decode cX3_moveToEnd 16 = .ok (.iload_n 1, 1) := by decide +kernel
theorem dX3_moveToEnd_17 : decode cX3_moveToEnd 17 = .ok (.if_icmp .ne 25, 3) := by decide +kernel
theorem dX3_moveToEnd_20 : decode cX3_moveToEnd 20 = .ok (.aload_n 0, 1) := by decide +kernel
theorem dX3_moveToEnd_21 : decode cX3_moveToEnd 21 = .ok (.aload_n 0, 1) := by decide +kernel
theorem dX3_moveToEnd_22 : decode cX3_moveToEnd 22 = .ok (.getfield 15, 3) := by decide +kernel
theorem dX3_moveToEnd_25 : decode cX3_moveToEnd 25 = .ok (.iload_n 2, 1) := by decide +kernel
theorem dX3_moveToEnd_26 : decode cX3_moveToEnd 26 = .ok (.invokevirtual 62, 3) := by decide +kernel
theorem dX3_moveToEnd_29 : decode cX3_moveToEnd 29 = .ok (.aload_n 0, 1) := by decide +kernel
theorem dX3_moveToEnd_30 : decode cX3_moveToEnd 30 = .ok (.getfield 15, 3) := by decide +kernel
theorem dX3_moveToEnd_33 : decode cX3_moveToEnd 33 = .ok (.aload_n 0, 1) := by decide +kernel
theorem dX3_moveToEnd_34 : decode cX3_moveToEnd 34 = .ok (.getfield 24, 3) := by decide +kernel
theorem dX3_moveToEnd_37 : decode cX3_moveToEnd 37 = .ok (.iconst 1, 1) := by decide +kernel
theorem dX3_moveToEnd_38 : decode cX3_moveToEnd 38 = .ok (.isub, 1) := by decide +kernel
theorem dX3_moveToEnd_39 : decode cX3_moveToEnd 39 = .ok (.iload_n 1, 1) := by decide +kernel
theorem dX3_moveToEnd_40 : decode cX3_moveToEnd 40 = .ok (.iastore, 1) := by decide +kernel
theorem dX3_moveToEnd_41 : decode cX3_moveToEnd 41 = .ok (.return_, 1) := by decide +kernel
theorem dX3_moveToEnd_42 : decode cX3_moveToEnd 42 = .ok (.iinc 2 1, 3) := by decide +kernel
theorem dX3_moveToEnd_45 : decode cX3_moveToEnd 45 = .ok (.goto (-43), 3) := by decide +kernel
theorem dX3_moveToEnd_48 : decode cX3_moveToEnd 48 = .ok (.return_, 1) := by decide +kernel
theorem dX4_init_0 : decode cX4_init 0 = .ok (.aload_n 0, 1) := by decide +kernel
theorem dX4_init_1 : decode cX4_init 1 = .ok (.invokespecial 3, 3) := by decide +kernel
theorem dX4_init_4 : decode cX4_init 4 = .ok (.return_, 1) := by decide +kernel
theorem dX4_begin_0 : decode cX4_begin 0 = .ok (.aload_n 0, 1) := by decide +kernel
theorem dX4_begin_1 : decode cX4_begin 1 = .ok (.iload_n 1, 1) := by decide +kernel
theorem dX4_begin_2 : decode cX4_begin 2 = .ok (.putfield 9, 3) := by decide +kernel
theorem dX4_begin_5 : decode cX4_begin 5 = .ok (.aload_n 0, 1) := by decide +kernel
theorem dX4_begin_6 : decode cX4_begin 6 = .ok (.iconst 3, 1) := by decide +kernel
theorem dX4_begin_7 : decode cX4_begin 7 = .ok (.iload_n 2, 1) := by decide +kernel
theorem dX4_begin_8 : decode cX4_begin 8 = .ok (.sipush 250, 3) := by decide +kernel
theorem dX4_begin_11 : decode cX4_begin 11 = .ok (.idiv, 1) := by decide +kernel
theorem dX4_begin_12 : decode cX4_begin 12 = .ok (.iadd, 1) := by decide +kernel
theorem dX4_begin_13 : decode cX4_begin 13 = .ok (.putfield 15, 3) := by decide +kernel
theorem dX4_begin_16 : decode cX4_begin 16 = .ok (.aload_n 0, 1) := by decide +kernel
theorem dX4_begin_17 : decode cX4_begin 17 = .ok (.iload_n 3, 1) := by decide +kernel
theorem dX4_begin_18 : decode cX4_begin 18 = .ok (.iconst 4, 1) := by decide +kernel
theorem dX4_begin_19 : decode cX4_begin 19 = .ok (.idiv, 1) := by decide +kernel
theorem dX4_begin_20 : decode cX4_begin 20 = .ok (.ineg, 1) := by decide +kernel
theorem dX4_begin_21 : decode cX4_begin 21 = .ok (.putfield 18, 3) := by decide +kernel
theorem dX4_begin_24 : decode cX4_begin 24 = .ok (.aload_n 0, 1) := by decide +kernel
theorem dX4_begin_25 : decode cX4_begin 25 = .ok (.iload_n 3, 1) := by decide +kernel
theorem dX4_begin_26 : decode cX4_begin 26 = .ok (.iconst 4, 1) := by decide +kernel
theorem dX4_begin_27 : decode cX4_begin 27 = .ok (.irem, 1) := by decide +kernel
theorem dX4_begin_28 : decode cX4_begin 28 = .ok (.putfield 21, 3) := by decide +kernel
theorem dX4_begin_31 : decode cX4_begin 31 = .ok (.aload_n 0, 1) := by decide +kernel
theorem dX4_begin_32 : decode cX4_begin 32 = .ok (.iconst 0, 1) := by decide +kernel
theorem dX4_begin_33 : decode cX4_begin 33 = .ok (.putfield 24, 3) := by decide +kernel
theorem dX4_begin_36 : decode cX4_begin 36 = .ok (.aload_n 0, 1) := by decide +kernel
theorem dX4_begin_37 : decode cX4_begin 37 = .ok (.iconst 0, 1) := by decide +kernel
theorem dX4_begin_38 : decode cX4_begin 38 = .ok (.putfield 27, 3) := by decide +kernel
theorem dX4_begin_41 : decode cX4_begin 41 = .ok (.aload_n 0, 1) := by decide +kernel
theorem dX4_begin_42 : decode cX4_begin 42 = .ok (.iconst (-1), 1) := by decide +kernel
theorem dX4_begin_43 : decode cX4_begin 43 = .ok (.putfield 31, 3) := by decide +kernel
theorem dX4_begin_46 : decode cX4_begin 46 = .ok (.aload_n 0, 1) := by decide +kernel
theorem dX4_begin_47 : decode cX4_begin 47 = .ok (.iconst 0, 1) := by decide +kernel
theorem dX4_begin_48 : decode cX4_begin 48 = .ok (.putfield 34, 3) := by decide +kernel
theorem dX4_begin_51 : decode cX4_begin 51 = .ok (.return_, 1) := by decide +kernel
theorem dX4_onRing_0 : decode cX4_onRing 0 = .ok (.aload_n 0, 1) := by decide +kernel
theorem dX4_onRing_1 : decode cX4_onRing 1 = .ok (.getfield 31, 3) := by decide +kernel
theorem dX4_onRing_4 : decode cX4_onRing 4 = .ok (.iconst (-1), 1) := by decide +kernel
theorem dX4_onRing_5 : decode cX4_onRing 5 = .ok (.if_icmp .ne 7, 3) := by decide +kernel
theorem dX4_onRing_8 : decode cX4_onRing 8 = .ok (.iconst 1, 1) := by decide +kernel
theorem dX4_onRing_9 : decode cX4_onRing 9 = .ok (.goto 4, 3) := by decide +kernel
theorem dX4_onRing_12 : decode cX4_onRing 12 = .ok (.iconst 0, 1) := by decide +kernel
theorem dX4_onRing_13 : decode cX4_onRing 13 = .ok (.ireturn, 1) := by decide +kernel
theorem dX4_isCloseAheadOf_0 : decode cX4_isCloseAheadOf 0 = .ok (.aload_n 0, 1) := by decide +kernel
theorem dX4_isCloseAheadOf_1 : decode cX4_isCloseAheadOf 1 = .ok (.getfield 18, 3) := by decide +kernel
theorem dX4_isCloseAheadOf_4 : decode cX4_isCloseAheadOf 4 = .ok (.aload_n 1, 1) := by decide +kernel
theorem dX4_isCloseAheadOf_5 : decode cX4_isCloseAheadOf 5 = .ok (.getfield 18, 3) := by decide +kernel
theorem dX4_isCloseAheadOf_8 : decode cX4_isCloseAheadOf 8 = .ok (.iconst 1, 1) := by decide +kernel
theorem dX4_isCloseAheadOf_9 : decode cX4_isCloseAheadOf 9 = .ok (.iadd, 1) := by decide +kernel
theorem dX4_isCloseAheadOf_10 : decode cX4_isCloseAheadOf 10 = .ok (.if_icmp .eq 16, 3) := by decide +kernel
theorem dX4_isCloseAheadOf_13 : decode cX4_isCloseAheadOf 13 = .ok (.aload_n 0, 1) := by decide +kernel
theorem dX4_isCloseAheadOf_14 : decode cX4_isCloseAheadOf 14 = .ok (.getfield 18, 3) := by decide +kernel
theorem dX4_isCloseAheadOf_17 : decode cX4_isCloseAheadOf 17 = .ok (.aload_n 1, 1) := by decide +kernel
theorem dX4_isCloseAheadOf_18 : decode cX4_isCloseAheadOf 18 = .ok (.getfield 18, 3) := by decide +kernel
theorem dX4_isCloseAheadOf_21 : decode cX4_isCloseAheadOf 21 = .ok (.iconst 2, 1) := by decide +kernel
theorem dX4_isCloseAheadOf_22 : decode cX4_isCloseAheadOf 22 = .ok (.iadd, 1) := by decide +kernel
theorem dX4_isCloseAheadOf_23 : decode cX4_isCloseAheadOf 23 = .ok (.if_icmp .ne 7, 3) := by decide +kernel
theorem dX4_isCloseAheadOf_26 : decode cX4_isCloseAheadOf 26 = .ok (.iconst 1, 1) := by decide +kernel
theorem dX4_isCloseAheadOf_27 : decode cX4_isCloseAheadOf 27 = .ok (.goto 4, 3) := by decide +kernel
theorem dX4_isCloseAheadOf_30 : decode cX4_isCloseAheadOf 30 = .ok (.iconst 0, 1) := by decide +kernel
theorem dX4_isCloseAheadOf_31 : decode cX4_isCloseAheadOf 31 = .ok (.ireturn, 1) := by decide +kernel
theorem dX4_goesAheadOf_0 : decode cX4_goesAheadOf 0 = .ok (.aload_n 0, 1) := by decide +kernel
theorem dX4_goesAheadOf_1 : decode cX4_goesAheadOf 1 = .ok (.getfield 18, 3) := by decide +kernel
theorem dX4_goesAheadOf_4 : decode cX4_goesAheadOf 4 = .ok (.aload_n 1, 1) := by decide +kernel
theorem dX4_goesAheadOf_5 : decode cX4_goesAheadOf 5 = .ok (.getfield 18, 3) := by decide +kernel
theorem dX4_goesAheadOf_8 : decode cX4_goesAheadOf 8 = .ok (.if_icmp .gt 25, 3) := by decide +kernel
theorem dX4_goesAheadOf_11 : decode cX4_goesAheadOf 11 = .ok (.aload_n 0, 1) := by decide +kernel
theorem dX4_goesAheadOf_12 : decode cX4_goesAheadOf 12 = .ok (.getfield 18, 3) := by decide +kernel
theorem dX4_goesAheadOf_15 : decode cX4_goesAheadOf 15 = .ok (.aload_n 1, 1) := by decide +kernel
theorem dX4_goesAheadOf_16 : decode cX4_goesAheadOf 16 = .ok (.getfield 18, 3) := by decide +kernel
theorem dX4_goesAheadOf_19 : decode cX4_goesAheadOf 19 = .ok (.if_icmp .ne 18, 3) := by decide +kernel
theorem dX4_goesAheadOf_22 : decode cX4_goesAheadOf 22 = .ok (.aload_n 0, 1) := by decide +kernel
theorem dX4_goesAheadOf_23 : decode cX4_goesAheadOf 23 = .ok (.getfield 21, 3) := by decide +kernel
theorem dX4_goesAheadOf_26 : decode cX4_goesAheadOf 26 = .ok (.aload_n 1, 1) := by decide +kernel
theorem dX4_goesAheadOf_27 : decode cX4_goesAheadOf 27 = .ok (.getfield 21, 3) := by decide +kernel
theorem dX4_goesAheadOf_30 : decode cX4_goesAheadOf 30 = .ok (.if_icmp .ge 7, 3) := by decide +kernel
theorem dX4_goesAheadOf_33 : decode cX4_goesAheadOf 33 = .ok (.iconst 1, 1) := by decide +kernel
theorem dX4_goesAheadOf_34 : decode cX4_goesAheadOf 34 = .ok (.goto 4, 3) := by decide +kernel
theorem dX4_goesAheadOf_37 : decode cX4_goesAheadOf 37 = .ok (.iconst 0, 1) := by decide +kernel
theorem dX4_goesAheadOf_38 : decode cX4_goesAheadOf 38 = .ok (.ireturn, 1) := by decide +kernel
theorem dX5_init_0 : decode cX5_init 0 = .ok (.aload_n 0, 1) := by decide +kernel
theorem dX5_init_1 : decode cX5_init 1 = .ok (.invokespecial 3, 3) := by decide +kernel
theorem dX5_init_4 : decode cX5_init 4 = .ok (.aload_n 0, 1) := by decide +kernel
theorem dX5_init_5 : decode cX5_init 5 = .ok (.bipush 16, 2) := by decide +kernel
theorem dX5_init_7 : decode cX5_init 7 = .ok (.newarray .int, 2) := by decide +kernel
theorem dX5_init_9 : decode cX5_init 9 = .ok (.putfield 9, 3) := by decide +kernel
theorem dX5_init_12 : decode cX5_init 12 = .ok (.aload_n 0, 1) := by decide +kernel
theorem dX5_init_13 : decode cX5_init 13 = .ok (.bipush 16, 2) := by decide +kernel
theorem dX5_init_15 : decode cX5_init 15 = .ok (.newarray .boolean, 2) := by decide +kernel
theorem dX5_init_17 : decode cX5_init 17 = .ok (.putfield 15, 3) := by decide +kernel
theorem dX5_init_20 : decode cX5_init 20 = .ok (.aload_n 0, 1) := by decide +kernel
theorem dX5_init_21 : decode cX5_init 21 = .ok (.bipush 10, 2) := by decide +kernel
theorem dX5_init_23 : decode cX5_init 23 = .ok (.newarray .int, 2) := by decide +kernel
theorem dX5_init_25 : decode cX5_init 25 = .ok (.putfield 19, 3) := by decide +kernel
theorem dX5_init_28 : decode cX5_init 28 = .ok (.aload_n 0, 1) := by decide +kernel
theorem dX5_init_29 : decode cX5_init 29 = .ok (.bipush 10, 2) := by decide +kernel
theorem dX5_init_31 : decode cX5_init 31 = .ok (.newarray .int, 2) := by decide +kernel
theorem dX5_init_33 : decode cX5_init 33 = .ok (.putfield 22, 3) := by decide +kernel
theorem dX5_init_36 : decode cX5_init 36 = .ok (.return_, 1) := by decide +kernel
theorem dX5_addHorse_0 : decode cX5_addHorse 0 = .ok (.aload_n 0, 1) := by decide +kernel
theorem dX5_addHorse_1 : decode cX5_addHorse 1 = .ok (.getfield 25, 3) := by decide +kernel
theorem dX5_addHorse_4 : decode cX5_addHorse 4 = .ok (.bipush 16, 2) := by decide +kernel
theorem dX5_addHorse_6 : decode cX5_addHorse 6 = .ok (.if_icmp .lt 5, 3) := by decide +kernel
theorem dX5_addHorse_9 : decode cX5_addHorse 9 = .ok (.iconst (-1), 1) := by decide +kernel
theorem dX5_addHorse_10 : decode cX5_addHorse 10 = .ok (.ireturn, 1) := by decide +kernel
theorem dX5_addHorse_11 : decode cX5_addHorse 11 = .ok (.aload_n 0, 1) := by decide +kernel
theorem dX5_addHorse_12 : decode cX5_addHorse 12 = .ok (.getfield 9, 3) := by decide +kernel
theorem dX5_addHorse_15 : decode cX5_addHorse 15 = .ok (.aload_n 0, 1) := by decide +kernel
theorem dX5_addHorse_16 : decode cX5_addHorse 16 = .ok (.getfield 25, 3) := by decide +kernel
theorem dX5_addHorse_19 : decode cX5_addHorse 19 = .ok (.iload_n 1, 1) := by decide +kernel
theorem dX5_addHorse_20 : decode cX5_addHorse 20 = .ok (.iastore, 1) := by decide +kernel
theorem dX5_addHorse_21 : decode cX5_addHorse 21 = .ok (.aload_n 0, 1) := by decide +kernel
theorem dX5_addHorse_22 : decode cX5_addHorse 22 = .ok (.getfield 15, 3) := by decide +kernel
theorem dX5_addHorse_25 : decode cX5_addHorse 25 = .ok (.aload_n 0, 1) := by decide +kernel
theorem dX5_addHorse_26 : decode cX5_addHorse 26 = .ok (.getfield 25, 3) := by decide +kernel
theorem dX5_addHorse_29 : decode cX5_addHorse 29 = .ok (.iconst 1, 1) := by decide +kernel
theorem dX5_addHorse_30 : decode cX5_addHorse 30 = .ok (.bastore, 1) := by decide +kernel
theorem dX5_addHorse_31 : decode cX5_addHorse 31 = .ok (.aload_n 0, 1) := by decide +kernel
theorem dX5_addHorse_32 : decode cX5_addHorse 32 = .ok (.dup, 1) := by decide +kernel
theorem dX5_addHorse_33 : decode cX5_addHorse 33 = .ok (.getfield 25, 3) := by decide +kernel
theorem dX5_addHorse_36 : decode cX5_addHorse 36 = .ok (.iconst 1, 1) := by decide +kernel
theorem dX5_addHorse_37 : decode cX5_addHorse 37 = .ok (.iadd, 1) := by decide +kernel
theorem dX5_addHorse_38 : decode cX5_addHorse 38 = .ok (.putfield 25, 3) := by decide +kernel
theorem dX5_addHorse_41 : decode cX5_addHorse 41 = .ok (.aload_n 0, 1) := by decide +kernel
theorem dX5_addHorse_42 : decode cX5_addHorse 42 = .ok (.getfield 25, 3) := by decide +kernel
theorem dX5_addHorse_45 : decode cX5_addHorse 45 = .ok (.iconst 1, 1) := by decide +kernel
theorem dX5_addHorse_46 : decode cX5_addHorse 46 = .ok (.isub, 1) := by decide +kernel
theorem dX5_addHorse_47 : decode cX5_addHorse 47 = .ok (.ireturn, 1) := by decide +kernel
theorem dX5_has_0 : decode cX5_has 0 = .ok (.iload_n 1, 1) := by decide +kernel
theorem dX5_has_1 : decode cX5_has 1 = .ok (.ifCond .lt 15, 3) := by decide +kernel
theorem dX5_has_4 : decode cX5_has 4 = .ok (.iload_n 1, 1) := by decide +kernel
theorem dX5_has_5 : decode cX5_has 5 = .ok (.aload_n 0, 1) := by decide +kernel
theorem dX5_has_6 : decode cX5_has 6 = .ok (.getfield 25, 3) := by decide +kernel
theorem dX5_has_9 : decode cX5_has 9 = .ok (.if_icmp .ge 7, 3) := by decide +kernel
theorem dX5_has_12 : decode cX5_has 12 = .ok (.iconst 1, 1) := by decide +kernel
theorem dX5_has_13 : decode cX5_has 13 = .ok (.goto 4, 3) := by decide +kernel
theorem dX5_has_16 : decode cX5_has 16 = .ok (.iconst 0, 1) := by decide +kernel
theorem dX5_has_17 : decode cX5_has 17 = .ok (.ireturn, 1) := by decide +kernel
theorem dX5_markOf_0 : decode cX5_markOf 0 = .ok (.aload_n 0, 1) := by decide +kernel
theorem dX5_markOf_1 : decode cX5_markOf 1 = .ok (.iload_n 1, 1) := by decide +kernel
theorem dX5_markOf_2 : decode cX5_markOf 2 = .ok (.invokevirtual 29, 3) := by decide +kernel
theorem dX5_markOf_5 : decode cX5_markOf 5 = .ok (.ifCond .eq 12, 3) := by decide +kernel
theorem dX5_markOf_8 : decode cX5_markOf 8 = .ok (.aload_n 0, 1) := by decide +kernel
theorem dX5_markOf_9 : decode cX5_markOf 9 = .ok (.getfield 9, 3) := by decide +kernel
theorem dX5_markOf_12 : decode cX5_markOf 12 = .ok (.iload_n 1, 1) := by decide +kernel
theorem dX5_markOf_13 : decode cX5_markOf 13 = .ok (.iaload, 1) := by decide +kernel
theorem dX5_markOf_14 : decode cX5_markOf 14 = .ok (.goto 4, 3) := by decide +kernel
theorem dX5_markOf_17 : decode cX5_markOf 17 = .ok (.iconst 0, 1) := by decide +kernel
theorem dX5_markOf_18 : decode cX5_markOf 18 = .ok (.ireturn, 1) := by decide +kernel
theorem dX5_pickEven_0 : decode cX5_pickEven 0 = .ok (.iconst (-1), 1) := by decide +kernel
theorem dX5_pickEven_1 : decode cX5_pickEven 1 = .ok (.istore_n 2, 1) := by decide +kernel
theorem dX5_pickEven_2 : decode cX5_pickEven 2 = .ok (.iconst 0, 1) := by decide +kernel
theorem dX5_pickEven_3 : decode cX5_pickEven 3 = .ok (.istore_n 3, 1) := by decide +kernel
theorem dX5_pickEven_4 : decode cX5_pickEven 4 = .ok (.iload_n 3, 1) := by decide +kernel
theorem dX5_pickEven_5 : decode cX5_pickEven 5 = .ok (.aload_n 0, 1) := by decide +kernel
theorem dX5_pickEven_6 : decode cX5_pickEven 6 = .ok (.getfield 25, 3) := by decide +kernel
theorem dX5_pickEven_9 : decode cX5_pickEven 9 = .ok (.if_icmp .ge 143, 3) := by decide +kernel
theorem dX5_pickEven_12 : decode cX5_pickEven 12 = .ok (.iconst 0, 1) := by decide +kernel
theorem dX5_pickEven_13 : decode cX5_pickEven 13 = .ok (.istore 4, 2) := by decide +kernel
theorem dX5_pickEven_15 : decode cX5_pickEven 15 = .ok (.iload 4, 2) := by decide +kernel
theorem dX5_pickEven_17 : decode cX5_pickEven 17 = .ok (.aload_n 0, 1) := by decide +kernel
theorem dX5_pickEven_18 : decode cX5_pickEven 18 = .ok (.getfield 25, 3) := by decide +kernel
theorem dX5_pickEven_21 : decode cX5_pickEven 21 = .ok (.if_icmp .ge 125, 3) := by decide +kernel
theorem dX5_pickEven_24 : decode cX5_pickEven 24 = .ok (.aload_n 0, 1) := by decide +kernel
theorem dX5_pickEven_25 : decode cX5_pickEven 25 = .ok (.getfield 9, 3) := by decide +kernel
theorem dX5_pickEven_28 : decode cX5_pickEven 28 = .ok (.iload 4, 2) := by decide +kernel
theorem dX5_pickEven_30 : decode cX5_pickEven 30 = .ok (.iaload, 1) := by decide +kernel
theorem dX5_pickEven_31 : decode cX5_pickEven 31 = .ok (.aload_n 0, 1) := by decide +kernel
theorem dX5_pickEven_32 : decode cX5_pickEven 32 = .ok (.getfield 9, 3) := by decide +kernel
theorem dX5_pickEven_35 : decode cX5_pickEven 35 = .ok (.iload_n 3, 1) := by decide +kernel
theorem dX5_pickEven_36 : decode cX5_pickEven 36 = .ok (.iaload, 1) := by decide +kernel
theorem dX5_pickEven_37 : decode cX5_pickEven 37 = .ok (.isub, 1) := by decide +kernel
theorem dX5_pickEven_38 : decode cX5_pickEven 38 = .ok (.istore 5, 2) := by decide +kernel
theorem dX5_pickEven_40 : decode cX5_pickEven 40 = .ok (.iload 5, 2) := by decide +kernel
theorem dX5_pickEven_42 : decode cX5_pickEven 42 = .ok (.ifCond .lt 18, 3) := by decide +kernel
theorem dX5_pickEven_45 : decode cX5_pickEven 45 = .ok (.iload_n 2, 1) := by decide +kernel
theorem dX5_pickEven_46 : decode cX5_pickEven 46 = .ok (.iconst (-1), 1) := by decide +kernel
theorem dX5_pickEven_47 : decode cX5_pickEven 47 = .ok (.if_icmp .eq 9, 3) := by decide +kernel
theorem dX5_pickEven_50 : decode cX5_pickEven 50 = .ok (.iload 5, 2) := by decide +kernel
theorem dX5_pickEven_52 : decode cX5_pickEven 52 = .ok (.iload_n 2, 1) := by decide +kernel
theorem dX5_pickEven_53 : decode cX5_pickEven 53 = .ok (.if_icmp .gt 7, 3) := by decide +kernel
theorem dX5_pickEven_56 : decode cX5_pickEven 56 = .ok (.iconst 1, 1) := by decide +kernel
theorem dX5_pickEven_57 : decode cX5_pickEven 57 = .ok (.goto 4, 3) := by decide +kernel
theorem dX5_pickEven_60 : decode cX5_pickEven 60 = .ok (.iconst 0, 1) := by decide +kernel
theorem dX5_pickEven_61 : decode cX5_pickEven 61 = .ok (.istore 6, 2) := by decide +kernel
theorem dX5_pickEven_63 : decode cX5_pickEven 63 = .ok (.iload 6, 2) := by decide +kernel
theorem dX5_pickEven_65 : decode cX5_pickEven 65 = .ok (.ifCond .eq 75, 3) := by decide +kernel
theorem dX5_pickEven_68 : decode cX5_pickEven 68 = .ok (.aload_n 0, 1) := by decide +kernel
theorem dX5_pickEven_69 : decode cX5_pickEven 69 = .ok (.getfield 15, 3) := by decide +kernel
theorem dX5_pickEven_72 : decode cX5_pickEven 72 = .ok (.iload_n 3, 1) := by decide +kernel
theorem dX5_pickEven_73 : decode cX5_pickEven 73 = .ok (.baload, 1) := by decide +kernel
theorem dX5_pickEven_74 : decode cX5_pickEven 74 = .ok (.ifCond .eq 66, 3) := by decide +kernel
theorem dX5_pickEven_77 : decode cX5_pickEven 77 = .ok (.aload_n 0, 1) := by decide +kernel
theorem dX5_pickEven_78 : decode cX5_pickEven 78 = .ok (.getfield 15, 3) := by decide +kernel
theorem dX5_pickEven_81 : decode cX5_pickEven 81 = .ok (.iload 4, 2) := by decide +kernel
theorem dX5_pickEven_83 : decode cX5_pickEven 83 = .ok (.baload, 1) := by decide +kernel
theorem dX5_pickEven_84 : decode cX5_pickEven 84 = .ok (.ifCond .eq 56, 3) := by decide +kernel
theorem dX5_pickEven_87 : decode cX5_pickEven 87 = .ok (.aload_n 0, 1) := by decide +kernel
theorem dX5_pickEven_88 : decode cX5_pickEven 88 = .ok (.iload_n 1, 1) := by decide +kernel
theorem dX5_pickEven_89 : decode cX5_pickEven 89 = .ok (.aload_n 0, 1) := by decide +kernel
theorem dX5_pickEven_90 : decode cX5_pickEven 90 = .ok (.getfield 9, 3) := by decide +kernel
theorem dX5_pickEven_93 : decode cX5_pickEven 93 = .ok (.iload_n 3, 1) := by decide +kernel
theorem dX5_pickEven_94 : decode cX5_pickEven 94 = .ok (.iaload, 1) := by decide +kernel
theorem dX5_pickEven_95 : decode cX5_pickEven 95 = .ok (.aload_n 0, 1) := by decide +kernel
theorem dX5_pickEven_96 : decode cX5_pickEven 96 = .ok (.getfield 9, 3) := by decide +kernel
theorem dX5_pickEven_99 : decode cX5_pickEven 99 = .ok (.iload 4, 2) := by decide +kernel
theorem dX5_pickEven_101 : decode cX5_pickEven 101 = .ok (.iaload, 1) := by decide +kernel
theorem dX5_pickEven_102 : decode cX5_pickEven 102 = .ok (.invokevirtual 33, 3) := by decide +kernel
theorem dX5_pickEven_105 : decode cX5_pickEven 105 = .ok (.ifCond .eq 35, 3) := by decide +kernel
theorem dX5_pickEven_108 : decode cX5_pickEven 108 = .ok (.iload 5, 2) := by decide +kernel
theorem dX5_pickEven_110 : decode cX5_pickEven 110 = .ok (.iload_n 2, 1) := by decide +kernel
theorem dX5_pickEven_111 : decode cX5_pickEven 111 = .ok (.if_icmp .ne 11, 3) := by decide +kernel
theorem dX5_pickEven_114 : decode cX5_pickEven 114 = .ok (.aload_n 0, 1) := by decide +kernel
theorem dX5_pickEven_115 : decode cX5_pickEven 115 = .ok (.iload_n 1, 1) := by decide +kernel
theorem dX5_pickEven_116 : decode cX5_pickEven 116 = .ok (.invokevirtual 37, 3) := by decide +kernel
theorem dX5_pickEven_119 : decode cX5_pickEven 119 = .ok (.ifCond .eq 21, 3) := by decide +kernel
theorem dX5_pickEven_122 : decode cX5_pickEven 122 = .ok (.iload 5, 2) := by decide +kernel
theorem dX5_pickEven_124 : decode cX5_pickEven 124 = .ok (.istore_n 2, 1) := by decide +kernel
theorem dX5_pickEven_125 : decode cX5_pickEven 125 = .ok (.aload_n 0, 1) := by decide +kernel
theorem dX5_pickEven_126 : decode cX5_pickEven 126 = .ok (.getfield 22, 3) := by decide +kernel
theorem dX5_pickEven_129 : decode cX5_pickEven 129 = .ok (.iconst 0, 1) := by decide +kernel
theorem dX5_pickEven_130 : decode cX5_pickEven 130 = .ok (.aload_n 0, 1) := by decide +kernel
theorem dX5_pickEven_131 : decode cX5_pickEven 131 = .ok (.getfield 19, 3) := by decide +kernel
theorem dX5_pickEven_134 : decode cX5_pickEven 134 = .ok (.iconst 0, 1) := by decide +kernel
theorem dX5_pickEven_135 : decode cX5_pickEven 135 = .ok (.bipush 10, 2) := by decide +kernel
theorem dX5_pickEven_137 : decode cX5_pickEven 137 = .ok (.invokestatic 40, 3) := by decide +kernel
theorem dX5_pickEven_140 : decode cX5_pickEven 140 = .ok (.iinc 4 1, 3) := by decide +kernel
theorem dX5_pickEven_143 : decode cX5_pickEven 143 = .ok (.goto (-128), 3) := by decide +kernel
theorem dX5_pickEven_146 : decode cX5_pickEven 146 = .ok (.iinc 3 1, 3) := by decide +kernel
theorem dX5_pickEven_149 : decode cX5_pickEven 149 = .ok (.goto (-145), 3) := by decide +kernel
theorem dX5_pickEven_152 : decode cX5_pickEven 152 = .ok (.iload_n 2, 1) := by decide +kernel
theorem dX5_pickEven_153 : decode cX5_pickEven 153 = .ok (.ireturn, 1) := by decide +kernel
theorem dX5_fillTried_0 : decode cX5_fillTried 0 = .ok (.iconst 0, 1) := by decide +kernel
theorem dX5_fillTried_1 : decode cX5_fillTried 1 = .ok (.istore 4, 2) := by decide +kernel
theorem dX5_fillTried_3 : decode cX5_fillTried 3 = .ok (.iconst 0, 1) := by decide +kernel
theorem dX5_fillTried_4 : decode cX5_fillTried 4 = .ok (.istore 5, 2) := by decide +kernel
theorem dX5_fillTried_6 : decode cX5_fillTried 6 = .ok (.iload 5, 2) := by decide +kernel
theorem dX5_fillTried_8 : decode cX5_fillTried 8 = .ok (.aload_n 0, 1) := by decide +kernel
theorem dX5_fillTried_9 : decode cX5_fillTried 9 = .ok (.getfield 25, 3) := by decide +kernel
theorem dX5_fillTried_12 : decode cX5_fillTried 12 = .ok (.if_icmp .ge 66, 3) := by decide +kernel
theorem dX5_fillTried_15 : decode cX5_fillTried 15 = .ok (.iload 4, 2) := by decide +kernel
theorem dX5_fillTried_17 : decode cX5_fillTried 17 = .ok (.iload_n 1, 1) := by decide +kernel
theorem dX5_fillTried_18 : decode cX5_fillTried 18 = .ok (.if_icmp .ge 60, 3) := by decide +kernel
theorem dX5_fillTried_21 : decode cX5_fillTried 21 = .ok (.iload 4, 2) := by decide +kernel
theorem dX5_fillTried_23 : decode cX5_fillTried 23 = .ok (.bipush 10, 2) := by decide +kernel
theorem dX5_fillTried_25 : decode cX5_fillTried 25 = .ok (.if_icmp .ge 53, 3) := by decide +kernel
theorem dX5_fillTried_28 : decode cX5_fillTried 28 = .ok (.aload_n 0, 1) := by decide +kernel
theorem dX5_fillTried_29 : decode cX5_fillTried 29 = .ok (.getfield 15, 3) := by decide +kernel
theorem dX5_fillTried_32 : decode cX5_fillTried 32 = .ok (.iload 5, 2) := by decide +kernel
theorem dX5_fillTried_34 : decode cX5_fillTried 34 = .ok (.baload, 1) := by decide +kernel
theorem dX5_fillTried_35 : decode cX5_fillTried 35 = .ok (.ifCond .eq 37, 3) := by decide +kernel
theorem dX5_fillTried_38 : decode cX5_fillTried 38 = .ok (.aload_n 0, 1) := by decide +kernel
theorem dX5_fillTried_39 : decode cX5_fillTried 39 = .ok (.getfield 9, 3) := by decide +kernel
theorem dX5_fillTried_42 : decode cX5_fillTried 42 = .ok (.iload 5, 2) := by decide +kernel
theorem dX5_fillTried_44 : decode cX5_fillTried 44 = .ok (.iaload, 1) := by decide +kernel
theorem dX5_fillTried_45 : decode cX5_fillTried 45 = .ok (.iload_n 2, 1) := by decide +kernel
theorem dX5_fillTried_46 : decode cX5_fillTried 46 = .ok (.if_icmp .lt 26, 3) := by decide +kernel
theorem dX5_fillTried_49 : decode cX5_fillTried 49 = .ok (.aload_n 0, 1) := by decide +kernel
theorem dX5_fillTried_50 : decode cX5_fillTried 50 = .ok (.getfield 9, 3) := by decide +kernel
theorem dX5_fillTried_53 : decode cX5_fillTried 53 = .ok (.iload 5, 2) := by decide +kernel
theorem dX5_fillTried_55 : decode cX5_fillTried 55 = .ok (.iaload, 1) := by decide +kernel
theorem dX5_fillTried_56 : decode cX5_fillTried 56 = .ok (.iload_n 3, 1) := by decide +kernel
theorem dX5_fillTried_57 : decode cX5_fillTried 57 = .ok (.if_icmp .gt 15, 3) := by decide +kernel
theorem dX5_fillTried_60 : decode cX5_fillTried 60 = .ok (.aload_n 0, 1) := by decide +kernel
theorem dX5_fillTried_61 : decode cX5_fillTried 61 = .ok (.getfield 22, 3) := by decide +kernel
theorem dX5_fillTried_64 : decode cX5_fillTried 64 = .ok (.iload 4, 2) := by decide +kernel
theorem dX5_fillTried_66 : decode cX5_fillTried 66 = .ok (.iload 5, 2) := by decide +kernel
theorem dX5_fillTried_68 : decode cX5_fillTried 68 = .ok (.iastore, 1) := by decide +kernel
theorem dX5_fillTried_69 : decode cX5_fillTried 69 = .ok (.iinc 4 1, 3) := by decide +kernel
theorem dX5_fillTried_72 : decode cX5_fillTried 72 = .ok (.iinc 5 1, 3) := by decide +kernel
theorem dX5_fillTried_75 : decode cX5_fillTried 75 = .ok (.goto (-69), 3) := by decide +kernel
theorem dX5_fillTried_78 : decode cX5_fillTried 78 = .ok (.iload 4, 2) := by decide +kernel
theorem dX5_fillTried_80 : decode cX5_fillTried 80 = .ok (.iload_n 1, 1) := by decide +kernel
theorem dX5_fillTried_81 : decode cX5_fillTried 81 = .ok (.if_icmp .ne 7, 3) := by decide +kernel
theorem dX5_fillTried_84 : decode cX5_fillTried 84 = .ok (.iconst 1, 1) := by decide +kernel
theorem dX5_fillTried_85 : decode cX5_fillTried 85 = .ok (.goto 4, 3) := by decide +kernel
theorem dX5_fillTried_88 : decode cX5_fillTried 88 = .ok (.iconst 0, 1) := by decide +kernel
theorem dX5_fillTried_89 : decode cX5_fillTried 89 = .ok (.ireturn, 1) := by decide +kernel
theorem dX5_triedIsAhead_0 : decode cX5_triedIsAhead 0 = .ok (.iconst 0, 1) := by decide +kernel
theorem dX5_triedIsAhead_1 : decode cX5_triedIsAhead 1 = .ok (.istore_n 2, 1) := by decide +kernel
theorem dX5_triedIsAhead_2 : decode cX5_triedIsAhead 2 = .ok (.iload_n 2, 1) := by decide +kernel
theorem dX5_triedIsAhead_3 : decode cX5_triedIsAhead 3 = .ok (.iload_n 1, 1) := by decide +kernel
theorem dX5_triedIsAhead_4 : decode cX5_triedIsAhead 4 = .ok (.if_icmp .ge 51, 3) := by decide +kernel
theorem dX5_triedIsAhead_7 : decode cX5_triedIsAhead 7 = .ok (.iload_n 2, 1) := by decide +kernel
theorem dX5_triedIsAhead_8 : decode cX5_triedIsAhead 8 = .ok (.bipush 10, 2) := by decide +kernel
theorem dX5_triedIsAhead_10 : decode cX5_triedIsAhead 10 = .ok (.if_icmp .ge 45, 3) := by decide +kernel
theorem dX5_triedIsAhead_13 : decode cX5_triedIsAhead 13 = .ok (.aload_n 0, 1) := by decide +kernel
theorem dX5_triedIsAhead_14 : decode cX5_triedIsAhead 14 = .ok (.getfield 22, 3) := by decide +kernel
theorem dX5_triedIsAhead_17 : decode cX5_triedIsAhead 17 = .ok (.iload_n 2, 1) := by decide +kernel
theorem dX5_triedIsAhead_18 : decode cX5_triedIsAhead 18 = .ok (.iaload, 1) := by decide +kernel
theorem dX5_triedIsAhead_19 : decode cX5_triedIsAhead 19 = .ok (.aload_n 0, 1) := by decide +kernel
theorem dX5_triedIsAhead_20 : decode cX5_triedIsAhead 20 = .ok (.getfield 19, 3) := by decide +kernel
theorem dX5_triedIsAhead_23 : decode cX5_triedIsAhead 23 = .ok (.iload_n 2, 1) := by decide +kernel
theorem dX5_triedIsAhead_24 : decode cX5_triedIsAhead 24 = .ok (.iaload, 1) := by decide +kernel
theorem dX5_triedIsAhead_25 : decode cX5_triedIsAhead 25 = .ok (.if_icmp .eq 24, 3) := by decide +kernel
theorem dX5_triedIsAhead_28 : decode cX5_triedIsAhead 28 = .ok (.aload_n 0, 1) := by decide +kernel
theorem dX5_triedIsAhead_29 : decode cX5_triedIsAhead 29 = .ok (.getfield 22, 3) := by decide +kernel
theorem dX5_triedIsAhead_32 : decode cX5_triedIsAhead 32 = .ok (.iload_n 2, 1) := by decide +kernel
theorem dX5_triedIsAhead_33 : decode cX5_triedIsAhead 33 = .ok (.iaload, 1) := by decide +kernel
theorem dX5_triedIsAhead_34 : decode cX5_triedIsAhead 34 = .ok (.aload_n 0, 1) := by decide +kernel
theorem dX5_triedIsAhead_35 : decode cX5_triedIsAhead 35 = .ok (.getfield 19, 3) := by decide +kernel
theorem dX5_triedIsAhead_38 : decode cX5_triedIsAhead 38 = .ok (.iload_n 2, 1) := by decide +kernel
theorem dX5_triedIsAhead_39 : decode cX5_triedIsAhead 39 = .ok (.iaload, 1) := by decide +kernel
theorem dX5_triedIsAhead_40 : decode cX5_triedIsAhead 40 = .ok (.if_icmp .ge 7, 3) := by decide +kernel
theorem dX5_triedIsAhead_43 : decode cX5_triedIsAhead 43 = .ok (.iconst 1, 1) := by decide +kernel
theorem dX5_triedIsAhead_44 : decode cX5_triedIsAhead 44 = .ok (.goto 4, 3) := by decide +kernel
theorem dX5_triedIsAhead_47 : decode cX5_triedIsAhead 47 = .ok (.iconst 0, 1) := by decide +kernel
theorem dX5_triedIsAhead_48 : decode cX5_triedIsAhead 48 = .ok (.ireturn, 1) := by decide +kernel
theorem dX5_triedIsAhead_49 : decode cX5_triedIsAhead 49 = .ok (.iinc 2 1, 3) := by decide +kernel
theorem dX5_triedIsAhead_52 : decode cX5_triedIsAhead 52 = .ok (.goto (-50), 3) := by decide +kernel
theorem dX5_triedIsAhead_55 : decode cX5_triedIsAhead 55 = .ok (.iconst 0, 1) := by decide +kernel
theorem dX5_triedIsAhead_56 : decode cX5_triedIsAhead 56 = .ok (.ireturn, 1) := by decide +kernel
theorem dX6_init_0 : decode cX6_init 0 = .ok (.aload_n 0, 1) := by decide +kernel
theorem dX6_init_1 : decode cX6_init 1 = .ok (.invokespecial 3, 3) := by decide +kernel
theorem dX6_init_4 : decode cX6_init 4 = .ok (.aload_n 0, 1) := by decide +kernel
theorem dX6_init_5 : decode cX6_init 5 = .ok (.bipush 10, 2) := by decide +kernel
theorem dX6_init_7 : decode cX6_init 7 = .ok (.newarray .int, 2) := by decide +kernel
theorem dX6_init_9 : decode cX6_init 9 = .ok (.putfield 9, 3) := by decide +kernel
theorem dX6_init_12 : decode cX6_init 12 = .ok (.aload_n 0, 1) := by decide +kernel
theorem dX6_init_13 : decode cX6_init 13 = .ok (.bipush 70, 2) := by decide +kernel
theorem dX6_init_15 : decode cX6_init 15 = .ok (.newarray .int, 2) := by decide +kernel
theorem dX6_init_17 : decode cX6_init 17 = .ok (.putfield 15, 3) := by decide +kernel
theorem dX6_init_20 : decode cX6_init 20 = .ok (.return_, 1) := by decide +kernel
theorem dX6_keep_0 : decode cX6_keep 0 = .ok (.aload_n 0, 1) := by decide +kernel
theorem dX6_keep_1 : decode cX6_keep 1 = .ok (.getfield 18, 3) := by decide +kernel
theorem dX6_keep_4 : decode cX6_keep 4 = .ok (.bipush 10, 2) := by decide +kernel
theorem dX6_keep_6 : decode cX6_keep 6 = .ok (.if_icmp .ge 10, 3) := by decide +kernel
theorem dX6_keep_9 : decode cX6_keep 9 = .ok (.aload_n 2, 1) := by decide +kernel
theorem dX6_keep_10 : decode cX6_keep 10 = .ok (.arraylength, 1) := by decide +kernel
theorem dX6_keep_11 : decode cX6_keep 11 = .ok (.bipush 7, 2) := by decide +kernel
theorem dX6_keep_13 : decode cX6_keep 13 = .ok (.if_icmp .eq 5, 3) := by decide +kernel
theorem dX6_keep_16 : decode cX6_keep 16 = .ok (.iconst (-1), 1) := by decide +kernel
theorem dX6_keep_17 : decode cX6_keep 17 = .ok (.ireturn, 1) := by decide +kernel
theorem dX6_keep_18 : decode cX6_keep 18 = .ok (.aload_n 0, 1) := by decide +kernel
theorem dX6_keep_19 : decode cX6_keep 19 = .ok (.getfield 9, 3) := by decide +kernel
theorem dX6_keep_22 : decode cX6_keep 22 = .ok (.aload_n 0, 1) := by decide +kernel
theorem dX6_keep_23 : decode cX6_keep 23 = .ok (.getfield 18, 3) := by decide +kernel
theorem dX6_keep_26 : decode cX6_keep 26 = .ok (.iload_n 1, 1) := by decide +kernel
theorem dX6_keep_27 : decode cX6_keep 27 = .ok (.iastore, 1) := by decide +kernel
theorem dX6_keep_28 : decode cX6_keep 28 = .ok (.aload_n 2, 1) := by decide +kernel
theorem dX6_keep_29 : decode cX6_keep 29 = .ok (.iconst 0, 1) := by decide +kernel
theorem dX6_keep_30 : decode cX6_keep 30 = .ok (.aload_n 0, 1) := by decide +kernel
theorem dX6_keep_31 : decode cX6_keep 31 = .ok (.getfield 15, 3) := by decide +kernel
theorem dX6_keep_34 : decode cX6_keep 34 = .ok (.aload_n 0, 1) := by decide +kernel
theorem dX6_keep_35 : decode cX6_keep 35 = .ok (.getfield 18, 3) := by decide +kernel
theorem dX6_keep_38 : decode cX6_keep 38 = .ok (.bipush 7, 2) := by decide +kernel
theorem dX6_keep_40 : decode cX6_keep 40 = .ok (.imul, 1) := by decide +kernel
theorem dX6_keep_41 : decode cX6_keep 41 = .ok (.bipush 7, 2) := by decide +kernel
theorem dX6_keep_43 : decode cX6_keep 43 = .ok (.invokestatic 22, 3) := by decide +kernel
theorem dX6_keep_46 : decode cX6_keep 46 = .ok (.aload_n 0, 1) := by decide +kernel
theorem dX6_keep_47 : decode cX6_keep 47 = .ok (.dup, 1) := by decide +kernel
theorem dX6_keep_48 : decode cX6_keep 48 = .ok (.getfield 18, 3) := by decide +kernel
theorem dX6_keep_51 : decode cX6_keep 51 = .ok (.iconst 1, 1) := by decide +kernel
theorem dX6_keep_52 : decode cX6_keep 52 = .ok (.iadd, 1) := by decide +kernel
theorem dX6_keep_53 : decode cX6_keep 53 = .ok (.putfield 18, 3) := by decide +kernel
theorem dX6_keep_56 : decode cX6_keep 56 = .ok (.aload_n 0, 1) := by decide +kernel
theorem dX6_keep_57 : decode cX6_keep 57 = .ok (.getfield 18, 3) := by decide +kernel
theorem dX6_keep_60 : decode cX6_keep 60 = .ok (.iconst 1, 1) := by decide +kernel
theorem dX6_keep_61 : decode cX6_keep 61 = .ok (.isub, 1) := by decide +kernel
theorem dX6_keep_62 : decode cX6_keep 62 = .ok (.ireturn, 1) := by decide +kernel
theorem dX6_inForce_0 : decode cX6_inForce 0 = .ok (.iconst (-1), 1) := by decide +kernel
theorem dX6_inForce_1 : decode cX6_inForce 1 = .ok (.istore_n 3, 1) := by decide +kernel
theorem dX6_inForce_2 : decode cX6_inForce 2 = .ok (.getstatic 28, 3) := by decide +kernel
theorem dX6_inForce_5 : decode cX6_inForce 5 = .ok (.iload_n 1, 1) := by decide +kernel
theorem dX6_inForce_6 : decode cX6_inForce 6 = .ok (.iaload, 1) := by decide +kernel
theorem dX6_inForce_7 : decode cX6_inForce 7 = .ok (.istore 4, 2) := by decide +kernel
theorem dX6_inForce_9 : decode cX6_inForce 9 = .ok (.iconst 0, 1) := by decide +kernel
theorem dX6_inForce_10 : decode cX6_inForce 10 = .ok (.istore 5, 2) := by decide +kernel
theorem dX6_inForce_12 : decode cX6_inForce 12 = .ok (.iload 5, 2) := by decide +kernel
theorem dX6_inForce_14 : decode cX6_inForce 14 = .ok (.aload_n 0, 1) := by decide +kernel
theorem dX6_inForce_15 : decode cX6_inForce 15 = .ok (.getfield 18, 3) := by decide +kernel
theorem dX6_inForce_18 : decode cX6_inForce 18 = .ok (.if_icmp .ge 63, 3) := by decide +kernel
theorem dX6_inForce_21 : decode cX6_inForce 21 = .ok (.aload_n 0, 1) := by decide +kernel
theorem dX6_inForce_22 : decode cX6_inForce 22 = .ok (.getfield 15, 3) := by decide +kernel
theorem dX6_inForce_25 : decode cX6_inForce 25 = .ok (.iload 5, 2) := by decide +kernel
theorem dX6_inForce_27 : decode cX6_inForce 27 = .ok (.bipush 7, 2) := by decide +kernel
theorem dX6_inForce_29 : decode cX6_inForce 29 = .ok (.imul, 1) := by decide +kernel
theorem dX6_inForce_30 : decode cX6_inForce 30 = .ok (.iload_n 1, 1) := by decide +kernel
theorem dX6_inForce_31 : decode cX6_inForce 31 = .ok (.iadd, 1) := by decide +kernel
theorem dX6_inForce_32 : decode cX6_inForce 32 = .ok (.iaload, 1) := by decide +kernel
theorem dX6_inForce_33 : decode cX6_inForce 33 = .ok (.istore 6, 2) := by decide +kernel
theorem dX6_inForce_35 : decode cX6_inForce 35 = .ok (.iload 6, 2) := by decide +kernel
theorem dX6_inForce_37 : decode cX6_inForce 37 = .ok (.iconst (-1), 1) := by decide +kernel
theorem dX6_inForce_38 : decode cX6_inForce 38 = .ok (.if_icmp .eq 37, 3) := by decide +kernel
theorem dX6_inForce_41 : decode cX6_inForce 41 = .ok (.aload_n 0, 1) := by decide +kernel
theorem dX6_inForce_42 : decode cX6_inForce 42 = .ok (.getfield 9, 3) := by decide +kernel
theorem dX6_inForce_45 : decode cX6_inForce 45 = .ok (.iload 5, 2) := by decide +kernel
theorem dX6_inForce_47 : decode cX6_inForce 47 = .ok (.iaload, 1) := by decide +kernel
theorem dX6_inForce_48 : decode cX6_inForce 48 = .ok (.iload_n 2, 1) := by decide +kernel
theorem dX6_inForce_49 : decode cX6_inForce 49 = .ok (.if_icmp .gt 26, 3) := by decide +kernel
theorem dX6_inForce_52 : decode cX6_inForce 52 = .ok (.aload_n 0, 1) := by decide +kernel
theorem dX6_inForce_53 : decode cX6_inForce 53 = .ok (.getfield 9, 3) := by decide +kernel
theorem dX6_inForce_56 : decode cX6_inForce 56 = .ok (.iload 5, 2) := by decide +kernel
theorem dX6_inForce_58 : decode cX6_inForce 58 = .ok (.iaload, 1) := by decide +kernel
theorem dX6_inForce_59 : decode cX6_inForce 59 = .ok (.iload_n 3, 1) := by decide +kernel
theorem dX6_inForce_60 : decode cX6_inForce 60 = .ok (.if_icmp .lt 15, 3) := by decide +kernel
theorem dX6_inForce_63 : decode cX6_inForce 63 = .ok (.aload_n 0, 1) := by decide +kernel
theorem dX6_inForce_64 : decode cX6_inForce 64 = .ok (.getfield 9, 3) := by decide +kernel
theorem dX6_inForce_67 : decode cX6_inForce 67 = .ok (.iload 5, 2) := by decide +kernel
theorem dX6_inForce_69 : decode cX6_inForce 69 = .ok (.iaload, 1) := by decide +kernel
theorem dX6_inForce_70 : decode cX6_inForce 70 = .ok (.istore_n 3, 1) := by decide +kernel
theorem dX6_inForce_71 : decode cX6_inForce 71 = .ok (.iload 6, 2) := by decide +kernel
theorem dX6_inForce_73 : decode cX6_inForce 73 = .ok (.istore 4, 2) := by decide +kernel
theorem dX6_inForce_75 : decode cX6_inForce 75 = .ok (.iinc 5 1, 3) := by decide +kernel
theorem dX6_inForce_78 : decode cX6_inForce 78 = .ok (.goto (-66), 3) := by decide +kernel
theorem dX6_inForce_81 : decode cX6_inForce 81 = .ok (.iload 4, 2) := by decide +kernel
theorem dX6_inForce_83 : decode cX6_inForce 83 = .ok (.ireturn, 1) := by decide +kernel
theorem dX8_init_0 : decode cX8_init 0 = .ok (.aload_n 0, 1) := by decide +kernel
theorem dX8_init_1 : decode cX8_init 1 = .ok (.invokespecial 3, 3) := by decide +kernel
theorem dX8_init_4 : decode cX8_init 4 = .ok (.aload_n 0, 1) := by decide +kernel
theorem dX8_init_5 : decode cX8_init 5 = .ok (.bipush 17, 2) := by decide +kernel
theorem dX8_init_7 : decode cX8_init 7 = .ok (.anewarray 9, 3) := by decide +kernel
theorem dX8_init_10 : decode cX8_init 10 = .ok (.putfield 11, 3) := by decide +kernel
theorem dX8_init_13 : decode cX8_init 13 = .ok (.return_, 1) := by decide +kernel
theorem dX8_addWard_0 : decode cX8_addWard 0 = .ok (.aload_n 0, 1) := by decide +kernel
theorem dX8_addWard_1 : decode cX8_addWard 1 = .ok (.getfield 17, 3) := by decide +kernel
theorem dX8_addWard_4 : decode cX8_addWard 4 = .ok (.bipush 17, 2) := by decide +kernel
theorem dX8_addWard_6 : decode cX8_addWard 6 = .ok (.if_icmp .lt 5, 3) := by decide +kernel
theorem dX8_addWard_9 : decode cX8_addWard 9 = .ok (.iconst (-1), 1) := by decide +kernel
theorem dX8_addWard_10 : decode cX8_addWard 10 = .ok (.ireturn, 1) := by decide +kernel
theorem dX8_addWard_11 : decode cX8_addWard 11 = .ok (.aload_n 0, 1) := by decide +kernel
theorem dX8_addWard_12 : decode cX8_addWard 12 = .ok (.getfield 11, 3) := by decide +kernel
theorem dX8_addWard_15 : decode cX8_addWard 15 = .ok (.aload_n 0, 1) := by decide +kernel
theorem dX8_addWard_16 : decode cX8_addWard 16 = .ok (.getfield 17, 3) := by decide +kernel
theorem dX8_addWard_19 : decode cX8_addWard 19 = .ok (.new 9, 3) := by decide +kernel
theorem dX8_addWard_22 : decode cX8_addWard 22 = .ok (.dup, 1) := by decide +kernel
theorem dX8_addWard_23 : decode cX8_addWard 23 = .ok (.invokespecial 21, 3) := by decide +kernel
theorem dX8_addWard_26 : decode cX8_addWard 26 = .ok (.aastore, 1) := by decide +kernel
theorem dX8_addWard_27 : decode cX8_addWard 27 = .ok (.aload_n 0, 1) := by decide +kernel
theorem dX8_addWard_28 : decode cX8_addWard 28 = .ok (.dup, 1) := by decide +kernel
theorem dX8_addWard_29 : decode cX8_addWard 29 = .ok (.getfield 17, 3) := by decide +kernel
theorem dX8_addWard_32 : decode cX8_addWard 32 = .ok (.iconst 1, 1) := by decide +kernel
theorem dX8_addWard_33 : decode cX8_addWard 33 = .ok (.iadd, 1) := by decide +kernel
theorem dX8_addWard_34 : decode cX8_addWard 34 = .ok (.putfield 17, 3) := by decide +kernel
theorem dX8_addWard_37 : decode cX8_addWard 37 = .ok (.aload_n 0, 1) := by decide +kernel
theorem dX8_addWard_38 : decode cX8_addWard 38 = .ok (.getfield 17, 3) := by decide +kernel
theorem dX8_addWard_41 : decode cX8_addWard 41 = .ok (.iconst 1, 1) := by decide +kernel
theorem dX8_addWard_42 : decode cX8_addWard 42 = .ok (.isub, 1) := by decide +kernel
theorem dX8_addWard_43 : decode cX8_addWard 43 = .ok (.ireturn, 1) := by decide +kernel
theorem dX8_has_0 : decode cX8_has 0 = .ok (.iload_n 1, 1) := by decide +kernel
theorem dX8_has_1 : decode cX8_has 1 = .ok (.ifCond .lt 15, 3) := by decide +kernel
theorem dX8_has_4 : decode cX8_has 4 = .ok (.iload_n 1, 1) := by decide +kernel
theorem dX8_has_5 : decode cX8_has 5 = .ok (.aload_n 0, 1) := by decide +kernel
theorem dX8_has_6 : decode cX8_has 6 = .ok (.getfield 17, 3) := by decide +kernel
theorem dX8_has_9 : decode cX8_has 9 = .ok (.if_icmp .ge 7, 3) := by decide +kernel
theorem dX8_has_12 : decode cX8_has 12 = .ok (.iconst 1, 1) := by decide +kernel
theorem dX8_has_13 : decode cX8_has 13 = .ok (.goto 4, 3) := by decide +kernel
theorem dX8_has_16 : decode cX8_has 16 = .ok (.iconst 0, 1) := by decide +kernel
theorem dX8_has_17 : decode cX8_has 17 = .ok (.ireturn, 1) := by decide +kernel
theorem dX8_find_0 : decode cX8_find 0 = .ok (.aload_n 0, 1) := by decide +kernel
theorem dX8_find_1 : decode cX8_find 1 = .ok (.iload_n 1, 1) := by decide +kernel
theorem dX8_find_2 : decode cX8_find 2 = .ok (.invokevirtual 22, 3) := by decide +kernel
theorem dX8_find_5 : decode cX8_find 5 = .ok (.ifCond .eq 12, 3) := by decide +kernel
theorem dX8_find_8 : decode cX8_find 8 = .ok (.aload_n 0, 1) := by decide +kernel
theorem dX8_find_9 : decode cX8_find 9 = .ok (.getfield 11, 3) := by decide +kernel
theorem dX8_find_12 : decode cX8_find 12 = .ok (.iload_n 1, 1) := by decide +kernel
theorem dX8_find_13 : decode cX8_find 13 = .ok (.aaload, 1) := by decide +kernel
theorem dX8_find_14 : decode cX8_find 14 = .ok (.goto 4, 3) := by decide +kernel
theorem dX8_find_17 : decode cX8_find 17 = .ok (.aconst_null, 1) := by decide +kernel
theorem dX8_find_18 : decode cX8_find 18 = .ok (.areturn, 1) := by decide +kernel
theorem dX8_runs_0 : decode cX8_runs 0 = .ok (.aload_n 0, 1) := by decide +kernel
theorem dX8_runs_1 : decode cX8_runs 1 = .ok (.iload_n 1, 1) := by decide +kernel
theorem dX8_runs_2 : decode cX8_runs 2 = .ok (.invokevirtual 26, 3) := by decide +kernel
theorem dX8_runs_5 : decode cX8_runs 5 = .ok (.astore_n 2, 1) := by decide +kernel
theorem dX8_runs_6 : decode cX8_runs 6 = .ok (.aload_n 2, 1) := by decide +kernel
theorem dX8_runs_7 : decode cX8_runs 7 = .ok (.ifnull 14, 3) := by decide +kernel
theorem dX8_runs_10 : decode cX8_runs 10 = .ok (.aload_n 2, 1) := by decide +kernel
theorem dX8_runs_11 : decode cX8_runs 11 = .ok (.getfield 30, 3) := by decide +kernel
theorem dX8_runs_14 : decode cX8_runs 14 = .ok (.ifCond .eq 7, 3) := by decide +kernel
theorem dX8_runs_17 : decode cX8_runs 17 = .ok (.iconst 1, 1) := by decide +kernel
theorem dX8_runs_18 : decode cX8_runs 18 = .ok (.goto 4, 3) := by decide +kernel
theorem dX8_runs_21 : decode cX8_runs 21 = .ok (.iconst 0, 1) := by decide +kernel
theorem dX8_runs_22 : decode cX8_runs 22 = .ok (.ireturn, 1) := by decide +kernel
theorem dX8_countFree_0 : decode cX8_countFree 0 = .ok (.iconst 0, 1) := by decide +kernel
theorem dX8_countFree_1 : decode cX8_countFree 1 = .ok (.istore_n 2, 1) := by decide +kernel
theorem dX8_countFree_2 : decode cX8_countFree 2 = .ok (.iconst 0, 1) := by decide +kernel
theorem dX8_countFree_3 : decode cX8_countFree 3 = .ok (.istore_n 3, 1) := by decide +kernel
theorem dX8_countFree_4 : decode cX8_countFree 4 = .ok (.iload_n 3, 1) := by decide +kernel
theorem dX8_countFree_5 : decode cX8_countFree 5 = .ok (.aload_n 0, 1) := by decide +kernel
theorem dX8_countFree_6 : decode cX8_countFree 6 = .ok (.getfield 17, 3) := by decide +kernel
theorem dX8_countFree_9 : decode cX8_countFree 9 = .ok (.if_icmp .ge 25, 3) := by decide +kernel
theorem dX8_countFree_12 : decode cX8_countFree 12 = .ok (.aload_n 0, 1) := by decide +kernel
theorem dX8_countFree_13 : decode cX8_countFree 13 = .ok (.getfield 11, 3) := by decide +kernel
theorem dX8_countFree_16 : decode cX8_countFree 16 = .ok (.iload_n 3, 1) := by decide +kernel
theorem dX8_countFree_17 : decode cX8_countFree 17 = .ok (.aaload, 1) := by decide +kernel
theorem dX8_countFree_18 : decode cX8_countFree 18 = .ok (.iload_n 1, 1) := by decide +kernel
theorem dX8_countFree_19 : decode cX8_countFree 19 = .ok (.invokevirtual 34, 3) := by decide +kernel
theorem dX8_countFree_22 : decode cX8_countFree 22 = .ok (.ifCond .eq 6, 3) := by decide +kernel
theorem dX8_countFree_25 : decode cX8_countFree 25 = .ok (.iinc 2 1, 3) := by decide +kernel
theorem dX8_countFree_28 : decode cX8_countFree 28 = .ok (.iinc 3 1, 3) := by decide +kernel
theorem dX8_countFree_31 : decode cX8_countFree 31 = .ok (.goto (-27), 3) := by decide +kernel
theorem dX8_countFree_34 : decode cX8_countFree 34 = .ok (.iload_n 2, 1) := by decide +kernel
theorem dX8_countFree_35 : decode cX8_countFree 35 = .ok (.ireturn, 1) := by decide +kernel
theorem dX8_chooseRunners_0 : decode cX8_chooseRunners 0 = .ok (.iload_n 1, 1) := by decide +kernel
theorem dX8_chooseRunners_1 : decode cX8_chooseRunners 1 = .ok (.iload_n 1, 1) := by decide +kernel
theorem dX8_chooseRunners_2 : decode cX8_chooseRunners 2 = .ok (.iconst 3, 1) := by decide +kernel
theorem dX8_chooseRunners_3 : decode cX8_chooseRunners 3 = .ok (.idiv, 1) := by decide +kernel
theorem dX8_chooseRunners_4 : decode cX8_chooseRunners 4 = .ok (.isub, 1) := by decide +kernel
theorem dX8_chooseRunners_5 : decode cX8_chooseRunners 5 = .ok (.istore 5, 2) := by decide +kernel
theorem dX8_chooseRunners_7 : decode cX8_chooseRunners 7 = .ok (.iconst 0, 1) := by decide +kernel
theorem dX8_chooseRunners_8 : decode cX8_chooseRunners 8 = .ok (.istore 6, 2) := by decide +kernel
theorem dX8_chooseRunners_10 : decode cX8_chooseRunners 10 = .ok (.iload 6, 2) := by decide +kernel
theorem dX8_chooseRunners_12 : decode cX8_chooseRunners 12 = .ok (.iload_n 1, 1) := by decide +kernel
theorem dX8_chooseRunners_13 : decode cX8_chooseRunners 13 = .ok (.if_icmp .ge 59, 3) := by decide +kernel
theorem dX8_chooseRunners_16 : decode cX8_chooseRunners 16 = .ok (.iload 6, 2) := by decide +kernel
theorem dX8_chooseRunners_18 : decode cX8_chooseRunners 18 = .ok (.iload 5, 2) := by decide +kernel
theorem dX8_chooseRunners_20 : decode cX8_chooseRunners 20 = .ok (.if_icmp .ge 11, 3) := by decide +kernel
theorem dX8_chooseRunners_23 : decode cX8_chooseRunners 23 = .ok (.aload_n 0, 1) := by decide +kernel
theorem dX8_chooseRunners_24 : decode cX8_chooseRunners 24 = .ok (.iload_n 3, 1) := by decide +kernel
theorem dX8_chooseRunners_25 : decode cX8_chooseRunners 25 = .ok (.invokevirtual 37, 3) := by decide +kernel
theorem dX8_chooseRunners_28 : decode cX8_chooseRunners 28 = .ok (.goto 17, 3) := by decide +kernel
theorem dX8_chooseRunners_31 : decode cX8_chooseRunners 31 = .ok (.aload_n 0, 1) := by decide +kernel
theorem dX8_chooseRunners_32 : decode cX8_chooseRunners 32 = .ok (.aload 4, 2) := by decide +kernel
theorem dX8_chooseRunners_34 : decode cX8_chooseRunners 34 = .ok (.iload_n 2, 1) := by decide +kernel
theorem dX8_chooseRunners_35 : decode cX8_chooseRunners 35 = .ok (.iload 6, 2) := by decide +kernel
theorem dX8_chooseRunners_37 : decode cX8_chooseRunners 37 = .ok (.isub, 1) := by decide +kernel
theorem dX8_chooseRunners_38 : decode cX8_chooseRunners 38 = .ok (.invokevirtual 41, 3) := by decide +kernel
theorem dX8_chooseRunners_41 : decode cX8_chooseRunners 41 = .ok (.iload_n 3, 1) := by decide +kernel
theorem dX8_chooseRunners_42 : decode cX8_chooseRunners 42 = .ok (.invokevirtual 46, 3) := by decide +kernel
theorem dX8_chooseRunners_45 : decode cX8_chooseRunners 45 = .ok (.istore 7, 2) := by decide +kernel
theorem dX8_chooseRunners_47 : decode cX8_chooseRunners 47 = .ok (.aload_n 0, 1) := by decide +kernel
theorem dX8_chooseRunners_48 : decode cX8_chooseRunners 48 = .ok (.iload 7, 2) := by decide +kernel
theorem dX8_chooseRunners_50 : decode cX8_chooseRunners 50 = .ok (.invokevirtual 26, 3) := by decide +kernel
theorem dX8_chooseRunners_53 : decode cX8_chooseRunners 53 = .ok (.astore 8, 2) := by decide +kernel
theorem dX8_chooseRunners_55 : decode cX8_chooseRunners 55 = .ok (.aload 8, 2) := by decide +kernel
theorem dX8_chooseRunners_57 : decode cX8_chooseRunners 57 = .ok (.ifnull 9, 3) := by decide +kernel
theorem dX8_chooseRunners_60 : decode cX8_chooseRunners 60 = .ok (.aload 8, 2) := by decide +kernel
theorem dX8_chooseRunners_62 : decode cX8_chooseRunners 62 = .ok (.iconst 1, 1) := by decide +kernel
theorem dX8_chooseRunners_63 : decode cX8_chooseRunners 63 = .ok (.putfield 30, 3) := by decide +kernel
theorem dX8_chooseRunners_66 : decode cX8_chooseRunners 66 = .ok (.iinc 6 1, 3) := by decide +kernel
theorem dX8_chooseRunners_69 : decode cX8_chooseRunners 69 = .ok (.goto (-59), 3) := by decide +kernel
theorem dX8_chooseRunners_72 : decode cX8_chooseRunners 72 = .ok (.return_, 1) := by decide +kernel
theorem dX8_longestAgo_0 : decode cX8_longestAgo 0 = .ok (.iconst (-1), 1) := by decide +kernel
theorem dX8_longestAgo_1 : decode cX8_longestAgo 1 = .ok (.istore_n 2, 1) := by decide +kernel
theorem dX8_longestAgo_2 : decode cX8_longestAgo 2 = .ok (.iconst 0, 1) := by decide +kernel
theorem dX8_longestAgo_3 : decode cX8_longestAgo 3 = .ok (.istore_n 3, 1) := by decide +kernel
theorem dX8_longestAgo_4 : decode cX8_longestAgo 4 = .ok (.iload_n 3, 1) := by decide +kernel
theorem dX8_longestAgo_5 : decode cX8_longestAgo 5 = .ok (.aload_n 0, 1) := by decide +kernel
theorem dX8_longestAgo_6 : decode cX8_longestAgo 6 = .ok (.getfield 17, 3) := by decide +kernel
theorem dX8_longestAgo_9 : decode cX8_longestAgo 9 = .ok (.if_icmp .ge 50, 3) := by decide +kernel
theorem dX8_longestAgo_12 : decode cX8_longestAgo 12 = .ok (.aload_n 0, 1) := by decide +kernel
theorem dX8_longestAgo_13 : decode cX8_longestAgo 13 = .ok (.getfield 11, 3) := by decide +kernel
theorem dX8_longestAgo_16 : decode cX8_longestAgo 16 = .ok (.iload_n 3, 1) := by decide +kernel
theorem dX8_longestAgo_17 : decode cX8_longestAgo 17 = .ok (.aaload, 1) := by decide +kernel
theorem dX8_longestAgo_18 : decode cX8_longestAgo 18 = .ok (.iload_n 1, 1) := by decide +kernel
theorem dX8_longestAgo_19 : decode cX8_longestAgo 19 = .ok (.invokevirtual 34, 3) := by decide +kernel
theorem dX8_longestAgo_22 : decode cX8_longestAgo 22 = .ok (.ifCond .eq 31, 3) := by decide +kernel
theorem dX8_longestAgo_25 : decode cX8_longestAgo 25 = .ok (.iload_n 2, 1) := by decide +kernel
theorem dX8_longestAgo_26 : decode cX8_longestAgo 26 = .ok (.iconst (-1), 1) := by decide +kernel
theorem dX8_longestAgo_27 : decode cX8_longestAgo 27 = .ok (.if_icmp .eq 24, 3) := by decide +kernel
theorem dX8_longestAgo_30 : decode cX8_longestAgo 30 = .ok (.aload_n 0, 1) := by decide +kernel
theorem dX8_longestAgo_31 : decode cX8_longestAgo 31 = .ok (.getfield 11, 3) := by decide +kernel
theorem dX8_longestAgo_34 : decode cX8_longestAgo 34 = .ok (.iload_n 3, 1) := by decide +kernel
theorem dX8_longestAgo_35 : decode cX8_longestAgo 35 = .ok (.aaload, 1) := by decide +kernel
theorem dX8_longestAgo_36 : decode cX8_longestAgo 36 = .ok (.getfield 50, 3) := by decide +kernel
theorem dX8_longestAgo_39 : decode cX8_longestAgo 39 = .ok (.aload_n 0, 1) := by decide +kernel
theorem dX8_longestAgo_40 : decode cX8_longestAgo 40 = .ok (.getfield 11, 3) := by decide +kernel
theorem dX8_longestAgo_43 : decode cX8_longestAgo 43 = .ok (.iload_n 2, 1) := by decide +kernel
theorem dX8_longestAgo_44 : decode cX8_longestAgo 44 = .ok (.aaload, 1) := by decide +kernel
theorem dX8_longestAgo_45 : decode cX8_longestAgo 45 = .ok (.getfield 50, 3) := by decide +kernel
theorem dX8_longestAgo_48 : decode cX8_longestAgo 48 = .ok (.if_icmp .ge 5, 3) := by decide +kernel
theorem dX8_longestAgo_51 : decode cX8_longestAgo 51 = .ok (.iload_n 3, 1) := by decide +kernel
theorem dX8_longestAgo_52 : decode cX8_longestAgo 52 = .ok (.istore_n 2, 1) := by decide +kernel
theorem dX8_longestAgo_53 : decode cX8_longestAgo 53 = .ok (.iinc 3 1, 3) := by decide +kernel
theorem dX8_longestAgo_56 : decode cX8_longestAgo 56 = .ok (.goto (-52), 3) := by decide +kernel
theorem dX8_longestAgo_59 : decode cX8_longestAgo 59 = .ok (.iload_n 2, 1) := by decide +kernel
theorem dX8_longestAgo_60 : decode cX8_longestAgo 60 = .ok (.ireturn, 1) := by decide +kernel
theorem dX8_freeAt_0 : decode cX8_freeAt 0 = .ok (.iconst 0, 1) := by decide +kernel
theorem dX8_freeAt_1 : decode cX8_freeAt 1 = .ok (.istore_n 3, 1) := by decide +kernel
theorem dX8_freeAt_2 : decode cX8_freeAt 2 = .ok (.iconst 0, 1) := by decide +kernel
theorem dX8_freeAt_3 : decode cX8_freeAt 3 = .ok (.istore 4, 2) := by decide +kernel
theorem dX8_freeAt_5 : decode cX8_freeAt 5 = .ok (.iload 4, 2) := by decide +kernel
theorem dX8_freeAt_7 : decode cX8_freeAt 7 = .ok (.aload_n 0, 1) := by decide +kernel
theorem dX8_freeAt_8 : decode cX8_freeAt 8 = .ok (.getfield 17, 3) := by decide +kernel
theorem dX8_freeAt_11 : decode cX8_freeAt 11 = .ok (.if_icmp .ge 34, 3) := by decide +kernel
theorem dX8_freeAt_14 : decode cX8_freeAt 14 = .ok (.aload_n 0, 1) := by decide +kernel
theorem dX8_freeAt_15 : decode cX8_freeAt 15 = .ok (.getfield 11, 3) := by decide +kernel
theorem dX8_freeAt_18 : decode cX8_freeAt 18 = .ok (.iload 4, 2) := by decide +kernel
theorem dX8_freeAt_20 : decode cX8_freeAt 20 = .ok (.aaload, 1) := by decide +kernel
theorem dX8_freeAt_21 : decode cX8_freeAt 21 = .ok (.iload_n 2, 1) := by decide +kernel
theorem dX8_freeAt_22 : decode cX8_freeAt 22 = .ok (.invokevirtual 34, 3) := by decide +kernel
theorem dX8_freeAt_25 : decode cX8_freeAt 25 = .ok (.ifCond .eq 14, 3) := by decide +kernel
theorem dX8_freeAt_28 : decode cX8_freeAt 28 = .ok (.iload_n 3, 1) := by decide +kernel
theorem dX8_freeAt_29 : decode cX8_freeAt 29 = .ok (.iload_n 1, 1) := by decide +kernel
theorem dX8_freeAt_30 : decode cX8_freeAt 30 = .ok (.if_icmp .ne 6, 3) := by decide +kernel
theorem dX8_freeAt_33 : decode cX8_freeAt 33 = .ok (.iload 4, 2) := by decide +kernel
theorem dX8_freeAt_35 : decode cX8_freeAt 35 = .ok (.ireturn, 1) := by decide +kernel
theorem dX8_freeAt_36 : decode cX8_freeAt 36 = .ok (.iinc 3 1, 3) := by decide +kernel
theorem dX8_freeAt_39 : decode cX8_freeAt 39 = .ok (.iinc 4 1, 3) := by decide +kernel
theorem dX8_freeAt_42 : decode cX8_freeAt 42 = .ok (.goto (-37), 3) := by decide +kernel
theorem dX8_freeAt_45 : decode cX8_freeAt 45 = .ok (.iconst (-1), 1) := by decide +kernel
theorem dX8_freeAt_46 : decode cX8_freeAt 46 = .ok (.ireturn, 1) := by decide +kernel
theorem dX8_forgetYear_0 : decode cX8_forgetYear 0 = .ok (.iconst 0, 1) := by decide +kernel
theorem dX8_forgetYear_1 : decode cX8_forgetYear 1 = .ok (.istore_n 1, 1) := by decide +kernel
theorem dX8_forgetYear_2 : decode cX8_forgetYear 2 = .ok (.iload_n 1, 1) := by decide +kernel
theorem dX8_forgetYear_3 : decode cX8_forgetYear 3 = .ok (.aload_n 0, 1) := by decide +kernel
theorem dX8_forgetYear_4 : decode cX8_forgetYear 4 = .ok (.getfield 17, 3) := by decide +kernel
theorem dX8_forgetYear_7 : decode cX8_forgetYear 7 = .ok (.if_icmp .ge 39, 3) := by decide +kernel
theorem dX8_forgetYear_10 : decode cX8_forgetYear 10 = .ok (.aload_n 0, 1) := by decide +kernel
theorem dX8_forgetYear_11 : decode cX8_forgetYear 11 = .ok (.getfield 11, 3) := by decide +kernel
theorem dX8_forgetYear_14 : decode cX8_forgetYear 14 = .ok (.iload_n 1, 1) := by decide +kernel
theorem dX8_forgetYear_15 : decode cX8_forgetYear 15 = .ok (.aaload, 1) := by decide +kernel
theorem dX8_forgetYear_16 : decode cX8_forgetYear 16 = .ok (.iconst 0, 1) := by decide +kernel
theorem dX8_forgetYear_17 : decode cX8_forgetYear 17 = .ok (.putfield 30, 3) := by decide +kernel
theorem dX8_forgetYear_20 : decode cX8_forgetYear 20 = .ok (.aload_n 0, 1) := by decide +kernel
theorem dX8_forgetYear_21 : decode cX8_forgetYear 21 = .ok (.getfield 11, 3) := by decide +kernel
theorem dX8_forgetYear_24 : decode cX8_forgetYear 24 = .ok (.iload_n 1, 1) := by decide +kernel
theorem dX8_forgetYear_25 : decode cX8_forgetYear 25 = .ok (.aaload, 1) := by decide +kernel
theorem dX8_forgetYear_26 : decode cX8_forgetYear 26 = .ok (.iconst (-1), 1) := by decide +kernel
theorem dX8_forgetYear_27 : decode cX8_forgetYear 27 = .ok (.putfield 53, 3) := by decide +kernel
theorem dX8_forgetYear_30 : decode cX8_forgetYear 30 = .ok (.aload_n 0, 1) := by decide +kernel
theorem dX8_forgetYear_31 : decode cX8_forgetYear 31 = .ok (.getfield 11, 3) := by decide +kernel
theorem dX8_forgetYear_34 : decode cX8_forgetYear 34 = .ok (.iload_n 1, 1) := by decide +kernel
theorem dX8_forgetYear_35 : decode cX8_forgetYear 35 = .ok (.aaload, 1) := by decide +kernel
theorem dX8_forgetYear_36 : decode cX8_forgetYear 36 = .ok (.iconst 0, 1) := by decide +kernel
theorem dX8_forgetYear_37 : decode cX8_forgetYear 37 = .ok (.putfield 56, 3) := by decide +kernel
theorem dX8_forgetYear_40 : decode cX8_forgetYear 40 = .ok (.iinc 1 1, 3) := by decide +kernel
theorem dX8_forgetYear_43 : decode cX8_forgetYear 43 = .ok (.goto (-41), 3) := by decide +kernel
theorem dX8_forgetYear_46 : decode cX8_forgetYear 46 = .ok (.return_, 1) := by decide +kernel
theorem dX9_init_0 : decode cX9_init 0 = .ok (.aload_n 0, 1) := by decide +kernel
theorem dX9_init_1 : decode cX9_init 1 = .ok (.invokespecial 3, 3) := by decide +kernel
theorem dX9_init_4 : decode cX9_init 4 = .ok (.aload_n 0, 1) := by decide +kernel
theorem dX9_init_5 : decode cX9_init 5 = .ok (.iconst (-1), 1) := by decide +kernel
theorem dX9_init_6 : decode cX9_init 6 = .ok (.putfield 9, 3) := by decide +kernel
theorem dX9_init_9 : decode cX9_init 9 = .ok (.aload_n 0, 1) := by decide +kernel
theorem dX9_init_10 : decode cX9_init 10 = .ok (.iconst (-1), 1) := by decide +kernel
theorem dX9_init_11 : decode cX9_init 11 = .ok (.putfield 15, 3) := by decide +kernel
theorem dX9_init_14 : decode cX9_init 14 = .ok (.aload_n 0, 1) := by decide +kernel
theorem dX9_init_15 : decode cX9_init 15 = .ok (.iconst (-1), 1) := by decide +kernel
theorem dX9_init_16 : decode cX9_init 16 = .ok (.putfield 18, 3) := by decide +kernel
theorem dX9_init_19 : decode cX9_init 19 = .ok (.return_, 1) := by decide +kernel
theorem dX9_mayBeChosen_0 : decode cX9_mayBeChosen 0 = .ok (.aload_n 0, 1) := by decide +kernel
theorem dX9_mayBeChosen_1 : decode cX9_mayBeChosen 1 = .ok (.getfield 18, 3) := by decide +kernel
theorem dX9_mayBeChosen_4 : decode cX9_mayBeChosen 4 = .ok (.iload_n 1, 1) := by decide +kernel
theorem dX9_mayBeChosen_5 : decode cX9_mayBeChosen 5 = .ok (.if_icmp .ge 14, 3) := by decide +kernel
theorem dX9_mayBeChosen_8 : decode cX9_mayBeChosen 8 = .ok (.aload_n 0, 1) := by decide +kernel
theorem dX9_mayBeChosen_9 : decode cX9_mayBeChosen 9 = .ok (.getfield 21, 3) := by decide +kernel
theorem dX9_mayBeChosen_12 : decode cX9_mayBeChosen 12 = .ok (.ifCond .ne 7, 3) := by decide +kernel
theorem dX9_mayBeChosen_15 : decode cX9_mayBeChosen 15 = .ok (.iconst 1, 1) := by decide +kernel
theorem dX9_mayBeChosen_16 : decode cX9_mayBeChosen 16 = .ok (.goto 4, 3) := by decide +kernel
theorem dX9_mayBeChosen_19 : decode cX9_mayBeChosen 19 = .ok (.iconst 0, 1) := by decide +kernel
theorem dX9_mayBeChosen_20 : decode cX9_mayBeChosen 20 = .ok (.ireturn, 1) := by decide +kernel
theorem dJ9_floorMod_7cf53_0 : decode cJ9_floorMod_7cf53 0 = .ok (.iload_n 0, 1) := by decide +kernel
theorem dJ9_floorMod_7cf53_1 : decode cJ9_floorMod_7cf53 1 = .ok (.iload_n 1, 1) := by decide +kernel
theorem dJ9_floorMod_7cf53_2 : decode cJ9_floorMod_7cf53 2 = .ok (.irem, 1) := by decide +kernel
theorem dJ9_floorMod_7cf53_3 : decode cJ9_floorMod_7cf53 3 = .ok (.istore_n 2, 1) := by decide +kernel
theorem dJ9_floorMod_7cf53_4 : decode cJ9_floorMod_7cf53 4 = .ok (.iload_n 0, 1) := by decide +kernel
theorem dJ9_floorMod_7cf53_5 : decode cJ9_floorMod_7cf53 5 = .ok (.iload_n 1, 1) := by decide +kernel
theorem dJ9_floorMod_7cf53_6 : decode cJ9_floorMod_7cf53 6 = .ok (.ixor, 1) := by decide +kernel
theorem dJ9_floorMod_7cf53_7 : decode cJ9_floorMod_7cf53 7 = .ok (.ifCond .ge 11, 3) := by decide +kernel
theorem dJ9_floorMod_7cf53_10 : decode cJ9_floorMod_7cf53 10 = .ok (.iload_n 2, 1) := by decide +kernel
theorem dJ9_floorMod_7cf53_11 : decode cJ9_floorMod_7cf53 11 = .ok (.ifCond .eq 7, 3) := by decide +kernel
theorem dJ9_floorMod_7cf53_14 : decode cJ9_floorMod_7cf53 14 = .ok (.iload_n 2, 1) := by decide +kernel
theorem dJ9_floorMod_7cf53_15 : decode cJ9_floorMod_7cf53 15 = .ok (.iload_n 1, 1) := by decide +kernel
theorem dJ9_floorMod_7cf53_16 : decode cJ9_floorMod_7cf53 16 = .ok (.iadd, 1) := by decide +kernel
theorem dJ9_floorMod_7cf53_17 : decode cJ9_floorMod_7cf53 17 = .ok (.ireturn, 1) := by decide +kernel
theorem dJ9_floorMod_7cf53_18 : decode cJ9_floorMod_7cf53 18 = .ok (.iload_n 2, 1) := by decide +kernel
theorem dJ9_floorMod_7cf53_19 : decode cJ9_floorMod_7cf53 19 = .ok (.ireturn, 1) := by decide +kernel
theorem dJ9_abs_0f7a4_0 : decode cJ9_abs_0f7a4 0 = .ok (.iload_n 0, 1) := by decide +kernel
theorem dJ9_abs_0f7a4_1 : decode cJ9_abs_0f7a4 1 = .ok (.ifCond .ge 8, 3) := by decide +kernel
theorem dJ9_abs_0f7a4_4 : decode cJ9_abs_0f7a4 4 = .ok (.iload_n 0, 1) := by decide +kernel
theorem dJ9_abs_0f7a4_5 : decode cJ9_abs_0f7a4 5 = .ok (.ineg, 1) := by decide +kernel
theorem dJ9_abs_0f7a4_6 : decode cJ9_abs_0f7a4 6 = .ok (.goto 4, 3) := by decide +kernel
theorem dJ9_abs_0f7a4_9 : decode cJ9_abs_0f7a4 9 = .ok (.iload_n 0, 1) := by decide +kernel
theorem dJ9_abs_0f7a4_10 : decode cJ9_abs_0f7a4 10 = .ok (.ireturn, 1) := by decide +kernel
theorem dJ9_max_7cf53_0 : decode cJ9_max_7cf53 0 = .ok (.iload_n 0, 1) := by decide +kernel
theorem dJ9_max_7cf53_1 : decode cJ9_max_7cf53 1 = .ok (.iload_n 1, 1) := by decide +kernel
theorem dJ9_max_7cf53_2 : decode cJ9_max_7cf53 2 = .ok (.if_icmp .lt 7, 3) := by decide +kernel
theorem dJ9_max_7cf53_5 : decode cJ9_max_7cf53 5 = .ok (.iload_n 0, 1) := by decide +kernel
theorem dJ9_max_7cf53_6 : decode cJ9_max_7cf53 6 = .ok (.goto 4, 3) := by decide +kernel
theorem dJ9_max_7cf53_9 : decode cJ9_max_7cf53 9 = .ok (.iload_n 1, 1) := by decide +kernel
theorem dJ9_max_7cf53_10 : decode cJ9_max_7cf53 10 = .ok (.ireturn, 1) := by decide +kernel
theorem dJ9_min_7cf53_0 : decode cJ9_min_7cf53 0 = .ok (.iload_n 0, 1) := by decide +kernel
theorem dJ9_min_7cf53_1 : decode cJ9_min_7cf53 1 = .ok (.iload_n 1, 1) := by decide +kernel
theorem dJ9_min_7cf53_2 : decode cJ9_min_7cf53 2 = .ok (.if_icmp .gt 7, 3) := by decide +kernel
theorem dJ9_min_7cf53_5 : decode cJ9_min_7cf53 5 = .ok (.iload_n 0, 1) := by decide +kernel
theorem dJ9_min_7cf53_6 : decode cJ9_min_7cf53 6 = .ok (.goto 4, 3) := by decide +kernel
theorem dJ9_min_7cf53_9 : decode cJ9_min_7cf53 9 = .ok (.iload_n 1, 1) := by decide +kernel
theorem dJ9_min_7cf53_10 : decode cJ9_min_7cf53 10 = .ok (.ireturn, 1) := by decide +kernel
theorem dJ0_length_8abf5_0 : decode cJ0_length_8abf5 0 = .ok (.aload_n 0, 1) := by decide +kernel
theorem dJ0_length_8abf5_1 : decode cJ0_length_8abf5 1 = .ok (.getfield 9, 3) := by decide +kernel
theorem dJ0_length_8abf5_4 : decode cJ0_length_8abf5 4 = .ok (.arraylength, 1) := by decide +kernel
theorem dJ0_length_8abf5_5 : decode cJ0_length_8abf5 5 = .ok (.aload_n 0, 1) := by decide +kernel
theorem dJ0_length_8abf5_6 : decode cJ0_length_8abf5 6 = .ok (.invokevirtual 335, 3) := by decide +kernel
theorem dJ0_length_8abf5_9 : decode cJ0_length_8abf5 9 = .ok (.ishr, 1) := by decide +kernel
theorem dJ0_length_8abf5_10 : decode cJ0_length_8abf5 10 = .ok (.ireturn, 1) := by decide +kernel
theorem dJ0_charAt_5068e_0 : decode cJ0_charAt_5068e 0 = .ok (.aload_n 0, 1) := by decide +kernel
theorem dJ0_charAt_5068e_1 : decode cJ0_charAt_5068e 1 = .ok (.invokevirtual 492, 3) := by decide +kernel
theorem dJ0_charAt_5068e_4 : decode cJ0_charAt_5068e 4 = .ok (.ifCond .eq 12, 3) := by decide +kernel
theorem dJ0_charAt_5068e_7 : decode cJ0_charAt_5068e 7 = .ok (.aload_n 0, 1) := by decide +kernel
theorem dJ0_charAt_5068e_8 : decode cJ0_charAt_5068e 8 = .ok (.getfield 9, 3) := by decide +kernel
theorem dJ0_charAt_5068e_11 : decode cJ0_charAt_5068e 11 = .ok (.iload_n 1, 1) := by decide +kernel
theorem dJ0_charAt_5068e_12 : decode cJ0_charAt_5068e 12 = .ok (.invokestatic 495, 3) := by decide +kernel
theorem dJ0_charAt_5068e_15 : decode cJ0_charAt_5068e 15 = .ok (.ireturn, 1) := by decide +kernel
theorem dJ0_charAt_5068e_16 : decode cJ0_charAt_5068e 16 = .ok (.aload_n 0, 1) := by decide +kernel
theorem dJ0_charAt_5068e_17 : decode cJ0_charAt_5068e 17 = .ok (.getfield 9, 3) := by decide +kernel
theorem dJ0_charAt_5068e_20 : decode cJ0_charAt_5068e 20 = .ok (.iload_n 1, 1) := by decide +kernel
theorem dJ0_charAt_5068e_21 : decode cJ0_charAt_5068e 21 = .ok (.invokestatic 498, 3) := by decide +kernel
theorem dJ0_charAt_5068e_24 : decode cJ0_charAt_5068e 24 = .ok (.ireturn, 1) := by decide +kernel
theorem dJ0_coder_7d493_0 : decode cJ0_coder_7d493 0 = .ok (.getstatic 38, 3) := by decide +kernel
theorem dJ0_coder_7d493_3 : decode cJ0_coder_7d493 3 = .ok (.ifCond .eq 10, 3) := by decide +kernel
theorem dJ0_coder_7d493_6 : decode cJ0_coder_7d493 6 = .ok (.aload_n 0, 1) := by decide +kernel
theorem dJ0_coder_7d493_7 : decode cJ0_coder_7d493 7 = .ok (.getfield 15, 3) := by decide +kernel
theorem dJ0_coder_7d493_10 : decode cJ0_coder_7d493 10 = .ok (.goto 4, 3) := by decide +kernel
theorem dJ0_coder_7d493_13 : decode cJ0_coder_7d493 13 = .ok (.iconst 1, 1) := by decide +kernel
theorem dJ0_coder_7d493_14 : decode cJ0_coder_7d493 14 = .ok (.ireturn, 1) := by decide +kernel
theorem dJ0_isLatin1_aae02_0 : decode cJ0_isLatin1_aae02 0 = .ok (.getstatic 38, 3) := by decide +kernel
theorem dJ0_isLatin1_aae02_3 : decode cJ0_isLatin1_aae02 3 = .ok (.ifCond .eq 14, 3) := by decide +kernel
theorem dJ0_isLatin1_aae02_6 : decode cJ0_isLatin1_aae02 6 = .ok (.aload_n 0, 1) := by decide +kernel
theorem dJ0_isLatin1_aae02_7 : decode cJ0_isLatin1_aae02 7 = .ok (.getfield 15, 3) := by decide +kernel
theorem dJ0_isLatin1_aae02_10 : decode cJ0_isLatin1_aae02 10 = .ok (.ifCond .ne 7, 3) := by decide +kernel
theorem dJ0_isLatin1_aae02_13 : decode cJ0_isLatin1_aae02 13 = .ok (.iconst 1, 1) := by decide +kernel
theorem dJ0_isLatin1_aae02_14 : decode cJ0_isLatin1_aae02 14 = .ok (.goto 4, 3) := by decide +kernel
theorem dJ0_isLatin1_aae02_17 : decode cJ0_isLatin1_aae02 17 = .ok (.iconst 0, 1) := by decide +kernel
theorem dJ0_isLatin1_aae02_18 : decode cJ0_isLatin1_aae02 18 = .ok (.ireturn, 1) := by decide +kernel
theorem dJ0_checkIndex_df160_0 : decode cJ0_checkIndex_df160 0 = .ok (.iload_n 0, 1) := by decide +kernel
theorem dJ0_checkIndex_df160_1 : decode cJ0_checkIndex_df160 1 = .ok (.iload_n 1, 1) := by decide +kernel
theorem dJ0_checkIndex_df160_2 : decode cJ0_checkIndex_df160 2 = .ok (.getstatic 1053, 3) := by decide +kernel
theorem dJ0_checkIndex_df160_5 : decode cJ0_checkIndex_df160 5 = .ok (.invokestatic 1059, 3) := by decide +kernel
theorem dJ0_checkIndex_df160_8 : decode cJ0_checkIndex_df160 8 = .ok (.pop, 1) := by decide +kernel
theorem dJ0_checkIndex_df160_9 : decode cJ0_checkIndex_df160 9 = .ok (.return_, 1) := by decide +kernel
theorem dJ1_charAt_3b067_0 : decode cJ1_charAt_3b067 0 = .ok (.iload_n 1, 1) := by decide +kernel
theorem dJ1_charAt_3b067_1 : decode cJ1_charAt_3b067 1 = .ok (.aload_n 0, 1) := by decide +kernel
theorem dJ1_charAt_3b067_2 : decode cJ1_charAt_3b067 2 = .ok (.arraylength, 1) := by decide +kernel
theorem dJ1_charAt_3b067_3 : decode cJ1_charAt_3b067 3 = .ok (.invokestatic 9, 3) := by decide +kernel
theorem dJ1_charAt_3b067_6 : decode cJ1_charAt_3b067 6 = .ok (.aload_n 0, 1) := by decide +kernel
theorem dJ1_charAt_3b067_7 : decode cJ1_charAt_3b067 7 = .ok (.iload_n 1, 1) := by decide +kernel
theorem dJ1_charAt_3b067_8 : decode cJ1_charAt_3b067 8 = .ok (.baload, 1) := by decide +kernel
theorem dJ1_charAt_3b067_9 : decode cJ1_charAt_3b067 9 = .ok (.sipush 255, 3) := by decide +kernel
theorem dJ1_charAt_3b067_12 : decode cJ1_charAt_3b067 12 = .ok (.iand, 1) := by decide +kernel
theorem dJ1_charAt_3b067_13 : decode cJ1_charAt_3b067 13 = .ok (.i2c, 1) := by decide +kernel
theorem dJ1_charAt_3b067_14 : decode cJ1_charAt_3b067 14 = .ok (.ireturn, 1) := by decide +kernel
theorem dJ2_getChar_3b067_0 : decode cJ2_getChar_3b067 0 = .ok (.getstatic 44, 3) := by decide +kernel
theorem dJ2_getChar_3b067_3 : decode cJ2_getChar_3b067 3 = .ok (.ifCond .ne 25, 3) := by decide +kernel
theorem dJ2_getChar_3b067_6 : decode cJ2_getChar_3b067 6 = .ok (.iload_n 1, 1) := by decide +kernel
theorem dJ2_getChar_3b067_7 : decode cJ2_getChar_3b067 7 = .ok (.ifCond .lt 11, 3) := by decide +kernel
theorem dJ2_getChar_3b067_10 : decode cJ2_getChar_3b067 10 = .ok (.iload_n 1, 1) := by decide +kernel
theorem dJ2_getChar_3b067_11 : decode cJ2_getChar_3b067 11 = .ok (.aload_n 0, 1) := by decide +kernel
theorem dJ2_getChar_3b067_12 : decode cJ2_getChar_3b067 12 = .ok (.invokestatic 48, 3) := by decide +kernel
theorem dJ2_getChar_3b067_15 : decode cJ2_getChar_3b067 15 = .ok (.if_icmp .lt 13, 3) := by decide +kernel
theorem dJ2_getChar_3b067_18 : decode cJ2_getChar_3b067 18 = .ok (.new 52, 3) := by decide +kernel
theorem dJ2_getChar_3b067_21 : decode cJ2_getChar_3b067 21 = .ok (.dup, 1) := by decide +kernel
theorem dJ2_getChar_3b067_22 : decode cJ2_getChar_3b067 22 = .ok (.ldc 54, 2) := by decide +kernel
theorem dJ2_getChar_3b067_24 : decode cJ2_getChar_3b067 24 = .ok (.invokespecial 56, 3) := by decide +kernel
theorem dJ2_getChar_3b067_27 : decode cJ2_getChar_3b067 27 = .ok (.athrow, 1) := by decide +kernel
theorem dJ2_getChar_3b067_28 : decode cJ2_getChar_3b067 28 = .ok (.iload_n 1, 1) := by decide +kernel
theorem dJ2_getChar_3b067_29 : decode cJ2_getChar_3b067 29 = .ok (.iconst 1, 1) := by decide +kernel
theorem dJ2_getChar_3b067_30 : decode cJ2_getChar_3b067 30 = .ok (.ishl, 1) := by decide +kernel
theorem dJ2_getChar_3b067_31 : decode cJ2_getChar_3b067 31 = .ok (.istore_n 1, 1) := by decide +kernel
theorem dJ2_getChar_3b067_32 : decode cJ2_getChar_3b067 32 = .ok (.aload_n 0, 1) := by decide +kernel
theorem dJ2_getChar_3b067_33 : decode cJ2_getChar_3b067 33 = .ok (.iload_n 1, 1) := by decide +kernel
theorem dJ2_getChar_3b067_34 : decode cJ2_getChar_3b067 34 = .ok (.iinc 1 1, 3) := by decide +kernel
theorem dJ2_getChar_3b067_37 : decode cJ2_getChar_3b067 37 = .ok (.baload, 1) := by decide +kernel
theorem dJ2_getChar_3b067_38 : decode cJ2_getChar_3b067 38 = .ok (.sipush 255, 3) := by decide +kernel
theorem dJ2_getChar_3b067_41 : decode cJ2_getChar_3b067 41 = .ok (.iand, 1) := by decide +kernel
theorem dJ2_getChar_3b067_42 : decode cJ2_getChar_3b067 42 = .ok (.getstatic 59, 3) := by decide +kernel
theorem dJ2_getChar_3b067_45 : decode cJ2_getChar_3b067 45 = .ok (.ishl, 1) := by decide +kernel
theorem dJ2_getChar_3b067_46 : decode cJ2_getChar_3b067 46 = .ok (.aload_n 0, 1) := by decide +kernel
theorem dJ2_getChar_3b067_47 : decode cJ2_getChar_3b067 47 = .ok (.iload_n 1, 1) := by decide +kernel
theorem dJ2_getChar_3b067_48 : decode cJ2_getChar_3b067 48 = .ok (.baload, 1) := by decide +kernel
theorem dJ2_getChar_3b067_49 : decode cJ2_getChar_3b067 49 = .ok (.sipush 255, 3) := by decide +kernel
theorem dJ2_getChar_3b067_52 : decode cJ2_getChar_3b067 52 = .ok (.iand, 1) := by decide +kernel
theorem dJ2_getChar_3b067_53 : decode cJ2_getChar_3b067 53 = .ok (.getstatic 63, 3) := by decide +kernel
theorem dJ2_getChar_3b067_56 : decode cJ2_getChar_3b067 56 = .ok (.ishl, 1) := by decide +kernel
theorem dJ2_getChar_3b067_57 : decode cJ2_getChar_3b067 57 = .ok (.ior, 1) := by decide +kernel
theorem dJ2_getChar_3b067_58 : decode cJ2_getChar_3b067 58 = .ok (.i2c, 1) := by decide +kernel
theorem dJ2_getChar_3b067_59 : decode cJ2_getChar_3b067 59 = .ok (.ireturn, 1) := by decide +kernel
theorem dJ2_length_9d52b_0 : decode cJ2_length_9d52b 0 = .ok (.aload_n 0, 1) := by decide +kernel
theorem dJ2_length_9d52b_1 : decode cJ2_length_9d52b 1 = .ok (.arraylength, 1) := by decide +kernel
theorem dJ2_length_9d52b_2 : decode cJ2_length_9d52b 2 = .ok (.iconst 1, 1) := by decide +kernel
theorem dJ2_length_9d52b_3 : decode cJ2_length_9d52b 3 = .ok (.ishr, 1) := by decide +kernel
theorem dJ2_length_9d52b_4 : decode cJ2_length_9d52b 4 = .ok (.ireturn, 1) := by decide +kernel
theorem dJ2_charAt_3b067_0 : decode cJ2_charAt_3b067 0 = .ok (.iload_n 1, 1) := by decide +kernel
theorem dJ2_charAt_3b067_1 : decode cJ2_charAt_3b067 1 = .ok (.aload_n 0, 1) := by decide +kernel
theorem dJ2_charAt_3b067_2 : decode cJ2_charAt_3b067 2 = .ok (.invokestatic 67, 3) := by decide +kernel
theorem dJ2_charAt_3b067_5 : decode cJ2_charAt_3b067 5 = .ok (.aload_n 0, 1) := by decide +kernel
theorem dJ2_charAt_3b067_6 : decode cJ2_charAt_3b067 6 = .ok (.iload_n 1, 1) := by decide +kernel
theorem dJ2_charAt_3b067_7 : decode cJ2_charAt_3b067 7 = .ok (.invokestatic 71, 3) := by decide +kernel
theorem dJ2_charAt_3b067_10 : decode cJ2_charAt_3b067 10 = .ok (.ireturn, 1) := by decide +kernel
theorem dJ2_checkIndex_2214a_0 : decode cJ2_checkIndex_2214a 0 = .ok (.iload_n 0, 1) := by decide +kernel
theorem dJ2_checkIndex_2214a_1 : decode cJ2_checkIndex_2214a 1 = .ok (.aload_n 1, 1) := by decide +kernel
theorem dJ2_checkIndex_2214a_2 : decode cJ2_checkIndex_2214a 2 = .ok (.invokestatic 48, 3) := by decide +kernel
theorem dJ2_checkIndex_2214a_5 : decode cJ2_checkIndex_2214a 5 = .ok (.invokestatic 414, 3) := by decide +kernel
theorem dJ2_checkIndex_2214a_8 : decode cJ2_checkIndex_2214a 8 = .ok (.return_, 1) := by decide +kernel
theorem dJ7_fill_53178_0 : decode cJ7_fill_53178 0 = .ok (.iconst 0, 1) := by decide +kernel
theorem dJ7_fill_53178_1 : decode cJ7_fill_53178 1 = .ok (.istore_n 2, 1) := by decide +kernel
theorem dJ7_fill_53178_2 : decode cJ7_fill_53178 2 = .ok (.aload_n 0, 1) := by decide +kernel
theorem dJ7_fill_53178_3 : decode cJ7_fill_53178 3 = .ok (.arraylength, 1) := by decide +kernel
theorem dJ7_fill_53178_4 : decode cJ7_fill_53178 4 = .ok (.istore_n 3, 1) := by decide +kernel
theorem dJ7_fill_53178_5 : decode cJ7_fill_53178 5 = .ok (.iload_n 2, 1) := by decide +kernel
theorem dJ7_fill_53178_6 : decode cJ7_fill_53178 6 = .ok (.iload_n 3, 1) := by decide +kernel
theorem dJ7_fill_53178_7 : decode cJ7_fill_53178 7 = .ok (.if_icmp .ge 13, 3) := by decide +kernel
theorem dJ7_fill_53178_10 : decode cJ7_fill_53178 10 = .ok (.aload_n 0, 1) := by decide +kernel
theorem dJ7_fill_53178_11 : decode cJ7_fill_53178 11 = .ok (.iload_n 2, 1) := by decide +kernel
theorem dJ7_fill_53178_12 : decode cJ7_fill_53178 12 = .ok (.iload_n 1, 1) := by decide +kernel
theorem dJ7_fill_53178_13 : decode cJ7_fill_53178 13 = .ok (.iastore, 1) := by decide +kernel
theorem dJ7_fill_53178_14 : decode cJ7_fill_53178 14 = .ok (.iinc 2 1, 3) := by decide +kernel
theorem dJ7_fill_53178_17 : decode cJ7_fill_53178 17 = .ok (.goto (-12), 3) := by decide +kernel
theorem dJ7_fill_53178_20 : decode cJ7_fill_53178 20 = .ok (.return_, 1) := by decide +kernel
theorem dJ3_checkIndex_8e157_0 : decode cJ3_checkIndex_8e157 0 = .ok (.iload_n 0, 1) := by decide +kernel
theorem dJ3_checkIndex_8e157_1 : decode cJ3_checkIndex_8e157 1 = .ok (.ifCond .lt 8, 3) := by decide +kernel
theorem dJ3_checkIndex_8e157_4 : decode cJ3_checkIndex_8e157 4 = .ok (.iload_n 0, 1) := by decide +kernel
theorem dJ3_checkIndex_8e157_5 : decode cJ3_checkIndex_8e157 5 = .ok (.iload_n 1, 1) := by decide +kernel
theorem dJ3_checkIndex_8e157_6 : decode cJ3_checkIndex_8e157 6 = .ok (.if_icmp .lt 10, 3) := by decide +kernel
theorem dJ3_checkIndex_8e157_9 : decode cJ3_checkIndex_8e157 9 = .ok (.aload_n 2, 1) := by decide +kernel
theorem dJ3_checkIndex_8e157_10 : decode cJ3_checkIndex_8e157 10 = .ok (.iload_n 0, 1) := by decide +kernel
theorem dJ3_checkIndex_8e157_11 : decode cJ3_checkIndex_8e157 11 = .ok (.iload_n 1, 1) := by decide +kernel
theorem dJ3_checkIndex_8e157_12 : decode cJ3_checkIndex_8e157 12 = .ok (.invokestatic 95, 3) := by decide +kernel
theorem dJ3_checkIndex_8e157_15 : decode cJ3_checkIndex_8e157 15 = .ok (.athrow, 1) := by decide +kernel
theorem dJ3_checkIndex_8e157_16 : decode cJ3_checkIndex_8e157 16 = .ok (.iload_n 0, 1) := by decide +kernel
theorem dJ3_checkIndex_8e157_17 : decode cJ3_checkIndex_8e157 17 = .ok (.ireturn, 1) := by decide +kernel
