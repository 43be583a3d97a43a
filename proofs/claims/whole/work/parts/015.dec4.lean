theorem dX11_drawn_80 : decode cX11_drawn 80 = .ok (.aload_n 0, 1) := by decide +kernel
theorem dX11_drawn_81 : decode cX11_drawn 81 = .ok (.getfield 38, 3) := by decide +kernel
theorem dX11_drawn_84 : decode cX11_drawn 84 = .ok (.iload 4, 2) := by decide +kernel
theorem dX11_drawn_86 : decode cX11_drawn 86 = .ok (.baload, 1) := by decide +kernel
theorem dX11_drawn_87 : decode cX11_drawn 87 = .ok (.ifCond .eq 7, 3) := by decide +kernel
theorem dX11_drawn_90 : decode cX11_drawn 90 = .ok (.iconst 1, 1) := by decide +kernel
theorem dX11_drawn_91 : decode cX11_drawn 91 = .ok (.goto 4, 3) := by decide +kernel
theorem dX11_drawn_94 : decode cX11_drawn 94 = .ok (.iconst 0, 1) := by decide +kernel
theorem dX11_drawn_95 : decode cX11_drawn 95 = .ok (.isub, 1) := by decide +kernel
theorem dX11_drawn_96 : decode cX11_drawn 96 = .ok (.istore_n 3, 1) := by decide +kernel
theorem dX11_drawn_97 : decode cX11_drawn 97 = .ok (.iinc 4 1, 3) := by decide +kernel
theorem dX11_drawn_100 : decode cX11_drawn 100 = .ok (.goto (-35), 3) := by decide +kernel
theorem dX11_drawn_103 : decode cX11_drawn 103 = .ok (.iload 4, 2) := by decide +kernel
theorem dX11_drawn_105 : decode cX11_drawn 105 = .ok (.ireturn, 1) := by decide +kernel
theorem dX11_runs_0 : decode cX11_runs 0 = .ok (.aload_n 0, 1) := by decide +kernel
theorem dX11_runs_1 : decode cX11_runs 1 = .ok (.iload_n 1, 1) := by decide +kernel
theorem dX11_runs_2 : decode cX11_runs 2 = .ok (.invokevirtual 227, 3) := by decide +kernel
theorem dX11_runs_5 : decode cX11_runs 5 = .ok (.ifCond .eq 23, 3) := by decide +kernel
theorem dX11_runs_8 : decode cX11_runs 8 = .ok (.aload_n 0, 1) := by decide +kernel
theorem dX11_runs_9 : decode cX11_runs 9 = .ok (.getfield 190, 3) := by decide +kernel
theorem dX11_runs_12 : decode cX11_runs 12 = .ok (.ifCond .le 16, 3) := by decide +kernel
theorem dX11_runs_15 : decode cX11_runs 15 = .ok (.aload_n 0, 1) := by decide +kernel
theorem dX11_runs_16 : decode cX11_runs 16 = .ok (.getfield 38, 3) := by decide +kernel
theorem dX11_runs_19 : decode cX11_runs 19 = .ok (.iload_n 1, 1) := by decide +kernel
theorem dX11_runs_20 : decode cX11_runs 20 = .ok (.baload, 1) := by decide +kernel
theorem dX11_runs_21 : decode cX11_runs 21 = .ok (.ifCond .eq 7, 3) := by decide +kernel
theorem dX11_runs_24 : decode cX11_runs 24 = .ok (.iconst 1, 1) := by decide +kernel
theorem dX11_runs_25 : decode cX11_runs 25 = .ok (.goto 4, 3) := by decide +kernel
theorem dX11_runs_28 : decode cX11_runs 28 = .ok (.iconst 0, 1) := by decide +kernel
theorem dX11_runs_29 : decode cX11_runs 29 = .ok (.ireturn, 1) := by decide +kernel
theorem dX11_look_0 : decode cX11_look 0 = .ok (.aload_n 0, 1) := by decide +kernel
theorem dX11_look_1 : decode cX11_look 1 = .ok (.iconst 0, 1) := by decide +kernel
theorem dX11_look_2 : decode cX11_look 2 = .ok (.putfield 102, 3) := by decide +kernel
theorem dX11_look_5 : decode cX11_look 5 = .ok (.aload_n 0, 1) := by decide +kernel
theorem dX11_look_6 : decode cX11_look 6 = .ok (.iload_n 1, 1) := by decide +kernel
theorem dX11_look_7 : decode cX11_look 7 = .ok (.invokevirtual 227, 3) := by decide +kernel
theorem dX11_look_10 : decode cX11_look 10 = .ok (.ifCond .ne 5, 3) := by decide +kernel
theorem dX11_look_13 : decode cX11_look 13 = .ok (.iconst (-1), 1) := by decide +kernel
theorem dX11_look_14 : decode cX11_look 14 = .ok (.ireturn, 1) := by decide +kernel
theorem dX11_look_15 : decode cX11_look 15 = .ok (.iload_n 2, 1) := by decide +kernel
theorem dX11_look_16 : decode cX11_look 16 = .ok (.tableswitch 92 0 4 #[36, 64, 71, 78, 85], 36) := by decide +kernel
theorem dX11_look_52 : decode cX11_look 52 = .ok (.aload_n 0, 1) := by decide +kernel
theorem dX11_look_53 : decode cX11_look 53 = .ok (.getfield 190, 3) := by decide +kernel
theorem dX11_look_56 : decode cX11_look 56 = .ok (.iconst 3, 1) := by decide +kernel
theorem dX11_look_57 : decode cX11_look 57 = .ok (.if_icmp .lt 21, 3) := by decide +kernel
theorem dX11_look_60 : decode cX11_look 60 = .ok (.aload_n 0, 1) := by decide +kernel
theorem dX11_look_61 : decode cX11_look 61 = .ok (.getfield 38, 3) := by decide +kernel
theorem dX11_look_64 : decode cX11_look 64 = .ok (.iload_n 1, 1) := by decide +kernel
theorem dX11_look_65 : decode cX11_look 65 = .ok (.baload, 1) := by decide +kernel
theorem dX11_look_66 : decode cX11_look 66 = .ok (.ifCond .eq 12, 3) := by decide +kernel
theorem dX11_look_69 : decode cX11_look 69 = .ok (.aload_n 0, 1) := by decide +kernel
theorem dX11_look_70 : decode cX11_look 70 = .ok (.getfield 35, 3) := by decide +kernel
theorem dX11_look_73 : decode cX11_look 73 = .ok (.iload_n 1, 1) := by decide +kernel
theorem dX11_look_74 : decode cX11_look 74 = .ok (.iaload, 1) := by decide +kernel
theorem dX11_look_75 : decode cX11_look 75 = .ok (.goto 4, 3) := by decide +kernel
theorem dX11_look_78 : decode cX11_look 78 = .ok (.iconst (-1), 1) := by decide +kernel
theorem dX11_look_79 : decode cX11_look 79 = .ok (.ireturn, 1) := by decide +kernel
theorem dX11_look_80 : decode cX11_look 80 = .ok (.aload_n 0, 1) := by decide +kernel
theorem dX11_look_81 : decode cX11_look 81 = .ok (.getfield 23, 3) := by decide +kernel
theorem dX11_look_84 : decode cX11_look 84 = .ok (.iload_n 1, 1) := by decide +kernel
theorem dX11_look_85 : decode cX11_look 85 = .ok (.iaload, 1) := by decide +kernel
theorem dX11_look_86 : decode cX11_look 86 = .ok (.ireturn, 1) := by decide +kernel
theorem dX11_look_87 : decode cX11_look 87 = .ok (.aload_n 0, 1) := by decide +kernel
theorem dX11_look_88 : decode cX11_look 88 = .ok (.getfield 26, 3) := by decide +kernel
theorem dX11_look_91 : decode cX11_look 91 = .ok (.iload_n 1, 1) := by decide +kernel
theorem dX11_look_92 : decode cX11_look 92 = .ok (.iaload, 1) := by decide +kernel
theorem dX11_look_93 : decode cX11_look 93 = .ok (.ireturn, 1) := by decide +kernel
theorem dX11_look_94 : decode cX11_look 94 = .ok (.aload_n 0, 1) := by decide +kernel
theorem dX11_look_95 : decode cX11_look 95 = .ok (.getfield 29, 3) := by decide +kernel
theorem dX11_look_98 : decode cX11_look 98 = .ok (.iload_n 1, 1) := by decide +kernel
theorem dX11_look_99 : decode cX11_look 99 = .ok (.iaload, 1) := by decide +kernel
theorem dX11_look_100 : decode cX11_look 100 = .ok (.ireturn, 1) := by decide +kernel
theorem dX11_look_101 : decode cX11_look 101 = .ok (.aload_n 0, 1) := by decide +kernel
theorem dX11_look_102 : decode cX11_look 102 = .ok (.getfield 32, 3) := by decide +kernel
theorem dX11_look_105 : decode cX11_look 105 = .ok (.iload_n 1, 1) := by decide +kernel
theorem dX11_look_106 : decode cX11_look 106 = .ok (.iaload, 1) := by decide +kernel
theorem dX11_look_107 : decode cX11_look 107 = .ok (.ireturn, 1) := by decide +kernel
theorem dX11_look_108 : decode cX11_look 108 = .ok (.iconst (-1), 1) := by decide +kernel
theorem dX11_look_109 : decode cX11_look 109 = .ok (.ireturn, 1) := by decide +kernel
theorem dX11_ring_0 : decode cX11_ring 0 = .ok (.aload_n 0, 1) := by decide +kernel
theorem dX11_ring_1 : decode cX11_ring 1 = .ok (.iconst 0, 1) := by decide +kernel
theorem dX11_ring_2 : decode cX11_ring 2 = .ok (.putfield 102, 3) := by decide +kernel
theorem dX11_ring_5 : decode cX11_ring 5 = .ok (.iload_n 1, 1) := by decide +kernel
theorem dX11_ring_6 : decode cX11_ring 6 = .ok (.bipush 12, 2) := by decide +kernel
theorem dX11_ring_8 : decode cX11_ring 8 = .ok (.if_icmp .lt 17, 3) := by decide +kernel
theorem dX11_ring_11 : decode cX11_ring 11 = .ok (.iload_n 1, 1) := by decide +kernel
theorem dX11_ring_12 : decode cX11_ring 12 = .ok (.bipush 60, 2) := by decide +kernel
theorem dX11_ring_14 : decode cX11_ring 14 = .ok (.if_icmp .gt 11, 3) := by decide +kernel
theorem dX11_ring_17 : decode cX11_ring 17 = .ok (.aload_n 0, 1) := by decide +kernel
theorem dX11_ring_18 : decode cX11_ring 18 = .ok (.getfield 190, 3) := by decide +kernel
theorem dX11_ring_21 : decode cX11_ring 21 = .ok (.iconst 4, 1) := by decide +kernel
theorem dX11_ring_22 : decode cX11_ring 22 = .ok (.if_icmp .ne 5, 3) := by decide +kernel
theorem dX11_ring_25 : decode cX11_ring 25 = .ok (.iconst 0, 1) := by decide +kernel
theorem dX11_ring_26 : decode cX11_ring 26 = .ok (.ireturn, 1) := by decide +kernel
theorem dX11_ring_27 : decode cX11_ring 27 = .ok (.aload_n 0, 1) := by decide +kernel
theorem dX11_ring_28 : decode cX11_ring 28 = .ok (.iload_n 1, 1) := by decide +kernel
theorem dX11_ring_29 : decode cX11_ring 29 = .ok (.putfield 63, 3) := by decide +kernel
theorem dX11_ring_32 : decode cX11_ring 32 = .ok (.iconst 0, 1) := by decide +kernel
theorem dX11_ring_33 : decode cX11_ring 33 = .ok (.istore_n 2, 1) := by decide +kernel
theorem dX11_ring_34 : decode cX11_ring 34 = .ok (.iload_n 2, 1) := by decide +kernel
theorem dX11_ring_35 : decode cX11_ring 35 = .ok (.bipush 60, 2) := by decide +kernel
theorem dX11_ring_37 : decode cX11_ring 37 = .ok (.if_icmp .ge 16, 3) := by decide +kernel
theorem dX11_ring_40 : decode cX11_ring 40 = .ok (.aload_n 0, 1) := by decide +kernel
theorem dX11_ring_41 : decode cX11_ring 41 = .ok (.getfield 66, 3) := by decide +kernel
theorem dX11_ring_44 : decode cX11_ring 44 = .ok (.iload_n 2, 1) := by decide +kernel
theorem dX11_ring_45 : decode cX11_ring 45 = .ok (.iconst 0, 1) := by decide +kernel
theorem dX11_ring_46 : decode cX11_ring 46 = .ok (.bastore, 1) := by decide +kernel
theorem dX11_ring_47 : decode cX11_ring 47 = .ok (.iinc 2 1, 3) := by decide +kernel
theorem dX11_ring_50 : decode cX11_ring 50 = .ok (.goto (-16), 3) := by decide +kernel
theorem dX11_ring_53 : decode cX11_ring 53 = .ok (.iconst 1, 1) := by decide +kernel
theorem dX11_ring_54 : decode cX11_ring 54 = .ok (.ireturn, 1) := by decide +kernel
theorem dX11_bend_0 : decode cX11_bend 0 = .ok (.aload_n 0, 1) := by decide +kernel
theorem dX11_bend_1 : decode cX11_bend 1 = .ok (.iconst 0, 1) := by decide +kernel
theorem dX11_bend_2 : decode cX11_bend 2 = .ok (.putfield 102, 3) := by decide +kernel
theorem dX11_bend_5 : decode cX11_bend 5 = .ok (.iload_n 1, 1) := by decide +kernel
theorem dX11_bend_6 : decode cX11_bend 6 = .ok (.ifCond .lt 19, 3) := by decide +kernel
theorem dX11_bend_9 : decode cX11_bend 9 = .ok (.iload_n 1, 1) := by decide +kernel
theorem dX11_bend_10 : decode cX11_bend 10 = .ok (.aload_n 0, 1) := by decide +kernel
theorem dX11_bend_11 : decode cX11_bend 11 = .ok (.getfield 63, 3) := by decide +kernel
theorem dX11_bend_14 : decode cX11_bend 14 = .ok (.if_icmp .ge 11, 3) := by decide +kernel
theorem dX11_bend_17 : decode cX11_bend 17 = .ok (.aload_n 0, 1) := by decide +kernel
theorem dX11_bend_18 : decode cX11_bend 18 = .ok (.getfield 190, 3) := by decide +kernel
theorem dX11_bend_21 : decode cX11_bend 21 = .ok (.iconst 4, 1) := by decide +kernel
theorem dX11_bend_22 : decode cX11_bend 22 = .ok (.if_icmp .ne 5, 3) := by decide +kernel
theorem dX11_bend_25 : decode cX11_bend 25 = .ok (.iconst 0, 1) := by decide +kernel
theorem dX11_bend_26 : decode cX11_bend 26 = .ok (.ireturn, 1) := by decide +kernel
theorem dX11_bend_27 : decode cX11_bend 27 = .ok (.aload_n 0, 1) := by decide +kernel
theorem dX11_bend_28 : decode cX11_bend 28 = .ok (.getfield 66, 3) := by decide +kernel
theorem dX11_bend_31 : decode cX11_bend 31 = .ok (.iload_n 1, 1) := by decide +kernel
theorem dX11_bend_32 : decode cX11_bend 32 = .ok (.iload_n 2, 1) := by decide +kernel
theorem dX11_bend_33 : decode cX11_bend 33 = .ok (.bastore, 1) := by decide +kernel
theorem dX11_bend_34 : decode cX11_bend 34 = .ok (.iconst 1, 1) := by decide +kernel
theorem dX11_bend_35 : decode cX11_bend 35 = .ok (.ireturn, 1) := by decide +kernel
theorem dX11_orders_0 : decode cX11_orders 0 = .ok (.aload_n 0, 1) := by decide +kernel
theorem dX11_orders_1 : decode cX11_orders 1 = .ok (.iconst 0, 1) := by decide +kernel
theorem dX11_orders_2 : decode cX11_orders 2 = .ok (.putfield 102, 3) := by decide +kernel
theorem dX11_orders_5 : decode cX11_orders 5 = .ok (.aload_n 0, 1) := by decide +kernel
theorem dX11_orders_6 : decode cX11_orders 6 = .ok (.iload_n 1, 1) := by decide +kernel
theorem dX11_orders_7 : decode cX11_orders 7 = .ok (.invokevirtual 227, 3) := by decide +kernel
theorem dX11_orders_10 : decode cX11_orders 10 = .ok (.ifCond .eq 29, 3) := by decide +kernel
theorem dX11_orders_13 : decode cX11_orders 13 = .ok (.iload_n 2, 1) := by decide +kernel
theorem dX11_orders_14 : decode cX11_orders 14 = .ok (.ifCond .lt 25, 3) := by decide +kernel
theorem dX11_orders_17 : decode cX11_orders 17 = .ok (.iload_n 2, 1) := by decide +kernel
theorem dX11_orders_18 : decode cX11_orders 18 = .ok (.iconst 2, 1) := by decide +kernel
theorem dX11_orders_19 : decode cX11_orders 19 = .ok (.if_icmp .gt 20, 3) := by decide +kernel
theorem dX11_orders_22 : decode cX11_orders 22 = .ok (.iload_n 2, 1) := by decide +kernel
theorem dX11_orders_23 : decode cX11_orders 23 = .ok (.ifCond .le 18, 3) := by decide +kernel
theorem dX11_orders_26 : decode cX11_orders 26 = .ok (.aload_n 0, 1) := by decide +kernel
theorem dX11_orders_27 : decode cX11_orders 27 = .ok (.iload_n 3, 1) := by decide +kernel
theorem dX11_orders_28 : decode cX11_orders 28 = .ok (.invokevirtual 227, 3) := by decide +kernel
theorem dX11_orders_31 : decode cX11_orders 31 = .ok (.ifCond .eq 8, 3) := by decide +kernel
theorem dX11_orders_34 : decode cX11_orders 34 = .ok (.iload_n 3, 1) := by decide +kernel
theorem dX11_orders_35 : decode cX11_orders 35 = .ok (.iload_n 1, 1) := by decide +kernel
theorem dX11_orders_36 : decode cX11_orders 36 = .ok (.if_icmp .ne 5, 3) := by decide +kernel
theorem dX11_orders_39 : decode cX11_orders 39 = .ok (.iconst 0, 1) := by decide +kernel
theorem dX11_orders_40 : decode cX11_orders 40 = .ok (.ireturn, 1) := by decide +kernel
theorem dX11_orders_41 : decode cX11_orders 41 = .ok (.aload_n 0, 1) := by decide +kernel
theorem dX11_orders_42 : decode cX11_orders 42 = .ok (.getfield 42, 3) := by decide +kernel
theorem dX11_orders_45 : decode cX11_orders 45 = .ok (.iload_n 1, 1) := by decide +kernel
theorem dX11_orders_46 : decode cX11_orders 46 = .ok (.iload_n 2, 1) := by decide +kernel
theorem dX11_orders_47 : decode cX11_orders 47 = .ok (.iastore, 1) := by decide +kernel
theorem dX11_orders_48 : decode cX11_orders 48 = .ok (.aload_n 0, 1) := by decide +kernel
theorem dX11_orders_49 : decode cX11_orders 49 = .ok (.getfield 45, 3) := by decide +kernel
theorem dX11_orders_52 : decode cX11_orders 52 = .ok (.iload_n 1, 1) := by decide +kernel
theorem dX11_orders_53 : decode cX11_orders 53 = .ok (.iload_n 3, 1) := by decide +kernel
theorem dX11_orders_54 : decode cX11_orders 54 = .ok (.iastore, 1) := by decide +kernel
theorem dX11_orders_55 : decode cX11_orders 55 = .ok (.iconst 1, 1) := by decide +kernel
theorem dX11_orders_56 : decode cX11_orders 56 = .ok (.ireturn, 1) := by decide +kernel
theorem dX11_seen_0 : decode cX11_seen 0 = .ok (.aload_n 0, 1) := by decide +kernel
theorem dX11_seen_1 : decode cX11_seen 1 = .ok (.iconst 0, 1) := by decide +kernel
theorem dX11_seen_2 : decode cX11_seen 2 = .ok (.putfield 102, 3) := by decide +kernel
theorem dX11_seen_5 : decode cX11_seen 5 = .ok (.aload_n 0, 1) := by decide +kernel
theorem dX11_seen_6 : decode cX11_seen 6 = .ok (.getfield 190, 3) := by decide +kernel
theorem dX11_seen_9 : decode cX11_seen 9 = .ok (.iconst 3, 1) := by decide +kernel
theorem dX11_seen_10 : decode cX11_seen 10 = .ok (.if_icmp .ne 23, 3) := by decide +kernel
theorem dX11_seen_13 : decode cX11_seen 13 = .ok (.iload_n 1, 1) := by decide +kernel
theorem dX11_seen_14 : decode cX11_seen 14 = .ok (.ifCond .lt 19, 3) := by decide +kernel
theorem dX11_seen_17 : decode cX11_seen 17 = .ok (.iload_n 1, 1) := by decide +kernel
theorem dX11_seen_18 : decode cX11_seen 18 = .ok (.aload_n 0, 1) := by decide +kernel
theorem dX11_seen_19 : decode cX11_seen 19 = .ok (.getfield 201, 3) := by decide +kernel
theorem dX11_seen_22 : decode cX11_seen 22 = .ok (.if_icmp .ge 11, 3) := by decide +kernel
theorem dX11_seen_25 : decode cX11_seen 25 = .ok (.aload_n 0, 1) := by decide +kernel
theorem dX11_seen_26 : decode cX11_seen 26 = .ok (.iload_n 2, 1) := by decide +kernel
theorem dX11_seen_27 : decode cX11_seen 27 = .ok (.invokevirtual 230, 3) := by decide +kernel
theorem dX11_seen_30 : decode cX11_seen 30 = .ok (.ifCond .ne 5, 3) := by decide +kernel
theorem dX11_seen_33 : decode cX11_seen 33 = .ok (.iconst 0, 1) := by decide +kernel
theorem dX11_seen_34 : decode cX11_seen 34 = .ok (.ireturn, 1) := by decide +kernel
theorem dX11_seen_35 : decode cX11_seen 35 = .ok (.aload_n 0, 1) := by decide +kernel
theorem dX11_seen_36 : decode cX11_seen 36 = .ok (.getfield 60, 3) := by decide +kernel
theorem dX11_seen_39 : decode cX11_seen 39 = .ok (.iload_n 1, 1) := by decide +kernel
theorem dX11_seen_40 : decode cX11_seen 40 = .ok (.iload_n 2, 1) := by decide +kernel
theorem dX11_seen_41 : decode cX11_seen 41 = .ok (.iastore, 1) := by decide +kernel
theorem dX11_seen_42 : decode cX11_seen 42 = .ok (.iconst 1, 1) := by decide +kernel
theorem dX11_seen_43 : decode cX11_seen 43 = .ok (.ireturn, 1) := by decide +kernel
theorem dX11_drop_0 : decode cX11_drop 0 = .ok (.aload_n 0, 1) := by decide +kernel
theorem dX11_drop_1 : decode cX11_drop 1 = .ok (.iconst 0, 1) := by decide +kernel
theorem dX11_drop_2 : decode cX11_drop 2 = .ok (.putfield 102, 3) := by decide +kernel
theorem dX11_drop_5 : decode cX11_drop 5 = .ok (.aload_n 0, 1) := by decide +kernel
theorem dX11_drop_6 : decode cX11_drop 6 = .ok (.getfield 190, 3) := by decide +kernel
theorem dX11_drop_9 : decode cX11_drop 9 = .ok (.iconst 3, 1) := by decide +kernel
theorem dX11_drop_10 : decode cX11_drop 10 = .ok (.if_icmp .eq 6, 3) := by decide +kernel
theorem dX11_drop_13 : decode cX11_drop 13 = .ok (.bipush (-100), 2) := by decide +kernel
theorem dX11_drop_15 : decode cX11_drop 15 = .ok (.ireturn, 1) := by decide +kernel
theorem dX11_drop_16 : decode cX11_drop 16 = .ok (.iconst 0, 1) := by decide +kernel
theorem dX11_drop_17 : decode cX11_drop 17 = .ok (.istore_n 2, 1) := by decide +kernel
theorem dX11_drop_18 : decode cX11_drop 18 = .ok (.iconst 0, 1) := by decide +kernel
theorem dX11_drop_19 : decode cX11_drop 19 = .ok (.istore_n 3, 1) := by decide +kernel
theorem dX11_drop_20 : decode cX11_drop 20 = .ok (.iload_n 3, 1) := by decide +kernel
theorem dX11_drop_21 : decode cX11_drop 21 = .ok (.aload_n 0, 1) := by decide +kernel
theorem dX11_drop_22 : decode cX11_drop 22 = .ok (.getfield 201, 3) := by decide +kernel
theorem dX11_drop_25 : decode cX11_drop 25 = .ok (.if_icmp .ge 32, 3) := by decide +kernel
theorem dX11_drop_28 : decode cX11_drop 28 = .ok (.iload_n 2, 1) := by decide +kernel
theorem dX11_drop_29 : decode cX11_drop 29 = .ok (.aload_n 0, 1) := by decide +kernel
theorem dX11_drop_30 : decode cX11_drop 30 = .ok (.getfield 60, 3) := by decide +kernel
theorem dX11_drop_33 : decode cX11_drop 33 = .ok (.iload_n 3, 1) := by decide +kernel
theorem dX11_drop_34 : decode cX11_drop 34 = .ok (.iaload, 1) := by decide +kernel
theorem dX11_drop_35 : decode cX11_drop 35 = .ok (.aload_n 0, 1) := by decide +kernel
theorem dX11_drop_36 : decode cX11_drop 36 = .ok (.getfield 57, 3) := by decide +kernel
theorem dX11_drop_39 : decode cX11_drop 39 = .ok (.iload_n 3, 1) := by decide +kernel
theorem dX11_drop_40 : decode cX11_drop 40 = .ok (.iaload, 1) := by decide +kernel
theorem dX11_drop_41 : decode cX11_drop 41 = .ok (.if_icmp .ne 7, 3) := by decide +kernel
theorem dX11_drop_44 : decode cX11_drop 44 = .ok (.iconst 0, 1) := by decide +kernel
theorem dX11_drop_45 : decode cX11_drop 45 = .ok (.goto 4, 3) := by decide +kernel
theorem dX11_drop_48 : decode cX11_drop 48 = .ok (.iconst 1, 1) := by decide +kernel
theorem dX11_drop_49 : decode cX11_drop 49 = .ok (.iadd, 1) := by decide +kernel
theorem dX11_drop_50 : decode cX11_drop 50 = .ok (.istore_n 2, 1) := by decide +kernel
theorem dX11_drop_51 : decode cX11_drop 51 = .ok (.iinc 3 1, 3) := by decide +kernel
theorem dX11_drop_54 : decode cX11_drop 54 = .ok (.goto (-34), 3) := by decide +kernel
theorem dX11_drop_57 : decode cX11_drop 57 = .ok (.iload_n 2, 1) := by decide +kernel
theorem dX11_drop_58 : decode cX11_drop 58 = .ok (.aload_n 0, 1) := by decide +kernel
theorem dX11_drop_59 : decode cX11_drop 59 = .ok (.iconst 5, 1) := by decide +kernel
theorem dX11_drop_60 : decode cX11_drop 60 = .ok (.aload_n 0, 1) := by decide +kernel
theorem dX11_drop_61 : decode cX11_drop 61 = .ok (.getfield 187, 3) := by decide +kernel
theorem dX11_drop_64 : decode cX11_drop 64 = .ok (.invokevirtual 173, 3) := by decide +kernel
theorem dX11_drop_67 : decode cX11_drop 67 = .ok (.if_icmp .le 11, 3) := by decide +kernel
theorem dX11_drop_70 : decode cX11_drop 70 = .ok (.aload_n 0, 1) := by decide +kernel
theorem dX11_drop_71 : decode cX11_drop 71 = .ok (.invokevirtual 233, 3) := by decide +kernel
theorem dX11_drop_74 : decode cX11_drop 74 = .ok (.iconst (-1), 1) := by decide +kernel
theorem dX11_drop_75 : decode cX11_drop 75 = .ok (.iload_n 2, 1) := by decide +kernel
theorem dX11_drop_76 : decode cX11_drop 76 = .ok (.isub, 1) := by decide +kernel
theorem dX11_drop_77 : decode cX11_drop 77 = .ok (.ireturn, 1) := by decide +kernel
theorem dX11_drop_78 : decode cX11_drop 78 = .ok (.aload_n 0, 1) := by decide +kernel
theorem dX11_drop_79 : decode cX11_drop 79 = .ok (.iload_n 1, 1) := by decide +kernel
theorem dX11_drop_80 : decode cX11_drop 80 = .ok (.putfield 184, 3) := by decide +kernel
theorem dX11_drop_83 : decode cX11_drop 83 = .ok (.aload_n 0, 1) := by decide +kernel
theorem dX11_drop_84 : decode cX11_drop 84 = .ok (.aload_n 0, 1) := by decide +kernel
theorem dX11_drop_85 : decode cX11_drop 85 = .ok (.iconst 1, 1) := by decide +kernel
theorem dX11_drop_86 : decode cX11_drop 86 = .ok (.aload_n 0, 1) := by decide +kernel
theorem dX11_drop_87 : decode cX11_drop 87 = .ok (.getfield 187, 3) := by decide +kernel
theorem dX11_drop_90 : decode cX11_drop 90 = .ok (.invokevirtual 173, 3) := by decide +kernel
theorem dX11_drop_93 : decode cX11_drop 93 = .ok (.putfield 236, 3) := by decide +kernel
theorem dX11_drop_96 : decode cX11_drop 96 = .ok (.aload_n 0, 1) := by decide +kernel
theorem dX11_drop_97 : decode cX11_drop 97 = .ok (.aload_n 0, 1) := by decide +kernel
theorem dX11_drop_98 : decode cX11_drop 98 = .ok (.iconst 2, 1) := by decide +kernel
theorem dX11_drop_99 : decode cX11_drop 99 = .ok (.aload_n 0, 1) := by decide +kernel
theorem dX11_drop_100 : decode cX11_drop 100 = .ok (.getfield 187, 3) := by decide +kernel
theorem dX11_drop_103 : decode cX11_drop 103 = .ok (.invokevirtual 173, 3) := by decide +kernel
theorem dX11_drop_106 : decode cX11_drop 106 = .ok (.putfield 239, 3) := by decide +kernel
theorem dX11_drop_109 : decode cX11_drop 109 = .ok (.aload_n 0, 1) := by decide +kernel
theorem dX11_drop_110 : decode cX11_drop 110 = .ok (.aload_n 0, 1) := by decide +kernel
theorem dX11_drop_111 : decode cX11_drop 111 = .ok (.iconst 3, 1) := by decide +kernel
theorem dX11_drop_112 : decode cX11_drop 112 = .ok (.aload_n 0, 1) := by decide +kernel
theorem dX11_drop_113 : decode cX11_drop 113 = .ok (.getfield 187, 3) := by decide +kernel
theorem dX11_drop_116 : decode cX11_drop 116 = .ok (.invokevirtual 173, 3) := by decide +kernel
theorem dX11_drop_119 : decode cX11_drop 119 = .ok (.iconst 1, 1) := by decide +kernel
theorem dX11_drop_120 : decode cX11_drop 120 = .ok (.if_icmp .ne 7, 3) := by decide +kernel
theorem dX11_drop_123 : decode cX11_drop 123 = .ok (.iconst 1, 1) := by decide +kernel
theorem dX11_drop_124 : decode cX11_drop 124 = .ok (.goto 4, 3) := by decide +kernel
theorem dX11_drop_127 : decode cX11_drop 127 = .ok (.iconst 0, 1) := by decide +kernel
theorem dX11_drop_128 : decode cX11_drop 128 = .ok (.putfield 242, 3) := by decide +kernel
theorem dX11_drop_131 : decode cX11_drop 131 = .ok (.aload_n 0, 1) := by decide +kernel
theorem dX11_drop_132 : decode cX11_drop 132 = .ok (.iconst 0, 1) := by decide +kernel
theorem dX11_drop_133 : decode cX11_drop 133 = .ok (.putfield 246, 3) := by decide +kernel
theorem dX11_drop_136 : decode cX11_drop 136 = .ok (.aload_n 0, 1) := by decide +kernel
theorem dX11_drop_137 : decode cX11_drop 137 = .ok (.iconst 0, 1) := by decide +kernel
theorem dX11_drop_138 : decode cX11_drop 138 = .ok (.putfield 249, 3) := by decide +kernel
theorem dX11_drop_141 : decode cX11_drop 141 = .ok (.aload_n 0, 1) := by decide +kernel
theorem dX11_drop_142 : decode cX11_drop 142 = .ok (.iconst (-1), 1) := by decide +kernel
theorem dX11_drop_143 : decode cX11_drop 143 = .ok (.putfield 87, 3) := by decide +kernel
theorem dX11_drop_146 : decode cX11_drop 146 = .ok (.iconst 0, 1) := by decide +kernel
theorem dX11_drop_147 : decode cX11_drop 147 = .ok (.istore_n 3, 1) := by decide +kernel
theorem dX11_drop_148 : decode cX11_drop 148 = .ok (.iload_n 3, 1) := by decide +kernel
theorem dX11_drop_149 : decode cX11_drop 149 = .ok (.aload_n 0, 1) := by decide +kernel
theorem dX11_drop_150 : decode cX11_drop 150 = .ok (.getfield 201, 3) := by decide +kernel
theorem dX11_drop_153 : decode cX11_drop 153 = .ok (.if_icmp .ge 81, 3) := by decide +kernel
theorem dX11_drop_156 : decode cX11_drop 156 = .ok (.aload_n 0, 1) := by decide +kernel
theorem dX11_drop_157 : decode cX11_drop 157 = .ok (.getfield 57, 3) := by decide +kernel
theorem dX11_drop_160 : decode cX11_drop 160 = .ok (.iload_n 3, 1) := by decide +kernel
theorem dX11_drop_161 : decode cX11_drop 161 = .ok (.iaload, 1) := by decide +kernel
theorem dX11_drop_162 : decode cX11_drop 162 = .ok (.istore 4, 2) := by decide +kernel
theorem dX11_drop_164 : decode cX11_drop 164 = .ok (.aload_n 0, 1) := by decide +kernel
theorem dX11_drop_165 : decode cX11_drop 165 = .ok (.getfield 69, 3) := by decide +kernel
theorem dX11_drop_168 : decode cX11_drop 168 = .ok (.iload 4, 2) := by decide +kernel
theorem dX11_drop_170 : decode cX11_drop 170 = .ok (.iload_n 3, 1) := by decide +kernel
theorem dX11_drop_171 : decode cX11_drop 171 = .ok (.iconst 4, 1) := by decide +kernel
theorem dX11_drop_172 : decode cX11_drop 172 = .ok (.idiv, 1) := by decide +kernel
theorem dX11_drop_173 : decode cX11_drop 173 = .ok (.ineg, 1) := by decide +kernel
theorem dX11_drop_174 : decode cX11_drop 174 = .ok (.iastore, 1) := by decide +kernel
theorem dX11_drop_175 : decode cX11_drop 175 = .ok (.aload_n 0, 1) := by decide +kernel
theorem dX11_drop_176 : decode cX11_drop 176 = .ok (.getfield 72, 3) := by decide +kernel
theorem dX11_drop_179 : decode cX11_drop 179 = .ok (.iload 4, 2) := by decide +kernel
theorem dX11_drop_181 : decode cX11_drop 181 = .ok (.iload_n 3, 1) := by decide +kernel
theorem dX11_drop_182 : decode cX11_drop 182 = .ok (.iconst 4, 1) := by decide +kernel
theorem dX11_drop_183 : decode cX11_drop 183 = .ok (.irem, 1) := by decide +kernel
theorem dX11_drop_184 : decode cX11_drop 184 = .ok (.iastore, 1) := by decide +kernel
theorem dX11_drop_185 : decode cX11_drop 185 = .ok (.aload_n 0, 1) := by decide +kernel
theorem dX11_drop_186 : decode cX11_drop 186 = .ok (.getfield 75, 3) := by decide +kernel
theorem dX11_drop_189 : decode cX11_drop 189 = .ok (.iload 4, 2) := by decide +kernel
theorem dX11_drop_191 : decode cX11_drop 191 = .ok (.iconst 0, 1) := by decide +kernel
theorem dX11_drop_192 : decode cX11_drop 192 = .ok (.iastore, 1) := by decide +kernel
theorem dX11_drop_193 : decode cX11_drop 193 = .ok (.aload_n 0, 1) := by decide +kernel
theorem dX11_drop_194 : decode cX11_drop 194 = .ok (.getfield 78, 3) := by decide +kernel
theorem dX11_drop_197 : decode cX11_drop 197 = .ok (.iload 4, 2) := by decide +kernel
theorem dX11_drop_199 : decode cX11_drop 199 = .ok (.iconst 0, 1) := by decide +kernel
theorem dX11_drop_200 : decode cX11_drop 200 = .ok (.bastore, 1) := by decide +kernel
theorem dX11_drop_201 : decode cX11_drop 201 = .ok (.aload_n 0, 1) := by decide +kernel
theorem dX11_drop_202 : decode cX11_drop 202 = .ok (.getfield 81, 3) := by decide +kernel
theorem dX11_drop_205 : decode cX11_drop 205 = .ok (.iload 4, 2) := by decide +kernel
theorem dX11_drop_207 : decode cX11_drop 207 = .ok (.iconst (-1), 1) := by decide +kernel
theorem dX11_drop_208 : decode cX11_drop 208 = .ok (.iastore, 1) := by decide +kernel
theorem dX11_drop_209 : decode cX11_drop 209 = .ok (.aload_n 0, 1) := by decide +kernel
theorem dX11_drop_210 : decode cX11_drop 210 = .ok (.getfield 84, 3) := by decide +kernel
theorem dX11_drop_213 : decode cX11_drop 213 = .ok (.iload 4, 2) := by decide +kernel
theorem dX11_drop_215 : decode cX11_drop 215 = .ok (.iconst 0, 1) := by decide +kernel
theorem dX11_drop_216 : decode cX11_drop 216 = .ok (.iastore, 1) := by decide +kernel
theorem dX11_drop_217 : decode cX11_drop 217 = .ok (.aload_n 0, 1) := by decide +kernel
theorem dX11_drop_218 : decode cX11_drop 218 = .ok (.getfield 23, 3) := by decide +kernel
theorem dX11_drop_221 : decode cX11_drop 221 = .ok (.iload 4, 2) := by decide +kernel
theorem dX11_drop_223 : decode cX11_drop 223 = .ok (.aload_n 0, 1) := by decide +kernel
theorem dX11_drop_224 : decode cX11_drop 224 = .ok (.getfield 187, 3) := by decide +kernel
theorem dX11_drop_227 : decode cX11_drop 227 = .ok (.iastore, 1) := by decide +kernel
theorem dX11_drop_228 : decode cX11_drop 228 = .ok (.iinc 3 1, 3) := by decide +kernel
theorem dX11_drop_231 : decode cX11_drop 231 = .ok (.goto (-83), 3) := by decide +kernel
theorem dX11_drop_234 : decode cX11_drop 234 = .ok (.aload_n 0, 1) := by decide +kernel
theorem dX11_drop_235 : decode cX11_drop 235 = .ok (.iconst 4, 1) := by decide +kernel
theorem dX11_drop_236 : decode cX11_drop 236 = .ok (.putfield 190, 3) := by decide +kernel
theorem dX11_drop_239 : decode cX11_drop 239 = .ok (.iload_n 2, 1) := by decide +kernel
theorem dX11_drop_240 : decode cX11_drop 240 = .ok (.ireturn, 1) := by decide +kernel
theorem dX11_isFalse_0 : decode cX11_isFalse 0 = .ok (.aload_n 0, 1) := by decide +kernel
theorem dX11_isFalse_1 : decode cX11_isFalse 1 = .ok (.bipush 6, 2) := by decide +kernel
theorem dX11_isFalse_3 : decode cX11_isFalse 3 = .ok (.aload_n 0, 1) := by decide +kernel
theorem dX11_isFalse_4 : decode cX11_isFalse 4 = .ok (.getfield 187, 3) := by decide +kernel
theorem dX11_isFalse_7 : decode cX11_isFalse 7 = .ok (.invokevirtual 173, 3) := by decide +kernel
theorem dX11_isFalse_10 : decode cX11_isFalse 10 = .ok (.istore_n 1, 1) := by decide +kernel
theorem dX11_isFalse_11 : decode cX11_isFalse 11 = .ok (.iconst 0, 1) := by decide +kernel
theorem dX11_isFalse_12 : decode cX11_isFalse 12 = .ok (.istore_n 2, 1) := by decide +kernel
theorem dX11_isFalse_13 : decode cX11_isFalse 13 = .ok (.iload_n 2, 1) := by decide +kernel
theorem dX11_isFalse_14 : decode cX11_isFalse 14 = .ok (.aload_n 0, 1) := by decide +kernel
theorem dX11_isFalse_15 : decode cX11_isFalse 15 = .ok (.getfield 201, 3) := by decide +kernel
theorem dX11_isFalse_18 : decode cX11_isFalse 18 = .ok (.if_icmp .ge 39, 3) := by decide +kernel
theorem dX11_isFalse_21 : decode cX11_isFalse 21 = .ok (.aload_n 0, 1) := by decide +kernel
theorem dX11_isFalse_22 : decode cX11_isFalse 22 = .ok (.getfield 60, 3) := by decide +kernel
theorem dX11_isFalse_25 : decode cX11_isFalse 25 = .ok (.iload_n 2, 1) := by decide +kernel
theorem dX11_isFalse_26 : decode cX11_isFalse 26 = .ok (.iaload, 1) := by decide +kernel
theorem dX11_isFalse_27 : decode cX11_isFalse 27 = .ok (.aload_n 0, 1) := by decide +kernel
theorem dX11_isFalse_28 : decode cX11_isFalse 28 = .ok (.getfield 57, 3) := by decide +kernel
theorem dX11_isFalse_31 : decode cX11_isFalse 31 = .ok (.iload_n 2, 1) := by decide +kernel
theorem dX11_isFalse_32 : decode cX11_isFalse 32 = .ok (.iaload, 1) := by decide +kernel
theorem dX11_isFalse_33 : decode cX11_isFalse 33 = .ok (.if_icmp .eq 18, 3) := by decide +kernel
theorem dX11_isFalse_36 : decode cX11_isFalse 36 = .ok (.aload_n 0, 1) := by decide +kernel
theorem dX11_isFalse_37 : decode cX11_isFalse 37 = .ok (.getfield 29, 3) := by decide +kernel
theorem dX11_isFalse_40 : decode cX11_isFalse 40 = .ok (.aload_n 0, 1) := by decide +kernel
theorem dX11_isFalse_41 : decode cX11_isFalse 41 = .ok (.getfield 57, 3) := by decide +kernel
theorem dX11_isFalse_44 : decode cX11_isFalse 44 = .ok (.iload_n 2, 1) := by decide +kernel
theorem dX11_isFalse_45 : decode cX11_isFalse 45 = .ok (.iaload, 1) := by decide +kernel
theorem dX11_isFalse_46 : decode cX11_isFalse 46 = .ok (.dup2, 1) := by decide +kernel
theorem dX11_isFalse_47 : decode cX11_isFalse 47 = .ok (.iaload, 1) := by decide +kernel
theorem dX11_isFalse_48 : decode cX11_isFalse 48 = .ok (.iconst 1, 1) := by decide +kernel
theorem dX11_isFalse_49 : decode cX11_isFalse 49 = .ok (.iadd, 1) := by decide +kernel
theorem dX11_isFalse_50 : decode cX11_isFalse 50 = .ok (.iastore, 1) := by decide +kernel
theorem dX11_isFalse_51 : decode cX11_isFalse 51 = .ok (.iinc 2 1, 3) := by decide +kernel
theorem dX11_isFalse_54 : decode cX11_isFalse 54 = .ok (.goto (-41), 3) := by decide +kernel
theorem dX11_isFalse_57 : decode cX11_isFalse 57 = .ok (.iconst 0, 1) := by decide +kernel
theorem dX11_isFalse_58 : decode cX11_isFalse 58 = .ok (.istore_n 2, 1) := by decide +kernel
theorem dX11_isFalse_59 : decode cX11_isFalse 59 = .ok (.iload_n 2, 1) := by decide +kernel
theorem dX11_isFalse_60 : decode cX11_isFalse 60 = .ok (.aload_n 0, 1) := by decide +kernel
theorem dX11_isFalse_61 : decode cX11_isFalse 61 = .ok (.getfield 177, 3) := by decide +kernel
theorem dX11_isFalse_64 : decode cX11_isFalse 64 = .ok (.if_icmp .ge 99, 3) := by decide +kernel
theorem dX11_isFalse_67 : decode cX11_isFalse 67 = .ok (.iload_n 1, 1) := by decide +kernel
theorem dX11_isFalse_68 : decode cX11_isFalse 68 = .ok (.ifCond .le 95, 3) := by decide +kernel
theorem dX11_isFalse_71 : decode cX11_isFalse 71 = .ok (.aload_n 0, 1) := by decide +kernel
theorem dX11_isFalse_72 : decode cX11_isFalse 72 = .ok (.getfield 38, 3) := by decide +kernel
theorem dX11_isFalse_75 : decode cX11_isFalse 75 = .ok (.iload_n 2, 1) := by decide +kernel
theorem dX11_isFalse_76 : decode cX11_isFalse 76 = .ok (.baload, 1) := by decide +kernel
theorem dX11_isFalse_77 : decode cX11_isFalse 77 = .ok (.ifCond .eq 80, 3) := by decide +kernel
theorem dX11_isFalse_80 : decode cX11_isFalse 80 = .ok (.aload_n 0, 1) := by decide +kernel
theorem dX11_isFalse_81 : decode cX11_isFalse 81 = .ok (.getfield 29, 3) := by decide +kernel
theorem dX11_isFalse_84 : decode cX11_isFalse 84 = .ok (.iload_n 2, 1) := by decide +kernel
theorem dX11_isFalse_85 : decode cX11_isFalse 85 = .ok (.iaload, 1) := by decide +kernel
theorem dX11_isFalse_86 : decode cX11_isFalse 86 = .ok (.iload_n 1, 1) := by decide +kernel
theorem dX11_isFalse_87 : decode cX11_isFalse 87 = .ok (.if_icmp .ge 6, 3) := by decide +kernel
theorem dX11_isFalse_90 : decode cX11_isFalse 90 = .ok (.goto 67, 3) := by decide +kernel
theorem dX11_isFalse_93 : decode cX11_isFalse 93 = .ok (.aload_n 0, 1) := by decide +kernel
theorem dX11_isFalse_94 : decode cX11_isFalse 94 = .ok (.getfield 29, 3) := by decide +kernel
theorem dX11_isFalse_97 : decode cX11_isFalse 97 = .ok (.iload_n 2, 1) := by decide +kernel
theorem dX11_isFalse_98 : decode cX11_isFalse 98 = .ok (.iconst 0, 1) := by decide +kernel
theorem dX11_isFalse_99 : decode cX11_isFalse 99 = .ok (.iastore, 1) := by decide +kernel
theorem dX11_isFalse_100 : decode cX11_isFalse 100 = .ok (.iconst 0, 1) := by decide +kernel
theorem dX11_isFalse_101 : decode cX11_isFalse 101 = .ok (.istore_n 3, 1) := by decide +kernel
theorem dX11_isFalse_102 : decode cX11_isFalse 102 = .ok (.iconst 0, 1) := by decide +kernel
theorem dX11_isFalse_103 : decode cX11_isFalse 103 = .ok (.istore 4, 2) := by decide +kernel
theorem dX11_isFalse_105 : decode cX11_isFalse 105 = .ok (.iload 4, 2) := by decide +kernel
theorem dX11_isFalse_107 : decode cX11_isFalse 107 = .ok (.aload_n 0, 1) := by decide +kernel
theorem dX11_isFalse_108 : decode cX11_isFalse 108 = .ok (.getfield 201, 3) := by decide +kernel
theorem dX11_isFalse_111 : decode cX11_isFalse 111 = .ok (.if_icmp .ge 39, 3) := by decide +kernel
theorem dX11_isFalse_114 : decode cX11_isFalse 114 = .ok (.aload_n 0, 1) := by decide +kernel
theorem dX11_isFalse_115 : decode cX11_isFalse 115 = .ok (.getfield 57, 3) := by decide +kernel
theorem dX11_isFalse_118 : decode cX11_isFalse 118 = .ok (.iload 4, 2) := by decide +kernel
theorem dX11_isFalse_120 : decode cX11_isFalse 120 = .ok (.iaload, 1) := by decide +kernel
theorem dX11_isFalse_121 : decode cX11_isFalse 121 = .ok (.iload_n 2, 1) := by decide +kernel
theorem dX11_isFalse_122 : decode cX11_isFalse 122 = .ok (.if_icmp .ne 6, 3) := by decide +kernel
theorem dX11_isFalse_125 : decode cX11_isFalse 125 = .ok (.goto 19, 3) := by decide +kernel
theorem dX11_isFalse_128 : decode cX11_isFalse 128 = .ok (.aload_n 0, 1) := by decide +kernel
theorem dX11_isFalse_129 : decode cX11_isFalse 129 = .ok (.getfield 57, 3) := by decide +kernel
theorem dX11_isFalse_132 : decode cX11_isFalse 132 = .ok (.iload_n 3, 1) := by decide +kernel
theorem dX11_isFalse_133 : decode cX11_isFalse 133 = .ok (.aload_n 0, 1) := by decide +kernel
theorem dX11_isFalse_134 : decode cX11_isFalse 134 = .ok (.getfield 57, 3) := by decide +kernel
theorem dX11_isFalse_137 : decode cX11_isFalse 137 = .ok (.iload 4, 2) := by decide +kernel
theorem dX11_isFalse_139 : decode cX11_isFalse 139 = .ok (.iaload, 1) := by decide +kernel
theorem dX11_isFalse_140 : decode cX11_isFalse 140 = .ok (.iastore, 1) := by decide +kernel
theorem dX11_isFalse_141 : decode cX11_isFalse 141 = .ok (.iinc 3 1, 3) := by decide +kernel
theorem dX11_isFalse_144 : decode cX11_isFalse 144 = .ok (.iinc 4 1, 3) := by decide +kernel
theorem dX11_isFalse_147 : decode cX11_isFalse 147 = .ok (.goto (-42), 3) := by decide +kernel
theorem dX11_isFalse_150 : decode cX11_isFalse 150 = .ok (.aload_n 0, 1) := by decide +kernel
theorem dX11_isFalse_151 : decode cX11_isFalse 151 = .ok (.getfield 57, 3) := by decide +kernel
theorem dX11_isFalse_154 : decode cX11_isFalse 154 = .ok (.iload_n 3, 1) := by decide +kernel
theorem dX11_isFalse_155 : decode cX11_isFalse 155 = .ok (.iload_n 2, 1) := by decide +kernel
theorem dX11_isFalse_156 : decode cX11_isFalse 156 = .ok (.iastore, 1) := by decide +kernel
theorem dX11_isFalse_157 : decode cX11_isFalse 157 = .ok (.iinc 2 1, 3) := by decide +kernel
theorem dX11_isFalse_160 : decode cX11_isFalse 160 = .ok (.goto (-101), 3) := by decide +kernel
theorem dX11_isFalse_163 : decode cX11_isFalse 163 = .ok (.iconst 0, 1) := by decide +kernel
theorem dX11_isFalse_164 : decode cX11_isFalse 164 = .ok (.istore_n 2, 1) := by decide +kernel
theorem dX11_isFalse_165 : decode cX11_isFalse 165 = .ok (.iload_n 2, 1) := by decide +kernel
theorem dX11_isFalse_166 : decode cX11_isFalse 166 = .ok (.aload_n 0, 1) := by decide +kernel
theorem dX11_isFalse_167 : decode cX11_isFalse 167 = .ok (.getfield 201, 3) := by decide +kernel
theorem dX11_isFalse_170 : decode cX11_isFalse 170 = .ok (.if_icmp .ge 21, 3) := by decide +kernel
theorem dX11_isFalse_173 : decode cX11_isFalse 173 = .ok (.aload_n 0, 1) := by decide +kernel
theorem dX11_isFalse_174 : decode cX11_isFalse 174 = .ok (.getfield 60, 3) := by decide +kernel
theorem dX11_isFalse_177 : decode cX11_isFalse 177 = .ok (.iload_n 2, 1) := by decide +kernel
theorem dX11_isFalse_178 : decode cX11_isFalse 178 = .ok (.aload_n 0, 1) := by decide +kernel
theorem dX11_isFalse_179 : decode cX11_isFalse 179 = .ok (.getfield 57, 3) := by decide +kernel
theorem dX11_isFalse_182 : decode cX11_isFalse 182 = .ok (.iload_n 2, 1) := by decide +kernel
theorem dX11_isFalse_183 : decode cX11_isFalse 183 = .ok (.iaload, 1) := by decide +kernel
theorem dX11_isFalse_184 : decode cX11_isFalse 184 = .ok (.iastore, 1) := by decide +kernel
theorem dX11_isFalse_185 : decode cX11_isFalse 185 = .ok (.iinc 2 1, 3) := by decide +kernel
theorem dX11_isFalse_188 : decode cX11_isFalse 188 = .ok (.goto (-23), 3) := by decide +kernel
theorem dX11_isFalse_191 : decode cX11_isFalse 191 = .ok (.return_, 1) := by decide +kernel
theorem dX11_isOn_0 : decode cX11_isOn 0 = .ok (.aload_n 0, 1) := by decide +kernel
theorem dX11_isOn_1 : decode cX11_isOn 1 = .ok (.getfield 38, 3) := by decide +kernel
theorem dX11_isOn_4 : decode cX11_isOn 4 = .ok (.iload_n 1, 1) := by decide +kernel
theorem dX11_isOn_5 : decode cX11_isOn 5 = .ok (.baload, 1) := by decide +kernel
theorem dX11_isOn_6 : decode cX11_isOn 6 = .ok (.ifCond .eq 17, 3) := by decide +kernel
theorem dX11_isOn_9 : decode cX11_isOn 9 = .ok (.aload_n 0, 1) := by decide +kernel
theorem dX11_isOn_10 : decode cX11_isOn 10 = .ok (.getfield 81, 3) := by decide +kernel
theorem dX11_isOn_13 : decode cX11_isOn 13 = .ok (.iload_n 1, 1) := by decide +kernel
theorem dX11_isOn_14 : decode cX11_isOn 14 = .ok (.iaload, 1) := by decide +kernel
theorem dX11_isOn_15 : decode cX11_isOn 15 = .ok (.iconst (-1), 1) := by decide +kernel
theorem dX11_isOn_16 : decode cX11_isOn 16 = .ok (.if_icmp .ne 7, 3) := by decide +kernel
theorem dX11_isOn_19 : decode cX11_isOn 19 = .ok (.iconst 1, 1) := by decide +kernel
theorem dX11_isOn_20 : decode cX11_isOn 20 = .ok (.goto 4, 3) := by decide +kernel
theorem dX11_isOn_23 : decode cX11_isOn 23 = .ok (.iconst 0, 1) := by decide +kernel
theorem dX11_isOn_24 : decode cX11_isOn 24 = .ok (.ireturn, 1) := by decide +kernel
theorem dX11_cellOf_0 : decode cX11_cellOf 0 = .ok (.iload_n 1, 1) := by decide +kernel
theorem dX11_cellOf_1 : decode cX11_cellOf 1 = .ok (.aload_n 0, 1) := by decide +kernel
theorem dX11_cellOf_2 : decode cX11_cellOf 2 = .ok (.getfield 63, 3) := by decide +kernel
theorem dX11_cellOf_5 : decode cX11_cellOf 5 = .ok (.iadd, 1) := by decide +kernel
theorem dX11_cellOf_6 : decode cX11_cellOf 6 = .ok (.aload_n 0, 1) := by decide +kernel
theorem dX11_cellOf_7 : decode cX11_cellOf 7 = .ok (.getfield 63, 3) := by decide +kernel
theorem dX11_cellOf_10 : decode cX11_cellOf 10 = .ok (.irem, 1) := by decide +kernel
theorem dX11_cellOf_11 : decode cX11_cellOf 11 = .ok (.ireturn, 1) := by decide +kernel
theorem dX11_isFree_0 : decode cX11_isFree 0 = .ok (.iconst 0, 1) := by decide +kernel
theorem dX11_isFree_1 : decode cX11_isFree 1 = .ok (.istore_n 3, 1) := by decide +kernel
theorem dX11_isFree_2 : decode cX11_isFree 2 = .ok (.iload_n 3, 1) := by decide +kernel
theorem dX11_isFree_3 : decode cX11_isFree 3 = .ok (.aload_n 0, 1) := by decide +kernel
theorem dX11_isFree_4 : decode cX11_isFree 4 = .ok (.getfield 177, 3) := by decide +kernel
theorem dX11_isFree_7 : decode cX11_isFree 7 = .ok (.if_icmp .ge 47, 3) := by decide +kernel
theorem dX11_isFree_10 : decode cX11_isFree 10 = .ok (.aload_n 0, 1) := by decide +kernel
theorem dX11_isFree_11 : decode cX11_isFree 11 = .ok (.iload_n 3, 1) := by decide +kernel
theorem dX11_isFree_12 : decode cX11_isFree 12 = .ok (.invokevirtual 252, 3) := by decide +kernel
theorem dX11_isFree_15 : decode cX11_isFree 15 = .ok (.ifCond .eq 33, 3) := by decide +kernel
theorem dX11_isFree_18 : decode cX11_isFree 18 = .ok (.aload_n 0, 1) := by decide +kernel
theorem dX11_isFree_19 : decode cX11_isFree 19 = .ok (.getfield 72, 3) := by decide +kernel
theorem dX11_isFree_22 : decode cX11_isFree 22 = .ok (.iload_n 3, 1) := by decide +kernel
theorem dX11_isFree_23 : decode cX11_isFree 23 = .ok (.iaload, 1) := by decide +kernel
theorem dX11_isFree_24 : decode cX11_isFree 24 = .ok (.iload_n 2, 1) := by decide +kernel
theorem dX11_isFree_25 : decode cX11_isFree 25 = .ok (.if_icmp .ne 23, 3) := by decide +kernel
theorem dX11_isFree_28 : decode cX11_isFree 28 = .ok (.aload_n 0, 1) := by decide +kernel
theorem dX11_isFree_29 : decode cX11_isFree 29 = .ok (.aload_n 0, 1) := by decide +kernel
theorem dX11_isFree_30 : decode cX11_isFree 30 = .ok (.getfield 69, 3) := by decide +kernel
theorem dX11_isFree_33 : decode cX11_isFree 33 = .ok (.iload_n 3, 1) := by decide +kernel
theorem dX11_isFree_34 : decode cX11_isFree 34 = .ok (.iaload, 1) := by decide +kernel
theorem dX11_isFree_35 : decode cX11_isFree 35 = .ok (.invokevirtual 255, 3) := by decide +kernel
theorem dX11_isFree_38 : decode cX11_isFree 38 = .ok (.aload_n 0, 1) := by decide +kernel
theorem dX11_isFree_39 : decode cX11_isFree 39 = .ok (.iload_n 1, 1) := by decide +kernel
theorem dX11_isFree_40 : decode cX11_isFree 40 = .ok (.invokevirtual 255, 3) := by decide +kernel
theorem dX11_isFree_43 : decode cX11_isFree 43 = .ok (.if_icmp .ne 5, 3) := by decide +kernel
theorem dX11_isFree_46 : decode cX11_isFree 46 = .ok (.iconst 0, 1) := by decide +kernel
theorem dX11_isFree_47 : decode cX11_isFree 47 = .ok (.ireturn, 1) := by decide +kernel
theorem dX11_isFree_48 : decode cX11_isFree 48 = .ok (.iinc 3 1, 3) := by decide +kernel
theorem dX11_isFree_51 : decode cX11_isFree 51 = .ok (.goto (-49), 3) := by decide +kernel
theorem dX11_isFree_54 : decode cX11_isFree 54 = .ok (.iconst 1, 1) := by decide +kernel
theorem dX11_isFree_55 : decode cX11_isFree 55 = .ok (.ireturn, 1) := by decide +kernel
theorem dX11_isLane_0 : decode cX11_isLane 0 = .ok (.iload_n 0, 1) := by decide +kernel
theorem dX11_isLane_1 : decode cX11_isLane 1 = .ok (.ifCond .lt 12, 3) := by decide +kernel
theorem dX11_isLane_4 : decode cX11_isLane 4 = .ok (.iload_n 0, 1) := by decide +kernel
theorem dX11_isLane_5 : decode cX11_isLane 5 = .ok (.iconst 3, 1) := by decide +kernel
theorem dX11_isLane_6 : decode cX11_isLane 6 = .ok (.if_icmp .gt 7, 3) := by decide +kernel
theorem dX11_isLane_9 : decode cX11_isLane 9 = .ok (.iconst 1, 1) := by decide +kernel
theorem dX11_isLane_10 : decode cX11_isLane 10 = .ok (.goto 4, 3) := by decide +kernel
theorem dX11_isLane_13 : decode cX11_isLane 13 = .ok (.iconst 0, 1) := by decide +kernel
theorem dX11_isLane_14 : decode cX11_isLane 14 = .ok (.ireturn, 1) := by decide +kernel
theorem dX11_go_0 : decode cX11_go 0 = .ok (.aload_n 0, 1) := by decide +kernel
theorem dX11_go_1 : decode cX11_go 1 = .ok (.iconst 0, 1) := by decide +kernel
theorem dX11_go_2 : decode cX11_go 2 = .ok (.putfield 102, 3) := by decide +kernel
theorem dX11_go_5 : decode cX11_go 5 = .ok (.iload_n 1, 1) := by decide +kernel
theorem dX11_go_6 : decode cX11_go 6 = .ok (.iconst 1, 1) := by decide +kernel
theorem dX11_go_7 : decode cX11_go 7 = .ok (.if_icmp .lt 18, 3) := by decide +kernel
theorem dX11_go_10 : decode cX11_go 10 = .ok (.iload_n 1, 1) := by decide +kernel
theorem dX11_go_11 : decode cX11_go 11 = .ok (.sipush 400, 3) := by decide +kernel
theorem dX11_go_14 : decode cX11_go 14 = .ok (.if_icmp .gt 11, 3) := by decide +kernel
theorem dX11_go_17 : decode cX11_go 17 = .ok (.aload_n 0, 1) := by decide +kernel
theorem dX11_go_18 : decode cX11_go 18 = .ok (.getfield 190, 3) := by decide +kernel
theorem dX11_go_21 : decode cX11_go 21 = .ok (.iconst 4, 1) := by decide +kernel
theorem dX11_go_22 : decode cX11_go 22 = .ok (.if_icmp .eq 5, 3) := by decide +kernel
theorem dX11_go_25 : decode cX11_go 25 = .ok (.iconst (-1), 1) := by decide +kernel
theorem dX11_go_26 : decode cX11_go 26 = .ok (.ireturn, 1) := by decide +kernel
theorem dX11_go_27 : decode cX11_go 27 = .ok (.iconst 0, 1) := by decide +kernel
theorem dX11_go_28 : decode cX11_go 28 = .ok (.istore_n 2, 1) := by decide +kernel
theorem dX11_go_29 : decode cX11_go 29 = .ok (.iload_n 2, 1) := by decide +kernel
theorem dX11_go_30 : decode cX11_go 30 = .ok (.iload_n 1, 1) := by decide +kernel
theorem dX11_go_31 : decode cX11_go 31 = .ok (.if_icmp .ge 21, 3) := by decide +kernel
theorem dX11_go_34 : decode cX11_go 34 = .ok (.aload_n 0, 1) := by decide +kernel
theorem dX11_go_35 : decode cX11_go 35 = .ok (.getfield 190, 3) := by decide +kernel
theorem dX11_go_38 : decode cX11_go 38 = .ok (.iconst 4, 1) := by decide +kernel
theorem dX11_go_39 : decode cX11_go 39 = .ok (.if_icmp .ne 13, 3) := by decide +kernel
theorem dX11_go_42 : decode cX11_go 42 = .ok (.aload_n 0, 1) := by decide +kernel
theorem dX11_go_43 : decode cX11_go 43 = .ok (.invokevirtual 258, 3) := by decide +kernel
theorem dX11_go_46 : decode cX11_go 46 = .ok (.iinc 2 1, 3) := by decide +kernel
theorem dX11_go_49 : decode cX11_go 49 = .ok (.goto (-20), 3) := by decide +kernel
theorem dX11_go_52 : decode cX11_go 52 = .ok (.iload_n 2, 1) := by decide +kernel
theorem dX11_go_53 : decode cX11_go 53 = .ok (.ireturn, 1) := by decide +kernel
theorem dX11_tick_0 : decode cX11_tick 0 = .ok (.iconst 0, 1) := by decide +kernel
theorem dX11_tick_1 : decode cX11_tick 1 = .ok (.istore_n 1, 1) := by decide +kernel
theorem dX11_tick_2 : decode cX11_tick 2 = .ok (.iconst 0, 1) := by decide +kernel
theorem dX11_tick_3 : decode cX11_tick 3 = .ok (.istore_n 2, 1) := by decide +kernel
theorem dX11_tick_4 : decode cX11_tick 4 = .ok (.iload_n 2, 1) := by decide +kernel
theorem dX11_tick_5 : decode cX11_tick 5 = .ok (.aload_n 0, 1) := by decide +kernel
theorem dX11_tick_6 : decode cX11_tick 6 = .ok (.getfield 177, 3) := by decide +kernel
theorem dX11_tick_9 : decode cX11_tick 9 = .ok (.if_icmp .ge 72, 3) := by decide +kernel
theorem dX11_tick_12 : decode cX11_tick 12 = .ok (.aload_n 0, 1) := by decide +kernel
theorem dX11_tick_13 : decode cX11_tick 13 = .ok (.iload_n 2, 1) := by decide +kernel
theorem dX11_tick_14 : decode cX11_tick 14 = .ok (.invokevirtual 252, 3) := by decide +kernel
theorem dX11_tick_17 : decode cX11_tick 17 = .ok (.ifCond .ne 6, 3) := by decide +kernel
theorem dX11_tick_20 : decode cX11_tick 20 = .ok (.goto 55, 3) := by decide +kernel
theorem dX11_tick_23 : decode cX11_tick 23 = .ok (.iload_n 1, 1) := by decide +kernel
theorem dX11_tick_24 : decode cX11_tick 24 = .ok (.istore_n 3, 1) := by decide +kernel
theorem dX11_tick_25 : decode cX11_tick 25 = .ok (.iload_n 3, 1) := by decide +kernel
theorem dX11_tick_26 : decode cX11_tick 26 = .ok (.ifCond .le 39, 3) := by decide +kernel
theorem dX11_tick_29 : decode cX11_tick 29 = .ok (.aload_n 0, 1) := by decide +kernel
theorem dX11_tick_30 : decode cX11_tick 30 = .ok (.aload_n 0, 1) := by decide +kernel
theorem dX11_tick_31 : decode cX11_tick 31 = .ok (.getfield 90, 3) := by decide +kernel
theorem dX11_tick_34 : decode cX11_tick 34 = .ok (.iload_n 3, 1) := by decide +kernel
theorem dX11_tick_35 : decode cX11_tick 35 = .ok (.iconst 1, 1) := by decide +kernel
theorem dX11_tick_36 : decode cX11_tick 36 = .ok (.isub, 1) := by decide +kernel
theorem dX11_tick_37 : decode cX11_tick 37 = .ok (.iaload, 1) := by decide +kernel
theorem dX11_tick_38 : decode cX11_tick 38 = .ok (.iload_n 2, 1) := by decide +kernel
theorem dX11_tick_39 : decode cX11_tick 39 = .ok (.invokevirtual 261, 3) := by decide +kernel
theorem dX11_tick_42 : decode cX11_tick 42 = .ok (.ifCond .eq 23, 3) := by decide +kernel
theorem dX11_tick_45 : decode cX11_tick 45 = .ok (.aload_n 0, 1) := by decide +kernel
theorem dX11_tick_46 : decode cX11_tick 46 = .ok (.getfield 90, 3) := by decide +kernel
theorem dX11_tick_49 : decode cX11_tick 49 = .ok (.iload_n 3, 1) := by decide +kernel
theorem dX11_tick_50 : decode cX11_tick 50 = .ok (.aload_n 0, 1) := by decide +kernel
theorem dX11_tick_51 : decode cX11_tick 51 = .ok (.getfield 90, 3) := by decide +kernel
theorem dX11_tick_54 : decode cX11_tick 54 = .ok (.iload_n 3, 1) := by decide +kernel
theorem dX11_tick_55 : decode cX11_tick 55 = .ok (.iconst 1, 1) := by decide +kernel
theorem dX11_tick_56 : decode cX11_tick 56 = .ok (.isub, 1) := by decide +kernel
theorem dX11_tick_57 : decode cX11_tick 57 = .ok (.iaload, 1) := by decide +kernel
theorem dX11_tick_58 : decode cX11_tick 58 = .ok (.iastore, 1) := by decide +kernel
theorem dX11_tick_59 : decode cX11_tick 59 = .ok (.iinc 3 (-1), 3) := by decide +kernel
theorem dX11_tick_62 : decode cX11_tick 62 = .ok (.goto (-37), 3) := by decide +kernel
theorem dX11_tick_65 : decode cX11_tick 65 = .ok (.aload_n 0, 1) := by decide +kernel
theorem dX11_tick_66 : decode cX11_tick 66 = .ok (.getfield 90, 3) := by decide +kernel
theorem dX11_tick_69 : decode cX11_tick 69 = .ok (.iload_n 3, 1) := by decide +kernel
theorem dX11_tick_70 : decode cX11_tick 70 = .ok (.iload_n 2, 1) := by decide +kernel
theorem dX11_tick_71 : decode cX11_tick 71 = .ok (.iastore, 1) := by decide +kernel
theorem dX11_tick_72 : decode cX11_tick 72 = .ok (.iinc 1 1, 3) := by decide +kernel
theorem dX11_tick_75 : decode cX11_tick 75 = .ok (.iinc 2 1, 3) := by decide +kernel
theorem dX11_tick_78 : decode cX11_tick 78 = .ok (.goto (-74), 3) := by decide +kernel
theorem dX11_tick_81 : decode cX11_tick 81 = .ok (.iconst 0, 1) := by decide +kernel
theorem dX11_tick_82 : decode cX11_tick 82 = .ok (.istore_n 2, 1) := by decide +kernel
theorem dX11_tick_83 : decode cX11_tick 83 = .ok (.iload_n 2, 1) := by decide +kernel
theorem dX11_tick_84 : decode cX11_tick 84 = .ok (.iload_n 1, 1) := by decide +kernel
theorem dX11_tick_85 : decode cX11_tick 85 = .ok (.if_icmp .ge 19, 3) := by decide +kernel
theorem dX11_tick_88 : decode cX11_tick 88 = .ok (.aload_n 0, 1) := by decide +kernel
theorem dX11_tick_89 : decode cX11_tick 89 = .ok (.aload_n 0, 1) := by decide +kernel
theorem dX11_tick_90 : decode cX11_tick 90 = .ok (.getfield 90, 3) := by decide +kernel
theorem dX11_tick_93 : decode cX11_tick 93 = .ok (.iload_n 2, 1) := by decide +kernel
theorem dX11_tick_94 : decode cX11_tick 94 = .ok (.iaload, 1) := by decide +kernel
theorem dX11_tick_95 : decode cX11_tick 95 = .ok (.invokevirtual 264, 3) := by decide +kernel
theorem dX11_tick_98 : decode cX11_tick 98 = .ok (.iinc 2 1, 3) := by decide +kernel
theorem dX11_tick_101 : decode cX11_tick 101 = .ok (.goto (-18), 3) := by decide +kernel
theorem dX11_tick_104 : decode cX11_tick 104 = .ok (.aload_n 0, 1) := by decide +kernel
theorem dX11_tick_105 : decode cX11_tick 105 = .ok (.dup, 1) := by decide +kernel
theorem dX11_tick_106 : decode cX11_tick 106 = .ok (.getfield 249, 3) := by decide +kernel
theorem dX11_tick_109 : decode cX11_tick 109 = .ok (.iconst 1, 1) := by decide +kernel
theorem dX11_tick_110 : decode cX11_tick 110 = .ok (.iadd, 1) := by decide +kernel
theorem dX11_tick_111 : decode cX11_tick 111 = .ok (.putfield 249, 3) := by decide +kernel
theorem dX11_tick_114 : decode cX11_tick 114 = .ok (.aload_n 0, 1) := by decide +kernel
theorem dX11_tick_115 : decode cX11_tick 115 = .ok (.getfield 246, 3) := by decide +kernel
theorem dX11_tick_118 : decode cX11_tick 118 = .ok (.aload_n 0, 1) := by decide +kernel
theorem dX11_tick_119 : decode cX11_tick 119 = .ok (.getfield 201, 3) := by decide +kernel
theorem dX11_tick_122 : decode cX11_tick 122 = .ok (.if_icmp .eq 13, 3) := by decide +kernel
theorem dX11_tick_125 : decode cX11_tick 125 = .ok (.aload_n 0, 1) := by decide +kernel
theorem dX11_tick_126 : decode cX11_tick 126 = .ok (.getfield 249, 3) := by decide +kernel
theorem dX11_tick_129 : decode cX11_tick 129 = .ok (.sipush 400, 3) := by decide +kernel
theorem dX11_tick_132 : decode cX11_tick 132 = .ok (.if_icmp .ne 7, 3) := by decide +kernel
theorem dX11_tick_135 : decode cX11_tick 135 = .ok (.aload_n 0, 1) := by decide +kernel
theorem dX11_tick_136 : decode cX11_tick 136 = .ok (.invokevirtual 267, 3) := by decide +kernel
theorem dX11_tick_139 : decode cX11_tick 139 = .ok (.return_, 1) := by decide +kernel
theorem dX11_isBehind_0 : decode cX11_isBehind 0 = .ok (.aload_n 0, 1) := by decide +kernel
theorem dX11_isBehind_1 : decode cX11_isBehind 1 = .ok (.getfield 69, 3) := by decide +kernel
theorem dX11_isBehind_4 : decode cX11_isBehind 4 = .ok (.iload_n 1, 1) := by decide +kernel
theorem dX11_isBehind_5 : decode cX11_isBehind 5 = .ok (.iaload, 1) := by decide +kernel
theorem dX11_isBehind_6 : decode cX11_isBehind 6 = .ok (.aload_n 0, 1) := by decide +kernel
theorem dX11_isBehind_7 : decode cX11_isBehind 7 = .ok (.getfield 69, 3) := by decide +kernel
theorem dX11_isBehind_10 : decode cX11_isBehind 10 = .ok (.iload_n 2, 1) := by decide +kernel
theorem dX11_isBehind_11 : decode cX11_isBehind 11 = .ok (.iaload, 1) := by decide +kernel
theorem dX11_isBehind_12 : decode cX11_isBehind 12 = .ok (.if_icmp .lt 33, 3) := by decide +kernel
theorem dX11_isBehind_15 : decode cX11_isBehind 15 = .ok (.aload_n 0, 1) := by decide +kernel
theorem dX11_isBehind_16 : decode cX11_isBehind 16 = .ok (.getfield 69, 3) := by decide +kernel
theorem dX11_isBehind_19 : decode cX11_isBehind 19 = .ok (.iload_n 1, 1) := by decide +kernel
theorem dX11_isBehind_20 : decode cX11_isBehind 20 = .ok (.iaload, 1) := by decide +kernel
theorem dX11_isBehind_21 : decode cX11_isBehind 21 = .ok (.aload_n 0, 1) := by decide +kernel
theorem dX11_isBehind_22 : decode cX11_isBehind 22 = .ok (.getfield 69, 3) := by decide +kernel
theorem dX11_isBehind_25 : decode cX11_isBehind 25 = .ok (.iload_n 2, 1) := by decide +kernel
theorem dX11_isBehind_26 : decode cX11_isBehind 26 = .ok (.iaload, 1) := by decide +kernel
theorem dX11_isBehind_27 : decode cX11_isBehind 27 = .ok (.if_icmp .ne 22, 3) := by decide +kernel
theorem dX11_isBehind_30 : decode cX11_isBehind 30 = .ok (.aload_n 0, 1) := by decide +kernel
theorem dX11_isBehind_31 : decode cX11_isBehind 31 = .ok (.getfield 72, 3) := by decide +kernel
theorem dX11_isBehind_34 : decode cX11_isBehind 34 = .ok (.iload_n 1, 1) := by decide +kernel
theorem dX11_isBehind_35 : decode cX11_isBehind 35 = .ok (.iaload, 1) := by decide +kernel
theorem dX11_isBehind_36 : decode cX11_isBehind 36 = .ok (.aload_n 0, 1) := by decide +kernel
theorem dX11_isBehind_37 : decode cX11_isBehind 37 = .ok (.getfield 72, 3) := by decide +kernel
theorem dX11_isBehind_40 : decode cX11_isBehind 40 = .ok (.iload_n 2, 1) := by decide +kernel
theorem dX11_isBehind_41 : decode cX11_isBehind 41 = .ok (.iaload, 1) := by decide +kernel
theorem dX11_isBehind_42 : decode cX11_isBehind 42 = .ok (.if_icmp .le 7, 3) := by decide +kernel
theorem dX11_isBehind_45 : decode cX11_isBehind 45 = .ok (.iconst 1, 1) := by decide +kernel
theorem dX11_isBehind_46 : decode cX11_isBehind 46 = .ok (.goto 4, 3) := by decide +kernel
theorem dX11_isBehind_49 : decode cX11_isBehind 49 = .ok (.iconst 0, 1) := by decide +kernel
theorem dX11_isBehind_50 : decode cX11_isBehind 50 = .ok (.ireturn, 1) := by decide +kernel
theorem dX11_turns_0 : decode cX11_turns 0 = .ok (.aload_n 0, 1) := by decide +kernel
theorem dX11_turns_1 : decode cX11_turns 1 = .ok (.getfield 78, 3) := by decide +kernel
theorem dX11_turns_4 : decode cX11_turns 4 = .ok (.iload_n 1, 1) := by decide +kernel
theorem dX11_turns_5 : decode cX11_turns 5 = .ok (.baload, 1) := by decide +kernel
theorem dX11_turns_6 : decode cX11_turns 6 = .ok (.ifCond .ne 17, 3) := by decide +kernel
theorem dX11_turns_9 : decode cX11_turns 9 = .ok (.aload_n 0, 1) := by decide +kernel
theorem dX11_turns_10 : decode cX11_turns 10 = .ok (.getfield 42, 3) := by decide +kernel
theorem dX11_turns_13 : decode cX11_turns 13 = .ok (.iload_n 1, 1) := by decide +kernel
theorem dX11_turns_14 : decode cX11_turns 14 = .ok (.iaload, 1) := by decide +kernel
theorem dX11_turns_15 : decode cX11_turns 15 = .ok (.ifCond .le 8, 3) := by decide +kernel
theorem dX11_turns_18 : decode cX11_turns 18 = .ok (.aload_n 0, 1) := by decide +kernel
theorem dX11_turns_19 : decode cX11_turns 19 = .ok (.iload_n 1, 1) := by decide +kernel
theorem dX11_turns_20 : decode cX11_turns 20 = .ok (.invokevirtual 270, 3) := by decide +kernel
theorem dX11_turns_23 : decode cX11_turns 23 = .ok (.aload_n 0, 1) := by decide +kernel
theorem dX11_turns_24 : decode cX11_turns 24 = .ok (.getfield 75, 3) := by decide +kernel
theorem dX11_turns_27 : decode cX11_turns 27 = .ok (.iload_n 1, 1) := by decide +kernel
theorem dX11_turns_28 : decode cX11_turns 28 = .ok (.aload_n 0, 1) := by decide +kernel
theorem dX11_turns_29 : decode cX11_turns 29 = .ok (.getfield 75, 3) := by decide +kernel
theorem dX11_turns_32 : decode cX11_turns 32 = .ok (.iload_n 1, 1) := by decide +kernel
theorem dX11_turns_33 : decode cX11_turns 33 = .ok (.iaload, 1) := by decide +kernel
theorem dX11_turns_34 : decode cX11_turns 34 = .ok (.iconst 1, 1) := by decide +kernel
theorem dX11_turns_35 : decode cX11_turns 35 = .ok (.iadd, 1) := by decide +kernel
theorem dX11_turns_36 : decode cX11_turns 36 = .ok (.iconst 3, 1) := by decide +kernel
theorem dX11_turns_37 : decode cX11_turns 37 = .ok (.aload_n 0, 1) := by decide +kernel
theorem dX11_turns_38 : decode cX11_turns 38 = .ok (.getfield 48, 3) := by decide +kernel
theorem dX11_turns_41 : decode cX11_turns 41 = .ok (.aload_n 0, 1) := by decide +kernel
theorem dX11_turns_42 : decode cX11_turns 42 = .ok (.getfield 35, 3) := by decide +kernel
theorem dX11_turns_45 : decode cX11_turns 45 = .ok (.iload_n 1, 1) := by decide +kernel
theorem dX11_turns_46 : decode cX11_turns 46 = .ok (.iaload, 1) := by decide +kernel
theorem dX11_turns_47 : decode cX11_turns 47 = .ok (.iaload, 1) := by decide +kernel
theorem dX11_turns_48 : decode cX11_turns 48 = .ok (.sipush 250, 3) := by decide +kernel
theorem dX11_turns_51 : decode cX11_turns 51 = .ok (.idiv, 1) := by decide +kernel
theorem dX11_turns_52 : decode cX11_turns 52 = .ok (.iadd, 1) := by decide +kernel
theorem dX11_turns_53 : decode cX11_turns 53 = .ok (.invokestatic 196, 3) := by decide +kernel
theorem dX11_turns_56 : decode cX11_turns 56 = .ok (.iastore, 1) := by decide +kernel
theorem dX11_turns_57 : decode cX11_turns 57 = .ok (.aload_n 0, 1) := by decide +kernel
theorem dX11_turns_58 : decode cX11_turns 58 = .ok (.bipush 8, 2) := by decide +kernel
theorem dX11_turns_60 : decode cX11_turns 60 = .ok (.invokevirtual 211, 3) := by decide +kernel
theorem dX11_turns_63 : decode cX11_turns 63 = .ok (.ifCond .ne 13, 3) := by decide +kernel
theorem dX11_turns_66 : decode cX11_turns 66 = .ok (.aload_n 0, 1) := by decide +kernel
theorem dX11_turns_67 : decode cX11_turns 67 = .ok (.getfield 75, 3) := by decide +kernel
theorem dX11_turns_70 : decode cX11_turns 70 = .ok (.iload_n 1, 1) := by decide +kernel
theorem dX11_turns_71 : decode cX11_turns 71 = .ok (.dup2, 1) := by decide +kernel
theorem dX11_turns_72 : decode cX11_turns 72 = .ok (.iaload, 1) := by decide +kernel
theorem dX11_turns_73 : decode cX11_turns 73 = .ok (.iconst 1, 1) := by decide +kernel
theorem dX11_turns_74 : decode cX11_turns 74 = .ok (.isub, 1) := by decide +kernel
theorem dX11_turns_75 : decode cX11_turns 75 = .ok (.iastore, 1) := by decide +kernel
theorem dX11_turns_76 : decode cX11_turns 76 = .ok (.aload_n 0, 1) := by decide +kernel
theorem dX11_turns_77 : decode cX11_turns 77 = .ok (.getfield 75, 3) := by decide +kernel
theorem dX11_turns_80 : decode cX11_turns 80 = .ok (.iload_n 1, 1) := by decide +kernel
theorem dX11_turns_81 : decode cX11_turns 81 = .ok (.iconst 1, 1) := by decide +kernel
theorem dX11_turns_82 : decode cX11_turns 82 = .ok (.aload_n 0, 1) := by decide +kernel
theorem dX11_turns_83 : decode cX11_turns 83 = .ok (.getfield 75, 3) := by decide +kernel
theorem dX11_turns_86 : decode cX11_turns 86 = .ok (.iload_n 1, 1) := by decide +kernel
theorem dX11_turns_87 : decode cX11_turns 87 = .ok (.iaload, 1) := by decide +kernel
theorem dX11_turns_88 : decode cX11_turns 88 = .ok (.invokestatic 221, 3) := by decide +kernel
theorem dX11_turns_91 : decode cX11_turns 91 = .ok (.iastore, 1) := by decide +kernel
theorem dX11_turns_92 : decode cX11_turns 92 = .ok (.aload_n 0, 1) := by decide +kernel
theorem dX11_turns_93 : decode cX11_turns 93 = .ok (.getfield 75, 3) := by decide +kernel
theorem dX11_turns_96 : decode cX11_turns 96 = .ok (.iload_n 1, 1) := by decide +kernel
theorem dX11_turns_97 : decode cX11_turns 97 = .ok (.iaload, 1) := by decide +kernel
theorem dX11_turns_98 : decode cX11_turns 98 = .ok (.istore_n 2, 1) := by decide +kernel
theorem dX11_turns_99 : decode cX11_turns 99 = .ok (.iconst 1, 1) := by decide +kernel
theorem dX11_turns_100 : decode cX11_turns 100 = .ok (.istore_n 3, 1) := by decide +kernel
theorem dX11_turns_101 : decode cX11_turns 101 = .ok (.iconst 0, 1) := by decide +kernel
theorem dX11_turns_102 : decode cX11_turns 102 = .ok (.istore 4, 2) := by decide +kernel
theorem dX11_turns_104 : decode cX11_turns 104 = .ok (.iload 4, 2) := by decide +kernel
theorem dX11_turns_106 : decode cX11_turns 106 = .ok (.iload_n 2, 1) := by decide +kernel
theorem dX11_turns_107 : decode cX11_turns 107 = .ok (.if_icmp .ge 19, 3) := by decide +kernel
theorem dX11_turns_110 : decode cX11_turns 110 = .ok (.iload_n 3, 1) := by decide +kernel
theorem dX11_turns_111 : decode cX11_turns 111 = .ok (.ifCond .eq 15, 3) := by decide +kernel
theorem dX11_turns_114 : decode cX11_turns 114 = .ok (.aload_n 0, 1) := by decide +kernel
theorem dX11_turns_115 : decode cX11_turns 115 = .ok (.iload_n 1, 1) := by decide +kernel
theorem dX11_turns_116 : decode cX11_turns 116 = .ok (.invokevirtual 273, 3) := by decide +kernel
theorem dX11_turns_119 : decode cX11_turns 119 = .ok (.istore_n 3, 1) := by decide +kernel
theorem dX11_turns_120 : decode cX11_turns 120 = .ok (.iinc 4 1, 3) := by decide +kernel
theorem dX11_turns_123 : decode cX11_turns 123 = .ok (.goto (-19), 3) := by decide +kernel
theorem dX11_turns_126 : decode cX11_turns 126 = .ok (.return_, 1) := by decide +kernel
theorem dX11_obeys_0 : decode cX11_obeys 0 = .ok (.aload_n 0, 1) := by decide +kernel
theorem dX11_obeys_1 : decode cX11_obeys 1 = .ok (.getfield 45, 3) := by decide +kernel
theorem dX11_obeys_4 : decode cX11_obeys 4 = .ok (.iload_n 1, 1) := by decide +kernel
theorem dX11_obeys_5 : decode cX11_obeys 5 = .ok (.iaload, 1) := by decide +kernel
theorem dX11_obeys_6 : decode cX11_obeys 6 = .ok (.istore_n 2, 1) := by decide +kernel
theorem dX11_obeys_7 : decode cX11_obeys 7 = .ok (.aload_n 0, 1) := by decide +kernel
theorem dX11_obeys_8 : decode cX11_obeys 8 = .ok (.iload_n 2, 1) := by decide +kernel
theorem dX11_obeys_9 : decode cX11_obeys 9 = .ok (.invokevirtual 252, 3) := by decide +kernel
theorem dX11_obeys_12 : decode cX11_obeys 12 = .ok (.ifCond .eq 37, 3) := by decide +kernel
theorem dX11_obeys_15 : decode cX11_obeys 15 = .ok (.aload_n 0, 1) := by decide +kernel
theorem dX11_obeys_16 : decode cX11_obeys 16 = .ok (.getfield 69, 3) := by decide +kernel
theorem dX11_obeys_19 : decode cX11_obeys 19 = .ok (.iload_n 2, 1) := by decide +kernel
theorem dX11_obeys_20 : decode cX11_obeys 20 = .ok (.iaload, 1) := by decide +kernel
theorem dX11_obeys_21 : decode cX11_obeys 21 = .ok (.aload_n 0, 1) := by decide +kernel
theorem dX11_obeys_22 : decode cX11_obeys 22 = .ok (.getfield 69, 3) := by decide +kernel
theorem dX11_obeys_25 : decode cX11_obeys 25 = .ok (.iload_n 1, 1) := by decide +kernel
theorem dX11_obeys_26 : decode cX11_obeys 26 = .ok (.iaload, 1) := by decide +kernel
theorem dX11_obeys_27 : decode cX11_obeys 27 = .ok (.iconst 1, 1) := by decide +kernel
theorem dX11_obeys_28 : decode cX11_obeys 28 = .ok (.isub, 1) := by decide +kernel
theorem dX11_obeys_29 : decode cX11_obeys 29 = .ok (.if_icmp .eq 21, 3) := by decide +kernel
theorem dX11_obeys_32 : decode cX11_obeys 32 = .ok (.aload_n 0, 1) := by decide +kernel
theorem dX11_obeys_33 : decode cX11_obeys 33 = .ok (.getfield 69, 3) := by decide +kernel
theorem dX11_obeys_36 : decode cX11_obeys 36 = .ok (.iload_n 2, 1) := by decide +kernel
theorem dX11_obeys_37 : decode cX11_obeys 37 = .ok (.iaload, 1) := by decide +kernel
theorem dX11_obeys_38 : decode cX11_obeys 38 = .ok (.aload_n 0, 1) := by decide +kernel
theorem dX11_obeys_39 : decode cX11_obeys 39 = .ok (.getfield 69, 3) := by decide +kernel
theorem dX11_obeys_42 : decode cX11_obeys 42 = .ok (.iload_n 1, 1) := by decide +kernel
theorem dX11_obeys_43 : decode cX11_obeys 43 = .ok (.iaload, 1) := by decide +kernel
theorem dX11_obeys_44 : decode cX11_obeys 44 = .ok (.iconst 2, 1) := by decide +kernel
theorem dX11_obeys_45 : decode cX11_obeys 45 = .ok (.isub, 1) := by decide +kernel
theorem dX11_obeys_46 : decode cX11_obeys 46 = .ok (.if_icmp .eq 4, 3) := by decide +kernel
theorem dX11_obeys_49 : decode cX11_obeys 49 = .ok (.return_, 1) := by decide +kernel
theorem dX11_obeys_50 : decode cX11_obeys 50 = .ok (.aload_n 0, 1) := by decide +kernel
theorem dX11_obeys_51 : decode cX11_obeys 51 = .ok (.getfield 42, 3) := by decide +kernel
theorem dX11_obeys_54 : decode cX11_obeys 54 = .ok (.iload_n 1, 1) := by decide +kernel
theorem dX11_obeys_55 : decode cX11_obeys 55 = .ok (.iaload, 1) := by decide +kernel
theorem dX11_obeys_56 : decode cX11_obeys 56 = .ok (.iconst 1, 1) := by decide +kernel
theorem dX11_obeys_57 : decode cX11_obeys 57 = .ok (.if_icmp .ne 79, 3) := by decide +kernel
theorem dX11_obeys_60 : decode cX11_obeys 60 = .ok (.aload_n 0, 1) := by decide +kernel
theorem dX11_obeys_61 : decode cX11_obeys 61 = .ok (.getfield 72, 3) := by decide +kernel
theorem dX11_obeys_64 : decode cX11_obeys 64 = .ok (.iload_n 2, 1) := by decide +kernel
theorem dX11_obeys_65 : decode cX11_obeys 65 = .ok (.iaload, 1) := by decide +kernel
theorem dX11_obeys_66 : decode cX11_obeys 66 = .ok (.aload_n 0, 1) := by decide +kernel
theorem dX11_obeys_67 : decode cX11_obeys 67 = .ok (.getfield 72, 3) := by decide +kernel
theorem dX11_obeys_70 : decode cX11_obeys 70 = .ok (.iload_n 1, 1) := by decide +kernel
theorem dX11_obeys_71 : decode cX11_obeys 71 = .ok (.iaload, 1) := by decide +kernel
theorem dX11_obeys_72 : decode cX11_obeys 72 = .ok (.iconst 1, 1) := by decide +kernel
theorem dX11_obeys_73 : decode cX11_obeys 73 = .ok (.iadd, 1) := by decide +kernel
theorem dX11_obeys_74 : decode cX11_obeys 74 = .ok (.if_icmp .eq 20, 3) := by decide +kernel
theorem dX11_obeys_77 : decode cX11_obeys 77 = .ok (.aload_n 0, 1) := by decide +kernel
theorem dX11_obeys_78 : decode cX11_obeys 78 = .ok (.getfield 72, 3) := by decide +kernel
theorem dX11_obeys_81 : decode cX11_obeys 81 = .ok (.iload_n 2, 1) := by decide +kernel
theorem dX11_obeys_82 : decode cX11_obeys 82 = .ok (.iaload, 1) := by decide +kernel
theorem dX11_obeys_83 : decode cX11_obeys 83 = .ok (.aload_n 0, 1) := by decide +kernel
theorem dX11_obeys_84 : decode cX11_obeys 84 = .ok (.getfield 72, 3) := by decide +kernel
theorem dX11_obeys_87 : decode cX11_obeys 87 = .ok (.iload_n 1, 1) := by decide +kernel
theorem dX11_obeys_88 : decode cX11_obeys 88 = .ok (.iaload, 1) := by decide +kernel
theorem dX11_obeys_89 : decode cX11_obeys 89 = .ok (.iconst 1, 1) := by decide +kernel
theorem dX11_obeys_90 : decode cX11_obeys 90 = .ok (.isub, 1) := by decide +kernel
theorem dX11_obeys_91 : decode cX11_obeys 91 = .ok (.if_icmp .ne 7, 3) := by decide +kernel
theorem dX11_obeys_94 : decode cX11_obeys 94 = .ok (.iconst 1, 1) := by decide +kernel
theorem dX11_obeys_95 : decode cX11_obeys 95 = .ok (.goto 4, 3) := by decide +kernel
theorem dX11_obeys_98 : decode cX11_obeys 98 = .ok (.iconst 0, 1) := by decide +kernel
theorem dX11_obeys_99 : decode cX11_obeys 99 = .ok (.istore_n 3, 1) := by decide +kernel
theorem dX11_obeys_100 : decode cX11_obeys 100 = .ok (.iload_n 3, 1) := by decide +kernel
theorem dX11_obeys_101 : decode cX11_obeys 101 = .ok (.ifCond .eq 34, 3) := by decide +kernel
theorem dX11_obeys_104 : decode cX11_obeys 104 = .ok (.aload_n 0, 1) := by decide +kernel
theorem dX11_obeys_105 : decode cX11_obeys 105 = .ok (.aload_n 0, 1) := by decide +kernel
theorem dX11_obeys_106 : decode cX11_obeys 106 = .ok (.getfield 69, 3) := by decide +kernel
theorem dX11_obeys_109 : decode cX11_obeys 109 = .ok (.iload_n 1, 1) := by decide +kernel
theorem dX11_obeys_110 : decode cX11_obeys 110 = .ok (.iaload, 1) := by decide +kernel
theorem dX11_obeys_111 : decode cX11_obeys 111 = .ok (.aload_n 0, 1) := by decide +kernel
theorem dX11_obeys_112 : decode cX11_obeys 112 = .ok (.getfield 72, 3) := by decide +kernel
theorem dX11_obeys_115 : decode cX11_obeys 115 = .ok (.iload_n 2, 1) := by decide +kernel
theorem dX11_obeys_116 : decode cX11_obeys 116 = .ok (.iaload, 1) := by decide +kernel
theorem dX11_obeys_117 : decode cX11_obeys 117 = .ok (.invokevirtual 276, 3) := by decide +kernel
theorem dX11_obeys_120 : decode cX11_obeys 120 = .ok (.ifCond .eq 15, 3) := by decide +kernel
theorem dX11_obeys_123 : decode cX11_obeys 123 = .ok (.aload_n 0, 1) := by decide +kernel
theorem dX11_obeys_124 : decode cX11_obeys 124 = .ok (.getfield 72, 3) := by decide +kernel
theorem dX11_obeys_127 : decode cX11_obeys 127 = .ok (.iload_n 1, 1) := by decide +kernel
theorem dX11_obeys_128 : decode cX11_obeys 128 = .ok (.aload_n 0, 1) := by decide +kernel
theorem dX11_obeys_129 : decode cX11_obeys 129 = .ok (.getfield 72, 3) := by decide +kernel
theorem dX11_obeys_132 : decode cX11_obeys 132 = .ok (.iload_n 2, 1) := by decide +kernel
theorem dX11_obeys_133 : decode cX11_obeys 133 = .ok (.iaload, 1) := by decide +kernel
theorem dX11_obeys_134 : decode cX11_obeys 134 = .ok (.iastore, 1) := by decide +kernel
theorem dX11_obeys_135 : decode cX11_obeys 135 = .ok (.return_, 1) := by decide +kernel
theorem dX11_obeys_136 : decode cX11_obeys 136 = .ok (.aload_n 0, 1) := by decide +kernel
theorem dX11_obeys_137 : decode cX11_obeys 137 = .ok (.getfield 72, 3) := by decide +kernel
theorem dX11_obeys_140 : decode cX11_obeys 140 = .ok (.iload_n 2, 1) := by decide +kernel
theorem dX11_obeys_141 : decode cX11_obeys 141 = .ok (.iaload, 1) := by decide +kernel
theorem dX11_obeys_142 : decode cX11_obeys 142 = .ok (.aload_n 0, 1) := by decide +kernel
theorem dX11_obeys_143 : decode cX11_obeys 143 = .ok (.getfield 72, 3) := by decide +kernel
theorem dX11_obeys_146 : decode cX11_obeys 146 = .ok (.iload_n 1, 1) := by decide +kernel
theorem dX11_obeys_147 : decode cX11_obeys 147 = .ok (.iaload, 1) := by decide +kernel
theorem dX11_obeys_148 : decode cX11_obeys 148 = .ok (.if_icmp .eq 4, 3) := by decide +kernel
theorem dX11_obeys_151 : decode cX11_obeys 151 = .ok (.return_, 1) := by decide +kernel
theorem dX11_obeys_152 : decode cX11_obeys 152 = .ok (.aload_n 0, 1) := by decide +kernel
theorem dX11_obeys_153 : decode cX11_obeys 153 = .ok (.getfield 72, 3) := by decide +kernel
theorem dX11_obeys_156 : decode cX11_obeys 156 = .ok (.iload_n 1, 1) := by decide +kernel
theorem dX11_obeys_157 : decode cX11_obeys 157 = .ok (.iaload, 1) := by decide +kernel
theorem dX11_obeys_158 : decode cX11_obeys 158 = .ok (.iconst 1, 1) := by decide +kernel
theorem dX11_obeys_159 : decode cX11_obeys 159 = .ok (.isub, 1) := by decide +kernel
theorem dX11_obeys_160 : decode cX11_obeys 160 = .ok (.invokestatic 279, 3) := by decide +kernel
theorem dX11_obeys_163 : decode cX11_obeys 163 = .ok (.ifCond .eq 37, 3) := by decide +kernel
theorem dX11_obeys_166 : decode cX11_obeys 166 = .ok (.aload_n 0, 1) := by decide +kernel
theorem dX11_obeys_167 : decode cX11_obeys 167 = .ok (.aload_n 0, 1) := by decide +kernel
theorem dX11_obeys_168 : decode cX11_obeys 168 = .ok (.getfield 69, 3) := by decide +kernel
theorem dX11_obeys_171 : decode cX11_obeys 171 = .ok (.iload_n 1, 1) := by decide +kernel
theorem dX11_obeys_172 : decode cX11_obeys 172 = .ok (.iaload, 1) := by decide +kernel
theorem dX11_obeys_173 : decode cX11_obeys 173 = .ok (.aload_n 0, 1) := by decide +kernel
theorem dX11_obeys_174 : decode cX11_obeys 174 = .ok (.getfield 72, 3) := by decide +kernel
theorem dX11_obeys_177 : decode cX11_obeys 177 = .ok (.iload_n 1, 1) := by decide +kernel
theorem dX11_obeys_178 : decode cX11_obeys 178 = .ok (.iaload, 1) := by decide +kernel
theorem dX11_obeys_179 : decode cX11_obeys 179 = .ok (.iconst 1, 1) := by decide +kernel
theorem dX11_obeys_180 : decode cX11_obeys 180 = .ok (.isub, 1) := by decide +kernel
theorem dX11_obeys_181 : decode cX11_obeys 181 = .ok (.invokevirtual 276, 3) := by decide +kernel
theorem dX11_obeys_184 : decode cX11_obeys 184 = .ok (.ifCond .eq 16, 3) := by decide +kernel
theorem dX11_obeys_187 : decode cX11_obeys 187 = .ok (.aload_n 0, 1) := by decide +kernel
theorem dX11_obeys_188 : decode cX11_obeys 188 = .ok (.getfield 72, 3) := by decide +kernel
theorem dX11_obeys_191 : decode cX11_obeys 191 = .ok (.iload_n 1, 1) := by decide +kernel
theorem dX11_obeys_192 : decode cX11_obeys 192 = .ok (.dup2, 1) := by decide +kernel
theorem dX11_obeys_193 : decode cX11_obeys 193 = .ok (.iaload, 1) := by decide +kernel
theorem dX11_obeys_194 : decode cX11_obeys 194 = .ok (.iconst 1, 1) := by decide +kernel
theorem dX11_obeys_195 : decode cX11_obeys 195 = .ok (.isub, 1) := by decide +kernel
theorem dX11_obeys_196 : decode cX11_obeys 196 = .ok (.iastore, 1) := by decide +kernel
theorem dX11_obeys_197 : decode cX11_obeys 197 = .ok (.goto 48, 3) := by decide +kernel
theorem dX11_obeys_200 : decode cX11_obeys 200 = .ok (.aload_n 0, 1) := by decide +kernel
theorem dX11_obeys_201 : decode cX11_obeys 201 = .ok (.getfield 72, 3) := by decide +kernel
theorem dX11_obeys_204 : decode cX11_obeys 204 = .ok (.iload_n 1, 1) := by decide +kernel
theorem dX11_obeys_205 : decode cX11_obeys 205 = .ok (.iaload, 1) := by decide +kernel
theorem dX11_obeys_206 : decode cX11_obeys 206 = .ok (.iconst 1, 1) := by decide +kernel
theorem dX11_obeys_207 : decode cX11_obeys 207 = .ok (.iadd, 1) := by decide +kernel
theorem dX11_obeys_208 : decode cX11_obeys 208 = .ok (.invokestatic 279, 3) := by decide +kernel
theorem dX11_obeys_211 : decode cX11_obeys 211 = .ok (.ifCond .eq 34, 3) := by decide +kernel
theorem dX11_obeys_214 : decode cX11_obeys 214 = .ok (.aload_n 0, 1) := by decide +kernel
theorem dX11_obeys_215 : decode cX11_obeys 215 = .ok (.aload_n 0, 1) := by decide +kernel
theorem dX11_obeys_216 : decode cX11_obeys 216 = .ok (.getfield 69, 3) := by decide +kernel
theorem dX11_obeys_219 : decode cX11_obeys 219 = .ok (.iload_n 1, 1) := by decide +kernel
theorem dX11_obeys_220 : decode cX11_obeys 220 = .ok (.iaload, 1) := by decide +kernel
theorem dX11_obeys_221 : decode cX11_obeys 221 = .ok (.aload_n 0, 1) := by decide +kernel
theorem dX11_obeys_222 : decode cX11_obeys 222 = .ok (.getfield 72, 3) := by decide +kernel
theorem dX11_obeys_225 : decode cX11_obeys 225 = .ok (.iload_n 1, 1) := by decide +kernel
theorem dX11_obeys_226 : decode cX11_obeys 226 = .ok (.iaload, 1) := by decide +kernel
theorem dX11_obeys_227 : decode cX11_obeys 227 = .ok (.iconst 1, 1) := by decide +kernel
theorem dX11_obeys_228 : decode cX11_obeys 228 = .ok (.iadd, 1) := by decide +kernel
theorem dX11_obeys_229 : decode cX11_obeys 229 = .ok (.invokevirtual 276, 3) := by decide +kernel
theorem dX11_obeys_232 : decode cX11_obeys 232 = .ok (.ifCond .eq 13, 3) := by decide +kernel
theorem dX11_obeys_235 : decode cX11_obeys 235 = .ok (.aload_n 0, 1) := by decide +kernel
theorem dX11_obeys_236 : decode cX11_obeys 236 = .ok (.getfield 72, 3) := by decide +kernel
theorem dX11_obeys_239 : decode cX11_obeys 239 = .ok (.iload_n 1, 1) := by decide +kernel
theorem dX11_obeys_240 : decode cX11_obeys 240 = .ok (.dup2, 1) := by decide +kernel
theorem dX11_obeys_241 : decode cX11_obeys 241 = .ok (.iaload, 1) := by decide +kernel
theorem dX11_obeys_242 : decode cX11_obeys 242 = .ok (.iconst 1, 1) := by decide +kernel
theorem dX11_obeys_243 : decode cX11_obeys 243 = .ok (.iadd, 1) := by decide +kernel
theorem dX11_obeys_244 : decode cX11_obeys 244 = .ok (.iastore, 1) := by decide +kernel
theorem dX11_obeys_245 : decode cX11_obeys 245 = .ok (.return_, 1) := by decide +kernel
theorem dX11_moves_0 : decode cX11_moves 0 = .ok (.aload_n 0, 1) := by decide +kernel
theorem dX11_moves_1 : decode cX11_moves 1 = .ok (.getfield 72, 3) := by decide +kernel
theorem dX11_moves_4 : decode cX11_moves 4 = .ok (.iload_n 1, 1) := by decide +kernel
theorem dX11_moves_5 : decode cX11_moves 5 = .ok (.iaload, 1) := by decide +kernel
theorem dX11_moves_6 : decode cX11_moves 6 = .ok (.istore_n 2, 1) := by decide +kernel
theorem dX11_moves_7 : decode cX11_moves 7 = .ok (.aload_n 0, 1) := by decide +kernel
theorem dX11_moves_8 : decode cX11_moves 8 = .ok (.aload_n 0, 1) := by decide +kernel
theorem dX11_moves_9 : decode cX11_moves 9 = .ok (.getfield 69, 3) := by decide +kernel
theorem dX11_moves_12 : decode cX11_moves 12 = .ok (.iload_n 1, 1) := by decide +kernel
theorem dX11_moves_13 : decode cX11_moves 13 = .ok (.iaload, 1) := by decide +kernel
theorem dX11_moves_14 : decode cX11_moves 14 = .ok (.iconst 1, 1) := by decide +kernel
theorem dX11_moves_15 : decode cX11_moves 15 = .ok (.iadd, 1) := by decide +kernel
theorem dX11_moves_16 : decode cX11_moves 16 = .ok (.iload_n 2, 1) := by decide +kernel
theorem dX11_moves_17 : decode cX11_moves 17 = .ok (.invokevirtual 276, 3) := by decide +kernel
theorem dX11_moves_20 : decode cX11_moves 20 = .ok (.ifCond .ne 71, 3) := by decide +kernel
theorem dX11_moves_23 : decode cX11_moves 23 = .ok (.iload_n 2, 1) := by decide +kernel
theorem dX11_moves_24 : decode cX11_moves 24 = .ok (.iconst 1, 1) := by decide +kernel
theorem dX11_moves_25 : decode cX11_moves 25 = .ok (.isub, 1) := by decide +kernel
theorem dX11_moves_26 : decode cX11_moves 26 = .ok (.invokestatic 279, 3) := by decide +kernel
theorem dX11_moves_29 : decode cX11_moves 29 = .ok (.ifCond .eq 27, 3) := by decide +kernel
theorem dX11_moves_32 : decode cX11_moves 32 = .ok (.aload_n 0, 1) := by decide +kernel
theorem dX11_moves_33 : decode cX11_moves 33 = .ok (.aload_n 0, 1) := by decide +kernel
theorem dX11_moves_34 : decode cX11_moves 34 = .ok (.getfield 69, 3) := by decide +kernel
theorem dX11_moves_37 : decode cX11_moves 37 = .ok (.iload_n 1, 1) := by decide +kernel
theorem dX11_moves_38 : decode cX11_moves 38 = .ok (.iaload, 1) := by decide +kernel
theorem dX11_moves_39 : decode cX11_moves 39 = .ok (.iconst 1, 1) := by decide +kernel
theorem dX11_moves_40 : decode cX11_moves 40 = .ok (.iadd, 1) := by decide +kernel
theorem dX11_moves_41 : decode cX11_moves 41 = .ok (.iload_n 2, 1) := by decide +kernel
theorem dX11_moves_42 : decode cX11_moves 42 = .ok (.iconst 1, 1) := by decide +kernel
theorem dX11_moves_43 : decode cX11_moves 43 = .ok (.isub, 1) := by decide +kernel
theorem dX11_moves_44 : decode cX11_moves 44 = .ok (.invokevirtual 276, 3) := by decide +kernel
theorem dX11_moves_47 : decode cX11_moves 47 = .ok (.ifCond .eq 9, 3) := by decide +kernel
theorem dX11_moves_50 : decode cX11_moves 50 = .ok (.iinc 2 (-1), 3) := by decide +kernel
theorem dX11_moves_53 : decode cX11_moves 53 = .ok (.goto 38, 3) := by decide +kernel
theorem dX11_moves_56 : decode cX11_moves 56 = .ok (.iload_n 2, 1) := by decide +kernel
theorem dX11_moves_57 : decode cX11_moves 57 = .ok (.iconst 1, 1) := by decide +kernel
theorem dX11_moves_58 : decode cX11_moves 58 = .ok (.iadd, 1) := by decide +kernel
theorem dX11_moves_59 : decode cX11_moves 59 = .ok (.invokestatic 279, 3) := by decide +kernel
theorem dX11_moves_62 : decode cX11_moves 62 = .ok (.ifCond .eq 27, 3) := by decide +kernel
theorem dX11_moves_65 : decode cX11_moves 65 = .ok (.aload_n 0, 1) := by decide +kernel
theorem dX11_moves_66 : decode cX11_moves 66 = .ok (.aload_n 0, 1) := by decide +kernel
theorem dX11_moves_67 : decode cX11_moves 67 = .ok (.getfield 69, 3) := by decide +kernel
theorem dX11_moves_70 : decode cX11_moves 70 = .ok (.iload_n 1, 1) := by decide +kernel
theorem dX11_moves_71 : decode cX11_moves 71 = .ok (.iaload, 1) := by decide +kernel
theorem dX11_moves_72 : decode cX11_moves 72 = .ok (.iconst 1, 1) := by decide +kernel
theorem dX11_moves_73 : decode cX11_moves 73 = .ok (.iadd, 1) := by decide +kernel
theorem dX11_moves_74 : decode cX11_moves 74 = .ok (.iload_n 2, 1) := by decide +kernel
theorem dX11_moves_75 : decode cX11_moves 75 = .ok (.iconst 1, 1) := by decide +kernel
theorem dX11_moves_76 : decode cX11_moves 76 = .ok (.iadd, 1) := by decide +kernel
theorem dX11_moves_77 : decode cX11_moves 77 = .ok (.invokevirtual 276, 3) := by decide +kernel
theorem dX11_moves_80 : decode cX11_moves 80 = .ok (.ifCond .eq 9, 3) := by decide +kernel
theorem dX11_moves_83 : decode cX11_moves 83 = .ok (.iinc 2 1, 3) := by decide +kernel
theorem dX11_moves_86 : decode cX11_moves 86 = .ok (.goto 5, 3) := by decide +kernel
theorem dX11_moves_89 : decode cX11_moves 89 = .ok (.iconst (-1), 1) := by decide +kernel
theorem dX11_moves_90 : decode cX11_moves 90 = .ok (.istore_n 2, 1) := by decide +kernel
theorem dX11_moves_91 : decode cX11_moves 91 = .ok (.iload_n 2, 1) := by decide +kernel
theorem dX11_moves_92 : decode cX11_moves 92 = .ok (.iconst (-1), 1) := by decide +kernel
theorem dX11_moves_93 : decode cX11_moves 93 = .ok (.if_icmp .ne 22, 3) := by decide +kernel
theorem dX11_moves_96 : decode cX11_moves 96 = .ok (.aload_n 0, 1) := by decide +kernel
theorem dX11_moves_97 : decode cX11_moves 97 = .ok (.getfield 75, 3) := by decide +kernel
theorem dX11_moves_100 : decode cX11_moves 100 = .ok (.iload_n 1, 1) := by decide +kernel
theorem dX11_moves_101 : decode cX11_moves 101 = .ok (.iconst 0, 1) := by decide +kernel
theorem dX11_moves_102 : decode cX11_moves 102 = .ok (.iastore, 1) := by decide +kernel
theorem dX11_moves_103 : decode cX11_moves 103 = .ok (.aload_n 0, 1) := by decide +kernel
theorem dX11_moves_104 : decode cX11_moves 104 = .ok (.getfield 84, 3) := by decide +kernel
theorem dX11_moves_107 : decode cX11_moves 107 = .ok (.iload_n 1, 1) := by decide +kernel
theorem dX11_moves_108 : decode cX11_moves 108 = .ok (.dup2, 1) := by decide +kernel
theorem dX11_moves_109 : decode cX11_moves 109 = .ok (.iaload, 1) := by decide +kernel
theorem dX11_moves_110 : decode cX11_moves 110 = .ok (.iconst 1, 1) := by decide +kernel
theorem dX11_moves_111 : decode cX11_moves 111 = .ok (.iadd, 1) := by decide +kernel
theorem dX11_moves_112 : decode cX11_moves 112 = .ok (.iastore, 1) := by decide +kernel
theorem dX11_moves_113 : decode cX11_moves 113 = .ok (.iconst 0, 1) := by decide +kernel
theorem dX11_moves_114 : decode cX11_moves 114 = .ok (.ireturn, 1) := by decide +kernel
theorem dX11_moves_115 : decode cX11_moves 115 = .ok (.aload_n 0, 1) := by decide +kernel
theorem dX11_moves_116 : decode cX11_moves 116 = .ok (.getfield 72, 3) := by decide +kernel
theorem dX11_moves_119 : decode cX11_moves 119 = .ok (.iload_n 1, 1) := by decide +kernel
theorem dX11_moves_120 : decode cX11_moves 120 = .ok (.iload_n 2, 1) := by decide +kernel
theorem dX11_moves_121 : decode cX11_moves 121 = .ok (.iastore, 1) := by decide +kernel
theorem dX11_moves_122 : decode cX11_moves 122 = .ok (.aload_n 0, 1) := by decide +kernel
theorem dX11_moves_123 : decode cX11_moves 123 = .ok (.getfield 69, 3) := by decide +kernel
theorem dX11_moves_126 : decode cX11_moves 126 = .ok (.iload_n 1, 1) := by decide +kernel
theorem dX11_moves_127 : decode cX11_moves 127 = .ok (.dup2, 1) := by decide +kernel
theorem dX11_moves_128 : decode cX11_moves 128 = .ok (.iaload, 1) := by decide +kernel
theorem dX11_moves_129 : decode cX11_moves 129 = .ok (.iconst 1, 1) := by decide +kernel
theorem dX11_moves_130 : decode cX11_moves 130 = .ok (.iadd, 1) := by decide +kernel
theorem dX11_moves_131 : decode cX11_moves 131 = .ok (.iastore, 1) := by decide +kernel
theorem dX11_moves_132 : decode cX11_moves 132 = .ok (.iconst 1, 1) := by decide +kernel
theorem dX11_moves_133 : decode cX11_moves 133 = .ok (.istore_n 3, 1) := by decide +kernel
theorem dX11_moves_134 : decode cX11_moves 134 = .ok (.aload_n 0, 1) := by decide +kernel
theorem dX11_moves_135 : decode cX11_moves 135 = .ok (.getfield 66, 3) := by decide +kernel
theorem dX11_moves_138 : decode cX11_moves 138 = .ok (.aload_n 0, 1) := by decide +kernel
theorem dX11_moves_139 : decode cX11_moves 139 = .ok (.aload_n 0, 1) := by decide +kernel
theorem dX11_moves_140 : decode cX11_moves 140 = .ok (.getfield 69, 3) := by decide +kernel
theorem dX11_moves_143 : decode cX11_moves 143 = .ok (.iload_n 1, 1) := by decide +kernel
theorem dX11_moves_144 : decode cX11_moves 144 = .ok (.iaload, 1) := by decide +kernel
theorem dX11_moves_145 : decode cX11_moves 145 = .ok (.invokevirtual 255, 3) := by decide +kernel
theorem dX11_moves_148 : decode cX11_moves 148 = .ok (.baload, 1) := by decide +kernel
theorem dX11_moves_149 : decode cX11_moves 149 = .ok (.ifCond .eq 49, 3) := by decide +kernel
theorem dX11_moves_152 : decode cX11_moves 152 = .ok (.aload_n 0, 1) := by decide +kernel
theorem dX11_moves_153 : decode cX11_moves 153 = .ok (.getfield 78, 3) := by decide +kernel
theorem dX11_moves_156 : decode cX11_moves 156 = .ok (.iload_n 1, 1) := by decide +kernel
theorem dX11_moves_157 : decode cX11_moves 157 = .ok (.baload, 1) := by decide +kernel
theorem dX11_moves_158 : decode cX11_moves 158 = .ok (.ifCond .ne 40, 3) := by decide +kernel
theorem dX11_moves_161 : decode cX11_moves 161 = .ok (.aload_n 0, 1) := by decide +kernel
theorem dX11_moves_162 : decode cX11_moves 162 = .ok (.getfield 75, 3) := by decide +kernel
theorem dX11_moves_165 : decode cX11_moves 165 = .ok (.iload_n 1, 1) := by decide +kernel
theorem dX11_moves_166 : decode cX11_moves 166 = .ok (.iaload, 1) := by decide +kernel
theorem dX11_moves_167 : decode cX11_moves 167 = .ok (.aload_n 0, 1) := by decide +kernel
theorem dX11_moves_168 : decode cX11_moves 168 = .ok (.getfield 239, 3) := by decide +kernel
theorem dX11_moves_171 : decode cX11_moves 171 = .ok (.if_icmp .le 27, 3) := by decide +kernel
theorem dX11_moves_174 : decode cX11_moves 174 = .ok (.aload_n 0, 1) := by decide +kernel
theorem dX11_moves_175 : decode cX11_moves 175 = .ok (.iconst 4, 1) := by decide +kernel
theorem dX11_moves_176 : decode cX11_moves 176 = .ok (.invokevirtual 211, 3) := by decide +kernel
theorem dX11_moves_179 : decode cX11_moves 179 = .ok (.ifCond .ne 19, 3) := by decide +kernel
theorem dX11_moves_182 : decode cX11_moves 182 = .ok (.aload_n 0, 1) := by decide +kernel
theorem dX11_moves_183 : decode cX11_moves 183 = .ok (.getfield 78, 3) := by decide +kernel
theorem dX11_moves_186 : decode cX11_moves 186 = .ok (.iload_n 1, 1) := by decide +kernel
theorem dX11_moves_187 : decode cX11_moves 187 = .ok (.iconst 1, 1) := by decide +kernel
theorem dX11_moves_188 : decode cX11_moves 188 = .ok (.bastore, 1) := by decide +kernel
theorem dX11_moves_189 : decode cX11_moves 189 = .ok (.aload_n 0, 1) := by decide +kernel
theorem dX11_moves_190 : decode cX11_moves 190 = .ok (.getfield 75, 3) := by decide +kernel
theorem dX11_moves_193 : decode cX11_moves 193 = .ok (.iload_n 1, 1) := by decide +kernel
theorem dX11_moves_194 : decode cX11_moves 194 = .ok (.iconst 1, 1) := by decide +kernel
theorem dX11_moves_195 : decode cX11_moves 195 = .ok (.iastore, 1) := by decide +kernel
theorem dX11_moves_196 : decode cX11_moves 196 = .ok (.iconst 0, 1) := by decide +kernel
theorem dX11_moves_197 : decode cX11_moves 197 = .ok (.istore_n 3, 1) := by decide +kernel
theorem dX11_moves_198 : decode cX11_moves 198 = .ok (.aload_n 0, 1) := by decide +kernel
theorem dX11_moves_199 : decode cX11_moves 199 = .ok (.getfield 69, 3) := by decide +kernel
theorem dX11_moves_202 : decode cX11_moves 202 = .ok (.iload_n 1, 1) := by decide +kernel
theorem dX11_moves_203 : decode cX11_moves 203 = .ok (.iaload, 1) := by decide +kernel
theorem dX11_moves_204 : decode cX11_moves 204 = .ok (.aload_n 0, 1) := by decide +kernel
theorem dX11_moves_205 : decode cX11_moves 205 = .ok (.getfield 236, 3) := by decide +kernel
theorem dX11_moves_208 : decode cX11_moves 208 = .ok (.aload_n 0, 1) := by decide +kernel
theorem dX11_moves_209 : decode cX11_moves 209 = .ok (.getfield 63, 3) := by decide +kernel
theorem dX11_moves_212 : decode cX11_moves 212 = .ok (.imul, 1) := by decide +kernel
theorem dX11_moves_213 : decode cX11_moves 213 = .ok (.if_icmp .ge 5, 3) := by decide +kernel
theorem dX11_moves_216 : decode cX11_moves 216 = .ok (.iload_n 3, 1) := by decide +kernel
theorem dX11_moves_217 : decode cX11_moves 217 = .ok (.ireturn, 1) := by decide +kernel
theorem dX11_moves_218 : decode cX11_moves 218 = .ok (.aload_n 0, 1) := by decide +kernel
theorem dX11_moves_219 : decode cX11_moves 219 = .ok (.getfield 81, 3) := by decide +kernel
theorem dX11_moves_222 : decode cX11_moves 222 = .ok (.iload_n 1, 1) := by decide +kernel
theorem dX11_moves_223 : decode cX11_moves 223 = .ok (.aload_n 0, 1) := by decide +kernel
theorem dX11_moves_224 : decode cX11_moves 224 = .ok (.getfield 246, 3) := by decide +kernel
theorem dX11_moves_227 : decode cX11_moves 227 = .ok (.iastore, 1) := by decide +kernel
theorem dX11_moves_228 : decode cX11_moves 228 = .ok (.aload_n 0, 1) := by decide +kernel
theorem dX11_moves_229 : decode cX11_moves 229 = .ok (.dup, 1) := by decide +kernel
theorem dX11_moves_230 : decode cX11_moves 230 = .ok (.getfield 246, 3) := by decide +kernel
theorem dX11_moves_233 : decode cX11_moves 233 = .ok (.iconst 1, 1) := by decide +kernel
theorem dX11_moves_234 : decode cX11_moves 234 = .ok (.iadd, 1) := by decide +kernel
theorem dX11_moves_235 : decode cX11_moves 235 = .ok (.putfield 246, 3) := by decide +kernel
theorem dX11_moves_238 : decode cX11_moves 238 = .ok (.aload_n 0, 1) := by decide +kernel
theorem dX11_moves_239 : decode cX11_moves 239 = .ok (.getfield 87, 3) := by decide +kernel
theorem dX11_moves_242 : decode cX11_moves 242 = .ok (.iconst (-1), 1) := by decide +kernel
theorem dX11_moves_243 : decode cX11_moves 243 = .ok (.if_icmp .ne 24, 3) := by decide +kernel
theorem dX11_moves_246 : decode cX11_moves 246 = .ok (.aload_n 0, 1) := by decide +kernel
theorem dX11_moves_247 : decode cX11_moves 247 = .ok (.getfield 78, 3) := by decide +kernel
theorem dX11_moves_250 : decode cX11_moves 250 = .ok (.iload_n 1, 1) := by decide +kernel
theorem dX11_moves_251 : decode cX11_moves 251 = .ok (.baload, 1) := by decide +kernel
theorem dX11_moves_252 : decode cX11_moves 252 = .ok (.ifCond .eq 10, 3) := by decide +kernel
theorem dX11_moves_255 : decode cX11_moves 255 = .ok (.aload_n 0, 1) := by decide +kernel
theorem dX11_moves_256 : decode cX11_moves 256 = .ok (.getfield 242, 3) := by decide +kernel
theorem dX11_moves_259 : decode cX11_moves 259 = .ok (.ifCond .eq 8, 3) := by decide +kernel
theorem dX11_moves_262 : decode cX11_moves 262 = .ok (.aload_n 0, 1) := by decide +kernel
theorem dX11_moves_263 : decode cX11_moves 263 = .ok (.iload_n 1, 1) := by decide +kernel
theorem dX11_moves_264 : decode cX11_moves 264 = .ok (.putfield 87, 3) := by decide +kernel
theorem dX11_moves_267 : decode cX11_moves 267 = .ok (.iconst 0, 1) := by decide +kernel
theorem dX11_moves_268 : decode cX11_moves 268 = .ok (.ireturn, 1) := by decide +kernel
theorem dX11_ends_0 : decode cX11_ends 0 = .ok (.aload_n 0, 1) := by decide +kernel
theorem dX11_ends_1 : decode cX11_ends 1 = .ok (.iconst 5, 1) := by decide +kernel
theorem dX11_ends_2 : decode cX11_ends 2 = .ok (.putfield 190, 3) := by decide +kernel
theorem dX11_ends_5 : decode cX11_ends 5 = .ok (.iconst 0, 1) := by decide +kernel
theorem dX11_ends_6 : decode cX11_ends 6 = .ok (.istore_n 1, 1) := by decide +kernel
theorem dX11_ends_7 : decode cX11_ends 7 = .ok (.iload_n 1, 1) := by decide +kernel
theorem dX11_ends_8 : decode cX11_ends 8 = .ok (.aload_n 0, 1) := by decide +kernel
theorem dX11_ends_9 : decode cX11_ends 9 = .ok (.getfield 282, 3) := by decide +kernel
theorem dX11_ends_12 : decode cX11_ends 12 = .ok (.if_icmp .ge 65, 3) := by decide +kernel
theorem dX11_ends_15 : decode cX11_ends 15 = .ok (.aload_n 0, 1) := by decide +kernel
theorem dX11_ends_16 : decode cX11_ends 16 = .ok (.getfield 93, 3) := by decide +kernel
theorem dX11_ends_19 : decode cX11_ends 19 = .ok (.iload_n 1, 1) := by decide +kernel
theorem dX11_ends_20 : decode cX11_ends 20 = .ok (.iaload, 1) := by decide +kernel
theorem dX11_ends_21 : decode cX11_ends 21 = .ok (.aload_n 0, 1) := by decide +kernel
theorem dX11_ends_22 : decode cX11_ends 22 = .ok (.getfield 87, 3) := by decide +kernel
theorem dX11_ends_25 : decode cX11_ends 25 = .ok (.if_icmp .eq 6, 3) := by decide +kernel
theorem dX11_ends_28 : decode cX11_ends 28 = .ok (.goto 43, 3) := by decide +kernel
theorem dX11_ends_31 : decode cX11_ends 31 = .ok (.aload_n 0, 1) := by decide +kernel
theorem dX11_ends_32 : decode cX11_ends 32 = .ok (.getfield 32, 3) := by decide +kernel
theorem dX11_ends_35 : decode cX11_ends 35 = .ok (.aload_n 0, 1) := by decide +kernel
theorem dX11_ends_36 : decode cX11_ends 36 = .ok (.getfield 93, 3) := by decide +kernel
theorem dX11_ends_39 : decode cX11_ends 39 = .ok (.iload_n 1, 1) := by decide +kernel
theorem dX11_ends_40 : decode cX11_ends 40 = .ok (.iaload, 1) := by decide +kernel
theorem dX11_ends_41 : decode cX11_ends 41 = .ok (.dup2, 1) := by decide +kernel
theorem dX11_ends_42 : decode cX11_ends 42 = .ok (.iaload, 1) := by decide +kernel
theorem dX11_ends_43 : decode cX11_ends 43 = .ok (.aload_n 0, 1) := by decide +kernel
theorem dX11_ends_44 : decode cX11_ends 44 = .ok (.getfield 99, 3) := by decide +kernel
theorem dX11_ends_47 : decode cX11_ends 47 = .ok (.iload_n 1, 1) := by decide +kernel
theorem dX11_ends_48 : decode cX11_ends 48 = .ok (.iaload, 1) := by decide +kernel
theorem dX11_ends_49 : decode cX11_ends 49 = .ok (.isub, 1) := by decide +kernel
theorem dX11_ends_50 : decode cX11_ends 50 = .ok (.iastore, 1) := by decide +kernel
theorem dX11_ends_51 : decode cX11_ends 51 = .ok (.aload_n 0, 1) := by decide +kernel
theorem dX11_ends_52 : decode cX11_ends 52 = .ok (.getfield 32, 3) := by decide +kernel
theorem dX11_ends_55 : decode cX11_ends 55 = .ok (.aload_n 0, 1) := by decide +kernel
theorem dX11_ends_56 : decode cX11_ends 56 = .ok (.getfield 96, 3) := by decide +kernel
theorem dX11_ends_59 : decode cX11_ends 59 = .ok (.iload_n 1, 1) := by decide +kernel
theorem dX11_ends_60 : decode cX11_ends 60 = .ok (.iaload, 1) := by decide +kernel
theorem dX11_ends_61 : decode cX11_ends 61 = .ok (.dup2, 1) := by decide +kernel
theorem dX11_ends_62 : decode cX11_ends 62 = .ok (.iaload, 1) := by decide +kernel
theorem dX11_ends_63 : decode cX11_ends 63 = .ok (.aload_n 0, 1) := by decide +kernel
theorem dX11_ends_64 : decode cX11_ends 64 = .ok (.getfield 99, 3) := by decide +kernel
theorem dX11_ends_67 : decode cX11_ends 67 = .ok (.iload_n 1, 1) := by decide +kernel
theorem dX11_ends_68 : decode cX11_ends 68 = .ok (.iaload, 1) := by decide +kernel
theorem dX11_ends_69 : decode cX11_ends 69 = .ok (.iadd, 1) := by decide +kernel
theorem dX11_ends_70 : decode cX11_ends 70 = .ok (.iastore, 1) := by decide +kernel
theorem dX11_ends_71 : decode cX11_ends 71 = .ok (.iinc 1 1, 3) := by decide +kernel
theorem dX11_ends_74 : decode cX11_ends 74 = .ok (.goto (-67), 3) := by decide +kernel
theorem dX11_ends_77 : decode cX11_ends 77 = .ok (.aload_n 0, 1) := by decide +kernel
theorem dX11_ends_78 : decode cX11_ends 78 = .ok (.iconst 0, 1) := by decide +kernel
theorem dX11_ends_79 : decode cX11_ends 79 = .ok (.putfield 282, 3) := by decide +kernel
theorem dX11_ends_82 : decode cX11_ends 82 = .ok (.return_, 1) := by decide +kernel
theorem dX11_race_0 : decode cX11_race 0 = .ok (.aload_n 0, 1) := by decide +kernel
theorem dX11_race_1 : decode cX11_race 1 = .ok (.iconst 0, 1) := by decide +kernel
theorem dX11_race_2 : decode cX11_race 2 = .ok (.putfield 102, 3) := by decide +kernel
theorem dX11_race_5 : decode cX11_race 5 = .ok (.aload_n 0, 1) := by decide +kernel
theorem dX11_race_6 : decode cX11_race 6 = .ok (.getfield 190, 3) := by decide +kernel
theorem dX11_race_9 : decode cX11_race 9 = .ok (.iconst 4, 1) := by decide +kernel
theorem dX11_race_10 : decode cX11_race 10 = .ok (.if_icmp .lt 11, 3) := by decide +kernel
theorem dX11_race_13 : decode cX11_race 13 = .ok (.aload_n 0, 1) := by decide +kernel
theorem dX11_race_14 : decode cX11_race 14 = .ok (.iload_n 1, 1) := by decide +kernel
theorem dX11_race_15 : decode cX11_race 15 = .ok (.invokevirtual 230, 3) := by decide +kernel
theorem dX11_race_18 : decode cX11_race 18 = .ok (.ifCond .ne 6, 3) := by decide +kernel
theorem dX11_race_21 : decode cX11_race 21 = .ok (.bipush (-100), 2) := by decide +kernel
theorem dX11_race_23 : decode cX11_race 23 = .ok (.ireturn, 1) := by decide +kernel
theorem dX11_race_24 : decode cX11_race 24 = .ok (.iload_n 2, 1) := by decide +kernel
theorem dX11_race_25 : decode cX11_race 25 = .ok (.tableswitch 89 0 5 #[39, 46, 53, 60, 75, 82], 39) := by decide +kernel
theorem dX11_race_64 : decode cX11_race 64 = .ok (.aload_n 0, 1) := by decide +kernel
theorem dX11_race_65 : decode cX11_race 65 = .ok (.getfield 69, 3) := by decide +kernel
theorem dX11_race_68 : decode cX11_race 68 = .ok (.iload_n 1, 1) := by decide +kernel
theorem dX11_race_69 : decode cX11_race 69 = .ok (.iaload, 1) := by decide +kernel
theorem dX11_race_70 : decode cX11_race 70 = .ok (.ireturn, 1) := by decide +kernel
theorem dX11_race_71 : decode cX11_race 71 = .ok (.aload_n 0, 1) := by decide +kernel
theorem dX11_race_72 : decode cX11_race 72 = .ok (.getfield 72, 3) := by decide +kernel
theorem dX11_race_75 : decode cX11_race 75 = .ok (.iload_n 1, 1) := by decide +kernel
theorem dX11_race_76 : decode cX11_race 76 = .ok (.iaload, 1) := by decide +kernel
theorem dX11_race_77 : decode cX11_race 77 = .ok (.ireturn, 1) := by decide +kernel
theorem dX11_race_78 : decode cX11_race 78 = .ok (.aload_n 0, 1) := by decide +kernel
theorem dX11_race_79 : decode cX11_race 79 = .ok (.getfield 75, 3) := by decide +kernel
theorem dX11_race_82 : decode cX11_race 82 = .ok (.iload_n 1, 1) := by decide +kernel
theorem dX11_race_83 : decode cX11_race 83 = .ok (.iaload, 1) := by decide +kernel
theorem dX11_race_84 : decode cX11_race 84 = .ok (.ireturn, 1) := by decide +kernel
theorem dX11_race_85 : decode cX11_race 85 = .ok (.aload_n 0, 1) := by decide +kernel
theorem dX11_race_86 : decode cX11_race 86 = .ok (.getfield 78, 3) := by decide +kernel
theorem dX11_race_89 : decode cX11_race 89 = .ok (.iload_n 1, 1) := by decide +kernel
theorem dX11_race_90 : decode cX11_race 90 = .ok (.baload, 1) := by decide +kernel
theorem dX11_race_91 : decode cX11_race 91 = .ok (.ifCond .eq 7, 3) := by decide +kernel
theorem dX11_race_94 : decode cX11_race 94 = .ok (.iconst 1, 1) := by decide +kernel
theorem dX11_race_95 : decode cX11_race 95 = .ok (.goto 4, 3) := by decide +kernel
theorem dX11_race_98 : decode cX11_race 98 = .ok (.iconst 0, 1) := by decide +kernel
theorem dX11_race_99 : decode cX11_race 99 = .ok (.ireturn, 1) := by decide +kernel
theorem dX11_race_100 : decode cX11_race 100 = .ok (.aload_n 0, 1) := by decide +kernel
theorem dX11_race_101 : decode cX11_race 101 = .ok (.getfield 81, 3) := by decide +kernel
theorem dX11_race_104 : decode cX11_race 104 = .ok (.iload_n 1, 1) := by decide +kernel
theorem dX11_race_105 : decode cX11_race 105 = .ok (.iaload, 1) := by decide +kernel
theorem dX11_race_106 : decode cX11_race 106 = .ok (.ireturn, 1) := by decide +kernel
theorem dX11_race_107 : decode cX11_race 107 = .ok (.aload_n 0, 1) := by decide +kernel
theorem dX11_race_108 : decode cX11_race 108 = .ok (.getfield 84, 3) := by decide +kernel
theorem dX11_race_111 : decode cX11_race 111 = .ok (.iload_n 1, 1) := by decide +kernel
theorem dX11_race_112 : decode cX11_race 112 = .ok (.iaload, 1) := by decide +kernel
theorem dX11_race_113 : decode cX11_race 113 = .ok (.ireturn, 1) := by decide +kernel
theorem dX11_race_114 : decode cX11_race 114 = .ok (.bipush (-100), 2) := by decide +kernel
theorem dX11_race_116 : decode cX11_race 116 = .ok (.ireturn, 1) := by decide +kernel
theorem dX11_won_0 : decode cX11_won 0 = .ok (.aload_n 0, 1) := by decide +kernel
theorem dX11_won_1 : decode cX11_won 1 = .ok (.iconst 0, 1) := by decide +kernel
theorem dX11_won_2 : decode cX11_won 2 = .ok (.putfield 102, 3) := by decide +kernel
theorem dX11_won_5 : decode cX11_won 5 = .ok (.aload_n 0, 1) := by decide +kernel
theorem dX11_won_6 : decode cX11_won 6 = .ok (.getfield 190, 3) := by decide +kernel
theorem dX11_won_9 : decode cX11_won 9 = .ok (.iconst 4, 1) := by decide +kernel
theorem dX11_won_10 : decode cX11_won 10 = .ok (.if_icmp .lt 10, 3) := by decide +kernel
theorem dX11_won_13 : decode cX11_won 13 = .ok (.aload_n 0, 1) := by decide +kernel
theorem dX11_won_14 : decode cX11_won 14 = .ok (.getfield 87, 3) := by decide +kernel
theorem dX11_won_17 : decode cX11_won 17 = .ok (.goto 4, 3) := by decide +kernel
theorem dX11_won_20 : decode cX11_won 20 = .ok (.iconst (-1), 1) := by decide +kernel
theorem dX11_won_21 : decode cX11_won 21 = .ok (.ireturn, 1) := by decide +kernel
theorem dX11_pact_0 : decode cX11_pact 0 = .ok (.aload_n 0, 1) := by decide +kernel
theorem dX11_pact_1 : decode cX11_pact 1 = .ok (.iconst 0, 1) := by decide +kernel
theorem dX11_pact_2 : decode cX11_pact 2 = .ok (.putfield 102, 3) := by decide +kernel
theorem dX11_pact_5 : decode cX11_pact 5 = .ok (.aload_n 0, 1) := by decide +kernel
theorem dX11_pact_6 : decode cX11_pact 6 = .ok (.iload_n 1, 1) := by decide +kernel
theorem dX11_pact_7 : decode cX11_pact 7 = .ok (.invokevirtual 227, 3) := by decide +kernel
theorem dX11_pact_10 : decode cX11_pact 10 = .ok (.ifCond .eq 37, 3) := by decide +kernel
theorem dX11_pact_13 : decode cX11_pact 13 = .ok (.aload_n 0, 1) := by decide +kernel
theorem dX11_pact_14 : decode cX11_pact 14 = .ok (.iload_n 2, 1) := by decide +kernel
theorem dX11_pact_15 : decode cX11_pact 15 = .ok (.invokevirtual 227, 3) := by decide +kernel
theorem dX11_pact_18 : decode cX11_pact 18 = .ok (.ifCond .eq 29, 3) := by decide +kernel
theorem dX11_pact_21 : decode cX11_pact 21 = .ok (.iload_n 1, 1) := by decide +kernel
theorem dX11_pact_22 : decode cX11_pact 22 = .ok (.iload_n 2, 1) := by decide +kernel
theorem dX11_pact_23 : decode cX11_pact 23 = .ok (.if_icmp .eq 24, 3) := by decide +kernel
theorem dX11_pact_26 : decode cX11_pact 26 = .ok (.iload_n 3, 1) := by decide +kernel
theorem dX11_pact_27 : decode cX11_pact 27 = .ok (.iconst 1, 1) := by decide +kernel
theorem dX11_pact_28 : decode cX11_pact 28 = .ok (.if_icmp .lt 19, 3) := by decide +kernel
theorem dX11_pact_31 : decode cX11_pact 31 = .ok (.iload_n 3, 1) := by decide +kernel
theorem dX11_pact_32 : decode cX11_pact 32 = .ok (.sipush 9999, 3) := by decide +kernel
theorem dX11_pact_35 : decode cX11_pact 35 = .ok (.if_icmp .gt 12, 3) := by decide +kernel
theorem dX11_pact_38 : decode cX11_pact 38 = .ok (.aload_n 0, 1) := by decide +kernel
theorem dX11_pact_39 : decode cX11_pact 39 = .ok (.getfield 282, 3) := by decide +kernel
theorem dX11_pact_42 : decode cX11_pact 42 = .ok (.bipush 40, 2) := by decide +kernel
theorem dX11_pact_44 : decode cX11_pact 44 = .ok (.if_icmp .ne 5, 3) := by decide +kernel
theorem dX11_pact_47 : decode cX11_pact 47 = .ok (.iconst (-1), 1) := by decide +kernel
theorem dX11_pact_48 : decode cX11_pact 48 = .ok (.ireturn, 1) := by decide +kernel
theorem dX11_pact_49 : decode cX11_pact 49 = .ok (.aload_n 0, 1) := by decide +kernel
theorem dX11_pact_50 : decode cX11_pact 50 = .ok (.getfield 93, 3) := by decide +kernel
theorem dX11_pact_53 : decode cX11_pact 53 = .ok (.aload_n 0, 1) := by decide +kernel
theorem dX11_pact_54 : decode cX11_pact 54 = .ok (.getfield 282, 3) := by decide +kernel
theorem dX11_pact_57 : decode cX11_pact 57 = .ok (.iload_n 1, 1) := by decide +kernel
theorem dX11_pact_58 : decode cX11_pact 58 = .ok (.iastore, 1) := by decide +kernel
theorem dX11_pact_59 : decode cX11_pact 59 = .ok (.aload_n 0, 1) := by decide +kernel
theorem dX11_pact_60 : decode cX11_pact 60 = .ok (.getfield 96, 3) := by decide +kernel
theorem dX11_pact_63 : decode cX11_pact 63 = .ok (.aload_n 0, 1) := by decide +kernel
theorem dX11_pact_64 : decode cX11_pact 64 = .ok (.getfield 282, 3) := by decide +kernel
theorem dX11_pact_67 : decode cX11_pact 67 = .ok (.iload_n 2, 1) := by decide +kernel
theorem dX11_pact_68 : decode cX11_pact 68 = .ok (.iastore, 1) := by decide +kernel
theorem dX11_pact_69 : decode cX11_pact 69 = .ok (.aload_n 0, 1) := by decide +kernel
theorem dX11_pact_70 : decode cX11_pact 70 = .ok (.getfield 99, 3) := by decide +kernel
theorem dX11_pact_73 : decode cX11_pact 73 = .ok (.aload_n 0, 1) := by decide +kernel
theorem dX11_pact_74 : decode cX11_pact 74 = .ok (.getfield 282, 3) := by decide +kernel
theorem dX11_pact_77 : decode cX11_pact 77 = .ok (.iload_n 3, 1) := by decide +kernel
theorem dX11_pact_78 : decode cX11_pact 78 = .ok (.iastore, 1) := by decide +kernel
theorem dX11_pact_79 : decode cX11_pact 79 = .ok (.aload_n 0, 1) := by decide +kernel
theorem dX11_pact_80 : decode cX11_pact 80 = .ok (.dup, 1) := by decide +kernel
theorem dX11_pact_81 : decode cX11_pact 81 = .ok (.getfield 282, 3) := by decide +kernel
theorem dX11_pact_84 : decode cX11_pact 84 = .ok (.iconst 1, 1) := by decide +kernel
theorem dX11_pact_85 : decode cX11_pact 85 = .ok (.iadd, 1) := by decide +kernel
theorem dX11_pact_86 : decode cX11_pact 86 = .ok (.putfield 282, 3) := by decide +kernel
theorem dX11_pact_89 : decode cX11_pact 89 = .ok (.aload_n 0, 1) := by decide +kernel
theorem dX11_pact_90 : decode cX11_pact 90 = .ok (.getfield 282, 3) := by decide +kernel
theorem dX11_pact_93 : decode cX11_pact 93 = .ok (.ireturn, 1) := by decide +kernel
theorem dX11_punish_0 : decode cX11_punish 0 = .ok (.aload_n 0, 1) := by decide +kernel
theorem dX11_punish_1 : decode cX11_punish 1 = .ok (.iconst 0, 1) := by decide +kernel
theorem dX11_punish_2 : decode cX11_punish 2 = .ok (.putfield 102, 3) := by decide +kernel
theorem dX11_punish_5 : decode cX11_punish 5 = .ok (.aload_n 0, 1) := by decide +kernel
theorem dX11_punish_6 : decode cX11_punish 6 = .ok (.getfield 190, 3) := by decide +kernel
theorem dX11_punish_9 : decode cX11_punish 9 = .ok (.iconst 5, 1) := by decide +kernel
theorem dX11_punish_10 : decode cX11_punish 10 = .ok (.if_icmp .ne 11, 3) := by decide +kernel
theorem dX11_punish_13 : decode cX11_punish 13 = .ok (.aload_n 0, 1) := by decide +kernel
theorem dX11_punish_14 : decode cX11_punish 14 = .ok (.iload_n 1, 1) := by decide +kernel
theorem dX11_punish_15 : decode cX11_punish 15 = .ok (.invokevirtual 230, 3) := by decide +kernel
theorem dX11_punish_18 : decode cX11_punish 18 = .ok (.ifCond .ne 6, 3) := by decide +kernel
theorem dX11_punish_21 : decode cX11_punish 21 = .ok (.bipush (-2), 2) := by decide +kernel
theorem dX11_punish_23 : decode cX11_punish 23 = .ok (.ireturn, 1) := by decide +kernel
theorem dX11_punish_24 : decode cX11_punish 24 = .ok (.aload_n 0, 1) := by decide +kernel
theorem dX11_punish_25 : decode cX11_punish 25 = .ok (.iconst 4, 1) := by decide +kernel
theorem dX11_punish_26 : decode cX11_punish 26 = .ok (.aload_n 0, 1) := by decide +kernel
theorem dX11_punish_27 : decode cX11_punish 27 = .ok (.getfield 187, 3) := by decide +kernel
theorem dX11_punish_30 : decode cX11_punish 30 = .ok (.invokevirtual 173, 3) := by decide +kernel
theorem dX11_punish_33 : decode cX11_punish 33 = .ok (.istore_n 2, 1) := by decide +kernel
theorem dX11_punish_34 : decode cX11_punish 34 = .ok (.iload_n 2, 1) := by decide +kernel
theorem dX11_punish_35 : decode cX11_punish 35 = .ok (.ifCond .le 24, 3) := by decide +kernel
theorem dX11_punish_38 : decode cX11_punish 38 = .ok (.aload_n 0, 1) := by decide +kernel
theorem dX11_punish_39 : decode cX11_punish 39 = .ok (.getfield 26, 3) := by decide +kernel
theorem dX11_punish_42 : decode cX11_punish 42 = .ok (.iload_n 1, 1) := by decide +kernel
theorem dX11_punish_43 : decode cX11_punish 43 = .ok (.aload_n 0, 1) := by decide +kernel
theorem dX11_punish_44 : decode cX11_punish 44 = .ok (.getfield 26, 3) := by decide +kernel
theorem dX11_punish_47 : decode cX11_punish 47 = .ok (.iload_n 1, 1) := by decide +kernel
theorem dX11_punish_48 : decode cX11_punish 48 = .ok (.iaload, 1) := by decide +kernel
theorem dX11_punish_49 : decode cX11_punish 49 = .ok (.aload_n 0, 1) := by decide +kernel
theorem dX11_punish_50 : decode cX11_punish 50 = .ok (.getfield 187, 3) := by decide +kernel
theorem dX11_punish_53 : decode cX11_punish 53 = .ok (.iload_n 2, 1) := by decide +kernel
theorem dX11_punish_54 : decode cX11_punish 54 = .ok (.iadd, 1) := by decide +kernel
theorem dX11_punish_55 : decode cX11_punish 55 = .ok (.invokestatic 221, 3) := by decide +kernel
theorem dX11_punish_58 : decode cX11_punish 58 = .ok (.iastore, 1) := by decide +kernel
theorem dX11_punish_59 : decode cX11_punish 59 = .ok (.aload_n 0, 1) := by decide +kernel
theorem dX11_punish_60 : decode cX11_punish 60 = .ok (.getfield 26, 3) := by decide +kernel
theorem dX11_punish_63 : decode cX11_punish 63 = .ok (.iload_n 1, 1) := by decide +kernel
theorem dX11_punish_64 : decode cX11_punish 64 = .ok (.iaload, 1) := by decide +kernel
theorem dX11_punish_65 : decode cX11_punish 65 = .ok (.ireturn, 1) := by decide +kernel
theorem dX11_next_0 : decode cX11_next 0 = .ok (.aload_n 0, 1) := by decide +kernel
theorem dX11_next_1 : decode cX11_next 1 = .ok (.iconst 0, 1) := by decide +kernel
theorem dX11_next_2 : decode cX11_next 2 = .ok (.putfield 102, 3) := by decide +kernel
theorem dX11_next_5 : decode cX11_next 5 = .ok (.aload_n 0, 1) := by decide +kernel
theorem dX11_next_6 : decode cX11_next 6 = .ok (.getfield 190, 3) := by decide +kernel
theorem dX11_next_9 : decode cX11_next 9 = .ok (.iconst 4, 1) := by decide +kernel
theorem dX11_next_10 : decode cX11_next 10 = .ok (.if_icmp .eq 12, 3) := by decide +kernel
theorem dX11_next_13 : decode cX11_next 13 = .ok (.aload_n 0, 1) := by decide +kernel
theorem dX11_next_14 : decode cX11_next 14 = .ok (.getfield 187, 3) := by decide +kernel
theorem dX11_next_17 : decode cX11_next 17 = .ok (.bipush 99, 2) := by decide +kernel
theorem dX11_next_19 : decode cX11_next 19 = .ok (.if_icmp .ne 5, 3) := by decide +kernel
theorem dX11_next_22 : decode cX11_next 22 = .ok (.iconst (-1), 1) := by decide +kernel
theorem dX11_next_23 : decode cX11_next 23 = .ok (.ireturn, 1) := by decide +kernel
theorem dX11_next_24 : decode cX11_next 24 = .ok (.aload_n 0, 1) := by decide +kernel
theorem dX11_next_25 : decode cX11_next 25 = .ok (.dup, 1) := by decide +kernel
theorem dX11_next_26 : decode cX11_next 26 = .ok (.getfield 187, 3) := by decide +kernel
theorem dX11_next_29 : decode cX11_next 29 = .ok (.iconst 1, 1) := by decide +kernel
theorem dX11_next_30 : decode cX11_next 30 = .ok (.iadd, 1) := by decide +kernel
theorem dX11_next_31 : decode cX11_next 31 = .ok (.putfield 187, 3) := by decide +kernel
theorem dX11_next_34 : decode cX11_next 34 = .ok (.aload_n 0, 1) := by decide +kernel
theorem dX11_next_35 : decode cX11_next 35 = .ok (.iconst 0, 1) := by decide +kernel
theorem dX11_next_36 : decode cX11_next 36 = .ok (.putfield 190, 3) := by decide +kernel
theorem dX11_next_39 : decode cX11_next 39 = .ok (.aload_n 0, 1) := by decide +kernel
theorem dX11_next_40 : decode cX11_next 40 = .ok (.iconst 0, 1) := by decide +kernel
theorem dX11_next_41 : decode cX11_next 41 = .ok (.putfield 249, 3) := by decide +kernel
theorem dX11_next_44 : decode cX11_next 44 = .ok (.iconst 0, 1) := by decide +kernel
theorem dX11_next_45 : decode cX11_next 45 = .ok (.istore_n 1, 1) := by decide +kernel
theorem dX11_next_46 : decode cX11_next 46 = .ok (.iload_n 1, 1) := by decide +kernel
theorem dX11_next_47 : decode cX11_next 47 = .ok (.bipush 17, 2) := by decide +kernel
theorem dX11_next_49 : decode cX11_next 49 = .ok (.if_icmp .ge 23, 3) := by decide +kernel
theorem dX11_next_52 : decode cX11_next 52 = .ok (.aload_n 0, 1) := by decide +kernel
theorem dX11_next_53 : decode cX11_next 53 = .ok (.getfield 29, 3) := by decide +kernel
theorem dX11_next_56 : decode cX11_next 56 = .ok (.iload_n 1, 1) := by decide +kernel
theorem dX11_next_57 : decode cX11_next 57 = .ok (.iconst 0, 1) := by decide +kernel
theorem dX11_next_58 : decode cX11_next 58 = .ok (.iastore, 1) := by decide +kernel
theorem dX11_next_59 : decode cX11_next 59 = .ok (.aload_n 0, 1) := by decide +kernel
theorem dX11_next_60 : decode cX11_next 60 = .ok (.getfield 38, 3) := by decide +kernel
theorem dX11_next_63 : decode cX11_next 63 = .ok (.iload_n 1, 1) := by decide +kernel
theorem dX11_next_64 : decode cX11_next 64 = .ok (.iconst 0, 1) := by decide +kernel
theorem dX11_next_65 : decode cX11_next 65 = .ok (.bastore, 1) := by decide +kernel
theorem dX11_next_66 : decode cX11_next 66 = .ok (.iinc 1 1, 3) := by decide +kernel
theorem dX11_next_69 : decode cX11_next 69 = .ok (.goto (-23), 3) := by decide +kernel
theorem dX11_next_72 : decode cX11_next 72 = .ok (.aload_n 0, 1) := by decide +kernel
theorem dX11_next_73 : decode cX11_next 73 = .ok (.getfield 187, 3) := by decide +kernel
theorem dX11_next_76 : decode cX11_next 76 = .ok (.ireturn, 1) := by decide +kernel
theorem dX11_count_0 : decode cX11_count 0 = .ok (.aload_n 0, 1) := by decide +kernel
theorem dX11_count_1 : decode cX11_count 1 = .ok (.iconst 0, 1) := by decide +kernel
theorem dX11_count_2 : decode cX11_count 2 = .ok (.putfield 102, 3) := by decide +kernel
theorem dX11_count_5 : decode cX11_count 5 = .ok (.iload_n 1, 1) := by decide +kernel
theorem dX11_count_6 : decode cX11_count 6 = .ok (.tableswitch 86 0 7 #[46, 51, 56, 61, 66, 71, 76, 81], 46) := by decide +kernel
theorem dX11_count_52 : decode cX11_count 52 = .ok (.aload_n 0, 1) := by decide +kernel
theorem dX11_count_53 : decode cX11_count 53 = .ok (.getfield 187, 3) := by decide +kernel
theorem dX11_count_56 : decode cX11_count 56 = .ok (.ireturn, 1) := by decide +kernel
theorem dX11_count_57 : decode cX11_count 57 = .ok (.aload_n 0, 1) := by decide +kernel
theorem dX11_count_58 : decode cX11_count 58 = .ok (.getfield 190, 3) := by decide +kernel
theorem dX11_count_61 : decode cX11_count 61 = .ok (.ireturn, 1) := by decide +kernel
theorem dX11_count_62 : decode cX11_count 62 = .ok (.aload_n 0, 1) := by decide +kernel
theorem dX11_count_63 : decode cX11_count 63 = .ok (.getfield 249, 3) := by decide +kernel
theorem dX11_count_66 : decode cX11_count 66 = .ok (.ireturn, 1) := by decide +kernel
theorem dX11_count_67 : decode cX11_count 67 = .ok (.aload_n 0, 1) := by decide +kernel
theorem dX11_count_68 : decode cX11_count 68 = .ok (.getfield 177, 3) := by decide +kernel
theorem dX11_count_71 : decode cX11_count 71 = .ok (.ireturn, 1) := by decide +kernel
theorem dX11_count_72 : decode cX11_count 72 = .ok (.aload_n 0, 1) := by decide +kernel
theorem dX11_count_73 : decode cX11_count 73 = .ok (.getfield 180, 3) := by decide +kernel
theorem dX11_count_76 : decode cX11_count 76 = .ok (.ireturn, 1) := by decide +kernel
theorem dX11_count_77 : decode cX11_count 77 = .ok (.aload_n 0, 1) := by decide +kernel
theorem dX11_count_78 : decode cX11_count 78 = .ok (.getfield 282, 3) := by decide +kernel
theorem dX11_count_81 : decode cX11_count 81 = .ok (.ireturn, 1) := by decide +kernel
theorem dX11_count_82 : decode cX11_count 82 = .ok (.aload_n 0, 1) := by decide +kernel
theorem dX11_count_83 : decode cX11_count 83 = .ok (.getfield 164, 3) := by decide +kernel
theorem dX11_count_86 : decode cX11_count 86 = .ok (.ireturn, 1) := by decide +kernel
theorem dX11_count_87 : decode cX11_count 87 = .ok (.aload_n 0, 1) := by decide +kernel
theorem dX11_count_88 : decode cX11_count 88 = .ok (.getfield 63, 3) := by decide +kernel
theorem dX11_count_91 : decode cX11_count 91 = .ok (.ireturn, 1) := by decide +kernel
theorem dX11_count_92 : decode cX11_count 92 = .ok (.iconst (-1), 1) := by decide +kernel
theorem dX11_count_93 : decode cX11_count 93 = .ok (.ireturn, 1) := by decide +kernel
