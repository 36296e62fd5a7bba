theorem dX0_init_0 : decode cX0_init 0 = .ok (.aload_n 0, 1) := by decide +kernel
theorem dX0_init_1 : decode cX0_init 1 = .ok (.invokespecial 3, 3) := by decide +kernel
theorem dX0_init_4 : decode cX0_init 4 = .ok (.aload_n 0, 1) := by decide +kernel
theorem dX0_init_5 : decode cX0_init 5 = .ok (.bipush 12, 2) := by decide +kernel
theorem dX0_init_7 : decode cX0_init 7 = .ok (.newarray .int, 2) := by decide +kernel
theorem dX0_init_9 : decode cX0_init 9 = .ok (.putfield 9, 3) := by decide +kernel
theorem dX0_init_12 : decode cX0_init 12 = .ok (.aload_n 0, 1) := by decide +kernel
theorem dX0_init_13 : decode cX0_init 13 = .ok (.bipush 12, 2) := by decide +kernel
theorem dX0_init_15 : decode cX0_init 15 = .ok (.newarray .int, 2) := by decide +kernel
theorem dX0_init_17 : decode cX0_init 17 = .ok (.putfield 15, 3) := by decide +kernel
theorem dX0_init_20 : decode cX0_init 20 = .ok (.return_, 1) := by decide +kernel
theorem dX0_plot_0 : decode cX0_plot 0 = .ok (.iconst 0, 1) := by decide +kernel
theorem dX0_plot_1 : decode cX0_plot 1 = .ok (.istore 5, 2) := by decide +kernel
theorem dX0_plot_3 : decode cX0_plot 3 = .ok (.iload 5, 2) := by decide +kernel
theorem dX0_plot_5 : decode cX0_plot 5 = .ok (.bipush 12, 2) := by decide +kernel
theorem dX0_plot_7 : decode cX0_plot 7 = .ok (.if_icmp .ge 25, 3) := by decide +kernel
theorem dX0_plot_10 : decode cX0_plot 10 = .ok (.aload_n 0, 1) := by decide +kernel
theorem dX0_plot_11 : decode cX0_plot 11 = .ok (.getfield 9, 3) := by decide +kernel
theorem dX0_plot_14 : decode cX0_plot 14 = .ok (.iload 5, 2) := by decide +kernel
theorem dX0_plot_16 : decode cX0_plot 16 = .ok (.iconst (-1), 1) := by decide +kernel
theorem dX0_plot_17 : decode cX0_plot 17 = .ok (.iastore, 1) := by decide +kernel
theorem dX0_plot_18 : decode cX0_plot 18 = .ok (.aload_n 0, 1) := by decide +kernel
theorem dX0_plot_19 : decode cX0_plot 19 = .ok (.getfield 15, 3) := by decide +kernel
theorem dX0_plot_22 : decode cX0_plot 22 = .ok (.iload 5, 2) := by decide +kernel
theorem dX0_plot_24 : decode cX0_plot 24 = .ok (.iconst (-1), 1) := by decide +kernel
theorem dX0_plot_25 : decode cX0_plot 25 = .ok (.iastore, 1) := by decide +kernel
theorem dX0_plot_26 : decode cX0_plot 26 = .ok (.iinc 5 1, 3) := by decide +kernel
theorem dX0_plot_29 : decode cX0_plot 29 = .ok (.goto (-26), 3) := by decide +kernel
theorem dX0_plot_32 : decode cX0_plot 32 = .ok (.iload_n 3, 1) := by decide +kernel
theorem dX0_plot_33 : decode cX0_plot 33 = .ok (.invokestatic 18, 3) := by decide +kernel
theorem dX0_plot_36 : decode cX0_plot 36 = .ok (.ifCond .ne 4, 3) := by decide +kernel
theorem dX0_plot_39 : decode cX0_plot 39 = .ok (.return_, 1) := by decide +kernel
theorem dX0_plot_40 : decode cX0_plot 40 = .ok (.aload_n 0, 1) := by decide +kernel
theorem dX0_plot_41 : decode cX0_plot 41 = .ok (.getfield 9, 3) := by decide +kernel
theorem dX0_plot_44 : decode cX0_plot 44 = .ok (.iload_n 3, 1) := by decide +kernel
theorem dX0_plot_45 : decode cX0_plot 45 = .ok (.iload 4, 2) := by decide +kernel
theorem dX0_plot_47 : decode cX0_plot 47 = .ok (.iastore, 1) := by decide +kernel
theorem dX0_plot_48 : decode cX0_plot 48 = .ok (.iconst 0, 1) := by decide +kernel
theorem dX0_plot_49 : decode cX0_plot 49 = .ok (.istore 5, 2) := by decide +kernel
theorem dX0_plot_51 : decode cX0_plot 51 = .ok (.iload_n 3, 1) := by decide +kernel
theorem dX0_plot_52 : decode cX0_plot 52 = .ok (.istore 6, 2) := by decide +kernel
theorem dX0_plot_54 : decode cX0_plot 54 = .ok (.iconst 0, 1) := by decide +kernel
theorem dX0_plot_55 : decode cX0_plot 55 = .ok (.istore 7, 2) := by decide +kernel
theorem dX0_plot_57 : decode cX0_plot 57 = .ok (.iload 7, 2) := by decide +kernel
theorem dX0_plot_59 : decode cX0_plot 59 = .ok (.bipush 12, 2) := by decide +kernel
theorem dX0_plot_61 : decode cX0_plot 61 = .ok (.if_icmp .ge 40, 3) := by decide +kernel
theorem dX0_plot_64 : decode cX0_plot 64 = .ok (.iload 6, 2) := by decide +kernel
theorem dX0_plot_66 : decode cX0_plot 66 = .ok (.iconst (-1), 1) := by decide +kernel
theorem dX0_plot_67 : decode cX0_plot 67 = .ok (.if_icmp .eq 34, 3) := by decide +kernel
theorem dX0_plot_70 : decode cX0_plot 70 = .ok (.iload 5, 2) := by decide +kernel
theorem dX0_plot_72 : decode cX0_plot 72 = .ok (.iconst 1, 1) := by decide +kernel
theorem dX0_plot_73 : decode cX0_plot 73 = .ok (.iload 6, 2) := by decide +kernel
theorem dX0_plot_75 : decode cX0_plot 75 = .ok (.ishl, 1) := by decide +kernel
theorem dX0_plot_76 : decode cX0_plot 76 = .ok (.ior, 1) := by decide +kernel
theorem dX0_plot_77 : decode cX0_plot 77 = .ok (.istore 5, 2) := by decide +kernel
theorem dX0_plot_79 : decode cX0_plot 79 = .ok (.aload_n 0, 1) := by decide +kernel
theorem dX0_plot_80 : decode cX0_plot 80 = .ok (.aload_n 1, 1) := by decide +kernel
theorem dX0_plot_81 : decode cX0_plot 81 = .ok (.aload_n 2, 1) := by decide +kernel
theorem dX0_plot_82 : decode cX0_plot 82 = .ok (.iload 6, 2) := by decide +kernel
theorem dX0_plot_84 : decode cX0_plot 84 = .ok (.invokevirtual 22, 3) := by decide +kernel
theorem dX0_plot_87 : decode cX0_plot 87 = .ok (.aload_n 0, 1) := by decide +kernel
theorem dX0_plot_88 : decode cX0_plot 88 = .ok (.iload 5, 2) := by decide +kernel
theorem dX0_plot_90 : decode cX0_plot 90 = .ok (.invokevirtual 26, 3) := by decide +kernel
theorem dX0_plot_93 : decode cX0_plot 93 = .ok (.istore 6, 2) := by decide +kernel
theorem dX0_plot_95 : decode cX0_plot 95 = .ok (.iinc 7 1, 3) := by decide +kernel
theorem dX0_plot_98 : decode cX0_plot 98 = .ok (.goto (-41), 3) := by decide +kernel
theorem dX0_plot_101 : decode cX0_plot 101 = .ok (.return_, 1) := by decide +kernel
theorem dX0_hourAt_0 : decode cX0_hourAt 0 = .ok (.iload_n 1, 1) := by decide +kernel
theorem dX0_hourAt_1 : decode cX0_hourAt 1 = .ok (.invokestatic 18, 3) := by decide +kernel
theorem dX0_hourAt_4 : decode cX0_hourAt 4 = .ok (.ifCond .eq 12, 3) := by decide +kernel
theorem dX0_hourAt_7 : decode cX0_hourAt 7 = .ok (.aload_n 0, 1) := by decide +kernel
theorem dX0_hourAt_8 : decode cX0_hourAt 8 = .ok (.getfield 9, 3) := by decide +kernel
theorem dX0_hourAt_11 : decode cX0_hourAt 11 = .ok (.iload_n 1, 1) := by decide +kernel
theorem dX0_hourAt_12 : decode cX0_hourAt 12 = .ok (.iaload, 1) := by decide +kernel
theorem dX0_hourAt_13 : decode cX0_hourAt 13 = .ok (.goto 4, 3) := by decide +kernel
theorem dX0_hourAt_16 : decode cX0_hourAt 16 = .ok (.iconst (-1), 1) := by decide +kernel
theorem dX0_hourAt_17 : decode cX0_hourAt 17 = .ok (.ireturn, 1) := by decide +kernel
theorem dX0_firstWayTo_0 : decode cX0_firstWayTo 0 = .ok (.iload_n 1, 1) := by decide +kernel
theorem dX0_firstWayTo_1 : decode cX0_firstWayTo 1 = .ok (.invokestatic 18, 3) := by decide +kernel
theorem dX0_firstWayTo_4 : decode cX0_firstWayTo 4 = .ok (.ifCond .eq 12, 3) := by decide +kernel
theorem dX0_firstWayTo_7 : decode cX0_firstWayTo 7 = .ok (.aload_n 0, 1) := by decide +kernel
theorem dX0_firstWayTo_8 : decode cX0_firstWayTo 8 = .ok (.getfield 15, 3) := by decide +kernel
theorem dX0_firstWayTo_11 : decode cX0_firstWayTo 11 = .ok (.iload_n 1, 1) := by decide +kernel
theorem dX0_firstWayTo_12 : decode cX0_firstWayTo 12 = .ok (.iaload, 1) := by decide +kernel
theorem dX0_firstWayTo_13 : decode cX0_firstWayTo 13 = .ok (.goto 4, 3) := by decide +kernel
theorem dX0_firstWayTo_16 : decode cX0_firstWayTo 16 = .ok (.iconst (-1), 1) := by decide +kernel
theorem dX0_firstWayTo_17 : decode cX0_firstWayTo 17 = .ok (.ireturn, 1) := by decide +kernel
theorem dX0_sailOnFrom_0 : decode cX0_sailOnFrom 0 = .ok (.iload_n 3, 1) := by decide +kernel
theorem dX0_sailOnFrom_1 : decode cX0_sailOnFrom 1 = .ok (.invokestatic 18, 3) := by decide +kernel
theorem dX0_sailOnFrom_4 : decode cX0_sailOnFrom 4 = .ok (.ifCond .ne 4, 3) := by decide +kernel
theorem dX0_sailOnFrom_7 : decode cX0_sailOnFrom 7 = .ok (.return_, 1) := by decide +kernel
theorem dX0_sailOnFrom_8 : decode cX0_sailOnFrom 8 = .ok (.iconst 0, 1) := by decide +kernel
theorem dX0_sailOnFrom_9 : decode cX0_sailOnFrom 9 = .ok (.istore 4, 2) := by decide +kernel
theorem dX0_sailOnFrom_11 : decode cX0_sailOnFrom 11 = .ok (.iload 4, 2) := by decide +kernel
theorem dX0_sailOnFrom_13 : decode cX0_sailOnFrom 13 = .ok (.iconst 4, 1) := by decide +kernel
theorem dX0_sailOnFrom_14 : decode cX0_sailOnFrom 14 = .ok (.if_icmp .ge 75, 3) := by decide +kernel
theorem dX0_sailOnFrom_17 : decode cX0_sailOnFrom 17 = .ok (.aload_n 1, 1) := by decide +kernel
theorem dX0_sailOnFrom_18 : decode cX0_sailOnFrom 18 = .ok (.aload_n 2, 1) := by decide +kernel
theorem dX0_sailOnFrom_19 : decode cX0_sailOnFrom 19 = .ok (.iload_n 3, 1) := by decide +kernel
theorem dX0_sailOnFrom_20 : decode cX0_sailOnFrom 20 = .ok (.iload 4, 2) := by decide +kernel
theorem dX0_sailOnFrom_22 : decode cX0_sailOnFrom 22 = .ok (.aload_n 0, 1) := by decide +kernel
theorem dX0_sailOnFrom_23 : decode cX0_sailOnFrom 23 = .ok (.getfield 9, 3) := by decide +kernel
theorem dX0_sailOnFrom_26 : decode cX0_sailOnFrom 26 = .ok (.iload_n 3, 1) := by decide +kernel
theorem dX0_sailOnFrom_27 : decode cX0_sailOnFrom 27 = .ok (.iaload, 1) := by decide +kernel
theorem dX0_sailOnFrom_28 : decode cX0_sailOnFrom 28 = .ok (.invokevirtual 30, 3) := by decide +kernel
theorem dX0_sailOnFrom_31 : decode cX0_sailOnFrom 31 = .ok (.istore 5, 2) := by decide +kernel
theorem dX0_sailOnFrom_33 : decode cX0_sailOnFrom 33 = .ok (.iload 5, 2) := by decide +kernel
theorem dX0_sailOnFrom_35 : decode cX0_sailOnFrom 35 = .ok (.iconst (-1), 1) := by decide +kernel
theorem dX0_sailOnFrom_36 : decode cX0_sailOnFrom 36 = .ok (.if_icmp .eq 47, 3) := by decide +kernel
theorem dX0_sailOnFrom_39 : decode cX0_sailOnFrom 39 = .ok (.aload_n 0, 1) := by decide +kernel
theorem dX0_sailOnFrom_40 : decode cX0_sailOnFrom 40 = .ok (.getfield 15, 3) := by decide +kernel
theorem dX0_sailOnFrom_43 : decode cX0_sailOnFrom 43 = .ok (.iload_n 3, 1) := by decide +kernel
theorem dX0_sailOnFrom_44 : decode cX0_sailOnFrom 44 = .ok (.iaload, 1) := by decide +kernel
theorem dX0_sailOnFrom_45 : decode cX0_sailOnFrom 45 = .ok (.iconst (-1), 1) := by decide +kernel
theorem dX0_sailOnFrom_46 : decode cX0_sailOnFrom 46 = .ok (.if_icmp .ne 8, 3) := by decide +kernel
theorem dX0_sailOnFrom_49 : decode cX0_sailOnFrom 49 = .ok (.iload 4, 2) := by decide +kernel
theorem dX0_sailOnFrom_51 : decode cX0_sailOnFrom 51 = .ok (.goto 9, 3) := by decide +kernel
theorem dX0_sailOnFrom_54 : decode cX0_sailOnFrom 54 = .ok (.aload_n 0, 1) := by decide +kernel
theorem dX0_sailOnFrom_55 : decode cX0_sailOnFrom 55 = .ok (.getfield 15, 3) := by decide +kernel
theorem dX0_sailOnFrom_58 : decode cX0_sailOnFrom 58 = .ok (.iload_n 3, 1) := by decide +kernel
theorem dX0_sailOnFrom_59 : decode cX0_sailOnFrom 59 = .ok (.iaload, 1) := by decide +kernel
theorem dX0_sailOnFrom_60 : decode cX0_sailOnFrom 60 = .ok (.istore 6, 2) := by decide +kernel
theorem dX0_sailOnFrom_62 : decode cX0_sailOnFrom 62 = .ok (.aload_n 0, 1) := by decide +kernel
theorem dX0_sailOnFrom_63 : decode cX0_sailOnFrom 63 = .ok (.iload_n 3, 1) := by decide +kernel
theorem dX0_sailOnFrom_64 : decode cX0_sailOnFrom 64 = .ok (.iload 4, 2) := by decide +kernel
theorem dX0_sailOnFrom_66 : decode cX0_sailOnFrom 66 = .ok (.invokestatic 36, 3) := by decide +kernel
theorem dX0_sailOnFrom_69 : decode cX0_sailOnFrom 69 = .ok (.aload_n 0, 1) := by decide +kernel
theorem dX0_sailOnFrom_70 : decode cX0_sailOnFrom 70 = .ok (.getfield 9, 3) := by decide +kernel
theorem dX0_sailOnFrom_73 : decode cX0_sailOnFrom 73 = .ok (.iload_n 3, 1) := by decide +kernel
theorem dX0_sailOnFrom_74 : decode cX0_sailOnFrom 74 = .ok (.iaload, 1) := by decide +kernel
theorem dX0_sailOnFrom_75 : decode cX0_sailOnFrom 75 = .ok (.iload 5, 2) := by decide +kernel
theorem dX0_sailOnFrom_77 : decode cX0_sailOnFrom 77 = .ok (.iadd, 1) := by decide +kernel
theorem dX0_sailOnFrom_78 : decode cX0_sailOnFrom 78 = .ok (.iload 6, 2) := by decide +kernel
theorem dX0_sailOnFrom_80 : decode cX0_sailOnFrom 80 = .ok (.invokevirtual 40, 3) := by decide +kernel
theorem dX0_sailOnFrom_83 : decode cX0_sailOnFrom 83 = .ok (.iinc 4 1, 3) := by decide +kernel
theorem dX0_sailOnFrom_86 : decode cX0_sailOnFrom 86 = .ok (.goto (-75), 3) := by decide +kernel
theorem dX0_sailOnFrom_89 : decode cX0_sailOnFrom 89 = .ok (.return_, 1) := by decide +kernel
theorem dX0_arrive_0 : decode cX0_arrive 0 = .ok (.iload_n 1, 1) := by decide +kernel
theorem dX0_arrive_1 : decode cX0_arrive 1 = .ok (.invokestatic 18, 3) := by decide +kernel
theorem dX0_arrive_4 : decode cX0_arrive 4 = .ok (.ifCond .ne 4, 3) := by decide +kernel
theorem dX0_arrive_7 : decode cX0_arrive 7 = .ok (.return_, 1) := by decide +kernel
theorem dX0_arrive_8 : decode cX0_arrive 8 = .ok (.aload_n 0, 1) := by decide +kernel
theorem dX0_arrive_9 : decode cX0_arrive 9 = .ok (.getfield 9, 3) := by decide +kernel
theorem dX0_arrive_12 : decode cX0_arrive 12 = .ok (.iload_n 1, 1) := by decide +kernel
theorem dX0_arrive_13 : decode cX0_arrive 13 = .ok (.iaload, 1) := by decide +kernel
theorem dX0_arrive_14 : decode cX0_arrive 14 = .ok (.iconst (-1), 1) := by decide +kernel
theorem dX0_arrive_15 : decode cX0_arrive 15 = .ok (.if_icmp .eq 13, 3) := by decide +kernel
theorem dX0_arrive_18 : decode cX0_arrive 18 = .ok (.iload_n 2, 1) := by decide +kernel
theorem dX0_arrive_19 : decode cX0_arrive 19 = .ok (.aload_n 0, 1) := by decide +kernel
theorem dX0_arrive_20 : decode cX0_arrive 20 = .ok (.getfield 9, 3) := by decide +kernel
theorem dX0_arrive_23 : decode cX0_arrive 23 = .ok (.iload_n 1, 1) := by decide +kernel
theorem dX0_arrive_24 : decode cX0_arrive 24 = .ok (.iaload, 1) := by decide +kernel
theorem dX0_arrive_25 : decode cX0_arrive 25 = .ok (.if_icmp .ge 7, 3) := by decide +kernel
theorem dX0_arrive_28 : decode cX0_arrive 28 = .ok (.iconst 1, 1) := by decide +kernel
theorem dX0_arrive_29 : decode cX0_arrive 29 = .ok (.goto 4, 3) := by decide +kernel
theorem dX0_arrive_32 : decode cX0_arrive 32 = .ok (.iconst 0, 1) := by decide +kernel
theorem dX0_arrive_33 : decode cX0_arrive 33 = .ok (.istore 4, 2) := by decide +kernel
theorem dX0_arrive_35 : decode cX0_arrive 35 = .ok (.iload 4, 2) := by decide +kernel
theorem dX0_arrive_37 : decode cX0_arrive 37 = .ok (.ifCond .ne 23, 3) := by decide +kernel
theorem dX0_arrive_40 : decode cX0_arrive 40 = .ok (.iload_n 2, 1) := by decide +kernel
theorem dX0_arrive_41 : decode cX0_arrive 41 = .ok (.aload_n 0, 1) := by decide +kernel
theorem dX0_arrive_42 : decode cX0_arrive 42 = .ok (.getfield 9, 3) := by decide +kernel
theorem dX0_arrive_45 : decode cX0_arrive 45 = .ok (.iload_n 1, 1) := by decide +kernel
theorem dX0_arrive_46 : decode cX0_arrive 46 = .ok (.iaload, 1) := by decide +kernel
theorem dX0_arrive_47 : decode cX0_arrive 47 = .ok (.if_icmp .ne 27, 3) := by decide +kernel
theorem dX0_arrive_50 : decode cX0_arrive 50 = .ok (.iload_n 3, 1) := by decide +kernel
theorem dX0_arrive_51 : decode cX0_arrive 51 = .ok (.aload_n 0, 1) := by decide +kernel
theorem dX0_arrive_52 : decode cX0_arrive 52 = .ok (.getfield 15, 3) := by decide +kernel
theorem dX0_arrive_55 : decode cX0_arrive 55 = .ok (.iload_n 1, 1) := by decide +kernel
theorem dX0_arrive_56 : decode cX0_arrive 56 = .ok (.iaload, 1) := by decide +kernel
theorem dX0_arrive_57 : decode cX0_arrive 57 = .ok (.if_icmp .ge 17, 3) := by decide +kernel
theorem dX0_arrive_60 : decode cX0_arrive 60 = .ok (.aload_n 0, 1) := by decide +kernel
theorem dX0_arrive_61 : decode cX0_arrive 61 = .ok (.getfield 9, 3) := by decide +kernel
theorem dX0_arrive_64 : decode cX0_arrive 64 = .ok (.iload_n 1, 1) := by decide +kernel
theorem dX0_arrive_65 : decode cX0_arrive 65 = .ok (.iload_n 2, 1) := by decide +kernel
theorem dX0_arrive_66 : decode cX0_arrive 66 = .ok (.iastore, 1) := by decide +kernel
theorem dX0_arrive_67 : decode cX0_arrive 67 = .ok (.aload_n 0, 1) := by decide +kernel
theorem dX0_arrive_68 : decode cX0_arrive 68 = .ok (.getfield 15, 3) := by decide +kernel
theorem dX0_arrive_71 : decode cX0_arrive 71 = .ok (.iload_n 1, 1) := by decide +kernel
theorem dX0_arrive_72 : decode cX0_arrive 72 = .ok (.iload_n 3, 1) := by decide +kernel
theorem dX0_arrive_73 : decode cX0_arrive 73 = .ok (.iastore, 1) := by decide +kernel
theorem dX0_arrive_74 : decode cX0_arrive 74 = .ok (.return_, 1) := by decide +kernel
theorem dX0_soonestOpen_0 : decode cX0_soonestOpen 0 = .ok (.iconst (-1), 1) := by decide +kernel
theorem dX0_soonestOpen_1 : decode cX0_soonestOpen 1 = .ok (.istore_n 2, 1) := by decide +kernel
theorem dX0_soonestOpen_2 : decode cX0_soonestOpen 2 = .ok (.iconst 0, 1) := by decide +kernel
theorem dX0_soonestOpen_3 : decode cX0_soonestOpen 3 = .ok (.istore_n 3, 1) := by decide +kernel
theorem dX0_soonestOpen_4 : decode cX0_soonestOpen 4 = .ok (.iload_n 3, 1) := by decide +kernel
theorem dX0_soonestOpen_5 : decode cX0_soonestOpen 5 = .ok (.bipush 12, 2) := by decide +kernel
theorem dX0_soonestOpen_7 : decode cX0_soonestOpen 7 = .ok (.if_icmp .ge 61, 3) := by decide +kernel
theorem dX0_soonestOpen_10 : decode cX0_soonestOpen 10 = .ok (.iload_n 1, 1) := by decide +kernel
theorem dX0_soonestOpen_11 : decode cX0_soonestOpen 11 = .ok (.iload_n 3, 1) := by decide +kernel
theorem dX0_soonestOpen_12 : decode cX0_soonestOpen 12 = .ok (.ishr, 1) := by decide +kernel
theorem dX0_soonestOpen_13 : decode cX0_soonestOpen 13 = .ok (.iconst 1, 1) := by decide +kernel
theorem dX0_soonestOpen_14 : decode cX0_soonestOpen 14 = .ok (.iand, 1) := by decide +kernel
theorem dX0_soonestOpen_15 : decode cX0_soonestOpen 15 = .ok (.ifCond .ne 17, 3) := by decide +kernel
theorem dX0_soonestOpen_18 : decode cX0_soonestOpen 18 = .ok (.aload_n 0, 1) := by decide +kernel
theorem dX0_soonestOpen_19 : decode cX0_soonestOpen 19 = .ok (.getfield 9, 3) := by decide +kernel
theorem dX0_soonestOpen_22 : decode cX0_soonestOpen 22 = .ok (.iload_n 3, 1) := by decide +kernel
theorem dX0_soonestOpen_23 : decode cX0_soonestOpen 23 = .ok (.iaload, 1) := by decide +kernel
theorem dX0_soonestOpen_24 : decode cX0_soonestOpen 24 = .ok (.iconst (-1), 1) := by decide +kernel
theorem dX0_soonestOpen_25 : decode cX0_soonestOpen 25 = .ok (.if_icmp .eq 7, 3) := by decide +kernel
theorem dX0_soonestOpen_28 : decode cX0_soonestOpen 28 = .ok (.iconst 1, 1) := by decide +kernel
theorem dX0_soonestOpen_29 : decode cX0_soonestOpen 29 = .ok (.goto 4, 3) := by decide +kernel
theorem dX0_soonestOpen_32 : decode cX0_soonestOpen 32 = .ok (.iconst 0, 1) := by decide +kernel
theorem dX0_soonestOpen_33 : decode cX0_soonestOpen 33 = .ok (.istore 4, 2) := by decide +kernel
theorem dX0_soonestOpen_35 : decode cX0_soonestOpen 35 = .ok (.iload 4, 2) := by decide +kernel
theorem dX0_soonestOpen_37 : decode cX0_soonestOpen 37 = .ok (.ifCond .eq 25, 3) := by decide +kernel
theorem dX0_soonestOpen_40 : decode cX0_soonestOpen 40 = .ok (.iload_n 2, 1) := by decide +kernel
theorem dX0_soonestOpen_41 : decode cX0_soonestOpen 41 = .ok (.iconst (-1), 1) := by decide +kernel
theorem dX0_soonestOpen_42 : decode cX0_soonestOpen 42 = .ok (.if_icmp .eq 18, 3) := by decide +kernel
theorem dX0_soonestOpen_45 : decode cX0_soonestOpen 45 = .ok (.aload_n 0, 1) := by decide +kernel
theorem dX0_soonestOpen_46 : decode cX0_soonestOpen 46 = .ok (.getfield 9, 3) := by decide +kernel
theorem dX0_soonestOpen_49 : decode cX0_soonestOpen 49 = .ok (.iload_n 3, 1) := by decide +kernel
theorem dX0_soonestOpen_50 : decode cX0_soonestOpen 50 = .ok (.iaload, 1) := by decide +kernel
theorem dX0_soonestOpen_51 : decode cX0_soonestOpen 51 = .ok (.aload_n 0, 1) := by decide +kernel
theorem dX0_soonestOpen_52 : decode cX0_soonestOpen 52 = .ok (.getfield 9, 3) := by decide +kernel
theorem dX0_soonestOpen_55 : decode cX0_soonestOpen 55 = .ok (.iload_n 2, 1) := by decide +kernel
theorem dX0_soonestOpen_56 : decode cX0_soonestOpen 56 = .ok (.iaload, 1) := by decide +kernel
theorem dX0_soonestOpen_57 : decode cX0_soonestOpen 57 = .ok (.if_icmp .ge 5, 3) := by decide +kernel
theorem dX0_soonestOpen_60 : decode cX0_soonestOpen 60 = .ok (.iload_n 3, 1) := by decide +kernel
theorem dX0_soonestOpen_61 : decode cX0_soonestOpen 61 = .ok (.istore_n 2, 1) := by decide +kernel
theorem dX0_soonestOpen_62 : decode cX0_soonestOpen 62 = .ok (.iinc 3 1, 3) := by decide +kernel
theorem dX0_soonestOpen_65 : decode cX0_soonestOpen 65 = .ok (.goto (-61), 3) := by decide +kernel
theorem dX0_soonestOpen_68 : decode cX0_soonestOpen 68 = .ok (.iload_n 2, 1) := by decide +kernel
theorem dX0_soonestOpen_69 : decode cX0_soonestOpen 69 = .ok (.ireturn, 1) := by decide +kernel
theorem dX1_init_0 : decode cX1_init 0 = .ok (.aload_n 0, 1) := by decide +kernel
theorem dX1_init_1 : decode cX1_init 1 = .ok (.iload_n 1, 1) := by decide +kernel
theorem dX1_init_2 : decode cX1_init 2 = .ok (.iload_n 2, 1) := by decide +kernel
theorem dX1_init_3 : decode cX1_init 3 = .ok (.invokespecial 1, 3) := by decide +kernel
theorem dX1_init_6 : decode cX1_init 6 = .ok (.return_, 1) := by decide +kernel
theorem dX1_kind_0 : decode cX1_kind 0 = .ok (.iconst 4, 1) := by decide +kernel
theorem dX1_kind_1 : decode cX1_kind 1 = .ok (.ireturn, 1) := by decide +kernel
theorem dX1_hoursBecalmed_0 : decode cX1_hoursBecalmed 0 = .ok (.iconst 2, 1) := by decide +kernel
theorem dX1_hoursBecalmed_1 : decode cX1_hoursBecalmed 1 = .ok (.ireturn, 1) := by decide +kernel
theorem dX1_hoursAgainst_0 : decode cX1_hoursAgainst 0 = .ok (.iconst 3, 1) := by decide +kernel
theorem dX1_hoursAgainst_1 : decode cX1_hoursAgainst 1 = .ok (.ireturn, 1) := by decide +kernel
theorem dX2_init_0 : decode cX2_init 0 = .ok (.aload_n 0, 1) := by decide +kernel
theorem dX2_init_1 : decode cX2_init 1 = .ok (.iload_n 1, 1) := by decide +kernel
theorem dX2_init_2 : decode cX2_init 2 = .ok (.iload_n 2, 1) := by decide +kernel
theorem dX2_init_3 : decode cX2_init 3 = .ok (.invokespecial 1, 3) := by decide +kernel
theorem dX2_init_6 : decode cX2_init 6 = .ok (.return_, 1) := by decide +kernel
theorem dX2_kind_0 : decode cX2_kind 0 = .ok (.iconst 2, 1) := by decide +kernel
theorem dX2_kind_1 : decode cX2_kind 1 = .ok (.ireturn, 1) := by decide +kernel
theorem dX2_hoursAgainst_0 : decode cX2_hoursAgainst 0 = .ok (.iconst 4, 1) := by decide +kernel
theorem dX2_hoursAgainst_1 : decode cX2_hoursAgainst 1 = .ok (.ireturn, 1) := by decide +kernel
theorem dX3_init_0 : decode cX3_init 0 = .ok (.aload_n 0, 1) := by decide +kernel
theorem dX3_init_1 : decode cX3_init 1 = .ok (.invokespecial 3, 3) := by decide +kernel
theorem dX3_init_4 : decode cX3_init 4 = .ok (.return_, 1) := by decide +kernel
theorem dX3_find_0 : decode cX3_find 0 = .ok (.aload_n 0, 1) := by decide +kernel
theorem dX3_find_1 : decode cX3_find 1 = .ok (.iconst (-1), 1) := by decide +kernel
theorem dX3_find_2 : decode cX3_find 2 = .ok (.putfield 9, 3) := by decide +kernel
theorem dX3_find_5 : decode cX3_find 5 = .ok (.aload_n 0, 1) := by decide +kernel
theorem dX3_find_6 : decode cX3_find 6 = .ok (.iload 5, 2) := by decide +kernel
theorem dX3_find_8 : decode cX3_find 8 = .ok (.putfield 15, 3) := by decide +kernel
theorem dX3_find_11 : decode cX3_find 11 = .ok (.aload_n 0, 1) := by decide +kernel
theorem dX3_find_12 : decode cX3_find 12 = .ok (.iconst 0, 1) := by decide +kernel
theorem dX3_find_13 : decode cX3_find 13 = .ok (.putfield 18, 3) := by decide +kernel
theorem dX3_find_16 : decode cX3_find 16 = .ok (.iconst 0, 1) := by decide +kernel
theorem dX3_find_17 : decode cX3_find 17 = .ok (.istore 6, 2) := by decide +kernel
theorem dX3_find_19 : decode cX3_find 19 = .ok (.iload 6, 2) := by decide +kernel
theorem dX3_find_21 : decode cX3_find 21 = .ok (.getstatic 21, 3) := by decide +kernel
theorem dX3_find_24 : decode cX3_find 24 = .ok (.arraylength, 1) := by decide +kernel
theorem dX3_find_25 : decode cX3_find 25 = .ok (.iconst 3, 1) := by decide +kernel
theorem dX3_find_26 : decode cX3_find 26 = .ok (.idiv, 1) := by decide +kernel
theorem dX3_find_27 : decode cX3_find 27 = .ok (.if_icmp .ge 145, 3) := by decide +kernel
theorem dX3_find_30 : decode cX3_find 30 = .ok (.iconst 0, 1) := by decide +kernel
theorem dX3_find_31 : decode cX3_find 31 = .ok (.istore 7, 2) := by decide +kernel
theorem dX3_find_33 : decode cX3_find 33 = .ok (.iload 5, 2) := by decide +kernel
theorem dX3_find_35 : decode cX3_find 35 = .ok (.istore 8, 2) := by decide +kernel
theorem dX3_find_37 : decode cX3_find 37 = .ok (.iconst 0, 1) := by decide +kernel
theorem dX3_find_38 : decode cX3_find 38 = .ok (.istore 9, 2) := by decide +kernel
theorem dX3_find_40 : decode cX3_find 40 = .ok (.iload 9, 2) := by decide +kernel
theorem dX3_find_42 : decode cX3_find 42 = .ok (.iconst 3, 1) := by decide +kernel
theorem dX3_find_43 : decode cX3_find 43 = .ok (.if_icmp .ge 78, 3) := by decide +kernel
theorem dX3_find_46 : decode cX3_find 46 = .ok (.aload_n 0, 1) := by decide +kernel
theorem dX3_find_47 : decode cX3_find 47 = .ok (.aload_n 3, 1) := by decide +kernel
theorem dX3_find_48 : decode cX3_find 48 = .ok (.iload 6, 2) := by decide +kernel
theorem dX3_find_50 : decode cX3_find 50 = .ok (.iload 9, 2) := by decide +kernel
theorem dX3_find_52 : decode cX3_find 52 = .ok (.invokevirtual 25, 3) := by decide +kernel
theorem dX3_find_55 : decode cX3_find 55 = .ok (.astore 10, 2) := by decide +kernel
theorem dX3_find_57 : decode cX3_find 57 = .ok (.aload 10, 2) := by decide +kernel
theorem dX3_find_59 : decode cX3_find 59 = .ok (.ifnull 56, 3) := by decide +kernel
theorem dX3_find_62 : decode cX3_find 62 = .ok (.aload_n 2, 1) := by decide +kernel
theorem dX3_find_63 : decode cX3_find 63 = .ok (.aload_n 1, 1) := by decide +kernel
theorem dX3_find_64 : decode cX3_find 64 = .ok (.aload 10, 2) := by decide +kernel
theorem dX3_find_66 : decode cX3_find 66 = .ok (.aload 10, 2) := by decide +kernel
theorem dX3_find_68 : decode cX3_find 68 = .ok (.getfield 29, 3) := by decide +kernel
theorem dX3_find_71 : decode cX3_find 71 = .ok (.iload 8, 2) := by decide +kernel
theorem dX3_find_73 : decode cX3_find 73 = .ok (.invokevirtual 34, 3) := by decide +kernel
theorem dX3_find_76 : decode cX3_find 76 = .ok (.aload_n 2, 1) := by decide +kernel
theorem dX3_find_77 : decode cX3_find 77 = .ok (.iload 4, 2) := by decide +kernel
theorem dX3_find_79 : decode cX3_find 79 = .ok (.invokevirtual 40, 3) := by decide +kernel
theorem dX3_find_82 : decode cX3_find 82 = .ok (.istore 11, 2) := by decide +kernel
theorem dX3_find_84 : decode cX3_find 84 = .ok (.iload 7, 2) := by decide +kernel
theorem dX3_find_86 : decode cX3_find 86 = .ok (.iload 11, 2) := by decide +kernel
theorem dX3_find_88 : decode cX3_find 88 = .ok (.iconst (-1), 1) := by decide +kernel
theorem dX3_find_89 : decode cX3_find 89 = .ok (.if_icmp .ne 7, 3) := by decide +kernel
theorem dX3_find_92 : decode cX3_find 92 = .ok (.iconst 0, 1) := by decide +kernel
theorem dX3_find_93 : decode cX3_find 93 = .ok (.goto 4, 3) := by decide +kernel
theorem dX3_find_96 : decode cX3_find 96 = .ok (.iconst 1, 1) := by decide +kernel
theorem dX3_find_97 : decode cX3_find 97 = .ok (.iadd, 1) := by decide +kernel
theorem dX3_find_98 : decode cX3_find 98 = .ok (.istore 7, 2) := by decide +kernel
theorem dX3_find_100 : decode cX3_find 100 = .ok (.iload 11, 2) := by decide +kernel
theorem dX3_find_102 : decode cX3_find 102 = .ok (.iconst (-1), 1) := by decide +kernel
theorem dX3_find_103 : decode cX3_find 103 = .ok (.if_icmp .ne 8, 3) := by decide +kernel
theorem dX3_find_106 : decode cX3_find 106 = .ok (.iload 8, 2) := by decide +kernel
theorem dX3_find_108 : decode cX3_find 108 = .ok (.goto 5, 3) := by decide +kernel
theorem dX3_find_111 : decode cX3_find 111 = .ok (.iload 11, 2) := by decide +kernel
theorem dX3_find_113 : decode cX3_find 113 = .ok (.istore 8, 2) := by decide +kernel
theorem dX3_find_115 : decode cX3_find 115 = .ok (.iinc 9 1, 3) := by decide +kernel
theorem dX3_find_118 : decode cX3_find 118 = .ok (.goto (-78), 3) := by decide +kernel
theorem dX3_find_121 : decode cX3_find 121 = .ok (.iload 7, 2) := by decide +kernel
theorem dX3_find_123 : decode cX3_find 123 = .ok (.aload_n 0, 1) := by decide +kernel
theorem dX3_find_124 : decode cX3_find 124 = .ok (.getfield 9, 3) := by decide +kernel
theorem dX3_find_127 : decode cX3_find 127 = .ok (.if_icmp .gt 21, 3) := by decide +kernel
theorem dX3_find_130 : decode cX3_find 130 = .ok (.iload 7, 2) := by decide +kernel
theorem dX3_find_132 : decode cX3_find 132 = .ok (.aload_n 0, 1) := by decide +kernel
theorem dX3_find_133 : decode cX3_find 133 = .ok (.getfield 9, 3) := by decide +kernel
theorem dX3_find_136 : decode cX3_find 136 = .ok (.if_icmp .ne 30, 3) := by decide +kernel
theorem dX3_find_139 : decode cX3_find 139 = .ok (.iload 8, 2) := by decide +kernel
theorem dX3_find_141 : decode cX3_find 141 = .ok (.aload_n 0, 1) := by decide +kernel
theorem dX3_find_142 : decode cX3_find 142 = .ok (.getfield 15, 3) := by decide +kernel
theorem dX3_find_145 : decode cX3_find 145 = .ok (.if_icmp .ge 21, 3) := by decide +kernel
theorem dX3_find_148 : decode cX3_find 148 = .ok (.aload_n 0, 1) := by decide +kernel
theorem dX3_find_149 : decode cX3_find 149 = .ok (.iload 7, 2) := by decide +kernel
theorem dX3_find_151 : decode cX3_find 151 = .ok (.putfield 9, 3) := by decide +kernel
theorem dX3_find_154 : decode cX3_find 154 = .ok (.aload_n 0, 1) := by decide +kernel
theorem dX3_find_155 : decode cX3_find 155 = .ok (.iload 8, 2) := by decide +kernel
theorem dX3_find_157 : decode cX3_find 157 = .ok (.putfield 15, 3) := by decide +kernel
theorem dX3_find_160 : decode cX3_find 160 = .ok (.aload_n 0, 1) := by decide +kernel
theorem dX3_find_161 : decode cX3_find 161 = .ok (.iload 6, 2) := by decide +kernel
theorem dX3_find_163 : decode cX3_find 163 = .ok (.putfield 18, 3) := by decide +kernel
theorem dX3_find_166 : decode cX3_find 166 = .ok (.iinc 6 1, 3) := by decide +kernel
theorem dX3_find_169 : decode cX3_find 169 = .ok (.goto (-150), 3) := by decide +kernel
theorem dX3_find_172 : decode cX3_find 172 = .ok (.return_, 1) := by decide +kernel
theorem dX3_hullInPlace_0 : decode cX3_hullInPlace 0 = .ok (.aload_n 0, 1) := by decide +kernel
theorem dX3_hullInPlace_1 : decode cX3_hullInPlace 1 = .ok (.aload_n 0, 1) := by decide +kernel
theorem dX3_hullInPlace_2 : decode cX3_hullInPlace 2 = .ok (.getfield 18, 3) := by decide +kernel
theorem dX3_hullInPlace_5 : decode cX3_hullInPlace 5 = .ok (.iload_n 1, 1) := by decide +kernel
theorem dX3_hullInPlace_6 : decode cX3_hullInPlace 6 = .ok (.invokevirtual 44, 3) := by decide +kernel
theorem dX3_hullInPlace_9 : decode cX3_hullInPlace 9 = .ok (.ireturn, 1) := by decide +kernel
theorem dX3_hullIn_0 : decode cX3_hullIn 0 = .ok (.aload_n 0, 1) := by decide +kernel
theorem dX3_hullIn_1 : decode cX3_hullIn 1 = .ok (.iload_n 2, 1) := by decide +kernel
theorem dX3_hullIn_2 : decode cX3_hullIn 2 = .ok (.iload_n 3, 1) := by decide +kernel
theorem dX3_hullIn_3 : decode cX3_hullIn 3 = .ok (.invokevirtual 44, 3) := by decide +kernel
theorem dX3_hullIn_6 : decode cX3_hullIn 6 = .ok (.istore 4, 2) := by decide +kernel
theorem dX3_hullIn_8 : decode cX3_hullIn 8 = .ok (.iload 4, 2) := by decide +kernel
theorem dX3_hullIn_10 : decode cX3_hullIn 10 = .ok (.ifCond .lt 17, 3) := by decide +kernel
theorem dX3_hullIn_13 : decode cX3_hullIn 13 = .ok (.iload 4, 2) := by decide +kernel
theorem dX3_hullIn_15 : decode cX3_hullIn 15 = .ok (.aload_n 1, 1) := by decide +kernel
theorem dX3_hullIn_16 : decode cX3_hullIn 16 = .ok (.arraylength, 1) := by decide +kernel
theorem dX3_hullIn_17 : decode cX3_hullIn 17 = .ok (.if_icmp .ge 10, 3) := by decide +kernel
theorem dX3_hullIn_20 : decode cX3_hullIn 20 = .ok (.aload_n 1, 1) := by decide +kernel
theorem dX3_hullIn_21 : decode cX3_hullIn 21 = .ok (.iload 4, 2) := by decide +kernel
theorem dX3_hullIn_23 : decode cX3_hullIn 23 = .ok (.aaload, 1) := by decide +kernel
theorem dX3_hullIn_24 : decode cX3_hullIn 24 = .ok (.goto 4, 3) := by decide +kernel
theorem dX3_hullIn_27 : decode cX3_hullIn 27 = .ok (.aconst_null, 1) := by decide +kernel
theorem dX3_hullIn_28 : decode cX3_hullIn 28 = .ok (.areturn, 1) := by decide +kernel
theorem dX3_numberIn_0 : decode cX3_numberIn 0 = .ok (.iload_n 1, 1) := by decide +kernel
theorem dX3_numberIn_1 : decode cX3_numberIn 1 = .ok (.iconst 3, 1) := by decide +kernel
theorem dX3_numberIn_2 : decode cX3_numberIn 2 = .ok (.imul, 1) := by decide +kernel
theorem dX3_numberIn_3 : decode cX3_numberIn 3 = .ok (.iload_n 2, 1) := by decide +kernel
theorem dX3_numberIn_4 : decode cX3_numberIn 4 = .ok (.iadd, 1) := by decide +kernel
theorem dX3_numberIn_5 : decode cX3_numberIn 5 = .ok (.istore_n 3, 1) := by decide +kernel
theorem dX3_numberIn_6 : decode cX3_numberIn 6 = .ok (.iload_n 3, 1) := by decide +kernel
theorem dX3_numberIn_7 : decode cX3_numberIn 7 = .ok (.ifCond .lt 19, 3) := by decide +kernel
theorem dX3_numberIn_10 : decode cX3_numberIn 10 = .ok (.iload_n 3, 1) := by decide +kernel
theorem dX3_numberIn_11 : decode cX3_numberIn 11 = .ok (.getstatic 21, 3) := by decide +kernel
theorem dX3_numberIn_14 : decode cX3_numberIn 14 = .ok (.arraylength, 1) := by decide +kernel
theorem dX3_numberIn_15 : decode cX3_numberIn 15 = .ok (.if_icmp .ge 11, 3) := by decide +kernel
theorem dX3_numberIn_18 : decode cX3_numberIn 18 = .ok (.getstatic 21, 3) := by decide +kernel
theorem dX3_numberIn_21 : decode cX3_numberIn 21 = .ok (.iload_n 3, 1) := by decide +kernel
theorem dX3_numberIn_22 : decode cX3_numberIn 22 = .ok (.iaload, 1) := by decide +kernel
theorem dX3_numberIn_23 : decode cX3_numberIn 23 = .ok (.goto 4, 3) := by decide +kernel
theorem dX3_numberIn_26 : decode cX3_numberIn 26 = .ok (.iconst (-1), 1) := by decide +kernel
theorem dX3_numberIn_27 : decode cX3_numberIn 27 = .ok (.ireturn, 1) := by decide +kernel
theorem dX4_init_0 : decode cX4_init 0 = .ok (.aload_n 0, 1) := by decide +kernel
theorem dX4_init_1 : decode cX4_init 1 = .ok (.invokespecial 3, 3) := by decide +kernel
theorem dX4_init_4 : decode cX4_init 4 = .ok (.aload_n 0, 1) := by decide +kernel
theorem dX4_init_5 : decode cX4_init 5 = .ok (.iload_n 1, 1) := by decide +kernel
theorem dX4_init_6 : decode cX4_init 6 = .ok (.putfield 9, 3) := by decide +kernel
theorem dX4_init_9 : decode cX4_init 9 = .ok (.aload_n 0, 1) := by decide +kernel
theorem dX4_init_10 : decode cX4_init 10 = .ok (.iload_n 2, 1) := by decide +kernel
theorem dX4_init_11 : decode cX4_init 11 = .ok (.putfield 15, 3) := by decide +kernel
theorem dX4_init_14 : decode cX4_init 14 = .ok (.return_, 1) := by decide +kernel
theorem dX4_kind_0 : decode cX4_kind 0 = .ok (.iconst 0, 1) := by decide +kernel
theorem dX4_kind_1 : decode cX4_kind 1 = .ok (.ireturn, 1) := by decide +kernel
theorem dX4_cornNeeded_0 : decode cX4_cornNeeded 0 = .ok (.aload_n 0, 1) := by decide +kernel
theorem dX4_cornNeeded_1 : decode cX4_cornNeeded 1 = .ok (.getfield 9, 3) := by decide +kernel
theorem dX4_cornNeeded_4 : decode cX4_cornNeeded 4 = .ok (.ireturn, 1) := by decide +kernel
theorem dX4_hoursWith_0 : decode cX4_hoursWith 0 = .ok (.iconst 1, 1) := by decide +kernel
theorem dX4_hoursWith_1 : decode cX4_hoursWith 1 = .ok (.ireturn, 1) := by decide +kernel
theorem dX4_hoursAcross_0 : decode cX4_hoursAcross 0 = .ok (.iconst 2, 1) := by decide +kernel
theorem dX4_hoursAcross_1 : decode cX4_hoursAcross 1 = .ok (.ireturn, 1) := by decide +kernel
theorem dX4_hoursBecalmed_0 : decode cX4_hoursBecalmed 0 = .ok (.iconst 3, 1) := by decide +kernel
theorem dX4_hoursBecalmed_1 : decode cX4_hoursBecalmed 1 = .ok (.ireturn, 1) := by decide +kernel
theorem dX4_hoursAgainst_0 : decode cX4_hoursAgainst 0 = .ok (.iconst (-1), 1) := by decide +kernel
theorem dX4_hoursAgainst_1 : decode cX4_hoursAgainst 1 = .ok (.ireturn, 1) := by decide +kernel
theorem dX4_hoursFor_0 : decode cX4_hoursFor 0 = .ok (.iload_n 2, 1) := by decide +kernel
theorem dX4_hoursFor_1 : decode cX4_hoursFor 1 = .ok (.iconst 4, 1) := by decide +kernel
theorem dX4_hoursFor_2 : decode cX4_hoursFor 2 = .ok (.if_icmp .ne 8, 3) := by decide +kernel
theorem dX4_hoursFor_5 : decode cX4_hoursFor 5 = .ok (.aload_n 0, 1) := by decide +kernel
theorem dX4_hoursFor_6 : decode cX4_hoursFor 6 = .ok (.invokevirtual 18, 3) := by decide +kernel
theorem dX4_hoursFor_9 : decode cX4_hoursFor 9 = .ok (.ireturn, 1) := by decide +kernel
theorem dX4_hoursFor_10 : decode cX4_hoursFor 10 = .ok (.iload_n 1, 1) := by decide +kernel
theorem dX4_hoursFor_11 : decode cX4_hoursFor 11 = .ok (.iload_n 2, 1) := by decide +kernel
theorem dX4_hoursFor_12 : decode cX4_hoursFor 12 = .ok (.if_icmp .ne 8, 3) := by decide +kernel
theorem dX4_hoursFor_15 : decode cX4_hoursFor 15 = .ok (.aload_n 0, 1) := by decide +kernel
theorem dX4_hoursFor_16 : decode cX4_hoursFor 16 = .ok (.invokevirtual 22, 3) := by decide +kernel
theorem dX4_hoursFor_19 : decode cX4_hoursFor 19 = .ok (.ireturn, 1) := by decide +kernel
theorem dX4_hoursFor_20 : decode cX4_hoursFor 20 = .ok (.iload_n 1, 1) := by decide +kernel
theorem dX4_hoursFor_21 : decode cX4_hoursFor 21 = .ok (.iload_n 2, 1) := by decide +kernel
theorem dX4_hoursFor_22 : decode cX4_hoursFor 22 = .ok (.iconst 2, 1) := by decide +kernel
theorem dX4_hoursFor_23 : decode cX4_hoursFor 23 = .ok (.iadd, 1) := by decide +kernel
theorem dX4_hoursFor_24 : decode cX4_hoursFor 24 = .ok (.if_icmp .eq 10, 3) := by decide +kernel
theorem dX4_hoursFor_27 : decode cX4_hoursFor 27 = .ok (.iload_n 1, 1) := by decide +kernel
theorem dX4_hoursFor_28 : decode cX4_hoursFor 28 = .ok (.iload_n 2, 1) := by decide +kernel
theorem dX4_hoursFor_29 : decode cX4_hoursFor 29 = .ok (.iconst 2, 1) := by decide +kernel
theorem dX4_hoursFor_30 : decode cX4_hoursFor 30 = .ok (.isub, 1) := by decide +kernel
theorem dX4_hoursFor_31 : decode cX4_hoursFor 31 = .ok (.if_icmp .ne 8, 3) := by decide +kernel
theorem dX4_hoursFor_34 : decode cX4_hoursFor 34 = .ok (.aload_n 0, 1) := by decide +kernel
theorem dX4_hoursFor_35 : decode cX4_hoursFor 35 = .ok (.invokevirtual 25, 3) := by decide +kernel
theorem dX4_hoursFor_38 : decode cX4_hoursFor 38 = .ok (.ireturn, 1) := by decide +kernel
theorem dX4_hoursFor_39 : decode cX4_hoursFor 39 = .ok (.aload_n 0, 1) := by decide +kernel
theorem dX4_hoursFor_40 : decode cX4_hoursFor 40 = .ok (.invokevirtual 28, 3) := by decide +kernel
theorem dX4_hoursFor_43 : decode cX4_hoursFor 43 = .ok (.ireturn, 1) := by decide +kernel
theorem dX5_init_0 : decode cX5_init 0 = .ok (.aload_n 0, 1) := by decide +kernel
theorem dX5_init_1 : decode cX5_init 1 = .ok (.invokespecial 3, 3) := by decide +kernel
theorem dX5_init_4 : decode cX5_init 4 = .ok (.aload_n 0, 1) := by decide +kernel
theorem dX5_init_5 : decode cX5_init 5 = .ok (.new 9, 3) := by decide +kernel
theorem dX5_init_8 : decode cX5_init 8 = .ok (.dup, 1) := by decide +kernel
theorem dX5_init_9 : decode cX5_init 9 = .ok (.invokespecial 11, 3) := by decide +kernel
theorem dX5_init_12 : decode cX5_init 12 = .ok (.putfield 12, 3) := by decide +kernel
theorem dX5_init_15 : decode cX5_init 15 = .ok (.aload_n 0, 1) := by decide +kernel
theorem dX5_init_16 : decode cX5_init 16 = .ok (.iconst 3, 1) := by decide +kernel
theorem dX5_init_17 : decode cX5_init 17 = .ok (.newarray .int, 2) := by decide +kernel
theorem dX5_init_19 : decode cX5_init 19 = .ok (.putfield 18, 3) := by decide +kernel
theorem dX5_init_22 : decode cX5_init 22 = .ok (.aload_n 0, 1) := by decide +kernel
theorem dX5_init_23 : decode cX5_init 23 = .ok (.iconst 3, 1) := by decide +kernel
theorem dX5_init_24 : decode cX5_init 24 = .ok (.newarray .int, 2) := by decide +kernel
theorem dX5_init_26 : decode cX5_init 26 = .ok (.putfield 22, 3) := by decide +kernel
theorem dX5_init_29 : decode cX5_init 29 = .ok (.return_, 1) := by decide +kernel
theorem dX5_keep_0 : decode cX5_keep 0 = .ok (.aload_n 0, 1) := by decide +kernel
theorem dX5_keep_1 : decode cX5_keep 1 = .ok (.iconst 1, 1) := by decide +kernel
theorem dX5_keep_2 : decode cX5_keep 2 = .ok (.putfield 25, 3) := by decide +kernel
theorem dX5_keep_5 : decode cX5_keep 5 = .ok (.aload_n 0, 1) := by decide +kernel
theorem dX5_keep_6 : decode cX5_keep 6 = .ok (.iload_n 2, 1) := by decide +kernel
theorem dX5_keep_7 : decode cX5_keep 7 = .ok (.putfield 29, 3) := by decide +kernel
theorem dX5_keep_10 : decode cX5_keep 10 = .ok (.iconst 0, 1) := by decide +kernel
theorem dX5_keep_11 : decode cX5_keep 11 = .ok (.istore_n 3, 1) := by decide +kernel
theorem dX5_keep_12 : decode cX5_keep 12 = .ok (.iload_n 3, 1) := by decide +kernel
theorem dX5_keep_13 : decode cX5_keep 13 = .ok (.iconst 3, 1) := by decide +kernel
theorem dX5_keep_14 : decode cX5_keep 14 = .ok (.if_icmp .ge 47, 3) := by decide +kernel
theorem dX5_keep_17 : decode cX5_keep 17 = .ok (.iload_n 3, 1) := by decide +kernel
theorem dX5_keep_18 : decode cX5_keep 18 = .ok (.aload_n 1, 1) := by decide +kernel
theorem dX5_keep_19 : decode cX5_keep 19 = .ok (.arraylength, 1) := by decide +kernel
theorem dX5_keep_20 : decode cX5_keep 20 = .ok (.if_icmp .ge 41, 3) := by decide +kernel
theorem dX5_keep_23 : decode cX5_keep 23 = .ok (.aload_n 1, 1) := by decide +kernel
theorem dX5_keep_24 : decode cX5_keep 24 = .ok (.iload_n 3, 1) := by decide +kernel
theorem dX5_keep_25 : decode cX5_keep 25 = .ok (.aaload, 1) := by decide +kernel
theorem dX5_keep_26 : decode cX5_keep 26 = .ok (.astore 4, 2) := by decide +kernel
theorem dX5_keep_28 : decode cX5_keep 28 = .ok (.aload 4, 2) := by decide +kernel
theorem dX5_keep_30 : decode cX5_keep 30 = .ok (.ifnull 25, 3) := by decide +kernel
theorem dX5_keep_33 : decode cX5_keep 33 = .ok (.aload_n 0, 1) := by decide +kernel
theorem dX5_keep_34 : decode cX5_keep 34 = .ok (.getfield 18, 3) := by decide +kernel
theorem dX5_keep_37 : decode cX5_keep 37 = .ok (.iload_n 3, 1) := by decide +kernel
theorem dX5_keep_38 : decode cX5_keep 38 = .ok (.aload 4, 2) := by decide +kernel
theorem dX5_keep_40 : decode cX5_keep 40 = .ok (.getfield 33, 3) := by decide +kernel
theorem dX5_keep_43 : decode cX5_keep 43 = .ok (.iastore, 1) := by decide +kernel
theorem dX5_keep_44 : decode cX5_keep 44 = .ok (.aload_n 0, 1) := by decide +kernel
theorem dX5_keep_45 : decode cX5_keep 45 = .ok (.getfield 22, 3) := by decide +kernel
theorem dX5_keep_48 : decode cX5_keep 48 = .ok (.iload_n 3, 1) := by decide +kernel
theorem dX5_keep_49 : decode cX5_keep 49 = .ok (.aload 4, 2) := by decide +kernel
theorem dX5_keep_51 : decode cX5_keep 51 = .ok (.getfield 38, 3) := by decide +kernel
theorem dX5_keep_54 : decode cX5_keep 54 = .ok (.iastore, 1) := by decide +kernel
theorem dX5_keep_55 : decode cX5_keep 55 = .ok (.iinc 3 1, 3) := by decide +kernel
theorem dX5_keep_58 : decode cX5_keep 58 = .ok (.goto (-46), 3) := by decide +kernel
theorem dX5_keep_61 : decode cX5_keep 61 = .ok (.return_, 1) := by decide +kernel
theorem dX5_giveBack_0 : decode cX5_giveBack 0 = .ok (.iconst 0, 1) := by decide +kernel
theorem dX5_giveBack_1 : decode cX5_giveBack 1 = .ok (.istore_n 2, 1) := by decide +kernel
theorem dX5_giveBack_2 : decode cX5_giveBack 2 = .ok (.iload_n 2, 1) := by decide +kernel
theorem dX5_giveBack_3 : decode cX5_giveBack 3 = .ok (.iconst 3, 1) := by decide +kernel
theorem dX5_giveBack_4 : decode cX5_giveBack 4 = .ok (.if_icmp .ge 58, 3) := by decide +kernel
theorem dX5_giveBack_7 : decode cX5_giveBack 7 = .ok (.iload_n 2, 1) := by decide +kernel
theorem dX5_giveBack_8 : decode cX5_giveBack 8 = .ok (.aload_n 1, 1) := by decide +kernel
theorem dX5_giveBack_9 : decode cX5_giveBack 9 = .ok (.arraylength, 1) := by decide +kernel
theorem dX5_giveBack_10 : decode cX5_giveBack 10 = .ok (.if_icmp .ge 52, 3) := by decide +kernel
theorem dX5_giveBack_13 : decode cX5_giveBack 13 = .ok (.aload_n 1, 1) := by decide +kernel
theorem dX5_giveBack_14 : decode cX5_giveBack 14 = .ok (.iload_n 2, 1) := by decide +kernel
theorem dX5_giveBack_15 : decode cX5_giveBack 15 = .ok (.aaload, 1) := by decide +kernel
theorem dX5_giveBack_16 : decode cX5_giveBack 16 = .ok (.astore_n 3, 1) := by decide +kernel
theorem dX5_giveBack_17 : decode cX5_giveBack 17 = .ok (.iload_n 2, 1) := by decide +kernel
theorem dX5_giveBack_18 : decode cX5_giveBack 18 = .ok (.aload_n 0, 1) := by decide +kernel
theorem dX5_giveBack_19 : decode cX5_giveBack 19 = .ok (.getfield 29, 3) := by decide +kernel
theorem dX5_giveBack_22 : decode cX5_giveBack 22 = .ok (.if_icmp .lt 10, 3) := by decide +kernel
theorem dX5_giveBack_25 : decode cX5_giveBack 25 = .ok (.aload_n 1, 1) := by decide +kernel
theorem dX5_giveBack_26 : decode cX5_giveBack 26 = .ok (.iload_n 2, 1) := by decide +kernel
theorem dX5_giveBack_27 : decode cX5_giveBack 27 = .ok (.aconst_null, 1) := by decide +kernel
theorem dX5_giveBack_28 : decode cX5_giveBack 28 = .ok (.aastore, 1) := by decide +kernel
theorem dX5_giveBack_29 : decode cX5_giveBack 29 = .ok (.goto 27, 3) := by decide +kernel
theorem dX5_giveBack_32 : decode cX5_giveBack 32 = .ok (.aload_n 3, 1) := by decide +kernel
theorem dX5_giveBack_33 : decode cX5_giveBack 33 = .ok (.ifnull 23, 3) := by decide +kernel
theorem dX5_giveBack_36 : decode cX5_giveBack 36 = .ok (.aload_n 3, 1) := by decide +kernel
theorem dX5_giveBack_37 : decode cX5_giveBack 37 = .ok (.aload_n 0, 1) := by decide +kernel
theorem dX5_giveBack_38 : decode cX5_giveBack 38 = .ok (.getfield 18, 3) := by decide +kernel
theorem dX5_giveBack_41 : decode cX5_giveBack 41 = .ok (.iload_n 2, 1) := by decide +kernel
theorem dX5_giveBack_42 : decode cX5_giveBack 42 = .ok (.iaload, 1) := by decide +kernel
theorem dX5_giveBack_43 : decode cX5_giveBack 43 = .ok (.putfield 33, 3) := by decide +kernel
theorem dX5_giveBack_46 : decode cX5_giveBack 46 = .ok (.aload_n 3, 1) := by decide +kernel
theorem dX5_giveBack_47 : decode cX5_giveBack 47 = .ok (.aload_n 0, 1) := by decide +kernel
theorem dX5_giveBack_48 : decode cX5_giveBack 48 = .ok (.getfield 22, 3) := by decide +kernel
theorem dX5_giveBack_51 : decode cX5_giveBack 51 = .ok (.iload_n 2, 1) := by decide +kernel
theorem dX5_giveBack_52 : decode cX5_giveBack 52 = .ok (.iaload, 1) := by decide +kernel
theorem dX5_giveBack_53 : decode cX5_giveBack 53 = .ok (.putfield 38, 3) := by decide +kernel
theorem dX5_giveBack_56 : decode cX5_giveBack 56 = .ok (.iinc 2 1, 3) := by decide +kernel
theorem dX5_giveBack_59 : decode cX5_giveBack 59 = .ok (.goto (-57), 3) := by decide +kernel
theorem dX5_giveBack_62 : decode cX5_giveBack 62 = .ok (.return_, 1) := by decide +kernel
theorem dX6_init_0 : decode cX6_init 0 = .ok (.aload_n 0, 1) := by decide +kernel
theorem dX6_init_1 : decode cX6_init 1 = .ok (.invokespecial 3, 3) := by decide +kernel
theorem dX6_init_4 : decode cX6_init 4 = .ok (.aload_n 0, 1) := by decide +kernel
theorem dX6_init_5 : decode cX6_init 5 = .ok (.iconst 3, 1) := by decide +kernel
theorem dX6_init_6 : decode cX6_init 6 = .ok (.newarray .int, 2) := by decide +kernel
theorem dX6_init_8 : decode cX6_init 8 = .ok (.putfield 9, 3) := by decide +kernel
theorem dX6_init_11 : decode cX6_init 11 = .ok (.return_, 1) := by decide +kernel
theorem dX6_begin_0 : decode cX6_begin 0 = .ok (.aload_n 0, 1) := by decide +kernel
theorem dX6_begin_1 : decode cX6_begin 1 = .ok (.iload_n 2, 1) := by decide +kernel
theorem dX6_begin_2 : decode cX6_begin 2 = .ok (.putfield 15, 3) := by decide +kernel
theorem dX6_begin_5 : decode cX6_begin 5 = .ok (.aload_n 0, 1) := by decide +kernel
theorem dX6_begin_6 : decode cX6_begin 6 = .ok (.iload_n 3, 1) := by decide +kernel
theorem dX6_begin_7 : decode cX6_begin 7 = .ok (.putfield 19, 3) := by decide +kernel
theorem dX6_begin_10 : decode cX6_begin 10 = .ok (.aload_n 0, 1) := by decide +kernel
theorem dX6_begin_11 : decode cX6_begin 11 = .ok (.iconst 0, 1) := by decide +kernel
theorem dX6_begin_12 : decode cX6_begin 12 = .ok (.putfield 22, 3) := by decide +kernel
theorem dX6_begin_15 : decode cX6_begin 15 = .ok (.iconst 0, 1) := by decide +kernel
theorem dX6_begin_16 : decode cX6_begin 16 = .ok (.istore 4, 2) := by decide +kernel
theorem dX6_begin_18 : decode cX6_begin 18 = .ok (.iload 4, 2) := by decide +kernel
theorem dX6_begin_20 : decode cX6_begin 20 = .ok (.iconst 3, 1) := by decide +kernel
theorem dX6_begin_21 : decode cX6_begin 21 = .ok (.if_icmp .ge 43, 3) := by decide +kernel
theorem dX6_begin_24 : decode cX6_begin 24 = .ok (.iload 4, 2) := by decide +kernel
theorem dX6_begin_26 : decode cX6_begin 26 = .ok (.aload_n 1, 1) := by decide +kernel
theorem dX6_begin_27 : decode cX6_begin 27 = .ok (.arraylength, 1) := by decide +kernel
theorem dX6_begin_28 : decode cX6_begin 28 = .ok (.if_icmp .ge 36, 3) := by decide +kernel
theorem dX6_begin_31 : decode cX6_begin 31 = .ok (.aload_n 1, 1) := by decide +kernel
theorem dX6_begin_32 : decode cX6_begin 32 = .ok (.iload 4, 2) := by decide +kernel
theorem dX6_begin_34 : decode cX6_begin 34 = .ok (.aaload, 1) := by decide +kernel
theorem dX6_begin_35 : decode cX6_begin 35 = .ok (.astore 5, 2) := by decide +kernel
theorem dX6_begin_37 : decode cX6_begin 37 = .ok (.aload_n 0, 1) := by decide +kernel
theorem dX6_begin_38 : decode cX6_begin 38 = .ok (.getfield 9, 3) := by decide +kernel
theorem dX6_begin_41 : decode cX6_begin 41 = .ok (.iload 4, 2) := by decide +kernel
theorem dX6_begin_43 : decode cX6_begin 43 = .ok (.aload 5, 2) := by decide +kernel
theorem dX6_begin_45 : decode cX6_begin 45 = .ok (.ifnonnull 7, 3) := by decide +kernel
theorem dX6_begin_48 : decode cX6_begin 48 = .ok (.iconst (-1), 1) := by decide +kernel
theorem dX6_begin_49 : decode cX6_begin 49 = .ok (.goto 8, 3) := by decide +kernel
theorem dX6_begin_52 : decode cX6_begin 52 = .ok (.aload 5, 2) := by decide +kernel
theorem dX6_begin_54 : decode cX6_begin 54 = .ok (.getfield 25, 3) := by decide +kernel
theorem dX6_begin_57 : decode cX6_begin 57 = .ok (.iastore, 1) := by decide +kernel
theorem dX6_begin_58 : decode cX6_begin 58 = .ok (.iinc 4 1, 3) := by decide +kernel
theorem dX6_begin_61 : decode cX6_begin 61 = .ok (.goto (-43), 3) := by decide +kernel
theorem dX6_begin_64 : decode cX6_begin 64 = .ok (.return_, 1) := by decide +kernel
theorem dX6_run_0 : decode cX6_run 0 = .ok (.iconst 0, 1) := by decide +kernel
theorem dX6_run_1 : decode cX6_run 1 = .ok (.istore 4, 2) := by decide +kernel
theorem dX6_run_3 : decode cX6_run 3 = .ok (.iload 4, 2) := by decide +kernel
theorem dX6_run_5 : decode cX6_run 5 = .ok (.iload_n 3, 1) := by decide +kernel
theorem dX6_run_6 : decode cX6_run 6 = .ok (.if_icmp .ge 77, 3) := by decide +kernel
theorem dX6_run_9 : decode cX6_run 9 = .ok (.iconst 0, 1) := by decide +kernel
theorem dX6_run_10 : decode cX6_run 10 = .ok (.istore 5, 2) := by decide +kernel
theorem dX6_run_12 : decode cX6_run 12 = .ok (.iload 5, 2) := by decide +kernel
theorem dX6_run_14 : decode cX6_run 14 = .ok (.iconst 3, 1) := by decide +kernel
theorem dX6_run_15 : decode cX6_run 15 = .ok (.if_icmp .ge 62, 3) := by decide +kernel
theorem dX6_run_18 : decode cX6_run 18 = .ok (.iload 5, 2) := by decide +kernel
theorem dX6_run_20 : decode cX6_run 20 = .ok (.aload_n 2, 1) := by decide +kernel
theorem dX6_run_21 : decode cX6_run 21 = .ok (.arraylength, 1) := by decide +kernel
theorem dX6_run_22 : decode cX6_run 22 = .ok (.if_icmp .ge 55, 3) := by decide +kernel
theorem dX6_run_25 : decode cX6_run 25 = .ok (.aload_n 2, 1) := by decide +kernel
theorem dX6_run_26 : decode cX6_run 26 = .ok (.iload 5, 2) := by decide +kernel
theorem dX6_run_28 : decode cX6_run 28 = .ok (.aaload, 1) := by decide +kernel
theorem dX6_run_29 : decode cX6_run 29 = .ok (.astore 6, 2) := by decide +kernel
theorem dX6_run_31 : decode cX6_run 31 = .ok (.aload 6, 2) := by decide +kernel
theorem dX6_run_33 : decode cX6_run 33 = .ok (.ifnull 38, 3) := by decide +kernel
theorem dX6_run_36 : decode cX6_run 36 = .ok (.aload_n 1, 1) := by decide +kernel
theorem dX6_run_37 : decode cX6_run 37 = .ok (.aload_n 0, 1) := by decide +kernel
theorem dX6_run_38 : decode cX6_run 38 = .ok (.iconst 5, 1) := by decide +kernel
theorem dX6_run_39 : decode cX6_run 39 = .ok (.invokevirtual 30, 3) := by decide +kernel
theorem dX6_run_42 : decode cX6_run 42 = .ok (.putfield 34, 3) := by decide +kernel
theorem dX6_run_45 : decode cX6_run 45 = .ok (.aload_n 0, 1) := by decide +kernel
theorem dX6_run_46 : decode cX6_run 46 = .ok (.getfield 9, 3) := by decide +kernel
theorem dX6_run_49 : decode cX6_run 49 = .ok (.iload 5, 2) := by decide +kernel
theorem dX6_run_51 : decode cX6_run 51 = .ok (.aload_n 0, 1) := by decide +kernel
theorem dX6_run_52 : decode cX6_run 52 = .ok (.aload_n 1, 1) := by decide +kernel
theorem dX6_run_53 : decode cX6_run 53 = .ok (.aload 6, 2) := by decide +kernel
theorem dX6_run_55 : decode cX6_run 55 = .ok (.aload_n 0, 1) := by decide +kernel
theorem dX6_run_56 : decode cX6_run 56 = .ok (.getfield 9, 3) := by decide +kernel
theorem dX6_run_59 : decode cX6_run 59 = .ok (.iload 5, 2) := by decide +kernel
theorem dX6_run_61 : decode cX6_run 61 = .ok (.iaload, 1) := by decide +kernel
theorem dX6_run_62 : decode cX6_run 62 = .ok (.aload_n 0, 1) := by decide +kernel
theorem dX6_run_63 : decode cX6_run 63 = .ok (.iconst 4, 1) := by decide +kernel
theorem dX6_run_64 : decode cX6_run 64 = .ok (.invokevirtual 30, 3) := by decide +kernel
theorem dX6_run_67 : decode cX6_run 67 = .ok (.invokevirtual 39, 3) := by decide +kernel
theorem dX6_run_70 : decode cX6_run 70 = .ok (.iastore, 1) := by decide +kernel
theorem dX6_run_71 : decode cX6_run 71 = .ok (.iinc 5 1, 3) := by decide +kernel
theorem dX6_run_74 : decode cX6_run 74 = .ok (.goto (-62), 3) := by decide +kernel
theorem dX6_run_77 : decode cX6_run 77 = .ok (.iinc 4 1, 3) := by decide +kernel
theorem dX6_run_80 : decode cX6_run 80 = .ok (.goto (-77), 3) := by decide +kernel
theorem dX6_run_83 : decode cX6_run 83 = .ok (.return_, 1) := by decide +kernel
theorem dX6_stranded_0 : decode cX6_stranded 0 = .ok (.iconst 0, 1) := by decide +kernel
theorem dX6_stranded_1 : decode cX6_stranded 1 = .ok (.istore_n 3, 1) := by decide +kernel
theorem dX6_stranded_2 : decode cX6_stranded 2 = .ok (.iconst 0, 1) := by decide +kernel
theorem dX6_stranded_3 : decode cX6_stranded 3 = .ok (.istore 4, 2) := by decide +kernel
theorem dX6_stranded_5 : decode cX6_stranded 5 = .ok (.iload 4, 2) := by decide +kernel
theorem dX6_stranded_7 : decode cX6_stranded 7 = .ok (.iconst 3, 1) := by decide +kernel
theorem dX6_stranded_8 : decode cX6_stranded 8 = .ok (.if_icmp .ge 50, 3) := by decide +kernel
theorem dX6_stranded_11 : decode cX6_stranded 11 = .ok (.iload 4, 2) := by decide +kernel
theorem dX6_stranded_13 : decode cX6_stranded 13 = .ok (.aload_n 2, 1) := by decide +kernel
theorem dX6_stranded_14 : decode cX6_stranded 14 = .ok (.arraylength, 1) := by decide +kernel
theorem dX6_stranded_15 : decode cX6_stranded 15 = .ok (.if_icmp .ge 43, 3) := by decide +kernel
theorem dX6_stranded_18 : decode cX6_stranded 18 = .ok (.aload_n 2, 1) := by decide +kernel
theorem dX6_stranded_19 : decode cX6_stranded 19 = .ok (.iload 4, 2) := by decide +kernel
theorem dX6_stranded_21 : decode cX6_stranded 21 = .ok (.aaload, 1) := by decide +kernel
theorem dX6_stranded_22 : decode cX6_stranded 22 = .ok (.astore 5, 2) := by decide +kernel
theorem dX6_stranded_24 : decode cX6_stranded 24 = .ok (.aload 5, 2) := by decide +kernel
theorem dX6_stranded_26 : decode cX6_stranded 26 = .ok (.ifnull 26, 3) := by decide +kernel
theorem dX6_stranded_29 : decode cX6_stranded 29 = .ok (.aload_n 1, 1) := by decide +kernel
theorem dX6_stranded_30 : decode cX6_stranded 30 = .ok (.aload 5, 2) := by decide +kernel
theorem dX6_stranded_32 : decode cX6_stranded 32 = .ok (.aload_n 0, 1) := by decide +kernel
theorem dX6_stranded_33 : decode cX6_stranded 33 = .ok (.getfield 9, 3) := by decide +kernel
theorem dX6_stranded_36 : decode cX6_stranded 36 = .ok (.iload 4, 2) := by decide +kernel
theorem dX6_stranded_38 : decode cX6_stranded 38 = .ok (.iaload, 1) := by decide +kernel
theorem dX6_stranded_39 : decode cX6_stranded 39 = .ok (.aload_n 0, 1) := by decide +kernel
theorem dX6_stranded_40 : decode cX6_stranded 40 = .ok (.getfield 15, 3) := by decide +kernel
theorem dX6_stranded_43 : decode cX6_stranded 43 = .ok (.invokevirtual 43, 3) := by decide +kernel
theorem dX6_stranded_46 : decode cX6_stranded 46 = .ok (.ifCond .ne 6, 3) := by decide +kernel
theorem dX6_stranded_49 : decode cX6_stranded 49 = .ok (.iinc 3 1, 3) := by decide +kernel
theorem dX6_stranded_52 : decode cX6_stranded 52 = .ok (.iinc 4 1, 3) := by decide +kernel
theorem dX6_stranded_55 : decode cX6_stranded 55 = .ok (.goto (-50), 3) := by decide +kernel
theorem dX6_stranded_58 : decode cX6_stranded 58 = .ok (.iload_n 3, 1) := by decide +kernel
theorem dX6_stranded_59 : decode cX6_stranded 59 = .ok (.ireturn, 1) := by decide +kernel
theorem dX6_afterSailing_0 : decode cX6_afterSailing 0 = .ok (.aload_n 1, 1) := by decide +kernel
theorem dX6_afterSailing_1 : decode cX6_afterSailing 1 = .ok (.aload_n 2, 1) := by decide +kernel
theorem dX6_afterSailing_2 : decode cX6_afterSailing 2 = .ok (.iload_n 3, 1) := by decide +kernel
theorem dX6_afterSailing_3 : decode cX6_afterSailing 3 = .ok (.iload 4, 2) := by decide +kernel
theorem dX6_afterSailing_5 : decode cX6_afterSailing 5 = .ok (.aload_n 0, 1) := by decide +kernel
theorem dX6_afterSailing_6 : decode cX6_afterSailing 6 = .ok (.getfield 15, 3) := by decide +kernel
theorem dX6_afterSailing_9 : decode cX6_afterSailing 9 = .ok (.invokevirtual 47, 3) := by decide +kernel
theorem dX6_afterSailing_12 : decode cX6_afterSailing 12 = .ok (.istore 5, 2) := by decide +kernel
theorem dX6_afterSailing_14 : decode cX6_afterSailing 14 = .ok (.iload 5, 2) := by decide +kernel
theorem dX6_afterSailing_16 : decode cX6_afterSailing 16 = .ok (.iconst (-1), 1) := by decide +kernel
theorem dX6_afterSailing_17 : decode cX6_afterSailing 17 = .ok (.if_icmp .ne 15, 3) := by decide +kernel
theorem dX6_afterSailing_20 : decode cX6_afterSailing 20 = .ok (.aload_n 0, 1) := by decide +kernel
theorem dX6_afterSailing_21 : decode cX6_afterSailing 21 = .ok (.dup, 1) := by decide +kernel
theorem dX6_afterSailing_22 : decode cX6_afterSailing 22 = .ok (.getfield 22, 3) := by decide +kernel
theorem dX6_afterSailing_25 : decode cX6_afterSailing 25 = .ok (.iconst 1, 1) := by decide +kernel
theorem dX6_afterSailing_26 : decode cX6_afterSailing 26 = .ok (.iadd, 1) := by decide +kernel
theorem dX6_afterSailing_27 : decode cX6_afterSailing 27 = .ok (.putfield 22, 3) := by decide +kernel
theorem dX6_afterSailing_30 : decode cX6_afterSailing 30 = .ok (.iload_n 3, 1) := by decide +kernel
theorem dX6_afterSailing_31 : decode cX6_afterSailing 31 = .ok (.ireturn, 1) := by decide +kernel
theorem dX6_afterSailing_32 : decode cX6_afterSailing 32 = .ok (.aload_n 0, 1) := by decide +kernel
theorem dX6_afterSailing_33 : decode cX6_afterSailing 33 = .ok (.dup, 1) := by decide +kernel
theorem dX6_afterSailing_34 : decode cX6_afterSailing 34 = .ok (.getfield 15, 3) := by decide +kernel
theorem dX6_afterSailing_37 : decode cX6_afterSailing 37 = .ok (.iload 5, 2) := by decide +kernel
theorem dX6_afterSailing_39 : decode cX6_afterSailing 39 = .ok (.iadd, 1) := by decide +kernel
theorem dX6_afterSailing_40 : decode cX6_afterSailing 40 = .ok (.putfield 15, 3) := by decide +kernel
theorem dX6_afterSailing_43 : decode cX6_afterSailing 43 = .ok (.iload_n 3, 1) := by decide +kernel
theorem dX6_afterSailing_44 : decode cX6_afterSailing 44 = .ok (.iload 4, 2) := by decide +kernel
theorem dX6_afterSailing_46 : decode cX6_afterSailing 46 = .ok (.invokestatic 51, 3) := by decide +kernel
theorem dX6_afterSailing_49 : decode cX6_afterSailing 49 = .ok (.ireturn, 1) := by decide +kernel
theorem dX6_drawn_0 : decode cX6_drawn 0 = .ok (.aload_n 0, 1) := by decide +kernel
theorem dX6_drawn_1 : decode cX6_drawn 1 = .ok (.ldc2_w 55, 3) := by decide +kernel
theorem dX6_drawn_4 : decode cX6_drawn 4 = .ok (.aload_n 0, 1) := by decide +kernel
theorem dX6_drawn_5 : decode cX6_drawn 5 = .ok (.getfield 19, 3) := by decide +kernel
theorem dX6_drawn_8 : decode cX6_drawn 8 = .ok (.i2l, 1) := by decide +kernel
theorem dX6_drawn_9 : decode cX6_drawn 9 = .ok (.lmul, 1) := by decide +kernel
theorem dX6_drawn_10 : decode cX6_drawn 10 = .ok (.ldc2_w 57, 3) := by decide +kernel
theorem dX6_drawn_13 : decode cX6_drawn 13 = .ok (.ladd, 1) := by decide +kernel
theorem dX6_drawn_14 : decode cX6_drawn 14 = .ok (.ldc2_w 59, 3) := by decide +kernel
theorem dX6_drawn_17 : decode cX6_drawn 17 = .ok (.land, 1) := by decide +kernel
theorem dX6_drawn_18 : decode cX6_drawn 18 = .ok (.l2i, 1) := by decide +kernel
theorem dX6_drawn_19 : decode cX6_drawn 19 = .ok (.putfield 19, 3) := by decide +kernel
theorem dX6_drawn_22 : decode cX6_drawn 22 = .ok (.iload_n 1, 1) := by decide +kernel
theorem dX6_drawn_23 : decode cX6_drawn 23 = .ok (.ifCond .le 15, 3) := by decide +kernel
theorem dX6_drawn_26 : decode cX6_drawn 26 = .ok (.aload_n 0, 1) := by decide +kernel
theorem dX6_drawn_27 : decode cX6_drawn 27 = .ok (.getfield 19, 3) := by decide +kernel
theorem dX6_drawn_30 : decode cX6_drawn 30 = .ok (.ldc 61, 2) := by decide +kernel
theorem dX6_drawn_32 : decode cX6_drawn 32 = .ok (.idiv, 1) := by decide +kernel
theorem dX6_drawn_33 : decode cX6_drawn 33 = .ok (.iload_n 1, 1) := by decide +kernel
theorem dX6_drawn_34 : decode cX6_drawn 34 = .ok (.irem, 1) := by decide +kernel
theorem dX6_drawn_35 : decode cX6_drawn 35 = .ok (.goto 4, 3) := by decide +kernel
theorem dX6_drawn_38 : decode cX6_drawn 38 = .ok (.iconst 0, 1) := by decide +kernel
theorem dX6_drawn_39 : decode cX6_drawn 39 = .ok (.ireturn, 1) := by decide +kernel
theorem dX7_init_0 : decode cX7_init 0 = .ok (.aload_n 0, 1) := by decide +kernel
theorem dX7_init_1 : decode cX7_init 1 = .ok (.invokespecial 3, 3) := by decide +kernel
theorem dX7_init_4 : decode cX7_init 4 = .ok (.aload_n 0, 1) := by decide +kernel
theorem dX7_init_5 : decode cX7_init 5 = .ok (.iconst 4, 1) := by decide +kernel
theorem dX7_init_6 : decode cX7_init 6 = .ok (.putfield 9, 3) := by decide +kernel
theorem dX7_init_9 : decode cX7_init 9 = .ok (.aload_n 0, 1) := by decide +kernel
theorem dX7_init_10 : decode cX7_init 10 = .ok (.aload_n 1, 1) := by decide +kernel
theorem dX7_init_11 : decode cX7_init 11 = .ok (.putfield 15, 3) := by decide +kernel
theorem dX7_init_14 : decode cX7_init 14 = .ok (.return_, 1) := by decide +kernel
theorem dX7_sow_0 : decode cX7_sow 0 = .ok (.iload_n 1, 1) := by decide +kernel
theorem dX7_sow_1 : decode cX7_sow 1 = .ok (.ifCond .lt 19, 3) := by decide +kernel
theorem dX7_sow_4 : decode cX7_sow 4 = .ok (.iload_n 1, 1) := by decide +kernel
theorem dX7_sow_5 : decode cX7_sow 5 = .ok (.aload_n 0, 1) := by decide +kernel
theorem dX7_sow_6 : decode cX7_sow 6 = .ok (.getfield 15, 3) := by decide +kernel
theorem dX7_sow_9 : decode cX7_sow 9 = .ok (.arraylength, 1) := by decide +kernel
theorem dX7_sow_10 : decode cX7_sow 10 = .ok (.if_icmp .ge 10, 3) := by decide +kernel
theorem dX7_sow_13 : decode cX7_sow 13 = .ok (.aload_n 0, 1) := by decide +kernel
theorem dX7_sow_14 : decode cX7_sow 14 = .ok (.getfield 15, 3) := by decide +kernel
theorem dX7_sow_17 : decode cX7_sow 17 = .ok (.iload_n 1, 1) := by decide +kernel
theorem dX7_sow_18 : decode cX7_sow 18 = .ok (.iload_n 2, 1) := by decide +kernel
theorem dX7_sow_19 : decode cX7_sow 19 = .ok (.iastore, 1) := by decide +kernel
theorem dX7_sow_20 : decode cX7_sow 20 = .ok (.return_, 1) := by decide +kernel
theorem dX7_cutHour_0 : decode cX7_cutHour 0 = .ok (.aload_n 0, 1) := by decide +kernel
theorem dX7_cutHour_1 : decode cX7_cutHour 1 = .ok (.getfield 19, 3) := by decide +kernel
theorem dX7_cutHour_4 : decode cX7_cutHour 4 = .ok (.iload_n 1, 1) := by decide +kernel
theorem dX7_cutHour_5 : decode cX7_cutHour 5 = .ok (.iconst 1, 1) := by decide +kernel
theorem dX7_cutHour_6 : decode cX7_cutHour 6 = .ok (.iadd, 1) := by decide +kernel
theorem dX7_cutHour_7 : decode cX7_cutHour 7 = .ok (.imul, 1) := by decide +kernel
theorem dX7_cutHour_8 : decode cX7_cutHour 8 = .ok (.ireturn, 1) := by decide +kernel
theorem dX7_highAt_0 : decode cX7_highAt 0 = .ok (.iload_n 1, 1) := by decide +kernel
theorem dX7_highAt_1 : decode cX7_highAt 1 = .ok (.ifCond .lt 24, 3) := by decide +kernel
theorem dX7_highAt_4 : decode cX7_highAt 4 = .ok (.iload_n 1, 1) := by decide +kernel
theorem dX7_highAt_5 : decode cX7_highAt 5 = .ok (.aload_n 0, 1) := by decide +kernel
theorem dX7_highAt_6 : decode cX7_highAt 6 = .ok (.getfield 15, 3) := by decide +kernel
theorem dX7_highAt_9 : decode cX7_highAt 9 = .ok (.arraylength, 1) := by decide +kernel
theorem dX7_highAt_10 : decode cX7_highAt 10 = .ok (.if_icmp .ge 15, 3) := by decide +kernel
theorem dX7_highAt_13 : decode cX7_highAt 13 = .ok (.iload_n 2, 1) := by decide +kernel
theorem dX7_highAt_14 : decode cX7_highAt 14 = .ok (.aload_n 0, 1) := by decide +kernel
theorem dX7_highAt_15 : decode cX7_highAt 15 = .ok (.getfield 19, 3) := by decide +kernel
theorem dX7_highAt_18 : decode cX7_highAt 18 = .ok (.iload_n 1, 1) := by decide +kernel
theorem dX7_highAt_19 : decode cX7_highAt 19 = .ok (.iconst 1, 1) := by decide +kernel
theorem dX7_highAt_20 : decode cX7_highAt 20 = .ok (.iadd, 1) := by decide +kernel
theorem dX7_highAt_21 : decode cX7_highAt 21 = .ok (.imul, 1) := by decide +kernel
theorem dX7_highAt_22 : decode cX7_highAt 22 = .ok (.if_icmp .lt 5, 3) := by decide +kernel
theorem dX7_highAt_25 : decode cX7_highAt 25 = .ok (.iconst 0, 1) := by decide +kernel
theorem dX7_highAt_26 : decode cX7_highAt 26 = .ok (.ireturn, 1) := by decide +kernel
theorem dX7_highAt_27 : decode cX7_highAt 27 = .ok (.aload_n 0, 1) := by decide +kernel
theorem dX7_highAt_28 : decode cX7_highAt 28 = .ok (.getfield 15, 3) := by decide +kernel
theorem dX7_highAt_31 : decode cX7_highAt 31 = .ok (.iload_n 1, 1) := by decide +kernel
theorem dX7_highAt_32 : decode cX7_highAt 32 = .ok (.iaload, 1) := by decide +kernel
theorem dX7_highAt_33 : decode cX7_highAt 33 = .ok (.ireturn, 1) := by decide +kernel
theorem dX7_floats_0 : decode cX7_floats 0 = .ok (.aload_n 1, 1) := by decide +kernel
theorem dX7_floats_1 : decode cX7_floats 1 = .ok (.ifnull 20, 3) := by decide +kernel
theorem dX7_floats_4 : decode cX7_floats 4 = .ok (.aload_n 0, 1) := by decide +kernel
theorem dX7_floats_5 : decode cX7_floats 5 = .ok (.iload_n 2, 1) := by decide +kernel
theorem dX7_floats_6 : decode cX7_floats 6 = .ok (.iload_n 3, 1) := by decide +kernel
theorem dX7_floats_7 : decode cX7_floats 7 = .ok (.invokevirtual 22, 3) := by decide +kernel
theorem dX7_floats_10 : decode cX7_floats 10 = .ok (.aload_n 1, 1) := by decide +kernel
theorem dX7_floats_11 : decode cX7_floats 11 = .ok (.invokevirtual 26, 3) := by decide +kernel
theorem dX7_floats_14 : decode cX7_floats 14 = .ok (.if_icmp .lt 7, 3) := by decide +kernel
theorem dX7_floats_17 : decode cX7_floats 17 = .ok (.iconst 1, 1) := by decide +kernel
theorem dX7_floats_18 : decode cX7_floats 18 = .ok (.goto 4, 3) := by decide +kernel
theorem dX7_floats_21 : decode cX7_floats 21 = .ok (.iconst 0, 1) := by decide +kernel
theorem dX7_floats_22 : decode cX7_floats 22 = .ok (.ireturn, 1) := by decide +kernel
theorem dX7_hoursToSail_0 : decode cX7_hoursToSail 0 = .ok (.iload_n 2, 1) := by decide +kernel
theorem dX7_hoursToSail_1 : decode cX7_hoursToSail 1 = .ok (.iload_n 3, 1) := by decide +kernel
theorem dX7_hoursToSail_2 : decode cX7_hoursToSail 2 = .ok (.invokestatic 32, 3) := by decide +kernel
theorem dX7_hoursToSail_5 : decode cX7_hoursToSail 5 = .ok (.istore 5, 2) := by decide +kernel
theorem dX7_hoursToSail_7 : decode cX7_hoursToSail 7 = .ok (.aload_n 1, 1) := by decide +kernel
theorem dX7_hoursToSail_8 : decode cX7_hoursToSail 8 = .ok (.ifnull 20, 3) := by decide +kernel
theorem dX7_hoursToSail_11 : decode cX7_hoursToSail 11 = .ok (.iload 5, 2) := by decide +kernel
theorem dX7_hoursToSail_13 : decode cX7_hoursToSail 13 = .ok (.iconst (-1), 1) := by decide +kernel
theorem dX7_hoursToSail_14 : decode cX7_hoursToSail 14 = .ok (.if_icmp .eq 14, 3) := by decide +kernel
theorem dX7_hoursToSail_17 : decode cX7_hoursToSail 17 = .ok (.aload_n 0, 1) := by decide +kernel
theorem dX7_hoursToSail_18 : decode cX7_hoursToSail 18 = .ok (.aload_n 1, 1) := by decide +kernel
theorem dX7_hoursToSail_19 : decode cX7_hoursToSail 19 = .ok (.iload_n 2, 1) := by decide +kernel
theorem dX7_hoursToSail_20 : decode cX7_hoursToSail 20 = .ok (.iload 4, 2) := by decide +kernel
theorem dX7_hoursToSail_22 : decode cX7_hoursToSail 22 = .ok (.invokevirtual 35, 3) := by decide +kernel
theorem dX7_hoursToSail_25 : decode cX7_hoursToSail 25 = .ok (.ifCond .ne 5, 3) := by decide +kernel
theorem dX7_hoursToSail_28 : decode cX7_hoursToSail 28 = .ok (.iconst (-1), 1) := by decide +kernel
theorem dX7_hoursToSail_29 : decode cX7_hoursToSail 29 = .ok (.ireturn, 1) := by decide +kernel
theorem dX7_hoursToSail_30 : decode cX7_hoursToSail 30 = .ok (.aload_n 1, 1) := by decide +kernel
theorem dX7_hoursToSail_31 : decode cX7_hoursToSail 31 = .ok (.iload_n 3, 1) := by decide +kernel
theorem dX7_hoursToSail_32 : decode cX7_hoursToSail 32 = .ok (.aload_n 0, 1) := by decide +kernel
theorem dX7_hoursToSail_33 : decode cX7_hoursToSail 33 = .ok (.getfield 9, 3) := by decide +kernel
theorem dX7_hoursToSail_36 : decode cX7_hoursToSail 36 = .ok (.invokevirtual 39, 3) := by decide +kernel
theorem dX7_hoursToSail_39 : decode cX7_hoursToSail 39 = .ok (.istore 6, 2) := by decide +kernel
theorem dX7_hoursToSail_41 : decode cX7_hoursToSail 41 = .ok (.iload 6, 2) := by decide +kernel
theorem dX7_hoursToSail_43 : decode cX7_hoursToSail 43 = .ok (.iconst (-1), 1) := by decide +kernel
theorem dX7_hoursToSail_44 : decode cX7_hoursToSail 44 = .ok (.if_icmp .eq 18, 3) := by decide +kernel
theorem dX7_hoursToSail_47 : decode cX7_hoursToSail 47 = .ok (.aload_n 0, 1) := by decide +kernel
theorem dX7_hoursToSail_48 : decode cX7_hoursToSail 48 = .ok (.aload_n 1, 1) := by decide +kernel
theorem dX7_hoursToSail_49 : decode cX7_hoursToSail 49 = .ok (.iload 5, 2) := by decide +kernel
theorem dX7_hoursToSail_51 : decode cX7_hoursToSail 51 = .ok (.iload 4, 2) := by decide +kernel
theorem dX7_hoursToSail_53 : decode cX7_hoursToSail 53 = .ok (.iload 6, 2) := by decide +kernel
theorem dX7_hoursToSail_55 : decode cX7_hoursToSail 55 = .ok (.iadd, 1) := by decide +kernel
theorem dX7_hoursToSail_56 : decode cX7_hoursToSail 56 = .ok (.invokevirtual 35, 3) := by decide +kernel
theorem dX7_hoursToSail_59 : decode cX7_hoursToSail 59 = .ok (.ifCond .ne 5, 3) := by decide +kernel
theorem dX7_hoursToSail_62 : decode cX7_hoursToSail 62 = .ok (.iconst (-1), 1) := by decide +kernel
theorem dX7_hoursToSail_63 : decode cX7_hoursToSail 63 = .ok (.ireturn, 1) := by decide +kernel
theorem dX7_hoursToSail_64 : decode cX7_hoursToSail 64 = .ok (.iload 6, 2) := by decide +kernel
theorem dX7_hoursToSail_66 : decode cX7_hoursToSail 66 = .ok (.ireturn, 1) := by decide +kernel
theorem dX8_init_0 : decode cX8_init 0 = .ok (.aload_n 0, 1) := by decide +kernel
theorem dX8_init_1 : decode cX8_init 1 = .ok (.invokespecial 3, 3) := by decide +kernel
theorem dX8_init_4 : decode cX8_init 4 = .ok (.aload_n 0, 1) := by decide +kernel
theorem dX8_init_5 : decode cX8_init 5 = .ok (.bipush 6, 2) := by decide +kernel
theorem dX8_init_7 : decode cX8_init 7 = .ok (.newarray .int, 2) := by decide +kernel
theorem dX8_init_9 : decode cX8_init 9 = .ok (.putfield 9, 3) := by decide +kernel
theorem dX8_init_12 : decode cX8_init 12 = .ok (.aload_n 0, 1) := by decide +kernel
theorem dX8_init_13 : decode cX8_init 13 = .ok (.bipush 6, 2) := by decide +kernel
theorem dX8_init_15 : decode cX8_init 15 = .ok (.newarray .int, 2) := by decide +kernel
theorem dX8_init_17 : decode cX8_init 17 = .ok (.putfield 15, 3) := by decide +kernel
theorem dX8_init_20 : decode cX8_init 20 = .ok (.aload_n 0, 1) := by decide +kernel
theorem dX8_init_21 : decode cX8_init 21 = .ok (.bipush 6, 2) := by decide +kernel
theorem dX8_init_23 : decode cX8_init 23 = .ok (.newarray .int, 2) := by decide +kernel
theorem dX8_init_25 : decode cX8_init 25 = .ok (.putfield 18, 3) := by decide +kernel
theorem dX8_init_28 : decode cX8_init 28 = .ok (.aload_n 0, 1) := by decide +kernel
theorem dX8_init_29 : decode cX8_init 29 = .ok (.bipush 41, 2) := by decide +kernel
theorem dX8_init_31 : decode cX8_init 31 = .ok (.newarray .int, 2) := by decide +kernel
theorem dX8_init_33 : decode cX8_init 33 = .ok (.putfield 21, 3) := by decide +kernel
theorem dX8_init_36 : decode cX8_init 36 = .ok (.aload_n 0, 1) := by decide +kernel
theorem dX8_init_37 : decode cX8_init 37 = .ok (.bipush 41, 2) := by decide +kernel
theorem dX8_init_39 : decode cX8_init 39 = .ok (.newarray .int, 2) := by decide +kernel
theorem dX8_init_41 : decode cX8_init 41 = .ok (.putfield 24, 3) := by decide +kernel
theorem dX8_init_44 : decode cX8_init 44 = .ok (.return_, 1) := by decide +kernel
theorem dX8_add_0 : decode cX8_add 0 = .ok (.aload_n 0, 1) := by decide +kernel
theorem dX8_add_1 : decode cX8_add 1 = .ok (.getfield 27, 3) := by decide +kernel
theorem dX8_add_4 : decode cX8_add 4 = .ok (.ifCond .lt 12, 3) := by decide +kernel
theorem dX8_add_7 : decode cX8_add 7 = .ok (.aload_n 0, 1) := by decide +kernel
theorem dX8_add_8 : decode cX8_add 8 = .ok (.getfield 27, 3) := by decide +kernel
theorem dX8_add_11 : decode cX8_add 11 = .ok (.bipush 6, 2) := by decide +kernel
theorem dX8_add_13 : decode cX8_add 13 = .ok (.if_icmp .lt 5, 3) := by decide +kernel
theorem dX8_add_16 : decode cX8_add 16 = .ok (.iconst 0, 1) := by decide +kernel
theorem dX8_add_17 : decode cX8_add 17 = .ok (.ireturn, 1) := by decide +kernel
theorem dX8_add_18 : decode cX8_add 18 = .ok (.aload_n 0, 1) := by decide +kernel
theorem dX8_add_19 : decode cX8_add 19 = .ok (.getfield 9, 3) := by decide +kernel
theorem dX8_add_22 : decode cX8_add 22 = .ok (.aload_n 0, 1) := by decide +kernel
theorem dX8_add_23 : decode cX8_add 23 = .ok (.getfield 27, 3) := by decide +kernel
theorem dX8_add_26 : decode cX8_add 26 = .ok (.iload_n 1, 1) := by decide +kernel
theorem dX8_add_27 : decode cX8_add 27 = .ok (.iastore, 1) := by decide +kernel
theorem dX8_add_28 : decode cX8_add 28 = .ok (.aload_n 0, 1) := by decide +kernel
theorem dX8_add_29 : decode cX8_add 29 = .ok (.getfield 15, 3) := by decide +kernel
theorem dX8_add_32 : decode cX8_add 32 = .ok (.aload_n 0, 1) := by decide +kernel
theorem dX8_add_33 : decode cX8_add 33 = .ok (.getfield 27, 3) := by decide +kernel
theorem dX8_add_36 : decode cX8_add 36 = .ok (.iload_n 2, 1) := by decide +kernel
theorem dX8_add_37 : decode cX8_add 37 = .ok (.iastore, 1) := by decide +kernel
theorem dX8_add_38 : decode cX8_add 38 = .ok (.aload_n 0, 1) := by decide +kernel
theorem dX8_add_39 : decode cX8_add 39 = .ok (.getfield 18, 3) := by decide +kernel
theorem dX8_add_42 : decode cX8_add 42 = .ok (.aload_n 0, 1) := by decide +kernel
theorem dX8_add_43 : decode cX8_add 43 = .ok (.getfield 27, 3) := by decide +kernel
theorem dX8_add_46 : decode cX8_add 46 = .ok (.iload_n 3, 1) := by decide +kernel
theorem dX8_add_47 : decode cX8_add 47 = .ok (.iastore, 1) := by decide +kernel
theorem dX8_add_48 : decode cX8_add 48 = .ok (.aload_n 0, 1) := by decide +kernel
theorem dX8_add_49 : decode cX8_add 49 = .ok (.dup, 1) := by decide +kernel
theorem dX8_add_50 : decode cX8_add 50 = .ok (.getfield 27, 3) := by decide +kernel
theorem dX8_add_53 : decode cX8_add 53 = .ok (.iconst 1, 1) := by decide +kernel
theorem dX8_add_54 : decode cX8_add 54 = .ok (.iadd, 1) := by decide +kernel
theorem dX8_add_55 : decode cX8_add 55 = .ok (.putfield 27, 3) := by decide +kernel
theorem dX8_add_58 : decode cX8_add 58 = .ok (.iconst 1, 1) := by decide +kernel
theorem dX8_add_59 : decode cX8_add 59 = .ok (.ireturn, 1) := by decide +kernel
theorem dX8_become_0 : decode cX8_become 0 = .ok (.aload_n 0, 1) := by decide +kernel
theorem dX8_become_1 : decode cX8_become 1 = .ok (.aload_n 1, 1) := by decide +kernel
theorem dX8_become_2 : decode cX8_become 2 = .ok (.getfield 27, 3) := by decide +kernel
theorem dX8_become_5 : decode cX8_become 5 = .ok (.putfield 27, 3) := by decide +kernel
theorem dX8_become_8 : decode cX8_become 8 = .ok (.iconst 0, 1) := by decide +kernel
theorem dX8_become_9 : decode cX8_become 9 = .ok (.istore_n 2, 1) := by decide +kernel
theorem dX8_become_10 : decode cX8_become 10 = .ok (.iload_n 2, 1) := by decide +kernel
theorem dX8_become_11 : decode cX8_become 11 = .ok (.bipush 6, 2) := by decide +kernel
theorem dX8_become_13 : decode cX8_become 13 = .ok (.if_icmp .ge 45, 3) := by decide +kernel
theorem dX8_become_16 : decode cX8_become 16 = .ok (.aload_n 0, 1) := by decide +kernel
theorem dX8_become_17 : decode cX8_become 17 = .ok (.getfield 9, 3) := by decide +kernel
theorem dX8_become_20 : decode cX8_become 20 = .ok (.iload_n 2, 1) := by decide +kernel
theorem dX8_become_21 : decode cX8_become 21 = .ok (.aload_n 1, 1) := by decide +kernel
theorem dX8_become_22 : decode cX8_become 22 = .ok (.getfield 9, 3) := by decide +kernel
theorem dX8_become_25 : decode cX8_become 25 = .ok (.iload_n 2, 1) := by decide +kernel
theorem dX8_become_26 : decode cX8_become 26 = .ok (.iaload, 1) := by decide +kernel
theorem dX8_become_27 : decode cX8_become 27 = .ok (.iastore, 1) := by decide +kernel
theorem dX8_become_28 : decode cX8_become 28 = .ok (.aload_n 0, 1) := by decide +kernel
theorem dX8_become_29 : decode cX8_become 29 = .ok (.getfield 15, 3) := by decide +kernel
theorem dX8_become_32 : decode cX8_become 32 = .ok (.iload_n 2, 1) := by decide +kernel
theorem dX8_become_33 : decode cX8_become 33 = .ok (.aload_n 1, 1) := by decide +kernel
theorem dX8_become_34 : decode cX8_become 34 = .ok (.getfield 15, 3) := by decide +kernel
theorem dX8_become_37 : decode cX8_become 37 = .ok (.iload_n 2, 1) := by decide +kernel
theorem dX8_become_38 : decode cX8_become 38 = .ok (.iaload, 1) := by decide +kernel
theorem dX8_become_39 : decode cX8_become 39 = .ok (.iastore, 1) := by decide +kernel
theorem dX8_become_40 : decode cX8_become 40 = .ok (.aload_n 0, 1) := by decide +kernel
theorem dX8_become_41 : decode cX8_become 41 = .ok (.getfield 18, 3) := by decide +kernel
theorem dX8_become_44 : decode cX8_become 44 = .ok (.iload_n 2, 1) := by decide +kernel
theorem dX8_become_45 : decode cX8_become 45 = .ok (.aload_n 1, 1) := by decide +kernel
theorem dX8_become_46 : decode cX8_become 46 = .ok (.getfield 18, 3) := by decide +kernel
theorem dX8_become_49 : decode cX8_become 49 = .ok (.iload_n 2, 1) := by decide +kernel
theorem dX8_become_50 : decode cX8_become 50 = .ok (.iaload, 1) := by decide +kernel
theorem dX8_become_51 : decode cX8_become 51 = .ok (.iastore, 1) := by decide +kernel
theorem dX8_become_52 : decode cX8_become 52 = .ok (.iinc 2 1, 3) := by decide +kernel
theorem dX8_become_55 : decode cX8_become 55 = .ok (.goto (-45), 3) := by decide +kernel
theorem dX8_become_58 : decode cX8_become 58 = .ok (.return_, 1) := by decide +kernel
theorem dX8_startsOf_0 : decode cX8_startsOf 0 = .ok (.aload_n 0, 1) := by decide +kernel
theorem dX8_startsOf_1 : decode cX8_startsOf 1 = .ok (.iload_n 3, 1) := by decide +kernel
theorem dX8_startsOf_2 : decode cX8_startsOf 2 = .ok (.invokevirtual 31, 3) := by decide +kernel
theorem dX8_startsOf_5 : decode cX8_startsOf 5 = .ok (.istore 4, 2) := by decide +kernel
theorem dX8_startsOf_7 : decode cX8_startsOf 7 = .ok (.iload 4, 2) := by decide +kernel
theorem dX8_startsOf_9 : decode cX8_startsOf 9 = .ok (.istore 5, 2) := by decide +kernel
theorem dX8_startsOf_11 : decode cX8_startsOf 11 = .ok (.iload 5, 2) := by decide +kernel
theorem dX8_startsOf_13 : decode cX8_startsOf 13 = .ok (.ifCond .lt 97, 3) := by decide +kernel
theorem dX8_startsOf_16 : decode cX8_startsOf 16 = .ok (.aload_n 0, 1) := by decide +kernel
theorem dX8_startsOf_17 : decode cX8_startsOf 17 = .ok (.getfield 24, 3) := by decide +kernel
theorem dX8_startsOf_20 : decode cX8_startsOf 20 = .ok (.iload 5, 2) := by decide +kernel
theorem dX8_startsOf_22 : decode cX8_startsOf 22 = .ok (.iconst 0, 1) := by decide +kernel
theorem dX8_startsOf_23 : decode cX8_startsOf 23 = .ok (.iastore, 1) := by decide +kernel
theorem dX8_startsOf_24 : decode cX8_startsOf 24 = .ok (.iconst 0, 1) := by decide +kernel
theorem dX8_startsOf_25 : decode cX8_startsOf 25 = .ok (.istore 6, 2) := by decide +kernel
theorem dX8_startsOf_27 : decode cX8_startsOf 27 = .ok (.iload 6, 2) := by decide +kernel
