theorem dX12_plain_35 : decode cX12_plain 35 = .ok (.iload_n 2, 1) := by decide +kernel
theorem dX12_plain_36 : decode cX12_plain 36 = .ok (.aload_n 0, 1) := by decide +kernel
theorem dX12_plain_37 : decode cX12_plain 37 = .ok (.getfield 7, 3) := by decide +kernel
theorem dX12_plain_40 : decode cX12_plain 40 = .ok (.iload_n 2, 1) := by decide +kernel
theorem dX12_plain_41 : decode cX12_plain 41 = .ok (.iload_n 2, 1) := by decide +kernel
theorem dX12_plain_42 : decode cX12_plain 42 = .ok (.iconst 4, 1) := by decide +kernel
theorem dX12_plain_43 : decode cX12_plain 43 = .ok (.idiv, 1) := by decide +kernel
theorem dX12_plain_44 : decode cX12_plain 44 = .ok (.iadd, 1) := by decide +kernel
theorem dX12_plain_45 : decode cX12_plain 45 = .ok (.iaload, 1) := by decide +kernel
theorem dX12_plain_46 : decode cX12_plain 46 = .ok (.bipush 48, 2) := by decide +kernel
theorem dX12_plain_48 : decode cX12_plain 48 = .ok (.isub, 1) := by decide +kernel
theorem dX12_plain_49 : decode cX12_plain 49 = .ok (.iastore, 1) := by decide +kernel
theorem dX12_plain_50 : decode cX12_plain 50 = .ok (.iload_n 1, 1) := by decide +kernel
theorem dX12_plain_51 : decode cX12_plain 51 = .ok (.aload_n 0, 1) := by decide +kernel
theorem dX12_plain_52 : decode cX12_plain 52 = .ok (.getfield 13, 3) := by decide +kernel
theorem dX12_plain_55 : decode cX12_plain 55 = .ok (.iload_n 2, 1) := by decide +kernel
theorem dX12_plain_56 : decode cX12_plain 56 = .ok (.iaload, 1) := by decide +kernel
theorem dX12_plain_57 : decode cX12_plain 57 = .ok (.iadd, 1) := by decide +kernel
theorem dX12_plain_58 : decode cX12_plain 58 = .ok (.istore_n 1, 1) := by decide +kernel
theorem dX12_plain_59 : decode cX12_plain 59 = .ok (.iinc 2 1, 3) := by decide +kernel
theorem dX12_plain_62 : decode cX12_plain 62 = .ok (.goto (-37), 3) := by decide +kernel
theorem dX12_plain_65 : decode cX12_plain 65 = .ok (.aload_n 0, 1) := by decide +kernel
theorem dX12_plain_66 : decode cX12_plain 66 = .ok (.aload_n 0, 1) := by decide +kernel
theorem dX12_plain_67 : decode cX12_plain 67 = .ok (.getfield 7, 3) := by decide +kernel
theorem dX12_plain_70 : decode cX12_plain 70 = .ok (.bipush 15, 2) := by decide +kernel
theorem dX12_plain_72 : decode cX12_plain 72 = .ok (.iaload, 1) := by decide +kernel
theorem dX12_plain_73 : decode cX12_plain 73 = .ok (.bipush 48, 2) := by decide +kernel
theorem dX12_plain_75 : decode cX12_plain 75 = .ok (.isub, 1) := by decide +kernel
theorem dX12_plain_76 : decode cX12_plain 76 = .ok (.putfield 72, 3) := by decide +kernel
theorem dX12_plain_79 : decode cX12_plain 79 = .ok (.aload_n 0, 1) := by decide +kernel
theorem dX12_plain_80 : decode cX12_plain 80 = .ok (.iconst 0, 1) := by decide +kernel
theorem dX12_plain_81 : decode cX12_plain 81 = .ok (.putfield 75, 3) := by decide +kernel
theorem dX12_plain_84 : decode cX12_plain 84 = .ok (.aload_n 0, 1) := by decide +kernel
theorem dX12_plain_85 : decode cX12_plain 85 = .ok (.iconst 4, 1) := by decide +kernel
theorem dX12_plain_86 : decode cX12_plain 86 = .ok (.putfield 50, 3) := by decide +kernel
theorem dX12_plain_89 : decode cX12_plain 89 = .ok (.aload_n 0, 1) := by decide +kernel
theorem dX12_plain_90 : decode cX12_plain 90 = .ok (.iconst 0, 1) := by decide +kernel
theorem dX12_plain_91 : decode cX12_plain 91 = .ok (.putfield 78, 3) := by decide +kernel
theorem dX12_plain_94 : decode cX12_plain 94 = .ok (.aload_n 0, 1) := by decide +kernel
theorem dX12_plain_95 : decode cX12_plain 95 = .ok (.iconst 0, 1) := by decide +kernel
theorem dX12_plain_96 : decode cX12_plain 96 = .ok (.putfield 81, 3) := by decide +kernel
theorem dX12_plain_99 : decode cX12_plain 99 = .ok (.aload_n 0, 1) := by decide +kernel
theorem dX12_plain_100 : decode cX12_plain 100 = .ok (.dup, 1) := by decide +kernel
theorem dX12_plain_101 : decode cX12_plain 101 = .ok (.getfield 84, 3) := by decide +kernel
theorem dX12_plain_104 : decode cX12_plain 104 = .ok (.iconst 1, 1) := by decide +kernel
theorem dX12_plain_105 : decode cX12_plain 105 = .ok (.iadd, 1) := by decide +kernel
theorem dX12_plain_106 : decode cX12_plain 106 = .ok (.putfield 84, 3) := by decide +kernel
theorem dX12_plain_109 : decode cX12_plain 109 = .ok (.aload_n 0, 1) := by decide +kernel
theorem dX12_plain_110 : decode cX12_plain 110 = .ok (.iconst 0, 1) := by decide +kernel
theorem dX12_plain_111 : decode cX12_plain 111 = .ok (.putfield 59, 3) := by decide +kernel
theorem dX12_plain_114 : decode cX12_plain 114 = .ok (.iload_n 1, 1) := by decide +kernel
theorem dX12_plain_115 : decode cX12_plain 115 = .ok (.ireturn, 1) := by decide +kernel
theorem dX12_lacks_0 : decode cX12_lacks 0 = .ok (.aload_n 0, 1) := by decide +kernel
theorem dX12_lacks_1 : decode cX12_lacks 1 = .ok (.getfield 72, 3) := by decide +kernel
theorem dX12_lacks_4 : decode cX12_lacks 4 = .ok (.ifCond .ne 7, 3) := by decide +kernel
theorem dX12_lacks_7 : decode cX12_lacks 7 = .ok (.iconst 1, 1) := by decide +kernel
theorem dX12_lacks_8 : decode cX12_lacks 8 = .ok (.goto 4, 3) := by decide +kernel
theorem dX12_lacks_11 : decode cX12_lacks 11 = .ok (.iconst 0, 1) := by decide +kernel
theorem dX12_lacks_12 : decode cX12_lacks 12 = .ok (.ireturn, 1) := by decide +kernel
theorem dX12_isCell_0 : decode cX12_isCell 0 = .ok (.iload_n 1, 1) := by decide +kernel
theorem dX12_isCell_1 : decode cX12_isCell 1 = .ok (.i2l, 1) := by decide +kernel
theorem dX12_isCell_2 : decode cX12_isCell 2 = .ok (.lconst 0, 1) := by decide +kernel
theorem dX12_isCell_3 : decode cX12_isCell 3 = .ok (.ldc2_w 87, 3) := by decide +kernel
theorem dX12_isCell_6 : decode cX12_isCell 6 = .ok (.invokestatic 55, 3) := by decide +kernel
theorem dX12_isCell_9 : decode cX12_isCell 9 = .ok (.ifCond .eq 14, 3) := by decide +kernel
theorem dX12_isCell_12 : decode cX12_isCell 12 = .ok (.aload_n 0, 1) := by decide +kernel
theorem dX12_isCell_13 : decode cX12_isCell 13 = .ok (.invokevirtual 89, 3) := by decide +kernel
theorem dX12_isCell_16 : decode cX12_isCell 16 = .ok (.ifCond .ne 7, 3) := by decide +kernel
theorem dX12_isCell_19 : decode cX12_isCell 19 = .ok (.iconst 1, 1) := by decide +kernel
theorem dX12_isCell_20 : decode cX12_isCell 20 = .ok (.goto 4, 3) := by decide +kernel
theorem dX12_isCell_23 : decode cX12_isCell 23 = .ok (.iconst 0, 1) := by decide +kernel
theorem dX12_isCell_24 : decode cX12_isCell 24 = .ok (.ireturn, 1) := by decide +kernel
theorem dX12_highAt_0 : decode cX12_highAt 0 = .ok (.iload_n 2, 1) := by decide +kernel
theorem dX12_highAt_1 : decode cX12_highAt 1 = .ok (.iload_n 3, 1) := by decide +kernel
theorem dX12_highAt_2 : decode cX12_highAt 2 = .ok (.iload_n 1, 1) := by decide +kernel
theorem dX12_highAt_3 : decode cX12_highAt 3 = .ok (.iconst 1, 1) := by decide +kernel
theorem dX12_highAt_4 : decode cX12_highAt 4 = .ok (.iadd, 1) := by decide +kernel
theorem dX12_highAt_5 : decode cX12_highAt 5 = .ok (.imul, 1) := by decide +kernel
theorem dX12_highAt_6 : decode cX12_highAt 6 = .ok (.if_icmp .lt 7, 3) := by decide +kernel
theorem dX12_highAt_9 : decode cX12_highAt 9 = .ok (.iconst 0, 1) := by decide +kernel
theorem dX12_highAt_10 : decode cX12_highAt 10 = .ok (.goto 9, 3) := by decide +kernel
theorem dX12_highAt_13 : decode cX12_highAt 13 = .ok (.aload_n 0, 1) := by decide +kernel
theorem dX12_highAt_14 : decode cX12_highAt 14 = .ok (.getfield 13, 3) := by decide +kernel
theorem dX12_highAt_17 : decode cX12_highAt 17 = .ok (.iload_n 1, 1) := by decide +kernel
theorem dX12_highAt_18 : decode cX12_highAt 18 = .ok (.iaload, 1) := by decide +kernel
theorem dX12_highAt_19 : decode cX12_highAt 19 = .ok (.ireturn, 1) := by decide +kernel
theorem dX12_hullsAt_0 : decode cX12_hullsAt 0 = .ok (.iconst 0, 1) := by decide +kernel
theorem dX12_hullsAt_1 : decode cX12_hullsAt 1 = .ok (.istore_n 2, 1) := by decide +kernel
theorem dX12_hullsAt_2 : decode cX12_hullsAt 2 = .ok (.iconst 0, 1) := by decide +kernel
theorem dX12_hullsAt_3 : decode cX12_hullsAt 3 = .ok (.istore_n 3, 1) := by decide +kernel
theorem dX12_hullsAt_4 : decode cX12_hullsAt 4 = .ok (.iload_n 3, 1) := by decide +kernel
theorem dX12_hullsAt_5 : decode cX12_hullsAt 5 = .ok (.aload_n 0, 1) := by decide +kernel
theorem dX12_hullsAt_6 : decode cX12_hullsAt 6 = .ok (.getfield 78, 3) := by decide +kernel
theorem dX12_hullsAt_9 : decode cX12_hullsAt 9 = .ok (.if_icmp .ge 31, 3) := by decide +kernel
theorem dX12_hullsAt_12 : decode cX12_hullsAt 12 = .ok (.iload_n 2, 1) := by decide +kernel
theorem dX12_hullsAt_13 : decode cX12_hullsAt 13 = .ok (.aload_n 0, 1) := by decide +kernel
theorem dX12_hullsAt_14 : decode cX12_hullsAt 14 = .ok (.getfield 16, 3) := by decide +kernel
theorem dX12_hullsAt_17 : decode cX12_hullsAt 17 = .ok (.iconst 4, 1) := by decide +kernel
theorem dX12_hullsAt_18 : decode cX12_hullsAt 18 = .ok (.iload_n 3, 1) := by decide +kernel
theorem dX12_hullsAt_19 : decode cX12_hullsAt 19 = .ok (.imul, 1) := by decide +kernel
theorem dX12_hullsAt_20 : decode cX12_hullsAt 20 = .ok (.iconst 2, 1) := by decide +kernel
theorem dX12_hullsAt_21 : decode cX12_hullsAt 21 = .ok (.iadd, 1) := by decide +kernel
theorem dX12_hullsAt_22 : decode cX12_hullsAt 22 = .ok (.iaload, 1) := by decide +kernel
theorem dX12_hullsAt_23 : decode cX12_hullsAt 23 = .ok (.iload_n 1, 1) := by decide +kernel
theorem dX12_hullsAt_24 : decode cX12_hullsAt 24 = .ok (.if_icmp .ne 7, 3) := by decide +kernel
theorem dX12_hullsAt_27 : decode cX12_hullsAt 27 = .ok (.iconst 1, 1) := by decide +kernel
theorem dX12_hullsAt_28 : decode cX12_hullsAt 28 = .ok (.goto 4, 3) := by decide +kernel
theorem dX12_hullsAt_31 : decode cX12_hullsAt 31 = .ok (.iconst 0, 1) := by decide +kernel
theorem dX12_hullsAt_32 : decode cX12_hullsAt 32 = .ok (.iadd, 1) := by decide +kernel
theorem dX12_hullsAt_33 : decode cX12_hullsAt 33 = .ok (.istore_n 2, 1) := by decide +kernel
theorem dX12_hullsAt_34 : decode cX12_hullsAt 34 = .ok (.iinc 3 1, 3) := by decide +kernel
theorem dX12_hullsAt_37 : decode cX12_hullsAt 37 = .ok (.goto (-33), 3) := by decide +kernel
theorem dX12_hullsAt_40 : decode cX12_hullsAt 40 = .ok (.iload_n 2, 1) := by decide +kernel
theorem dX12_hullsAt_41 : decode cX12_hullsAt 41 = .ok (.ireturn, 1) := by decide +kernel
theorem dX12_tellCell_0 : decode cX12_tellCell 0 = .ok (.iload_n 2, 1) := by decide +kernel
theorem dX12_tellCell_1 : decode cX12_tellCell 1 = .ok (.tableswitch 67 0 3 #[31, 45, 52, 61], 31) := by decide +kernel
theorem dX12_tellCell_32 : decode cX12_tellCell 32 = .ok (.aload_n 0, 1) := by decide +kernel
theorem dX12_tellCell_33 : decode cX12_tellCell 33 = .ok (.iload_n 1, 1) := by decide +kernel
theorem dX12_tellCell_34 : decode cX12_tellCell 34 = .ok (.aload_n 0, 1) := by decide +kernel
theorem dX12_tellCell_35 : decode cX12_tellCell 35 = .ok (.getfield 75, 3) := by decide +kernel
theorem dX12_tellCell_38 : decode cX12_tellCell 38 = .ok (.aload_n 0, 1) := by decide +kernel
theorem dX12_tellCell_39 : decode cX12_tellCell 39 = .ok (.getfield 72, 3) := by decide +kernel
theorem dX12_tellCell_42 : decode cX12_tellCell 42 = .ok (.invokevirtual 93, 3) := by decide +kernel
theorem dX12_tellCell_45 : decode cX12_tellCell 45 = .ok (.ireturn, 1) := by decide +kernel
theorem dX12_tellCell_46 : decode cX12_tellCell 46 = .ok (.aload_n 0, 1) := by decide +kernel
theorem dX12_tellCell_47 : decode cX12_tellCell 47 = .ok (.getfield 13, 3) := by decide +kernel
theorem dX12_tellCell_50 : decode cX12_tellCell 50 = .ok (.iload_n 1, 1) := by decide +kernel
theorem dX12_tellCell_51 : decode cX12_tellCell 51 = .ok (.iaload, 1) := by decide +kernel
theorem dX12_tellCell_52 : decode cX12_tellCell 52 = .ok (.ireturn, 1) := by decide +kernel
theorem dX12_tellCell_53 : decode cX12_tellCell 53 = .ok (.aload_n 0, 1) := by decide +kernel
theorem dX12_tellCell_54 : decode cX12_tellCell 54 = .ok (.getfield 72, 3) := by decide +kernel
theorem dX12_tellCell_57 : decode cX12_tellCell 57 = .ok (.iload_n 1, 1) := by decide +kernel
theorem dX12_tellCell_58 : decode cX12_tellCell 58 = .ok (.iconst 1, 1) := by decide +kernel
theorem dX12_tellCell_59 : decode cX12_tellCell 59 = .ok (.iadd, 1) := by decide +kernel
theorem dX12_tellCell_60 : decode cX12_tellCell 60 = .ok (.imul, 1) := by decide +kernel
theorem dX12_tellCell_61 : decode cX12_tellCell 61 = .ok (.ireturn, 1) := by decide +kernel
theorem dX12_tellCell_62 : decode cX12_tellCell 62 = .ok (.aload_n 0, 1) := by decide +kernel
theorem dX12_tellCell_63 : decode cX12_tellCell 63 = .ok (.iload_n 1, 1) := by decide +kernel
theorem dX12_tellCell_64 : decode cX12_tellCell 64 = .ok (.invokevirtual 97, 3) := by decide +kernel
theorem dX12_tellCell_67 : decode cX12_tellCell 67 = .ok (.ireturn, 1) := by decide +kernel
theorem dX12_tellCell_68 : decode cX12_tellCell 68 = .ok (.bipush (-102), 2) := by decide +kernel
theorem dX12_tellCell_70 : decode cX12_tellCell 70 = .ok (.ireturn, 1) := by decide +kernel
theorem dX12_cell_0 : decode cX12_cell 0 = .ok (.aload_n 0, 1) := by decide +kernel
theorem dX12_cell_1 : decode cX12_cell 1 = .ok (.iload_n 1, 1) := by decide +kernel
theorem dX12_cell_2 : decode cX12_cell 2 = .ok (.invokevirtual 101, 3) := by decide +kernel
theorem dX12_cell_5 : decode cX12_cell 5 = .ok (.ifCond .eq 12, 3) := by decide +kernel
theorem dX12_cell_8 : decode cX12_cell 8 = .ok (.aload_n 0, 1) := by decide +kernel
theorem dX12_cell_9 : decode cX12_cell 9 = .ok (.iload_n 1, 1) := by decide +kernel
theorem dX12_cell_10 : decode cX12_cell 10 = .ok (.iload_n 2, 1) := by decide +kernel
theorem dX12_cell_11 : decode cX12_cell 11 = .ok (.invokevirtual 105, 3) := by decide +kernel
theorem dX12_cell_14 : decode cX12_cell 14 = .ok (.goto 5, 3) := by decide +kernel
theorem dX12_cell_17 : decode cX12_cell 17 = .ok (.bipush (-101), 2) := by decide +kernel
theorem dX12_cell_19 : decode cX12_cell 19 = .ok (.ireturn, 1) := by decide +kernel
theorem dX12_wind_0 : decode cX12_wind 0 = .ok (.iload_n 1, 1) := by decide +kernel
theorem dX12_wind_1 : decode cX12_wind 1 = .ok (.i2l, 1) := by decide +kernel
theorem dX12_wind_2 : decode cX12_wind 2 = .ok (.lconst 0, 1) := by decide +kernel
theorem dX12_wind_3 : decode cX12_wind 3 = .ok (.ldc2_w 109, 3) := by decide +kernel
theorem dX12_wind_6 : decode cX12_wind 6 = .ok (.invokestatic 55, 3) := by decide +kernel
theorem dX12_wind_9 : decode cX12_wind 9 = .ok (.ifCond .ne 6, 3) := by decide +kernel
theorem dX12_wind_12 : decode cX12_wind 12 = .ok (.bipush (-102), 2) := by decide +kernel
theorem dX12_wind_14 : decode cX12_wind 14 = .ok (.ireturn, 1) := by decide +kernel
theorem dX12_wind_15 : decode cX12_wind 15 = .ok (.aload_n 0, 1) := by decide +kernel
theorem dX12_wind_16 : decode cX12_wind 16 = .ok (.invokevirtual 89, 3) := by decide +kernel
theorem dX12_wind_19 : decode cX12_wind 19 = .ok (.ifCond .eq 6, 3) := by decide +kernel
theorem dX12_wind_22 : decode cX12_wind 22 = .ok (.bipush (-103), 2) := by decide +kernel
theorem dX12_wind_24 : decode cX12_wind 24 = .ok (.ireturn, 1) := by decide +kernel
theorem dX12_wind_25 : decode cX12_wind 25 = .ok (.aload_n 0, 1) := by decide +kernel
theorem dX12_wind_26 : decode cX12_wind 26 = .ok (.getfield 50, 3) := by decide +kernel
theorem dX12_wind_29 : decode cX12_wind 29 = .ok (.istore_n 2, 1) := by decide +kernel
theorem dX12_wind_30 : decode cX12_wind 30 = .ok (.aload_n 0, 1) := by decide +kernel
theorem dX12_wind_31 : decode cX12_wind 31 = .ok (.iload_n 1, 1) := by decide +kernel
theorem dX12_wind_32 : decode cX12_wind 32 = .ok (.putfield 50, 3) := by decide +kernel
theorem dX12_wind_35 : decode cX12_wind 35 = .ok (.iload_n 2, 1) := by decide +kernel
theorem dX12_wind_36 : decode cX12_wind 36 = .ok (.ireturn, 1) := by decide +kernel
theorem dX12_pass_0 : decode cX12_pass 0 = .ok (.iload_n 1, 1) := by decide +kernel
theorem dX12_pass_1 : decode cX12_pass 1 = .ok (.i2l, 1) := by decide +kernel
theorem dX12_pass_2 : decode cX12_pass 2 = .ok (.lconst 1, 1) := by decide +kernel
theorem dX12_pass_3 : decode cX12_pass 3 = .ok (.ldc2_w 111, 3) := by decide +kernel
theorem dX12_pass_6 : decode cX12_pass 6 = .ok (.invokestatic 55, 3) := by decide +kernel
theorem dX12_pass_9 : decode cX12_pass 9 = .ok (.ifCond .ne 6, 3) := by decide +kernel
theorem dX12_pass_12 : decode cX12_pass 12 = .ok (.bipush (-102), 2) := by decide +kernel
theorem dX12_pass_14 : decode cX12_pass 14 = .ok (.ireturn, 1) := by decide +kernel
theorem dX12_pass_15 : decode cX12_pass 15 = .ok (.aload_n 0, 1) := by decide +kernel
theorem dX12_pass_16 : decode cX12_pass 16 = .ok (.invokevirtual 89, 3) := by decide +kernel
theorem dX12_pass_19 : decode cX12_pass 19 = .ok (.ifCond .ne 15, 3) := by decide +kernel
theorem dX12_pass_22 : decode cX12_pass 22 = .ok (.aload_n 0, 1) := by decide +kernel
theorem dX12_pass_23 : decode cX12_pass 23 = .ok (.getfield 75, 3) := by decide +kernel
theorem dX12_pass_26 : decode cX12_pass 26 = .ok (.iload_n 1, 1) := by decide +kernel
theorem dX12_pass_27 : decode cX12_pass 27 = .ok (.iadd, 1) := by decide +kernel
theorem dX12_pass_28 : decode cX12_pass 28 = .ok (.sipush 999, 3) := by decide +kernel
theorem dX12_pass_31 : decode cX12_pass 31 = .ok (.if_icmp .le 6, 3) := by decide +kernel
theorem dX12_pass_34 : decode cX12_pass 34 = .ok (.bipush (-103), 2) := by decide +kernel
theorem dX12_pass_36 : decode cX12_pass 36 = .ok (.ireturn, 1) := by decide +kernel
theorem dX12_pass_37 : decode cX12_pass 37 = .ok (.aload_n 0, 1) := by decide +kernel
theorem dX12_pass_38 : decode cX12_pass 38 = .ok (.dup, 1) := by decide +kernel
theorem dX12_pass_39 : decode cX12_pass 39 = .ok (.getfield 75, 3) := by decide +kernel
theorem dX12_pass_42 : decode cX12_pass 42 = .ok (.iload_n 1, 1) := by decide +kernel
theorem dX12_pass_43 : decode cX12_pass 43 = .ok (.iadd, 1) := by decide +kernel
theorem dX12_pass_44 : decode cX12_pass 44 = .ok (.putfield 75, 3) := by decide +kernel
theorem dX12_pass_47 : decode cX12_pass 47 = .ok (.aload_n 0, 1) := by decide +kernel
theorem dX12_pass_48 : decode cX12_pass 48 = .ok (.getfield 75, 3) := by decide +kernel
theorem dX12_pass_51 : decode cX12_pass 51 = .ok (.ireturn, 1) := by decide +kernel
theorem dX12_isHull_0 : decode cX12_isHull 0 = .ok (.iload_n 1, 1) := by decide +kernel
theorem dX12_isHull_1 : decode cX12_isHull 1 = .ok (.i2l, 1) := by decide +kernel
theorem dX12_isHull_2 : decode cX12_isHull 2 = .ok (.lconst 0, 1) := by decide +kernel
theorem dX12_isHull_3 : decode cX12_isHull 3 = .ok (.aload_n 0, 1) := by decide +kernel
theorem dX12_isHull_4 : decode cX12_isHull 4 = .ok (.getfield 78, 3) := by decide +kernel
theorem dX12_isHull_7 : decode cX12_isHull 7 = .ok (.iconst 1, 1) := by decide +kernel
theorem dX12_isHull_8 : decode cX12_isHull 8 = .ok (.isub, 1) := by decide +kernel
theorem dX12_isHull_9 : decode cX12_isHull 9 = .ok (.i2l, 1) := by decide +kernel
theorem dX12_isHull_10 : decode cX12_isHull 10 = .ok (.invokestatic 55, 3) := by decide +kernel
theorem dX12_isHull_13 : decode cX12_isHull 13 = .ok (.ireturn, 1) := by decide +kernel
theorem dX12_floats_0 : decode cX12_floats 0 = .ok (.aload_n 0, 1) := by decide +kernel
theorem dX12_floats_1 : decode cX12_floats 1 = .ok (.getfield 16, 3) := by decide +kernel
theorem dX12_floats_4 : decode cX12_floats 4 = .ok (.iconst 4, 1) := by decide +kernel
theorem dX12_floats_5 : decode cX12_floats 5 = .ok (.iload_n 1, 1) := by decide +kernel
theorem dX12_floats_6 : decode cX12_floats 6 = .ok (.imul, 1) := by decide +kernel
theorem dX12_floats_7 : decode cX12_floats 7 = .ok (.iaload, 1) := by decide +kernel
theorem dX12_floats_8 : decode cX12_floats 8 = .ok (.istore 5, 2) := by decide +kernel
theorem dX12_floats_10 : decode cX12_floats 10 = .ok (.aload_n 0, 1) := by decide +kernel
theorem dX12_floats_11 : decode cX12_floats 11 = .ok (.getfield 16, 3) := by decide +kernel
theorem dX12_floats_14 : decode cX12_floats 14 = .ok (.iconst 4, 1) := by decide +kernel
theorem dX12_floats_15 : decode cX12_floats 15 = .ok (.iload_n 1, 1) := by decide +kernel
theorem dX12_floats_16 : decode cX12_floats 16 = .ok (.imul, 1) := by decide +kernel
theorem dX12_floats_17 : decode cX12_floats 17 = .ok (.iconst 1, 1) := by decide +kernel
theorem dX12_floats_18 : decode cX12_floats 18 = .ok (.iadd, 1) := by decide +kernel
theorem dX12_floats_19 : decode cX12_floats 19 = .ok (.iaload, 1) := by decide +kernel
theorem dX12_floats_20 : decode cX12_floats 20 = .ok (.iload 5, 2) := by decide +kernel
theorem dX12_floats_22 : decode cX12_floats 22 = .ok (.iconst 1, 1) := by decide +kernel
theorem dX12_floats_23 : decode cX12_floats 23 = .ok (.if_icmp .eq 9, 3) := by decide +kernel
theorem dX12_floats_26 : decode cX12_floats 26 = .ok (.iload 5, 2) := by decide +kernel
theorem dX12_floats_28 : decode cX12_floats 28 = .ok (.iconst 4, 1) := by decide +kernel
theorem dX12_floats_29 : decode cX12_floats 29 = .ok (.if_icmp .ne 7, 3) := by decide +kernel
theorem dX12_floats_32 : decode cX12_floats 32 = .ok (.iconst 1, 1) := by decide +kernel
theorem dX12_floats_33 : decode cX12_floats 33 = .ok (.goto 4, 3) := by decide +kernel
theorem dX12_floats_36 : decode cX12_floats 36 = .ok (.iconst 0, 1) := by decide +kernel
theorem dX12_floats_37 : decode cX12_floats 37 = .ok (.isub, 1) := by decide +kernel
theorem dX12_floats_38 : decode cX12_floats 38 = .ok (.istore 6, 2) := by decide +kernel
theorem dX12_floats_40 : decode cX12_floats 40 = .ok (.iload 5, 2) := by decide +kernel
theorem dX12_floats_42 : decode cX12_floats 42 = .ok (.iconst 3, 1) := by decide +kernel
theorem dX12_floats_43 : decode cX12_floats 43 = .ok (.if_icmp .eq 16, 3) := by decide +kernel
theorem dX12_floats_46 : decode cX12_floats 46 = .ok (.aload_n 0, 1) := by decide +kernel
theorem dX12_floats_47 : decode cX12_floats 47 = .ok (.iload_n 2, 1) := by decide +kernel
theorem dX12_floats_48 : decode cX12_floats 48 = .ok (.iload_n 3, 1) := by decide +kernel
theorem dX12_floats_49 : decode cX12_floats 49 = .ok (.iload 4, 2) := by decide +kernel
theorem dX12_floats_51 : decode cX12_floats 51 = .ok (.invokevirtual 93, 3) := by decide +kernel
theorem dX12_floats_54 : decode cX12_floats 54 = .ok (.iload 6, 2) := by decide +kernel
theorem dX12_floats_56 : decode cX12_floats 56 = .ok (.if_icmp .lt 7, 3) := by decide +kernel
theorem dX12_floats_59 : decode cX12_floats 59 = .ok (.iconst 1, 1) := by decide +kernel
theorem dX12_floats_60 : decode cX12_floats 60 = .ok (.goto 4, 3) := by decide +kernel
theorem dX12_floats_63 : decode cX12_floats 63 = .ok (.iconst 0, 1) := by decide +kernel
theorem dX12_floats_64 : decode cX12_floats 64 = .ok (.ireturn, 1) := by decide +kernel
theorem dX12_beside_0 : decode cX12_beside 0 = .ok (.iload_n 0, 1) := by decide +kernel
theorem dX12_beside_1 : decode cX12_beside 1 = .ok (.iconst 4, 1) := by decide +kernel
theorem dX12_beside_2 : decode cX12_beside 2 = .ok (.irem, 1) := by decide +kernel
theorem dX12_beside_3 : decode cX12_beside 3 = .ok (.istore_n 2, 1) := by decide +kernel
theorem dX12_beside_4 : decode cX12_beside 4 = .ok (.iload_n 1, 1) := by decide +kernel
theorem dX12_beside_5 : decode cX12_beside 5 = .ok (.ifCond .ne 16, 3) := by decide +kernel
theorem dX12_beside_8 : decode cX12_beside 8 = .ok (.iload_n 2, 1) := by decide +kernel
theorem dX12_beside_9 : decode cX12_beside 9 = .ok (.iconst 3, 1) := by decide +kernel
theorem dX12_beside_10 : decode cX12_beside 10 = .ok (.if_icmp .ge 9, 3) := by decide +kernel
theorem dX12_beside_13 : decode cX12_beside 13 = .ok (.iload_n 0, 1) := by decide +kernel
theorem dX12_beside_14 : decode cX12_beside 14 = .ok (.iconst 1, 1) := by decide +kernel
theorem dX12_beside_15 : decode cX12_beside 15 = .ok (.iadd, 1) := by decide +kernel
theorem dX12_beside_16 : decode cX12_beside 16 = .ok (.goto 4, 3) := by decide +kernel
theorem dX12_beside_19 : decode cX12_beside 19 = .ok (.iconst (-1), 1) := by decide +kernel
theorem dX12_beside_20 : decode cX12_beside 20 = .ok (.ireturn, 1) := by decide +kernel
theorem dX12_beside_21 : decode cX12_beside 21 = .ok (.iload_n 1, 1) := by decide +kernel
theorem dX12_beside_22 : decode cX12_beside 22 = .ok (.iconst 2, 1) := by decide +kernel
theorem dX12_beside_23 : decode cX12_beside 23 = .ok (.if_icmp .ne 15, 3) := by decide +kernel
theorem dX12_beside_26 : decode cX12_beside 26 = .ok (.iload_n 2, 1) := by decide +kernel
theorem dX12_beside_27 : decode cX12_beside 27 = .ok (.ifCond .le 9, 3) := by decide +kernel
theorem dX12_beside_30 : decode cX12_beside 30 = .ok (.iload_n 0, 1) := by decide +kernel
theorem dX12_beside_31 : decode cX12_beside 31 = .ok (.iconst 1, 1) := by decide +kernel
theorem dX12_beside_32 : decode cX12_beside 32 = .ok (.isub, 1) := by decide +kernel
theorem dX12_beside_33 : decode cX12_beside 33 = .ok (.goto 4, 3) := by decide +kernel
theorem dX12_beside_36 : decode cX12_beside 36 = .ok (.iconst (-1), 1) := by decide +kernel
theorem dX12_beside_37 : decode cX12_beside 37 = .ok (.ireturn, 1) := by decide +kernel
theorem dX12_beside_38 : decode cX12_beside 38 = .ok (.iload_n 1, 1) := by decide +kernel
theorem dX12_beside_39 : decode cX12_beside 39 = .ok (.iconst 1, 1) := by decide +kernel
theorem dX12_beside_40 : decode cX12_beside 40 = .ok (.if_icmp .ne 19, 3) := by decide +kernel
theorem dX12_beside_43 : decode cX12_beside 43 = .ok (.iload_n 0, 1) := by decide +kernel
theorem dX12_beside_44 : decode cX12_beside 44 = .ok (.bipush 8, 2) := by decide +kernel
theorem dX12_beside_46 : decode cX12_beside 46 = .ok (.if_icmp .ge 9, 3) := by decide +kernel
theorem dX12_beside_49 : decode cX12_beside 49 = .ok (.iload_n 0, 1) := by decide +kernel
theorem dX12_beside_50 : decode cX12_beside 50 = .ok (.iconst 4, 1) := by decide +kernel
theorem dX12_beside_51 : decode cX12_beside 51 = .ok (.iadd, 1) := by decide +kernel
theorem dX12_beside_52 : decode cX12_beside 52 = .ok (.goto 19, 3) := by decide +kernel
theorem dX12_beside_55 : decode cX12_beside 55 = .ok (.iconst (-1), 1) := by decide +kernel
theorem dX12_beside_56 : decode cX12_beside 56 = .ok (.goto 15, 3) := by decide +kernel
theorem dX12_beside_59 : decode cX12_beside 59 = .ok (.iload_n 0, 1) := by decide +kernel
theorem dX12_beside_60 : decode cX12_beside 60 = .ok (.iconst 3, 1) := by decide +kernel
theorem dX12_beside_61 : decode cX12_beside 61 = .ok (.if_icmp .le 9, 3) := by decide +kernel
theorem dX12_beside_64 : decode cX12_beside 64 = .ok (.iload_n 0, 1) := by decide +kernel
theorem dX12_beside_65 : decode cX12_beside 65 = .ok (.iconst 4, 1) := by decide +kernel
theorem dX12_beside_66 : decode cX12_beside 66 = .ok (.isub, 1) := by decide +kernel
theorem dX12_beside_67 : decode cX12_beside 67 = .ok (.goto 4, 3) := by decide +kernel
theorem dX12_beside_70 : decode cX12_beside 70 = .ok (.iconst (-1), 1) := by decide +kernel
theorem dX12_beside_71 : decode cX12_beside 71 = .ok (.ireturn, 1) := by decide +kernel
theorem dX12_needs_0 : decode cX12_needs 0 = .ok (.iload_n 0, 1) := by decide +kernel
theorem dX12_needs_1 : decode cX12_needs 1 = .ok (.iconst 3, 1) := by decide +kernel
theorem dX12_needs_2 : decode cX12_needs 2 = .ok (.if_icmp .ne 7, 3) := by decide +kernel
theorem dX12_needs_5 : decode cX12_needs 5 = .ok (.iconst 1, 1) := by decide +kernel
theorem dX12_needs_6 : decode cX12_needs 6 = .ok (.goto 4, 3) := by decide +kernel
theorem dX12_needs_9 : decode cX12_needs 9 = .ok (.iconst 0, 1) := by decide +kernel
theorem dX12_needs_10 : decode cX12_needs 10 = .ok (.istore_n 3, 1) := by decide +kernel
theorem dX12_needs_11 : decode cX12_needs 11 = .ok (.iload_n 2, 1) := by decide +kernel
theorem dX12_needs_12 : decode cX12_needs 12 = .ok (.iconst 4, 1) := by decide +kernel
theorem dX12_needs_13 : decode cX12_needs 13 = .ok (.if_icmp .ne 16, 3) := by decide +kernel
theorem dX12_needs_16 : decode cX12_needs 16 = .ok (.iload_n 0, 1) := by decide +kernel
theorem dX12_needs_17 : decode cX12_needs 17 = .ok (.iconst 4, 1) := by decide +kernel
theorem dX12_needs_18 : decode cX12_needs 18 = .ok (.if_icmp .ne 7, 3) := by decide +kernel
theorem dX12_needs_21 : decode cX12_needs 21 = .ok (.iconst 2, 1) := by decide +kernel
theorem dX12_needs_22 : decode cX12_needs 22 = .ok (.goto 6, 3) := by decide +kernel
theorem dX12_needs_25 : decode cX12_needs 25 = .ok (.iconst 3, 1) := by decide +kernel
theorem dX12_needs_26 : decode cX12_needs 26 = .ok (.iload_n 3, 1) := by decide +kernel
theorem dX12_needs_27 : decode cX12_needs 27 = .ok (.iadd, 1) := by decide +kernel
theorem dX12_needs_28 : decode cX12_needs 28 = .ok (.ireturn, 1) := by decide +kernel
theorem dX12_needs_29 : decode cX12_needs 29 = .ok (.iload_n 1, 1) := by decide +kernel
theorem dX12_needs_30 : decode cX12_needs 30 = .ok (.iload_n 2, 1) := by decide +kernel
theorem dX12_needs_31 : decode cX12_needs 31 = .ok (.if_icmp .ne 7, 3) := by decide +kernel
theorem dX12_needs_34 : decode cX12_needs 34 = .ok (.iconst 1, 1) := by decide +kernel
theorem dX12_needs_35 : decode cX12_needs 35 = .ok (.iload_n 3, 1) := by decide +kernel
theorem dX12_needs_36 : decode cX12_needs 36 = .ok (.iadd, 1) := by decide +kernel
theorem dX12_needs_37 : decode cX12_needs 37 = .ok (.ireturn, 1) := by decide +kernel
theorem dX12_needs_38 : decode cX12_needs 38 = .ok (.iload_n 1, 1) := by decide +kernel
theorem dX12_needs_39 : decode cX12_needs 39 = .ok (.iload_n 2, 1) := by decide +kernel
theorem dX12_needs_40 : decode cX12_needs 40 = .ok (.iconst 2, 1) := by decide +kernel
theorem dX12_needs_41 : decode cX12_needs 41 = .ok (.iadd, 1) := by decide +kernel
theorem dX12_needs_42 : decode cX12_needs 42 = .ok (.iconst 4, 1) := by decide +kernel
theorem dX12_needs_43 : decode cX12_needs 43 = .ok (.irem, 1) := by decide +kernel
theorem dX12_needs_44 : decode cX12_needs 44 = .ok (.if_icmp .ne 23, 3) := by decide +kernel
theorem dX12_needs_47 : decode cX12_needs 47 = .ok (.iload_n 0, 1) := by decide +kernel
theorem dX12_needs_48 : decode cX12_needs 48 = .ok (.iconst 2, 1) := by decide +kernel
theorem dX12_needs_49 : decode cX12_needs 49 = .ok (.if_icmp .ne 7, 3) := by decide +kernel
theorem dX12_needs_52 : decode cX12_needs 52 = .ok (.iconst 4, 1) := by decide +kernel
theorem dX12_needs_53 : decode cX12_needs 53 = .ok (.goto 13, 3) := by decide +kernel
theorem dX12_needs_56 : decode cX12_needs 56 = .ok (.iload_n 0, 1) := by decide +kernel
theorem dX12_needs_57 : decode cX12_needs 57 = .ok (.iconst 4, 1) := by decide +kernel
theorem dX12_needs_58 : decode cX12_needs 58 = .ok (.if_icmp .ne 7, 3) := by decide +kernel
theorem dX12_needs_61 : decode cX12_needs 61 = .ok (.iconst 3, 1) := by decide +kernel
theorem dX12_needs_62 : decode cX12_needs 62 = .ok (.goto 4, 3) := by decide +kernel
theorem dX12_needs_65 : decode cX12_needs 65 = .ok (.iconst (-1), 1) := by decide +kernel
theorem dX12_needs_66 : decode cX12_needs 66 = .ok (.ireturn, 1) := by decide +kernel
theorem dX12_needs_67 : decode cX12_needs 67 = .ok (.iconst 2, 1) := by decide +kernel
theorem dX12_needs_68 : decode cX12_needs 68 = .ok (.iload_n 3, 1) := by decide +kernel
theorem dX12_needs_69 : decode cX12_needs 69 = .ok (.iadd, 1) := by decide +kernel
theorem dX12_needs_70 : decode cX12_needs 70 = .ok (.ireturn, 1) := by decide +kernel
theorem dX12_hoursOf_0 : decode cX12_hoursOf 0 = .ok (.iload_n 2, 1) := by decide +kernel
theorem dX12_hoursOf_1 : decode cX12_hoursOf 1 = .ok (.iload 4, 2) := by decide +kernel
theorem dX12_hoursOf_3 : decode cX12_hoursOf 3 = .ok (.invokestatic 113, 3) := by decide +kernel
theorem dX12_hoursOf_6 : decode cX12_hoursOf 6 = .ok (.istore 7, 2) := by decide +kernel
theorem dX12_hoursOf_8 : decode cX12_hoursOf 8 = .ok (.aload_n 0, 1) := by decide +kernel
theorem dX12_hoursOf_9 : decode cX12_hoursOf 9 = .ok (.getfield 16, 3) := by decide +kernel
theorem dX12_hoursOf_12 : decode cX12_hoursOf 12 = .ok (.iconst 4, 1) := by decide +kernel
theorem dX12_hoursOf_13 : decode cX12_hoursOf 13 = .ok (.iload_n 1, 1) := by decide +kernel
theorem dX12_hoursOf_14 : decode cX12_hoursOf 14 = .ok (.imul, 1) := by decide +kernel
theorem dX12_hoursOf_15 : decode cX12_hoursOf 15 = .ok (.iaload, 1) := by decide +kernel
theorem dX12_hoursOf_16 : decode cX12_hoursOf 16 = .ok (.iload 4, 2) := by decide +kernel
theorem dX12_hoursOf_18 : decode cX12_hoursOf 18 = .ok (.iload 5, 2) := by decide +kernel
theorem dX12_hoursOf_20 : decode cX12_hoursOf 20 = .ok (.invokestatic 116, 3) := by decide +kernel
theorem dX12_hoursOf_23 : decode cX12_hoursOf 23 = .ok (.istore 8, 2) := by decide +kernel
theorem dX12_hoursOf_25 : decode cX12_hoursOf 25 = .ok (.iload 7, 2) := by decide +kernel
theorem dX12_hoursOf_27 : decode cX12_hoursOf 27 = .ok (.iconst (-1), 1) := by decide +kernel
theorem dX12_hoursOf_28 : decode cX12_hoursOf 28 = .ok (.if_icmp .eq 25, 3) := by decide +kernel
theorem dX12_hoursOf_31 : decode cX12_hoursOf 31 = .ok (.iload 8, 2) := by decide +kernel
theorem dX12_hoursOf_33 : decode cX12_hoursOf 33 = .ok (.iconst (-1), 1) := by decide +kernel
theorem dX12_hoursOf_34 : decode cX12_hoursOf 34 = .ok (.if_icmp .eq 19, 3) := by decide +kernel
theorem dX12_hoursOf_37 : decode cX12_hoursOf 37 = .ok (.aload_n 0, 1) := by decide +kernel
theorem dX12_hoursOf_38 : decode cX12_hoursOf 38 = .ok (.iload_n 1, 1) := by decide +kernel
theorem dX12_hoursOf_39 : decode cX12_hoursOf 39 = .ok (.iload_n 2, 1) := by decide +kernel
theorem dX12_hoursOf_40 : decode cX12_hoursOf 40 = .ok (.iload_n 3, 1) := by decide +kernel
theorem dX12_hoursOf_41 : decode cX12_hoursOf 41 = .ok (.iload 6, 2) := by decide +kernel
theorem dX12_hoursOf_43 : decode cX12_hoursOf 43 = .ok (.invokevirtual 119, 3) := by decide +kernel
theorem dX12_hoursOf_46 : decode cX12_hoursOf 46 = .ok (.ifCond .eq 7, 3) := by decide +kernel
theorem dX12_hoursOf_49 : decode cX12_hoursOf 49 = .ok (.iconst 1, 1) := by decide +kernel
theorem dX12_hoursOf_50 : decode cX12_hoursOf 50 = .ok (.goto 4, 3) := by decide +kernel
theorem dX12_hoursOf_53 : decode cX12_hoursOf 53 = .ok (.iconst 0, 1) := by decide +kernel
theorem dX12_hoursOf_54 : decode cX12_hoursOf 54 = .ok (.istore 9, 2) := by decide +kernel
theorem dX12_hoursOf_56 : decode cX12_hoursOf 56 = .ok (.iload 9, 2) := by decide +kernel
theorem dX12_hoursOf_58 : decode cX12_hoursOf 58 = .ok (.ifCond .eq 24, 3) := by decide +kernel
theorem dX12_hoursOf_61 : decode cX12_hoursOf 61 = .ok (.aload_n 0, 1) := by decide +kernel
theorem dX12_hoursOf_62 : decode cX12_hoursOf 62 = .ok (.iload_n 1, 1) := by decide +kernel
theorem dX12_hoursOf_63 : decode cX12_hoursOf 63 = .ok (.iload 7, 2) := by decide +kernel
theorem dX12_hoursOf_65 : decode cX12_hoursOf 65 = .ok (.iload_n 3, 1) := by decide +kernel
theorem dX12_hoursOf_66 : decode cX12_hoursOf 66 = .ok (.iload 8, 2) := by decide +kernel
theorem dX12_hoursOf_68 : decode cX12_hoursOf 68 = .ok (.iadd, 1) := by decide +kernel
theorem dX12_hoursOf_69 : decode cX12_hoursOf 69 = .ok (.iload 6, 2) := by decide +kernel
theorem dX12_hoursOf_71 : decode cX12_hoursOf 71 = .ok (.invokevirtual 119, 3) := by decide +kernel
theorem dX12_hoursOf_74 : decode cX12_hoursOf 74 = .ok (.ifCond .eq 8, 3) := by decide +kernel
theorem dX12_hoursOf_77 : decode cX12_hoursOf 77 = .ok (.iload 8, 2) := by decide +kernel
theorem dX12_hoursOf_79 : decode cX12_hoursOf 79 = .ok (.goto 4, 3) := by decide +kernel
theorem dX12_hoursOf_82 : decode cX12_hoursOf 82 = .ok (.iconst (-1), 1) := by decide +kernel
theorem dX12_hoursOf_83 : decode cX12_hoursOf 83 = .ok (.ireturn, 1) := by decide +kernel
theorem dX12_hull_0 : decode cX12_hull 0 = .ok (.iload_n 1, 1) := by decide +kernel
theorem dX12_hull_1 : decode cX12_hull 1 = .ok (.i2l, 1) := by decide +kernel
theorem dX12_hull_2 : decode cX12_hull 2 = .ok (.lconst 0, 1) := by decide +kernel
theorem dX12_hull_3 : decode cX12_hull 3 = .ok (.ldc2_w 109, 3) := by decide +kernel
theorem dX12_hull_6 : decode cX12_hull 6 = .ok (.invokestatic 55, 3) := by decide +kernel
theorem dX12_hull_9 : decode cX12_hull 9 = .ok (.ifCond .eq 15, 3) := by decide +kernel
theorem dX12_hull_12 : decode cX12_hull 12 = .ok (.iload_n 2, 1) := by decide +kernel
theorem dX12_hull_13 : decode cX12_hull 13 = .ok (.i2l, 1) := by decide +kernel
theorem dX12_hull_14 : decode cX12_hull 14 = .ok (.lconst 1, 1) := by decide +kernel
theorem dX12_hull_15 : decode cX12_hull 15 = .ok (.ldc2_w 62, 3) := by decide +kernel
theorem dX12_hull_18 : decode cX12_hull 18 = .ok (.invokestatic 55, 3) := by decide +kernel
theorem dX12_hull_21 : decode cX12_hull 21 = .ok (.ifCond .ne 6, 3) := by decide +kernel
theorem dX12_hull_24 : decode cX12_hull 24 = .ok (.bipush (-102), 2) := by decide +kernel
theorem dX12_hull_26 : decode cX12_hull 26 = .ok (.ireturn, 1) := by decide +kernel
theorem dX12_hull_27 : decode cX12_hull 27 = .ok (.aload_n 0, 1) := by decide +kernel
theorem dX12_hull_28 : decode cX12_hull 28 = .ok (.iload_n 3, 1) := by decide +kernel
theorem dX12_hull_29 : decode cX12_hull 29 = .ok (.invokevirtual 101, 3) := by decide +kernel
theorem dX12_hull_32 : decode cX12_hull 32 = .ok (.ifCond .ne 6, 3) := by decide +kernel
theorem dX12_hull_35 : decode cX12_hull 35 = .ok (.bipush (-101), 2) := by decide +kernel
theorem dX12_hull_37 : decode cX12_hull 37 = .ok (.ireturn, 1) := by decide +kernel
theorem dX12_hull_38 : decode cX12_hull 38 = .ok (.aload_n 0, 1) := by decide +kernel
theorem dX12_hull_39 : decode cX12_hull 39 = .ok (.getfield 78, 3) := by decide +kernel
theorem dX12_hull_42 : decode cX12_hull 42 = .ok (.iconst 3, 1) := by decide +kernel
theorem dX12_hull_43 : decode cX12_hull 43 = .ok (.if_icmp .ne 6, 3) := by decide +kernel
theorem dX12_hull_46 : decode cX12_hull 46 = .ok (.bipush (-104), 2) := by decide +kernel
theorem dX12_hull_48 : decode cX12_hull 48 = .ok (.ireturn, 1) := by decide +kernel
theorem dX12_hull_49 : decode cX12_hull 49 = .ok (.aload_n 0, 1) := by decide +kernel
theorem dX12_hull_50 : decode cX12_hull 50 = .ok (.getfield 16, 3) := by decide +kernel
theorem dX12_hull_53 : decode cX12_hull 53 = .ok (.iconst 4, 1) := by decide +kernel
theorem dX12_hull_54 : decode cX12_hull 54 = .ok (.aload_n 0, 1) := by decide +kernel
theorem dX12_hull_55 : decode cX12_hull 55 = .ok (.getfield 78, 3) := by decide +kernel
theorem dX12_hull_58 : decode cX12_hull 58 = .ok (.imul, 1) := by decide +kernel
theorem dX12_hull_59 : decode cX12_hull 59 = .ok (.iload_n 1, 1) := by decide +kernel
theorem dX12_hull_60 : decode cX12_hull 60 = .ok (.iastore, 1) := by decide +kernel
theorem dX12_hull_61 : decode cX12_hull 61 = .ok (.aload_n 0, 1) := by decide +kernel
theorem dX12_hull_62 : decode cX12_hull 62 = .ok (.getfield 16, 3) := by decide +kernel
theorem dX12_hull_65 : decode cX12_hull 65 = .ok (.iconst 4, 1) := by decide +kernel
theorem dX12_hull_66 : decode cX12_hull 66 = .ok (.aload_n 0, 1) := by decide +kernel
theorem dX12_hull_67 : decode cX12_hull 67 = .ok (.getfield 78, 3) := by decide +kernel
theorem dX12_hull_70 : decode cX12_hull 70 = .ok (.imul, 1) := by decide +kernel
theorem dX12_hull_71 : decode cX12_hull 71 = .ok (.iconst 1, 1) := by decide +kernel
theorem dX12_hull_72 : decode cX12_hull 72 = .ok (.iadd, 1) := by decide +kernel
theorem dX12_hull_73 : decode cX12_hull 73 = .ok (.iload_n 2, 1) := by decide +kernel
theorem dX12_hull_74 : decode cX12_hull 74 = .ok (.iastore, 1) := by decide +kernel
theorem dX12_hull_75 : decode cX12_hull 75 = .ok (.aload_n 0, 1) := by decide +kernel
theorem dX12_hull_76 : decode cX12_hull 76 = .ok (.getfield 16, 3) := by decide +kernel
theorem dX12_hull_79 : decode cX12_hull 79 = .ok (.iconst 4, 1) := by decide +kernel
theorem dX12_hull_80 : decode cX12_hull 80 = .ok (.aload_n 0, 1) := by decide +kernel
theorem dX12_hull_81 : decode cX12_hull 81 = .ok (.getfield 78, 3) := by decide +kernel
theorem dX12_hull_84 : decode cX12_hull 84 = .ok (.imul, 1) := by decide +kernel
theorem dX12_hull_85 : decode cX12_hull 85 = .ok (.iconst 2, 1) := by decide +kernel
theorem dX12_hull_86 : decode cX12_hull 86 = .ok (.iadd, 1) := by decide +kernel
theorem dX12_hull_87 : decode cX12_hull 87 = .ok (.iload_n 3, 1) := by decide +kernel
theorem dX12_hull_88 : decode cX12_hull 88 = .ok (.iastore, 1) := by decide +kernel
theorem dX12_hull_89 : decode cX12_hull 89 = .ok (.aload_n 0, 1) := by decide +kernel
theorem dX12_hull_90 : decode cX12_hull 90 = .ok (.getfield 16, 3) := by decide +kernel
theorem dX12_hull_93 : decode cX12_hull 93 = .ok (.iconst 4, 1) := by decide +kernel
theorem dX12_hull_94 : decode cX12_hull 94 = .ok (.aload_n 0, 1) := by decide +kernel
theorem dX12_hull_95 : decode cX12_hull 95 = .ok (.getfield 78, 3) := by decide +kernel
theorem dX12_hull_98 : decode cX12_hull 98 = .ok (.imul, 1) := by decide +kernel
theorem dX12_hull_99 : decode cX12_hull 99 = .ok (.iconst 3, 1) := by decide +kernel
theorem dX12_hull_100 : decode cX12_hull 100 = .ok (.iadd, 1) := by decide +kernel
theorem dX12_hull_101 : decode cX12_hull 101 = .ok (.iconst 0, 1) := by decide +kernel
theorem dX12_hull_102 : decode cX12_hull 102 = .ok (.iastore, 1) := by decide +kernel
theorem dX12_hull_103 : decode cX12_hull 103 = .ok (.aload_n 0, 1) := by decide +kernel
theorem dX12_hull_104 : decode cX12_hull 104 = .ok (.dup, 1) := by decide +kernel
theorem dX12_hull_105 : decode cX12_hull 105 = .ok (.getfield 78, 3) := by decide +kernel
theorem dX12_hull_108 : decode cX12_hull 108 = .ok (.iconst 1, 1) := by decide +kernel
theorem dX12_hull_109 : decode cX12_hull 109 = .ok (.iadd, 1) := by decide +kernel
theorem dX12_hull_110 : decode cX12_hull 110 = .ok (.putfield 78, 3) := by decide +kernel
theorem dX12_hull_113 : decode cX12_hull 113 = .ok (.aload_n 0, 1) := by decide +kernel
theorem dX12_hull_114 : decode cX12_hull 114 = .ok (.getfield 78, 3) := by decide +kernel
theorem dX12_hull_117 : decode cX12_hull 117 = .ok (.iconst 1, 1) := by decide +kernel
theorem dX12_hull_118 : decode cX12_hull 118 = .ok (.isub, 1) := by decide +kernel
theorem dX12_hull_119 : decode cX12_hull 119 = .ok (.ireturn, 1) := by decide +kernel
theorem dX12_isStranded_0 : decode cX12_isStranded 0 = .ok (.aload_n 0, 1) := by decide +kernel
theorem dX12_isStranded_1 : decode cX12_isStranded 1 = .ok (.iload_n 1, 1) := by decide +kernel
theorem dX12_isStranded_2 : decode cX12_isStranded 2 = .ok (.aload_n 0, 1) := by decide +kernel
theorem dX12_isStranded_3 : decode cX12_isStranded 3 = .ok (.getfield 16, 3) := by decide +kernel
theorem dX12_isStranded_6 : decode cX12_isStranded 6 = .ok (.iconst 4, 1) := by decide +kernel
theorem dX12_isStranded_7 : decode cX12_isStranded 7 = .ok (.iload_n 1, 1) := by decide +kernel
theorem dX12_isStranded_8 : decode cX12_isStranded 8 = .ok (.imul, 1) := by decide +kernel
theorem dX12_isStranded_9 : decode cX12_isStranded 9 = .ok (.iconst 2, 1) := by decide +kernel
theorem dX12_isStranded_10 : decode cX12_isStranded 10 = .ok (.iadd, 1) := by decide +kernel
theorem dX12_isStranded_11 : decode cX12_isStranded 11 = .ok (.iaload, 1) := by decide +kernel
theorem dX12_isStranded_12 : decode cX12_isStranded 12 = .ok (.aload_n 0, 1) := by decide +kernel
theorem dX12_isStranded_13 : decode cX12_isStranded 13 = .ok (.getfield 75, 3) := by decide +kernel
theorem dX12_isStranded_16 : decode cX12_isStranded 16 = .ok (.aload_n 0, 1) := by decide +kernel
theorem dX12_isStranded_17 : decode cX12_isStranded 17 = .ok (.getfield 72, 3) := by decide +kernel
theorem dX12_isStranded_20 : decode cX12_isStranded 20 = .ok (.invokevirtual 119, 3) := by decide +kernel
theorem dX12_isStranded_23 : decode cX12_isStranded 23 = .ok (.ifCond .ne 7, 3) := by decide +kernel
theorem dX12_isStranded_26 : decode cX12_isStranded 26 = .ok (.iconst 1, 1) := by decide +kernel
theorem dX12_isStranded_27 : decode cX12_isStranded 27 = .ok (.goto 4, 3) := by decide +kernel
theorem dX12_isStranded_30 : decode cX12_isStranded 30 = .ok (.iconst 0, 1) := by decide +kernel
theorem dX12_isStranded_31 : decode cX12_isStranded 31 = .ok (.ireturn, 1) := by decide +kernel
theorem dX12_tell_0 : decode cX12_tell 0 = .ok (.iload_n 2, 1) := by decide +kernel
theorem dX12_tell_1 : decode cX12_tell 1 = .ok (.i2l, 1) := by decide +kernel
theorem dX12_tell_2 : decode cX12_tell 2 = .ok (.ldc2_w 123, 3) := by decide +kernel
theorem dX12_tell_5 : decode cX12_tell 5 = .ok (.ldc2_w 125, 3) := by decide +kernel
theorem dX12_tell_8 : decode cX12_tell 8 = .ok (.invokestatic 55, 3) := by decide +kernel
theorem dX12_tell_11 : decode cX12_tell 11 = .ok (.ifCond .eq 35, 3) := by decide +kernel
theorem dX12_tell_14 : decode cX12_tell 14 = .ok (.aload_n 0, 1) := by decide +kernel
theorem dX12_tell_15 : decode cX12_tell 15 = .ok (.iload_n 1, 1) := by decide +kernel
theorem dX12_tell_16 : decode cX12_tell 16 = .ok (.aload_n 0, 1) := by decide +kernel
theorem dX12_tell_17 : decode cX12_tell 17 = .ok (.getfield 16, 3) := by decide +kernel
theorem dX12_tell_20 : decode cX12_tell 20 = .ok (.iconst 4, 1) := by decide +kernel
theorem dX12_tell_21 : decode cX12_tell 21 = .ok (.iload_n 1, 1) := by decide +kernel
theorem dX12_tell_22 : decode cX12_tell 22 = .ok (.imul, 1) := by decide +kernel
theorem dX12_tell_23 : decode cX12_tell 23 = .ok (.iconst 2, 1) := by decide +kernel
theorem dX12_tell_24 : decode cX12_tell 24 = .ok (.iadd, 1) := by decide +kernel
theorem dX12_tell_25 : decode cX12_tell 25 = .ok (.iaload, 1) := by decide +kernel
theorem dX12_tell_26 : decode cX12_tell 26 = .ok (.aload_n 0, 1) := by decide +kernel
theorem dX12_tell_27 : decode cX12_tell 27 = .ok (.getfield 75, 3) := by decide +kernel
theorem dX12_tell_30 : decode cX12_tell 30 = .ok (.iload_n 2, 1) := by decide +kernel
theorem dX12_tell_31 : decode cX12_tell 31 = .ok (.bipush 10, 2) := by decide +kernel
theorem dX12_tell_33 : decode cX12_tell 33 = .ok (.isub, 1) := by decide +kernel
theorem dX12_tell_34 : decode cX12_tell 34 = .ok (.aload_n 0, 1) := by decide +kernel
theorem dX12_tell_35 : decode cX12_tell 35 = .ok (.getfield 50, 3) := by decide +kernel
theorem dX12_tell_38 : decode cX12_tell 38 = .ok (.aload_n 0, 1) := by decide +kernel
theorem dX12_tell_39 : decode cX12_tell 39 = .ok (.getfield 72, 3) := by decide +kernel
theorem dX12_tell_42 : decode cX12_tell 42 = .ok (.invokevirtual 127, 3) := by decide +kernel
theorem dX12_tell_45 : decode cX12_tell 45 = .ok (.ireturn, 1) := by decide +kernel
theorem dX12_tell_46 : decode cX12_tell 46 = .ok (.iload_n 2, 1) := by decide +kernel
theorem dX12_tell_47 : decode cX12_tell 47 = .ok (.tableswitch 69 0 4 #[33, 33, 33, 44, 58], 33) := by decide +kernel
theorem dX12_tell_80 : decode cX12_tell 80 = .ok (.aload_n 0, 1) := by decide +kernel
theorem dX12_tell_81 : decode cX12_tell 81 = .ok (.getfield 16, 3) := by decide +kernel
theorem dX12_tell_84 : decode cX12_tell 84 = .ok (.iconst 4, 1) := by decide +kernel
theorem dX12_tell_85 : decode cX12_tell 85 = .ok (.iload_n 1, 1) := by decide +kernel
theorem dX12_tell_86 : decode cX12_tell 86 = .ok (.imul, 1) := by decide +kernel
theorem dX12_tell_87 : decode cX12_tell 87 = .ok (.iload_n 2, 1) := by decide +kernel
theorem dX12_tell_88 : decode cX12_tell 88 = .ok (.iadd, 1) := by decide +kernel
theorem dX12_tell_89 : decode cX12_tell 89 = .ok (.iaload, 1) := by decide +kernel
theorem dX12_tell_90 : decode cX12_tell 90 = .ok (.ireturn, 1) := by decide +kernel
theorem dX12_tell_91 : decode cX12_tell 91 = .ok (.aload_n 0, 1) := by decide +kernel
theorem dX12_tell_92 : decode cX12_tell 92 = .ok (.iload_n 1, 1) := by decide +kernel
theorem dX12_tell_93 : decode cX12_tell 93 = .ok (.invokevirtual 131, 3) := by decide +kernel
theorem dX12_tell_96 : decode cX12_tell 96 = .ok (.ifCond .eq 7, 3) := by decide +kernel
theorem dX12_tell_99 : decode cX12_tell 99 = .ok (.iconst 1, 1) := by decide +kernel
theorem dX12_tell_100 : decode cX12_tell 100 = .ok (.goto 4, 3) := by decide +kernel
theorem dX12_tell_103 : decode cX12_tell 103 = .ok (.iconst 0, 1) := by decide +kernel
theorem dX12_tell_104 : decode cX12_tell 104 = .ok (.ireturn, 1) := by decide +kernel
theorem dX12_tell_105 : decode cX12_tell 105 = .ok (.aload_n 0, 1) := by decide +kernel
theorem dX12_tell_106 : decode cX12_tell 106 = .ok (.getfield 16, 3) := by decide +kernel
theorem dX12_tell_109 : decode cX12_tell 109 = .ok (.iconst 4, 1) := by decide +kernel
theorem dX12_tell_110 : decode cX12_tell 110 = .ok (.iload_n 1, 1) := by decide +kernel
theorem dX12_tell_111 : decode cX12_tell 111 = .ok (.imul, 1) := by decide +kernel
theorem dX12_tell_112 : decode cX12_tell 112 = .ok (.iconst 3, 1) := by decide +kernel
theorem dX12_tell_113 : decode cX12_tell 113 = .ok (.iadd, 1) := by decide +kernel
theorem dX12_tell_114 : decode cX12_tell 114 = .ok (.iaload, 1) := by decide +kernel
theorem dX12_tell_115 : decode cX12_tell 115 = .ok (.ireturn, 1) := by decide +kernel
theorem dX12_tell_116 : decode cX12_tell 116 = .ok (.bipush (-102), 2) := by decide +kernel
theorem dX12_tell_118 : decode cX12_tell 118 = .ok (.ireturn, 1) := by decide +kernel
theorem dX12_about_0 : decode cX12_about 0 = .ok (.aload_n 0, 1) := by decide +kernel
theorem dX12_about_1 : decode cX12_about 1 = .ok (.iload_n 1, 1) := by decide +kernel
theorem dX12_about_2 : decode cX12_about 2 = .ok (.invokevirtual 134, 3) := by decide +kernel
theorem dX12_about_5 : decode cX12_about 5 = .ok (.ifCond .eq 12, 3) := by decide +kernel
theorem dX12_about_8 : decode cX12_about 8 = .ok (.aload_n 0, 1) := by decide +kernel
theorem dX12_about_9 : decode cX12_about 9 = .ok (.iload_n 1, 1) := by decide +kernel
theorem dX12_about_10 : decode cX12_about 10 = .ok (.iload_n 2, 1) := by decide +kernel
theorem dX12_about_11 : decode cX12_about 11 = .ok (.invokevirtual 137, 3) := by decide +kernel
theorem dX12_about_14 : decode cX12_about 14 = .ok (.goto 5, 3) := by decide +kernel
theorem dX12_about_17 : decode cX12_about 17 = .ok (.bipush (-101), 2) := by decide +kernel
theorem dX12_about_19 : decode cX12_about 19 = .ok (.ireturn, 1) := by decide +kernel
theorem dX12_as_0 : decode cX12_as 0 = .ok (.aload_n 0, 1) := by decide +kernel
theorem dX12_as_1 : decode cX12_as 1 = .ok (.iload_n 1, 1) := by decide +kernel
theorem dX12_as_2 : decode cX12_as 2 = .ok (.invokevirtual 134, 3) := by decide +kernel
theorem dX12_as_5 : decode cX12_as 5 = .ok (.ifCond .ne 6, 3) := by decide +kernel
theorem dX12_as_8 : decode cX12_as 8 = .ok (.bipush (-101), 2) := by decide +kernel
theorem dX12_as_10 : decode cX12_as 10 = .ok (.ireturn, 1) := by decide +kernel
theorem dX12_as_11 : decode cX12_as 11 = .ok (.iload_n 2, 1) := by decide +kernel
theorem dX12_as_12 : decode cX12_as 12 = .ok (.i2l, 1) := by decide +kernel
theorem dX12_as_13 : decode cX12_as 13 = .ok (.lconst 0, 1) := by decide +kernel
theorem dX12_as_14 : decode cX12_as 14 = .ok (.ldc2_w 109, 3) := by decide +kernel
theorem dX12_as_17 : decode cX12_as 17 = .ok (.invokestatic 55, 3) := by decide +kernel
theorem dX12_as_20 : decode cX12_as 20 = .ok (.ifCond .ne 6, 3) := by decide +kernel
theorem dX12_as_23 : decode cX12_as 23 = .ok (.bipush (-102), 2) := by decide +kernel
theorem dX12_as_25 : decode cX12_as 25 = .ok (.ireturn, 1) := by decide +kernel
theorem dX12_as_26 : decode cX12_as 26 = .ok (.aload_n 0, 1) := by decide +kernel
theorem dX12_as_27 : decode cX12_as 27 = .ok (.getfield 16, 3) := by decide +kernel
theorem dX12_as_30 : decode cX12_as 30 = .ok (.iconst 4, 1) := by decide +kernel
theorem dX12_as_31 : decode cX12_as 31 = .ok (.iload_n 1, 1) := by decide +kernel
theorem dX12_as_32 : decode cX12_as 32 = .ok (.imul, 1) := by decide +kernel
theorem dX12_as_33 : decode cX12_as 33 = .ok (.iaload, 1) := by decide +kernel
theorem dX12_as_34 : decode cX12_as 34 = .ok (.istore_n 3, 1) := by decide +kernel
theorem dX12_as_35 : decode cX12_as 35 = .ok (.iload_n 2, 1) := by decide +kernel
theorem dX12_as_36 : decode cX12_as 36 = .ok (.ifCond .eq 18, 3) := by decide +kernel
theorem dX12_as_39 : decode cX12_as 39 = .ok (.iload_n 2, 1) := by decide +kernel
theorem dX12_as_40 : decode cX12_as 40 = .ok (.iload_n 3, 1) := by decide +kernel
theorem dX12_as_41 : decode cX12_as 41 = .ok (.if_icmp .eq 13, 3) := by decide +kernel
theorem dX12_as_44 : decode cX12_as 44 = .ok (.iload_n 2, 1) := by decide +kernel
theorem dX12_as_45 : decode cX12_as 45 = .ok (.iconst 1, 1) := by decide +kernel
theorem dX12_as_46 : decode cX12_as 46 = .ok (.if_icmp .ne 12, 3) := by decide +kernel
theorem dX12_as_49 : decode cX12_as 49 = .ok (.iload_n 3, 1) := by decide +kernel
theorem dX12_as_50 : decode cX12_as 50 = .ok (.iconst 4, 1) := by decide +kernel
theorem dX12_as_51 : decode cX12_as 51 = .ok (.if_icmp .ne 7, 3) := by decide +kernel
theorem dX12_as_54 : decode cX12_as 54 = .ok (.iconst 1, 1) := by decide +kernel
theorem dX12_as_55 : decode cX12_as 55 = .ok (.goto 4, 3) := by decide +kernel
theorem dX12_as_58 : decode cX12_as 58 = .ok (.iconst 0, 1) := by decide +kernel
theorem dX12_as_59 : decode cX12_as 59 = .ok (.istore 4, 2) := by decide +kernel
theorem dX12_as_61 : decode cX12_as 61 = .ok (.iload 4, 2) := by decide +kernel
theorem dX12_as_63 : decode cX12_as 63 = .ok (.ifCond .eq 7, 3) := by decide +kernel
theorem dX12_as_66 : decode cX12_as 66 = .ok (.iload_n 1, 1) := by decide +kernel
theorem dX12_as_67 : decode cX12_as 67 = .ok (.goto 4, 3) := by decide +kernel
theorem dX12_as_70 : decode cX12_as 70 = .ok (.iconst (-1), 1) := by decide +kernel
theorem dX12_as_71 : decode cX12_as 71 = .ok (.ireturn, 1) := by decide +kernel
theorem dX12_sail_0 : decode cX12_sail 0 = .ok (.aload_n 0, 1) := by decide +kernel
theorem dX12_sail_1 : decode cX12_sail 1 = .ok (.iload_n 1, 1) := by decide +kernel
theorem dX12_sail_2 : decode cX12_sail 2 = .ok (.invokevirtual 134, 3) := by decide +kernel
theorem dX12_sail_5 : decode cX12_sail 5 = .ok (.ifCond .ne 6, 3) := by decide +kernel
theorem dX12_sail_8 : decode cX12_sail 8 = .ok (.bipush (-101), 2) := by decide +kernel
theorem dX12_sail_10 : decode cX12_sail 10 = .ok (.ireturn, 1) := by decide +kernel
theorem dX12_sail_11 : decode cX12_sail 11 = .ok (.iload_n 2, 1) := by decide +kernel
theorem dX12_sail_12 : decode cX12_sail 12 = .ok (.i2l, 1) := by decide +kernel
theorem dX12_sail_13 : decode cX12_sail 13 = .ok (.lconst 0, 1) := by decide +kernel
theorem dX12_sail_14 : decode cX12_sail 14 = .ok (.ldc2_w 140, 3) := by decide +kernel
theorem dX12_sail_17 : decode cX12_sail 17 = .ok (.invokestatic 55, 3) := by decide +kernel
theorem dX12_sail_20 : decode cX12_sail 20 = .ok (.ifCond .ne 6, 3) := by decide +kernel
theorem dX12_sail_23 : decode cX12_sail 23 = .ok (.bipush (-102), 2) := by decide +kernel
theorem dX12_sail_25 : decode cX12_sail 25 = .ok (.ireturn, 1) := by decide +kernel
theorem dX12_sail_26 : decode cX12_sail 26 = .ok (.aload_n 0, 1) := by decide +kernel
theorem dX12_sail_27 : decode cX12_sail 27 = .ok (.iload_n 1, 1) := by decide +kernel
theorem dX12_sail_28 : decode cX12_sail 28 = .ok (.aload_n 0, 1) := by decide +kernel
theorem dX12_sail_29 : decode cX12_sail 29 = .ok (.getfield 16, 3) := by decide +kernel
theorem dX12_sail_32 : decode cX12_sail 32 = .ok (.iconst 4, 1) := by decide +kernel
theorem dX12_sail_33 : decode cX12_sail 33 = .ok (.iload_n 1, 1) := by decide +kernel
theorem dX12_sail_34 : decode cX12_sail 34 = .ok (.imul, 1) := by decide +kernel
theorem dX12_sail_35 : decode cX12_sail 35 = .ok (.iconst 2, 1) := by decide +kernel
theorem dX12_sail_36 : decode cX12_sail 36 = .ok (.iadd, 1) := by decide +kernel
theorem dX12_sail_37 : decode cX12_sail 37 = .ok (.iaload, 1) := by decide +kernel
theorem dX12_sail_38 : decode cX12_sail 38 = .ok (.aload_n 0, 1) := by decide +kernel
theorem dX12_sail_39 : decode cX12_sail 39 = .ok (.getfield 75, 3) := by decide +kernel
theorem dX12_sail_42 : decode cX12_sail 42 = .ok (.iload_n 2, 1) := by decide +kernel
theorem dX12_sail_43 : decode cX12_sail 43 = .ok (.aload_n 0, 1) := by decide +kernel
theorem dX12_sail_44 : decode cX12_sail 44 = .ok (.getfield 50, 3) := by decide +kernel
theorem dX12_sail_47 : decode cX12_sail 47 = .ok (.aload_n 0, 1) := by decide +kernel
theorem dX12_sail_48 : decode cX12_sail 48 = .ok (.getfield 72, 3) := by decide +kernel
theorem dX12_sail_51 : decode cX12_sail 51 = .ok (.invokevirtual 127, 3) := by decide +kernel
theorem dX12_sail_54 : decode cX12_sail 54 = .ok (.istore_n 3, 1) := by decide +kernel
theorem dX12_sail_55 : decode cX12_sail 55 = .ok (.iload_n 3, 1) := by decide +kernel
theorem dX12_sail_56 : decode cX12_sail 56 = .ok (.iconst (-1), 1) := by decide +kernel
theorem dX12_sail_57 : decode cX12_sail 57 = .ok (.if_icmp .eq 15, 3) := by decide +kernel
theorem dX12_sail_60 : decode cX12_sail 60 = .ok (.aload_n 0, 1) := by decide +kernel
theorem dX12_sail_61 : decode cX12_sail 61 = .ok (.getfield 75, 3) := by decide +kernel
theorem dX12_sail_64 : decode cX12_sail 64 = .ok (.iload_n 3, 1) := by decide +kernel
theorem dX12_sail_65 : decode cX12_sail 65 = .ok (.iadd, 1) := by decide +kernel
theorem dX12_sail_66 : decode cX12_sail 66 = .ok (.sipush 999, 3) := by decide +kernel
theorem dX12_sail_69 : decode cX12_sail 69 = .ok (.if_icmp .le 6, 3) := by decide +kernel
theorem dX12_sail_72 : decode cX12_sail 72 = .ok (.bipush (-103), 2) := by decide +kernel
theorem dX12_sail_74 : decode cX12_sail 74 = .ok (.ireturn, 1) := by decide +kernel
theorem dX12_sail_75 : decode cX12_sail 75 = .ok (.aload_n 0, 1) := by decide +kernel
theorem dX12_sail_76 : decode cX12_sail 76 = .ok (.getfield 16, 3) := by decide +kernel
theorem dX12_sail_79 : decode cX12_sail 79 = .ok (.iconst 4, 1) := by decide +kernel
theorem dX12_sail_80 : decode cX12_sail 80 = .ok (.iload_n 1, 1) := by decide +kernel
theorem dX12_sail_81 : decode cX12_sail 81 = .ok (.imul, 1) := by decide +kernel
theorem dX12_sail_82 : decode cX12_sail 82 = .ok (.iconst 2, 1) := by decide +kernel
theorem dX12_sail_83 : decode cX12_sail 83 = .ok (.iadd, 1) := by decide +kernel
theorem dX12_sail_84 : decode cX12_sail 84 = .ok (.aload_n 0, 1) := by decide +kernel
theorem dX12_sail_85 : decode cX12_sail 85 = .ok (.getfield 16, 3) := by decide +kernel
theorem dX12_sail_88 : decode cX12_sail 88 = .ok (.iconst 4, 1) := by decide +kernel
theorem dX12_sail_89 : decode cX12_sail 89 = .ok (.iload_n 1, 1) := by decide +kernel
theorem dX12_sail_90 : decode cX12_sail 90 = .ok (.imul, 1) := by decide +kernel
theorem dX12_sail_91 : decode cX12_sail 91 = .ok (.iconst 2, 1) := by decide +kernel
theorem dX12_sail_92 : decode cX12_sail 92 = .ok (.iadd, 1) := by decide +kernel
theorem dX12_sail_93 : decode cX12_sail 93 = .ok (.iaload, 1) := by decide +kernel
theorem dX12_sail_94 : decode cX12_sail 94 = .ok (.iload_n 2, 1) := by decide +kernel
theorem dX12_sail_95 : decode cX12_sail 95 = .ok (.invokestatic 113, 3) := by decide +kernel
theorem dX12_sail_98 : decode cX12_sail 98 = .ok (.iastore, 1) := by decide +kernel
theorem dX12_sail_99 : decode cX12_sail 99 = .ok (.aload_n 0, 1) := by decide +kernel
theorem dX12_sail_100 : decode cX12_sail 100 = .ok (.getfield 16, 3) := by decide +kernel
theorem dX12_sail_103 : decode cX12_sail 103 = .ok (.iconst 4, 1) := by decide +kernel
theorem dX12_sail_104 : decode cX12_sail 104 = .ok (.iload_n 1, 1) := by decide +kernel
theorem dX12_sail_105 : decode cX12_sail 105 = .ok (.imul, 1) := by decide +kernel
theorem dX12_sail_106 : decode cX12_sail 106 = .ok (.iconst 3, 1) := by decide +kernel
theorem dX12_sail_107 : decode cX12_sail 107 = .ok (.iadd, 1) := by decide +kernel
theorem dX12_sail_108 : decode cX12_sail 108 = .ok (.dup2, 1) := by decide +kernel
theorem dX12_sail_109 : decode cX12_sail 109 = .ok (.iaload, 1) := by decide +kernel
theorem dX12_sail_110 : decode cX12_sail 110 = .ok (.iload_n 3, 1) := by decide +kernel
theorem dX12_sail_111 : decode cX12_sail 111 = .ok (.iadd, 1) := by decide +kernel
theorem dX12_sail_112 : decode cX12_sail 112 = .ok (.iastore, 1) := by decide +kernel
theorem dX12_sail_113 : decode cX12_sail 113 = .ok (.aload_n 0, 1) := by decide +kernel
theorem dX12_sail_114 : decode cX12_sail 114 = .ok (.dup, 1) := by decide +kernel
theorem dX12_sail_115 : decode cX12_sail 115 = .ok (.getfield 75, 3) := by decide +kernel
theorem dX12_sail_118 : decode cX12_sail 118 = .ok (.iload_n 3, 1) := by decide +kernel
theorem dX12_sail_119 : decode cX12_sail 119 = .ok (.iadd, 1) := by decide +kernel
theorem dX12_sail_120 : decode cX12_sail 120 = .ok (.putfield 75, 3) := by decide +kernel
theorem dX12_sail_123 : decode cX12_sail 123 = .ok (.aload_n 0, 1) := by decide +kernel
theorem dX12_sail_124 : decode cX12_sail 124 = .ok (.getfield 75, 3) := by decide +kernel
theorem dX12_sail_127 : decode cX12_sail 127 = .ok (.ireturn, 1) := by decide +kernel
theorem dX12_layVoyage_0 : decode cX12_layVoyage 0 = .ok (.aload_n 0, 1) := by decide +kernel
theorem dX12_layVoyage_1 : decode cX12_layVoyage 1 = .ok (.getfield 16, 3) := by decide +kernel
theorem dX12_layVoyage_4 : decode cX12_layVoyage 4 = .ok (.iconst 4, 1) := by decide +kernel
theorem dX12_layVoyage_5 : decode cX12_layVoyage 5 = .ok (.iload_n 1, 1) := by decide +kernel
theorem dX12_layVoyage_6 : decode cX12_layVoyage 6 = .ok (.imul, 1) := by decide +kernel
theorem dX12_layVoyage_7 : decode cX12_layVoyage 7 = .ok (.iconst 2, 1) := by decide +kernel
theorem dX12_layVoyage_8 : decode cX12_layVoyage 8 = .ok (.iadd, 1) := by decide +kernel
theorem dX12_layVoyage_9 : decode cX12_layVoyage 9 = .ok (.iaload, 1) := by decide +kernel
theorem dX12_layVoyage_10 : decode cX12_layVoyage 10 = .ok (.istore 5, 2) := by decide +kernel
theorem dX12_layVoyage_12 : decode cX12_layVoyage 12 = .ok (.iconst 0, 1) := by decide +kernel
theorem dX12_layVoyage_13 : decode cX12_layVoyage 13 = .ok (.istore 6, 2) := by decide +kernel
theorem dX12_layVoyage_15 : decode cX12_layVoyage 15 = .ok (.iload 6, 2) := by decide +kernel
theorem dX12_layVoyage_17 : decode cX12_layVoyage 17 = .ok (.bipush 12, 2) := by decide +kernel
theorem dX12_layVoyage_19 : decode cX12_layVoyage 19 = .ok (.if_icmp .ge 37, 3) := by decide +kernel
theorem dX12_layVoyage_22 : decode cX12_layVoyage 22 = .ok (.aload_n 0, 1) := by decide +kernel
theorem dX12_layVoyage_23 : decode cX12_layVoyage 23 = .ok (.getfield 19, 3) := by decide +kernel
theorem dX12_layVoyage_26 : decode cX12_layVoyage 26 = .ok (.iload 6, 2) := by decide +kernel
theorem dX12_layVoyage_28 : decode cX12_layVoyage 28 = .ok (.iload 6, 2) := by decide +kernel
theorem dX12_layVoyage_30 : decode cX12_layVoyage 30 = .ok (.iload 5, 2) := by decide +kernel
theorem dX12_layVoyage_32 : decode cX12_layVoyage 32 = .ok (.if_icmp .ne 7, 3) := by decide +kernel
theorem dX12_layVoyage_35 : decode cX12_layVoyage 35 = .ok (.iload_n 2, 1) := by decide +kernel
theorem dX12_layVoyage_36 : decode cX12_layVoyage 36 = .ok (.goto 5, 3) := by decide +kernel
theorem dX12_layVoyage_39 : decode cX12_layVoyage 39 = .ok (.ldc 142, 2) := by decide +kernel
theorem dX12_layVoyage_41 : decode cX12_layVoyage 41 = .ok (.iastore, 1) := by decide +kernel
theorem dX12_layVoyage_42 : decode cX12_layVoyage 42 = .ok (.aload_n 0, 1) := by decide +kernel
theorem dX12_layVoyage_43 : decode cX12_layVoyage 43 = .ok (.getfield 22, 3) := by decide +kernel
theorem dX12_layVoyage_46 : decode cX12_layVoyage 46 = .ok (.iload 6, 2) := by decide +kernel
theorem dX12_layVoyage_48 : decode cX12_layVoyage 48 = .ok (.iconst (-1), 1) := by decide +kernel
theorem dX12_layVoyage_49 : decode cX12_layVoyage 49 = .ok (.iastore, 1) := by decide +kernel
theorem dX12_layVoyage_50 : decode cX12_layVoyage 50 = .ok (.iinc 6 1, 3) := by decide +kernel
theorem dX12_layVoyage_53 : decode cX12_layVoyage 53 = .ok (.goto (-38), 3) := by decide +kernel
theorem dX12_layVoyage_56 : decode cX12_layVoyage 56 = .ok (.iconst 1, 1) := by decide +kernel
theorem dX12_layVoyage_57 : decode cX12_layVoyage 57 = .ok (.istore 6, 2) := by decide +kernel
theorem dX12_layVoyage_59 : decode cX12_layVoyage 59 = .ok (.iload 6, 2) := by decide +kernel
theorem dX12_layVoyage_61 : decode cX12_layVoyage 61 = .ok (.ifCond .eq 230, 3) := by decide +kernel
theorem dX12_layVoyage_64 : decode cX12_layVoyage 64 = .ok (.iconst 0, 1) := by decide +kernel
theorem dX12_layVoyage_65 : decode cX12_layVoyage 65 = .ok (.istore 6, 2) := by decide +kernel
theorem dX12_layVoyage_67 : decode cX12_layVoyage 67 = .ok (.iconst 0, 1) := by decide +kernel
theorem dX12_layVoyage_68 : decode cX12_layVoyage 68 = .ok (.istore 7, 2) := by decide +kernel
theorem dX12_layVoyage_70 : decode cX12_layVoyage 70 = .ok (.iload 7, 2) := by decide +kernel
theorem dX12_layVoyage_72 : decode cX12_layVoyage 72 = .ok (.bipush 48, 2) := by decide +kernel
theorem dX12_layVoyage_74 : decode cX12_layVoyage 74 = .ok (.if_icmp .ge 214, 3) := by decide +kernel
theorem dX12_layVoyage_77 : decode cX12_layVoyage 77 = .ok (.iload 7, 2) := by decide +kernel
theorem dX12_layVoyage_79 : decode cX12_layVoyage 79 = .ok (.iconst 4, 1) := by decide +kernel
theorem dX12_layVoyage_80 : decode cX12_layVoyage 80 = .ok (.idiv, 1) := by decide +kernel
theorem dX12_layVoyage_81 : decode cX12_layVoyage 81 = .ok (.istore 8, 2) := by decide +kernel
theorem dX12_layVoyage_83 : decode cX12_layVoyage 83 = .ok (.aload_n 0, 1) := by decide +kernel
theorem dX12_layVoyage_84 : decode cX12_layVoyage 84 = .ok (.getfield 19, 3) := by decide +kernel
theorem dX12_layVoyage_87 : decode cX12_layVoyage 87 = .ok (.iload 8, 2) := by decide +kernel
theorem dX12_layVoyage_89 : decode cX12_layVoyage 89 = .ok (.iaload, 1) := by decide +kernel
theorem dX12_layVoyage_90 : decode cX12_layVoyage 90 = .ok (.ldc 142, 2) := by decide +kernel
theorem dX12_layVoyage_92 : decode cX12_layVoyage 92 = .ok (.if_icmp .ne 7, 3) := by decide +kernel
theorem dX12_layVoyage_95 : decode cX12_layVoyage 95 = .ok (.iconst (-1), 1) := by decide +kernel
theorem dX12_layVoyage_96 : decode cX12_layVoyage 96 = .ok (.goto 24, 3) := by decide +kernel
theorem dX12_layVoyage_99 : decode cX12_layVoyage 99 = .ok (.aload_n 0, 1) := by decide +kernel
theorem dX12_layVoyage_100 : decode cX12_layVoyage 100 = .ok (.iload_n 1, 1) := by decide +kernel
theorem dX12_layVoyage_101 : decode cX12_layVoyage 101 = .ok (.iload 8, 2) := by decide +kernel
theorem dX12_layVoyage_103 : decode cX12_layVoyage 103 = .ok (.aload_n 0, 1) := by decide +kernel
theorem dX12_layVoyage_104 : decode cX12_layVoyage 104 = .ok (.getfield 19, 3) := by decide +kernel
theorem dX12_layVoyage_107 : decode cX12_layVoyage 107 = .ok (.iload 8, 2) := by decide +kernel
theorem dX12_layVoyage_109 : decode cX12_layVoyage 109 = .ok (.iaload, 1) := by decide +kernel
theorem dX12_layVoyage_110 : decode cX12_layVoyage 110 = .ok (.iload 7, 2) := by decide +kernel
theorem dX12_layVoyage_112 : decode cX12_layVoyage 112 = .ok (.iconst 4, 1) := by decide +kernel
theorem dX12_layVoyage_113 : decode cX12_layVoyage 113 = .ok (.irem, 1) := by decide +kernel
theorem dX12_layVoyage_114 : decode cX12_layVoyage 114 = .ok (.iload_n 3, 1) := by decide +kernel
theorem dX12_layVoyage_115 : decode cX12_layVoyage 115 = .ok (.iload 4, 2) := by decide +kernel
theorem dX12_layVoyage_117 : decode cX12_layVoyage 117 = .ok (.invokevirtual 127, 3) := by decide +kernel
theorem dX12_layVoyage_120 : decode cX12_layVoyage 120 = .ok (.istore 9, 2) := by decide +kernel
theorem dX12_layVoyage_122 : decode cX12_layVoyage 122 = .ok (.iload 9, 2) := by decide +kernel
theorem dX12_layVoyage_124 : decode cX12_layVoyage 124 = .ok (.iconst (-1), 1) := by decide +kernel
theorem dX12_layVoyage_125 : decode cX12_layVoyage 125 = .ok (.if_icmp .eq 157, 3) := by decide +kernel
theorem dX12_layVoyage_128 : decode cX12_layVoyage 128 = .ok (.iload 8, 2) := by decide +kernel
theorem dX12_layVoyage_130 : decode cX12_layVoyage 130 = .ok (.iload 7, 2) := by decide +kernel
theorem dX12_layVoyage_132 : decode cX12_layVoyage 132 = .ok (.iconst 4, 1) := by decide +kernel
theorem dX12_layVoyage_133 : decode cX12_layVoyage 133 = .ok (.irem, 1) := by decide +kernel
theorem dX12_layVoyage_134 : decode cX12_layVoyage 134 = .ok (.invokestatic 113, 3) := by decide +kernel
theorem dX12_layVoyage_137 : decode cX12_layVoyage 137 = .ok (.istore 10, 2) := by decide +kernel
theorem dX12_layVoyage_139 : decode cX12_layVoyage 139 = .ok (.aload_n 0, 1) := by decide +kernel
theorem dX12_layVoyage_140 : decode cX12_layVoyage 140 = .ok (.getfield 19, 3) := by decide +kernel
theorem dX12_layVoyage_143 : decode cX12_layVoyage 143 = .ok (.iload 8, 2) := by decide +kernel
theorem dX12_layVoyage_145 : decode cX12_layVoyage 145 = .ok (.iaload, 1) := by decide +kernel
theorem dX12_layVoyage_146 : decode cX12_layVoyage 146 = .ok (.iload 9, 2) := by decide +kernel
theorem dX12_layVoyage_148 : decode cX12_layVoyage 148 = .ok (.iadd, 1) := by decide +kernel
theorem dX12_layVoyage_149 : decode cX12_layVoyage 149 = .ok (.istore 11, 2) := by decide +kernel
theorem dX12_layVoyage_151 : decode cX12_layVoyage 151 = .ok (.iload 8, 2) := by decide +kernel
theorem dX12_layVoyage_153 : decode cX12_layVoyage 153 = .ok (.iload 5, 2) := by decide +kernel
theorem dX12_layVoyage_155 : decode cX12_layVoyage 155 = .ok (.if_icmp .ne 10, 3) := by decide +kernel
theorem dX12_layVoyage_158 : decode cX12_layVoyage 158 = .ok (.iload 7, 2) := by decide +kernel
theorem dX12_layVoyage_160 : decode cX12_layVoyage 160 = .ok (.iconst 4, 1) := by decide +kernel
theorem dX12_layVoyage_161 : decode cX12_layVoyage 161 = .ok (.irem, 1) := by decide +kernel
theorem dX12_layVoyage_162 : decode cX12_layVoyage 162 = .ok (.goto 10, 3) := by decide +kernel
theorem dX12_layVoyage_165 : decode cX12_layVoyage 165 = .ok (.aload_n 0, 1) := by decide +kernel
theorem dX12_layVoyage_166 : decode cX12_layVoyage 166 = .ok (.getfield 22, 3) := by decide +kernel
theorem dX12_layVoyage_169 : decode cX12_layVoyage 169 = .ok (.iload 8, 2) := by decide +kernel
theorem dX12_layVoyage_171 : decode cX12_layVoyage 171 = .ok (.iaload, 1) := by decide +kernel
theorem dX12_layVoyage_172 : decode cX12_layVoyage 172 = .ok (.istore 12, 2) := by decide +kernel
theorem dX12_layVoyage_174 : decode cX12_layVoyage 174 = .ok (.iload 11, 2) := by decide +kernel
theorem dX12_layVoyage_176 : decode cX12_layVoyage 176 = .ok (.aload_n 0, 1) := by decide +kernel
theorem dX12_layVoyage_177 : decode cX12_layVoyage 177 = .ok (.getfield 19, 3) := by decide +kernel
theorem dX12_layVoyage_180 : decode cX12_layVoyage 180 = .ok (.iload 10, 2) := by decide +kernel
theorem dX12_layVoyage_182 : decode cX12_layVoyage 182 = .ok (.iaload, 1) := by decide +kernel
theorem dX12_layVoyage_183 : decode cX12_layVoyage 183 = .ok (.if_icmp .lt 27, 3) := by decide +kernel
theorem dX12_layVoyage_186 : decode cX12_layVoyage 186 = .ok (.iload 11, 2) := by decide +kernel
theorem dX12_layVoyage_188 : decode cX12_layVoyage 188 = .ok (.aload_n 0, 1) := by decide +kernel
theorem dX12_layVoyage_189 : decode cX12_layVoyage 189 = .ok (.getfield 19, 3) := by decide +kernel
theorem dX12_layVoyage_192 : decode cX12_layVoyage 192 = .ok (.iload 10, 2) := by decide +kernel
theorem dX12_layVoyage_194 : decode cX12_layVoyage 194 = .ok (.iaload, 1) := by decide +kernel
theorem dX12_layVoyage_195 : decode cX12_layVoyage 195 = .ok (.if_icmp .ne 19, 3) := by decide +kernel
theorem dX12_layVoyage_198 : decode cX12_layVoyage 198 = .ok (.iload 12, 2) := by decide +kernel
theorem dX12_layVoyage_200 : decode cX12_layVoyage 200 = .ok (.aload_n 0, 1) := by decide +kernel
theorem dX12_layVoyage_201 : decode cX12_layVoyage 201 = .ok (.getfield 22, 3) := by decide +kernel
theorem dX12_layVoyage_204 : decode cX12_layVoyage 204 = .ok (.iload 10, 2) := by decide +kernel
theorem dX12_layVoyage_206 : decode cX12_layVoyage 206 = .ok (.iaload, 1) := by decide +kernel
theorem dX12_layVoyage_207 : decode cX12_layVoyage 207 = .ok (.if_icmp .ge 7, 3) := by decide +kernel
theorem dX12_layVoyage_210 : decode cX12_layVoyage 210 = .ok (.iconst 1, 1) := by decide +kernel
theorem dX12_layVoyage_211 : decode cX12_layVoyage 211 = .ok (.goto 4, 3) := by decide +kernel
theorem dX12_layVoyage_214 : decode cX12_layVoyage 214 = .ok (.iconst 0, 1) := by decide +kernel
theorem dX12_layVoyage_215 : decode cX12_layVoyage 215 = .ok (.istore 13, 2) := by decide +kernel
theorem dX12_layVoyage_217 : decode cX12_layVoyage 217 = .ok (.aload_n 0, 1) := by decide +kernel
theorem dX12_layVoyage_218 : decode cX12_layVoyage 218 = .ok (.getfield 19, 3) := by decide +kernel
theorem dX12_layVoyage_221 : decode cX12_layVoyage 221 = .ok (.iload 10, 2) := by decide +kernel
theorem dX12_layVoyage_223 : decode cX12_layVoyage 223 = .ok (.iload 13, 2) := by decide +kernel
theorem dX12_layVoyage_225 : decode cX12_layVoyage 225 = .ok (.ifCond .eq 8, 3) := by decide +kernel
theorem dX12_layVoyage_228 : decode cX12_layVoyage 228 = .ok (.iload 11, 2) := by decide +kernel
theorem dX12_layVoyage_230 : decode cX12_layVoyage 230 = .ok (.goto 10, 3) := by decide +kernel
theorem dX12_layVoyage_233 : decode cX12_layVoyage 233 = .ok (.aload_n 0, 1) := by decide +kernel
theorem dX12_layVoyage_234 : decode cX12_layVoyage 234 = .ok (.getfield 19, 3) := by decide +kernel
theorem dX12_layVoyage_237 : decode cX12_layVoyage 237 = .ok (.iload 10, 2) := by decide +kernel
theorem dX12_layVoyage_239 : decode cX12_layVoyage 239 = .ok (.iaload, 1) := by decide +kernel
theorem dX12_layVoyage_240 : decode cX12_layVoyage 240 = .ok (.iastore, 1) := by decide +kernel
theorem dX12_layVoyage_241 : decode cX12_layVoyage 241 = .ok (.aload_n 0, 1) := by decide +kernel
theorem dX12_layVoyage_242 : decode cX12_layVoyage 242 = .ok (.getfield 22, 3) := by decide +kernel
theorem dX12_layVoyage_245 : decode cX12_layVoyage 245 = .ok (.iload 10, 2) := by decide +kernel
theorem dX12_layVoyage_247 : decode cX12_layVoyage 247 = .ok (.iload 13, 2) := by decide +kernel
theorem dX12_layVoyage_249 : decode cX12_layVoyage 249 = .ok (.ifCond .eq 8, 3) := by decide +kernel
theorem dX12_layVoyage_252 : decode cX12_layVoyage 252 = .ok (.iload 12, 2) := by decide +kernel
theorem dX12_layVoyage_254 : decode cX12_layVoyage 254 = .ok (.goto 10, 3) := by decide +kernel
theorem dX12_layVoyage_257 : decode cX12_layVoyage 257 = .ok (.aload_n 0, 1) := by decide +kernel
theorem dX12_layVoyage_258 : decode cX12_layVoyage 258 = .ok (.getfield 22, 3) := by decide +kernel
theorem dX12_layVoyage_261 : decode cX12_layVoyage 261 = .ok (.iload 10, 2) := by decide +kernel
theorem dX12_layVoyage_263 : decode cX12_layVoyage 263 = .ok (.iaload, 1) := by decide +kernel
theorem dX12_layVoyage_264 : decode cX12_layVoyage 264 = .ok (.iastore, 1) := by decide +kernel
theorem dX12_layVoyage_265 : decode cX12_layVoyage 265 = .ok (.iload 6, 2) := by decide +kernel
theorem dX12_layVoyage_267 : decode cX12_layVoyage 267 = .ok (.ifCond .ne 8, 3) := by decide +kernel
theorem dX12_layVoyage_270 : decode cX12_layVoyage 270 = .ok (.iload 13, 2) := by decide +kernel
theorem dX12_layVoyage_272 : decode cX12_layVoyage 272 = .ok (.ifCond .eq 7, 3) := by decide +kernel
theorem dX12_layVoyage_275 : decode cX12_layVoyage 275 = .ok (.iconst 1, 1) := by decide +kernel
theorem dX12_layVoyage_276 : decode cX12_layVoyage 276 = .ok (.goto 4, 3) := by decide +kernel
theorem dX12_layVoyage_279 : decode cX12_layVoyage 279 = .ok (.iconst 0, 1) := by decide +kernel
theorem dX12_layVoyage_280 : decode cX12_layVoyage 280 = .ok (.istore 6, 2) := by decide +kernel
theorem dX12_layVoyage_282 : decode cX12_layVoyage 282 = .ok (.iinc 7 1, 3) := by decide +kernel
theorem dX12_layVoyage_285 : decode cX12_layVoyage 285 = .ok (.goto (-215), 3) := by decide +kernel
theorem dX12_layVoyage_288 : decode cX12_layVoyage 288 = .ok (.goto (-229), 3) := by decide +kernel
theorem dX12_layVoyage_291 : decode cX12_layVoyage 291 = .ok (.return_, 1) := by decide +kernel
theorem dX12_hourBy_0 : decode cX12_hourBy 0 = .ok (.aload_n 0, 1) := by decide +kernel
theorem dX12_hourBy_1 : decode cX12_hourBy 1 = .ok (.iload_n 1, 1) := by decide +kernel
theorem dX12_hourBy_2 : decode cX12_hourBy 2 = .ok (.iload_n 3, 1) := by decide +kernel
theorem dX12_hourBy_3 : decode cX12_hourBy 3 = .ok (.iload 4, 2) := by decide +kernel
theorem dX12_hourBy_5 : decode cX12_hourBy 5 = .ok (.iload 5, 2) := by decide +kernel
theorem dX12_hourBy_7 : decode cX12_hourBy 7 = .ok (.invokevirtual 143, 3) := by decide +kernel
theorem dX12_hourBy_10 : decode cX12_hourBy 10 = .ok (.aload_n 0, 1) := by decide +kernel
theorem dX12_hourBy_11 : decode cX12_hourBy 11 = .ok (.getfield 19, 3) := by decide +kernel
theorem dX12_hourBy_14 : decode cX12_hourBy 14 = .ok (.iload_n 2, 1) := by decide +kernel
theorem dX12_hourBy_15 : decode cX12_hourBy 15 = .ok (.iaload, 1) := by decide +kernel
theorem dX12_hourBy_16 : decode cX12_hourBy 16 = .ok (.ldc 142, 2) := by decide +kernel
theorem dX12_hourBy_18 : decode cX12_hourBy 18 = .ok (.if_icmp .ne 7, 3) := by decide +kernel
theorem dX12_hourBy_21 : decode cX12_hourBy 21 = .ok (.iconst (-1), 1) := by decide +kernel
theorem dX12_hourBy_22 : decode cX12_hourBy 22 = .ok (.goto 9, 3) := by decide +kernel
theorem dX12_hourBy_25 : decode cX12_hourBy 25 = .ok (.aload_n 0, 1) := by decide +kernel
theorem dX12_hourBy_26 : decode cX12_hourBy 26 = .ok (.getfield 19, 3) := by decide +kernel
theorem dX12_hourBy_29 : decode cX12_hourBy 29 = .ok (.iload_n 2, 1) := by decide +kernel
theorem dX12_hourBy_30 : decode cX12_hourBy 30 = .ok (.iaload, 1) := by decide +kernel
theorem dX12_hourBy_31 : decode cX12_hourBy 31 = .ok (.ireturn, 1) := by decide +kernel
theorem dX12_voyage_0 : decode cX12_voyage 0 = .ok (.aload_n 0, 1) := by decide +kernel
theorem dX12_voyage_1 : decode cX12_voyage 1 = .ok (.iload_n 1, 1) := by decide +kernel
theorem dX12_voyage_2 : decode cX12_voyage 2 = .ok (.invokevirtual 134, 3) := by decide +kernel
theorem dX12_voyage_5 : decode cX12_voyage 5 = .ok (.ifCond .eq 11, 3) := by decide +kernel
theorem dX12_voyage_8 : decode cX12_voyage 8 = .ok (.aload_n 0, 1) := by decide +kernel
theorem dX12_voyage_9 : decode cX12_voyage 9 = .ok (.iload_n 2, 1) := by decide +kernel
theorem dX12_voyage_10 : decode cX12_voyage 10 = .ok (.invokevirtual 101, 3) := by decide +kernel
theorem dX12_voyage_13 : decode cX12_voyage 13 = .ok (.ifCond .ne 6, 3) := by decide +kernel
theorem dX12_voyage_16 : decode cX12_voyage 16 = .ok (.bipush (-101), 2) := by decide +kernel
theorem dX12_voyage_18 : decode cX12_voyage 18 = .ok (.ireturn, 1) := by decide +kernel
theorem dX12_voyage_19 : decode cX12_voyage 19 = .ok (.iload_n 3, 1) := by decide +kernel
theorem dX12_voyage_20 : decode cX12_voyage 20 = .ok (.i2l, 1) := by decide +kernel
theorem dX12_voyage_21 : decode cX12_voyage 21 = .ok (.lconst 0, 1) := by decide +kernel
theorem dX12_voyage_22 : decode cX12_voyage 22 = .ok (.lconst 1, 1) := by decide +kernel
theorem dX12_voyage_23 : decode cX12_voyage 23 = .ok (.invokestatic 55, 3) := by decide +kernel
theorem dX12_voyage_26 : decode cX12_voyage 26 = .ok (.ifCond .ne 6, 3) := by decide +kernel
theorem dX12_voyage_29 : decode cX12_voyage 29 = .ok (.bipush (-102), 2) := by decide +kernel
theorem dX12_voyage_31 : decode cX12_voyage 31 = .ok (.ireturn, 1) := by decide +kernel
theorem dX12_voyage_32 : decode cX12_voyage 32 = .ok (.aload_n 0, 1) := by decide +kernel
theorem dX12_voyage_33 : decode cX12_voyage 33 = .ok (.iload_n 1, 1) := by decide +kernel
theorem dX12_voyage_34 : decode cX12_voyage 34 = .ok (.iload_n 2, 1) := by decide +kernel
theorem dX12_voyage_35 : decode cX12_voyage 35 = .ok (.aload_n 0, 1) := by decide +kernel
theorem dX12_voyage_36 : decode cX12_voyage 36 = .ok (.getfield 75, 3) := by decide +kernel
theorem dX12_voyage_39 : decode cX12_voyage 39 = .ok (.aload_n 0, 1) := by decide +kernel
theorem dX12_voyage_40 : decode cX12_voyage 40 = .ok (.getfield 50, 3) := by decide +kernel
theorem dX12_voyage_43 : decode cX12_voyage 43 = .ok (.aload_n 0, 1) := by decide +kernel
theorem dX12_voyage_44 : decode cX12_voyage 44 = .ok (.getfield 72, 3) := by decide +kernel
theorem dX12_voyage_47 : decode cX12_voyage 47 = .ok (.invokevirtual 147, 3) := by decide +kernel
theorem dX12_voyage_50 : decode cX12_voyage 50 = .ok (.istore 4, 2) := by decide +kernel
theorem dX12_voyage_52 : decode cX12_voyage 52 = .ok (.iload_n 3, 1) := by decide +kernel
theorem dX12_voyage_53 : decode cX12_voyage 53 = .ok (.ifCond .ne 8, 3) := by decide +kernel
theorem dX12_voyage_56 : decode cX12_voyage 56 = .ok (.iload 4, 2) := by decide +kernel
theorem dX12_voyage_58 : decode cX12_voyage 58 = .ok (.goto 9, 3) := by decide +kernel
theorem dX12_voyage_61 : decode cX12_voyage 61 = .ok (.aload_n 0, 1) := by decide +kernel
theorem dX12_voyage_62 : decode cX12_voyage 62 = .ok (.getfield 22, 3) := by decide +kernel
theorem dX12_voyage_65 : decode cX12_voyage 65 = .ok (.iload_n 2, 1) := by decide +kernel
theorem dX12_voyage_66 : decode cX12_voyage 66 = .ok (.iaload, 1) := by decide +kernel
theorem dX12_voyage_67 : decode cX12_voyage 67 = .ok (.ireturn, 1) := by decide +kernel
theorem dX12_latest_0 : decode cX12_latest 0 = .ok (.aload_n 0, 1) := by decide +kernel
theorem dX12_latest_1 : decode cX12_latest 1 = .ok (.iload_n 1, 1) := by decide +kernel
theorem dX12_latest_2 : decode cX12_latest 2 = .ok (.invokevirtual 134, 3) := by decide +kernel
theorem dX12_latest_5 : decode cX12_latest 5 = .ok (.ifCond .eq 11, 3) := by decide +kernel
theorem dX12_latest_8 : decode cX12_latest 8 = .ok (.aload_n 0, 1) := by decide +kernel
theorem dX12_latest_9 : decode cX12_latest 9 = .ok (.iload_n 2, 1) := by decide +kernel
theorem dX12_latest_10 : decode cX12_latest 10 = .ok (.invokevirtual 101, 3) := by decide +kernel
