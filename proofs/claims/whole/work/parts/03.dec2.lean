theorem dX8_startsOf_29 : decode cX8_startsOf 29 = .ok (.bipush 12, 2) := by decide +kernel
theorem dX8_startsOf_31 : decode cX8_startsOf 31 = .ok (.if_icmp .ge 73, 3) := by decide +kernel
theorem dX8_startsOf_34 : decode cX8_startsOf 34 = .ok (.aload_n 0, 1) := by decide +kernel
theorem dX8_startsOf_35 : decode cX8_startsOf 35 = .ok (.getfield 21, 3) := by decide +kernel
theorem dX8_startsOf_38 : decode cX8_startsOf 38 = .ok (.iload 5, 2) := by decide +kernel
theorem dX8_startsOf_40 : decode cX8_startsOf 40 = .ok (.iaload, 1) := by decide +kernel
theorem dX8_startsOf_41 : decode cX8_startsOf 41 = .ok (.iload 6, 2) := by decide +kernel
theorem dX8_startsOf_43 : decode cX8_startsOf 43 = .ok (.ishr, 1) := by decide +kernel
theorem dX8_startsOf_44 : decode cX8_startsOf 44 = .ok (.iconst 1, 1) := by decide +kernel
theorem dX8_startsOf_45 : decode cX8_startsOf 45 = .ok (.iand, 1) := by decide +kernel
theorem dX8_startsOf_46 : decode cX8_startsOf 46 = .ok (.iconst 1, 1) := by decide +kernel
theorem dX8_startsOf_47 : decode cX8_startsOf 47 = .ok (.if_icmp .ne 7, 3) := by decide +kernel
theorem dX8_startsOf_50 : decode cX8_startsOf 50 = .ok (.iconst 1, 1) := by decide +kernel
theorem dX8_startsOf_51 : decode cX8_startsOf 51 = .ok (.goto 4, 3) := by decide +kernel
theorem dX8_startsOf_54 : decode cX8_startsOf 54 = .ok (.iconst 0, 1) := by decide +kernel
theorem dX8_startsOf_55 : decode cX8_startsOf 55 = .ok (.istore 7, 2) := by decide +kernel
theorem dX8_startsOf_57 : decode cX8_startsOf 57 = .ok (.iload 7, 2) := by decide +kernel
theorem dX8_startsOf_59 : decode cX8_startsOf 59 = .ok (.ifCond .eq 39, 3) := by decide +kernel
theorem dX8_startsOf_62 : decode cX8_startsOf 62 = .ok (.iload 5, 2) := by decide +kernel
theorem dX8_startsOf_64 : decode cX8_startsOf 64 = .ok (.iload 4, 2) := by decide +kernel
theorem dX8_startsOf_66 : decode cX8_startsOf 66 = .ok (.if_icmp .eq 18, 3) := by decide +kernel
theorem dX8_startsOf_69 : decode cX8_startsOf 69 = .ok (.aload_n 0, 1) := by decide +kernel
theorem dX8_startsOf_70 : decode cX8_startsOf 70 = .ok (.aload_n 1, 1) := by decide +kernel
theorem dX8_startsOf_71 : decode cX8_startsOf 71 = .ok (.aload_n 2, 1) := by decide +kernel
theorem dX8_startsOf_72 : decode cX8_startsOf 72 = .ok (.iload 6, 2) := by decide +kernel
theorem dX8_startsOf_74 : decode cX8_startsOf 74 = .ok (.iload 5, 2) := by decide +kernel
theorem dX8_startsOf_76 : decode cX8_startsOf 76 = .ok (.iload 4, 2) := by decide +kernel
theorem dX8_startsOf_78 : decode cX8_startsOf 78 = .ok (.invokevirtual 35, 3) := by decide +kernel
theorem dX8_startsOf_81 : decode cX8_startsOf 81 = .ok (.ifCond .eq 17, 3) := by decide +kernel
theorem dX8_startsOf_84 : decode cX8_startsOf 84 = .ok (.aload_n 0, 1) := by decide +kernel
theorem dX8_startsOf_85 : decode cX8_startsOf 85 = .ok (.getfield 24, 3) := by decide +kernel
theorem dX8_startsOf_88 : decode cX8_startsOf 88 = .ok (.iload 5, 2) := by decide +kernel
theorem dX8_startsOf_90 : decode cX8_startsOf 90 = .ok (.dup2, 1) := by decide +kernel
theorem dX8_startsOf_91 : decode cX8_startsOf 91 = .ok (.iaload, 1) := by decide +kernel
theorem dX8_startsOf_92 : decode cX8_startsOf 92 = .ok (.iconst 1, 1) := by decide +kernel
theorem dX8_startsOf_93 : decode cX8_startsOf 93 = .ok (.iload 6, 2) := by decide +kernel
theorem dX8_startsOf_95 : decode cX8_startsOf 95 = .ok (.ishl, 1) := by decide +kernel
theorem dX8_startsOf_96 : decode cX8_startsOf 96 = .ok (.ior, 1) := by decide +kernel
theorem dX8_startsOf_97 : decode cX8_startsOf 97 = .ok (.iastore, 1) := by decide +kernel
theorem dX8_startsOf_98 : decode cX8_startsOf 98 = .ok (.iinc 6 1, 3) := by decide +kernel
theorem dX8_startsOf_101 : decode cX8_startsOf 101 = .ok (.goto (-74), 3) := by decide +kernel
theorem dX8_startsOf_104 : decode cX8_startsOf 104 = .ok (.iinc 5 (-1), 3) := by decide +kernel
theorem dX8_startsOf_107 : decode cX8_startsOf 107 = .ok (.goto (-96), 3) := by decide +kernel
theorem dX8_startsOf_110 : decode cX8_startsOf 110 = .ok (.aload_n 0, 1) := by decide +kernel
theorem dX8_startsOf_111 : decode cX8_startsOf 111 = .ok (.getfield 24, 3) := by decide +kernel
theorem dX8_startsOf_114 : decode cX8_startsOf 114 = .ok (.iconst 0, 1) := by decide +kernel
theorem dX8_startsOf_115 : decode cX8_startsOf 115 = .ok (.iaload, 1) := by decide +kernel
theorem dX8_startsOf_116 : decode cX8_startsOf 116 = .ok (.ireturn, 1) := by decide +kernel
theorem dX8_lookUp_0 : decode cX8_lookUp 0 = .ok (.iconst 0, 1) := by decide +kernel
theorem dX8_lookUp_1 : decode cX8_lookUp 1 = .ok (.istore_n 2, 1) := by decide +kernel
theorem dX8_lookUp_2 : decode cX8_lookUp 2 = .ok (.iload_n 2, 1) := by decide +kernel
theorem dX8_lookUp_3 : decode cX8_lookUp 3 = .ok (.aload_n 0, 1) := by decide +kernel
theorem dX8_lookUp_4 : decode cX8_lookUp 4 = .ok (.getfield 21, 3) := by decide +kernel
theorem dX8_lookUp_7 : decode cX8_lookUp 7 = .ok (.arraylength, 1) := by decide +kernel
theorem dX8_lookUp_8 : decode cX8_lookUp 8 = .ok (.if_icmp .ge 18, 3) := by decide +kernel
theorem dX8_lookUp_11 : decode cX8_lookUp 11 = .ok (.aload_n 0, 1) := by decide +kernel
theorem dX8_lookUp_12 : decode cX8_lookUp 12 = .ok (.getfield 21, 3) := by decide +kernel
theorem dX8_lookUp_15 : decode cX8_lookUp 15 = .ok (.iload_n 2, 1) := by decide +kernel
theorem dX8_lookUp_16 : decode cX8_lookUp 16 = .ok (.sipush 4095, 3) := by decide +kernel
theorem dX8_lookUp_19 : decode cX8_lookUp 19 = .ok (.iastore, 1) := by decide +kernel
theorem dX8_lookUp_20 : decode cX8_lookUp 20 = .ok (.iinc 2 1, 3) := by decide +kernel
theorem dX8_lookUp_23 : decode cX8_lookUp 23 = .ok (.goto (-21), 3) := by decide +kernel
theorem dX8_lookUp_26 : decode cX8_lookUp 26 = .ok (.iconst 0, 1) := by decide +kernel
theorem dX8_lookUp_27 : decode cX8_lookUp 27 = .ok (.istore_n 2, 1) := by decide +kernel
theorem dX8_lookUp_28 : decode cX8_lookUp 28 = .ok (.iconst 0, 1) := by decide +kernel
theorem dX8_lookUp_29 : decode cX8_lookUp 29 = .ok (.istore_n 3, 1) := by decide +kernel
theorem dX8_lookUp_30 : decode cX8_lookUp 30 = .ok (.iload_n 3, 1) := by decide +kernel
theorem dX8_lookUp_31 : decode cX8_lookUp 31 = .ok (.aload_n 0, 1) := by decide +kernel
theorem dX8_lookUp_32 : decode cX8_lookUp 32 = .ok (.getfield 27, 3) := by decide +kernel
theorem dX8_lookUp_35 : decode cX8_lookUp 35 = .ok (.if_icmp .ge 73, 3) := by decide +kernel
theorem dX8_lookUp_38 : decode cX8_lookUp 38 = .ok (.iload_n 3, 1) := by decide +kernel
theorem dX8_lookUp_39 : decode cX8_lookUp 39 = .ok (.bipush 6, 2) := by decide +kernel
theorem dX8_lookUp_41 : decode cX8_lookUp 41 = .ok (.if_icmp .ge 67, 3) := by decide +kernel
theorem dX8_lookUp_44 : decode cX8_lookUp 44 = .ok (.aload_n 0, 1) := by decide +kernel
theorem dX8_lookUp_45 : decode cX8_lookUp 45 = .ok (.getfield 18, 3) := by decide +kernel
theorem dX8_lookUp_48 : decode cX8_lookUp 48 = .ok (.iload_n 3, 1) := by decide +kernel
theorem dX8_lookUp_49 : decode cX8_lookUp 49 = .ok (.iaload, 1) := by decide +kernel
theorem dX8_lookUp_50 : decode cX8_lookUp 50 = .ok (.istore 4, 2) := by decide +kernel
theorem dX8_lookUp_52 : decode cX8_lookUp 52 = .ok (.aload_n 0, 1) := by decide +kernel
theorem dX8_lookUp_53 : decode cX8_lookUp 53 = .ok (.getfield 9, 3) := by decide +kernel
theorem dX8_lookUp_56 : decode cX8_lookUp 56 = .ok (.iload_n 3, 1) := by decide +kernel
theorem dX8_lookUp_57 : decode cX8_lookUp 57 = .ok (.iaload, 1) := by decide +kernel
theorem dX8_lookUp_58 : decode cX8_lookUp 58 = .ok (.iload_n 1, 1) := by decide +kernel
theorem dX8_lookUp_59 : decode cX8_lookUp 59 = .ok (.if_icmp .ne 43, 3) := by decide +kernel
theorem dX8_lookUp_62 : decode cX8_lookUp 62 = .ok (.iload 4, 2) := by decide +kernel
theorem dX8_lookUp_64 : decode cX8_lookUp 64 = .ok (.ifCond .lt 38, 3) := by decide +kernel
theorem dX8_lookUp_67 : decode cX8_lookUp 67 = .ok (.iload 4, 2) := by decide +kernel
theorem dX8_lookUp_69 : decode cX8_lookUp 69 = .ok (.aload_n 0, 1) := by decide +kernel
theorem dX8_lookUp_70 : decode cX8_lookUp 70 = .ok (.getfield 21, 3) := by decide +kernel
theorem dX8_lookUp_73 : decode cX8_lookUp 73 = .ok (.arraylength, 1) := by decide +kernel
theorem dX8_lookUp_74 : decode cX8_lookUp 74 = .ok (.if_icmp .ge 28, 3) := by decide +kernel
theorem dX8_lookUp_77 : decode cX8_lookUp 77 = .ok (.aload_n 0, 1) := by decide +kernel
theorem dX8_lookUp_78 : decode cX8_lookUp 78 = .ok (.getfield 21, 3) := by decide +kernel
theorem dX8_lookUp_81 : decode cX8_lookUp 81 = .ok (.iload 4, 2) := by decide +kernel
theorem dX8_lookUp_83 : decode cX8_lookUp 83 = .ok (.dup2, 1) := by decide +kernel
theorem dX8_lookUp_84 : decode cX8_lookUp 84 = .ok (.iaload, 1) := by decide +kernel
theorem dX8_lookUp_85 : decode cX8_lookUp 85 = .ok (.iconst 1, 1) := by decide +kernel
theorem dX8_lookUp_86 : decode cX8_lookUp 86 = .ok (.aload_n 0, 1) := by decide +kernel
theorem dX8_lookUp_87 : decode cX8_lookUp 87 = .ok (.getfield 15, 3) := by decide +kernel
theorem dX8_lookUp_90 : decode cX8_lookUp 90 = .ok (.iload_n 3, 1) := by decide +kernel
theorem dX8_lookUp_91 : decode cX8_lookUp 91 = .ok (.iaload, 1) := by decide +kernel
theorem dX8_lookUp_92 : decode cX8_lookUp 92 = .ok (.ishl, 1) := by decide +kernel
theorem dX8_lookUp_93 : decode cX8_lookUp 93 = .ok (.iand, 1) := by decide +kernel
theorem dX8_lookUp_94 : decode cX8_lookUp 94 = .ok (.iastore, 1) := by decide +kernel
theorem dX8_lookUp_95 : decode cX8_lookUp 95 = .ok (.iload_n 2, 1) := by decide +kernel
theorem dX8_lookUp_96 : decode cX8_lookUp 96 = .ok (.iload 4, 2) := by decide +kernel
theorem dX8_lookUp_98 : decode cX8_lookUp 98 = .ok (.invokestatic 39, 3) := by decide +kernel
theorem dX8_lookUp_101 : decode cX8_lookUp 101 = .ok (.istore_n 2, 1) := by decide +kernel
theorem dX8_lookUp_102 : decode cX8_lookUp 102 = .ok (.iinc 3 1, 3) := by decide +kernel
theorem dX8_lookUp_105 : decode cX8_lookUp 105 = .ok (.goto (-75), 3) := by decide +kernel
theorem dX8_lookUp_108 : decode cX8_lookUp 108 = .ok (.iload_n 2, 1) := by decide +kernel
theorem dX8_lookUp_109 : decode cX8_lookUp 109 = .ok (.ireturn, 1) := by decide +kernel
theorem dX8_goesOn_0 : decode cX8_goesOn 0 = .ok (.aload_n 0, 1) := by decide +kernel
theorem dX8_goesOn_1 : decode cX8_goesOn 1 = .ok (.iload_n 3, 1) := by decide +kernel
theorem dX8_goesOn_2 : decode cX8_goesOn 2 = .ok (.iload 4, 2) := by decide +kernel
theorem dX8_goesOn_4 : decode cX8_goesOn 4 = .ok (.iconst 1, 1) := by decide +kernel
theorem dX8_goesOn_5 : decode cX8_goesOn 5 = .ok (.iadd, 1) := by decide +kernel
theorem dX8_goesOn_6 : decode cX8_goesOn 6 = .ok (.iload 5, 2) := by decide +kernel
theorem dX8_goesOn_8 : decode cX8_goesOn 8 = .ok (.invokevirtual 45, 3) := by decide +kernel
theorem dX8_goesOn_11 : decode cX8_goesOn 11 = .ok (.ifCond .eq 5, 3) := by decide +kernel
theorem dX8_goesOn_14 : decode cX8_goesOn 14 = .ok (.iconst 1, 1) := by decide +kernel
theorem dX8_goesOn_15 : decode cX8_goesOn 15 = .ok (.ireturn, 1) := by decide +kernel
theorem dX8_goesOn_16 : decode cX8_goesOn 16 = .ok (.iconst 0, 1) := by decide +kernel
theorem dX8_goesOn_17 : decode cX8_goesOn 17 = .ok (.istore 6, 2) := by decide +kernel
theorem dX8_goesOn_19 : decode cX8_goesOn 19 = .ok (.iload 6, 2) := by decide +kernel
theorem dX8_goesOn_21 : decode cX8_goesOn 21 = .ok (.iconst 4, 1) := by decide +kernel
theorem dX8_goesOn_22 : decode cX8_goesOn 22 = .ok (.if_icmp .ge 63, 3) := by decide +kernel
theorem dX8_goesOn_25 : decode cX8_goesOn 25 = .ok (.aload_n 1, 1) := by decide +kernel
theorem dX8_goesOn_26 : decode cX8_goesOn 26 = .ok (.aload_n 2, 1) := by decide +kernel
theorem dX8_goesOn_27 : decode cX8_goesOn 27 = .ok (.iload_n 3, 1) := by decide +kernel
theorem dX8_goesOn_28 : decode cX8_goesOn 28 = .ok (.iload 6, 2) := by decide +kernel
theorem dX8_goesOn_30 : decode cX8_goesOn 30 = .ok (.iload 4, 2) := by decide +kernel
theorem dX8_goesOn_32 : decode cX8_goesOn 32 = .ok (.invokevirtual 49, 3) := by decide +kernel
theorem dX8_goesOn_35 : decode cX8_goesOn 35 = .ok (.istore 7, 2) := by decide +kernel
theorem dX8_goesOn_37 : decode cX8_goesOn 37 = .ok (.iload 7, 2) := by decide +kernel
theorem dX8_goesOn_39 : decode cX8_goesOn 39 = .ok (.iconst (-1), 1) := by decide +kernel
theorem dX8_goesOn_40 : decode cX8_goesOn 40 = .ok (.if_icmp .eq 39, 3) := by decide +kernel
theorem dX8_goesOn_43 : decode cX8_goesOn 43 = .ok (.aload_n 0, 1) := by decide +kernel
theorem dX8_goesOn_44 : decode cX8_goesOn 44 = .ok (.iload 4, 2) := by decide +kernel
theorem dX8_goesOn_46 : decode cX8_goesOn 46 = .ok (.iload 4, 2) := by decide +kernel
theorem dX8_goesOn_48 : decode cX8_goesOn 48 = .ok (.iload 7, 2) := by decide +kernel
theorem dX8_goesOn_50 : decode cX8_goesOn 50 = .ok (.iadd, 1) := by decide +kernel
theorem dX8_goesOn_51 : decode cX8_goesOn 51 = .ok (.invokevirtual 55, 3) := by decide +kernel
theorem dX8_goesOn_54 : decode cX8_goesOn 54 = .ok (.ifCond .eq 25, 3) := by decide +kernel
theorem dX8_goesOn_57 : decode cX8_goesOn 57 = .ok (.aload_n 0, 1) := by decide +kernel
theorem dX8_goesOn_58 : decode cX8_goesOn 58 = .ok (.iload_n 3, 1) := by decide +kernel
theorem dX8_goesOn_59 : decode cX8_goesOn 59 = .ok (.iload 6, 2) := by decide +kernel
theorem dX8_goesOn_61 : decode cX8_goesOn 61 = .ok (.invokestatic 59, 3) := by decide +kernel
theorem dX8_goesOn_64 : decode cX8_goesOn 64 = .ok (.iload 4, 2) := by decide +kernel
theorem dX8_goesOn_66 : decode cX8_goesOn 66 = .ok (.iload 7, 2) := by decide +kernel
theorem dX8_goesOn_68 : decode cX8_goesOn 68 = .ok (.iadd, 1) := by decide +kernel
theorem dX8_goesOn_69 : decode cX8_goesOn 69 = .ok (.iload 5, 2) := by decide +kernel
theorem dX8_goesOn_71 : decode cX8_goesOn 71 = .ok (.invokevirtual 45, 3) := by decide +kernel
theorem dX8_goesOn_74 : decode cX8_goesOn 74 = .ok (.ifCond .eq 5, 3) := by decide +kernel
theorem dX8_goesOn_77 : decode cX8_goesOn 77 = .ok (.iconst 1, 1) := by decide +kernel
theorem dX8_goesOn_78 : decode cX8_goesOn 78 = .ok (.ireturn, 1) := by decide +kernel
theorem dX8_goesOn_79 : decode cX8_goesOn 79 = .ok (.iinc 6 1, 3) := by decide +kernel
theorem dX8_goesOn_82 : decode cX8_goesOn 82 = .ok (.goto (-63), 3) := by decide +kernel
theorem dX8_goesOn_85 : decode cX8_goesOn 85 = .ok (.iconst 0, 1) := by decide +kernel
theorem dX8_goesOn_86 : decode cX8_goesOn 86 = .ok (.ireturn, 1) := by decide +kernel
theorem dX8_canBe_0 : decode cX8_canBe 0 = .ok (.iload_n 1, 1) := by decide +kernel
theorem dX8_canBe_1 : decode cX8_canBe 1 = .ok (.invokestatic 62, 3) := by decide +kernel
theorem dX8_canBe_4 : decode cX8_canBe 4 = .ok (.ifCond .eq 39, 3) := by decide +kernel
theorem dX8_canBe_7 : decode cX8_canBe 7 = .ok (.iload_n 2, 1) := by decide +kernel
theorem dX8_canBe_8 : decode cX8_canBe 8 = .ok (.ifCond .lt 35, 3) := by decide +kernel
theorem dX8_canBe_11 : decode cX8_canBe 11 = .ok (.iload_n 2, 1) := by decide +kernel
theorem dX8_canBe_12 : decode cX8_canBe 12 = .ok (.iload_n 3, 1) := by decide +kernel
theorem dX8_canBe_13 : decode cX8_canBe 13 = .ok (.if_icmp .gt 30, 3) := by decide +kernel
theorem dX8_canBe_16 : decode cX8_canBe 16 = .ok (.iload_n 2, 1) := by decide +kernel
theorem dX8_canBe_17 : decode cX8_canBe 17 = .ok (.aload_n 0, 1) := by decide +kernel
theorem dX8_canBe_18 : decode cX8_canBe 18 = .ok (.getfield 24, 3) := by decide +kernel
theorem dX8_canBe_21 : decode cX8_canBe 21 = .ok (.arraylength, 1) := by decide +kernel
theorem dX8_canBe_22 : decode cX8_canBe 22 = .ok (.if_icmp .ge 21, 3) := by decide +kernel
theorem dX8_canBe_25 : decode cX8_canBe 25 = .ok (.aload_n 0, 1) := by decide +kernel
theorem dX8_canBe_26 : decode cX8_canBe 26 = .ok (.getfield 24, 3) := by decide +kernel
theorem dX8_canBe_29 : decode cX8_canBe 29 = .ok (.iload_n 2, 1) := by decide +kernel
theorem dX8_canBe_30 : decode cX8_canBe 30 = .ok (.iaload, 1) := by decide +kernel
theorem dX8_canBe_31 : decode cX8_canBe 31 = .ok (.iload_n 1, 1) := by decide +kernel
theorem dX8_canBe_32 : decode cX8_canBe 32 = .ok (.ishr, 1) := by decide +kernel
theorem dX8_canBe_33 : decode cX8_canBe 33 = .ok (.iconst 1, 1) := by decide +kernel
theorem dX8_canBe_34 : decode cX8_canBe 34 = .ok (.iand, 1) := by decide +kernel
theorem dX8_canBe_35 : decode cX8_canBe 35 = .ok (.iconst 1, 1) := by decide +kernel
theorem dX8_canBe_36 : decode cX8_canBe 36 = .ok (.if_icmp .ne 7, 3) := by decide +kernel
theorem dX8_canBe_39 : decode cX8_canBe 39 = .ok (.iconst 1, 1) := by decide +kernel
theorem dX8_canBe_40 : decode cX8_canBe 40 = .ok (.goto 4, 3) := by decide +kernel
theorem dX8_canBe_43 : decode cX8_canBe 43 = .ok (.iconst 0, 1) := by decide +kernel
theorem dX8_canBe_44 : decode cX8_canBe 44 = .ok (.ireturn, 1) := by decide +kernel
theorem dX8_unseenBetween_0 : decode cX8_unseenBetween 0 = .ok (.iload_n 1, 1) := by decide +kernel
theorem dX8_unseenBetween_1 : decode cX8_unseenBetween 1 = .ok (.iconst 1, 1) := by decide +kernel
theorem dX8_unseenBetween_2 : decode cX8_unseenBetween 2 = .ok (.iadd, 1) := by decide +kernel
theorem dX8_unseenBetween_3 : decode cX8_unseenBetween 3 = .ok (.istore_n 3, 1) := by decide +kernel
theorem dX8_unseenBetween_4 : decode cX8_unseenBetween 4 = .ok (.iload_n 3, 1) := by decide +kernel
theorem dX8_unseenBetween_5 : decode cX8_unseenBetween 5 = .ok (.iload_n 2, 1) := by decide +kernel
theorem dX8_unseenBetween_6 : decode cX8_unseenBetween 6 = .ok (.if_icmp .ge 36, 3) := by decide +kernel
theorem dX8_unseenBetween_9 : decode cX8_unseenBetween 9 = .ok (.iload_n 3, 1) := by decide +kernel
theorem dX8_unseenBetween_10 : decode cX8_unseenBetween 10 = .ok (.aload_n 0, 1) := by decide +kernel
theorem dX8_unseenBetween_11 : decode cX8_unseenBetween 11 = .ok (.getfield 21, 3) := by decide +kernel
theorem dX8_unseenBetween_14 : decode cX8_unseenBetween 14 = .ok (.arraylength, 1) := by decide +kernel
theorem dX8_unseenBetween_15 : decode cX8_unseenBetween 15 = .ok (.if_icmp .ge 27, 3) := by decide +kernel
theorem dX8_unseenBetween_18 : decode cX8_unseenBetween 18 = .ok (.iload_n 3, 1) := by decide +kernel
theorem dX8_unseenBetween_19 : decode cX8_unseenBetween 19 = .ok (.ifCond .lt 17, 3) := by decide +kernel
theorem dX8_unseenBetween_22 : decode cX8_unseenBetween 22 = .ok (.aload_n 0, 1) := by decide +kernel
theorem dX8_unseenBetween_23 : decode cX8_unseenBetween 23 = .ok (.getfield 21, 3) := by decide +kernel
theorem dX8_unseenBetween_26 : decode cX8_unseenBetween 26 = .ok (.iload_n 3, 1) := by decide +kernel
theorem dX8_unseenBetween_27 : decode cX8_unseenBetween 27 = .ok (.iaload, 1) := by decide +kernel
theorem dX8_unseenBetween_28 : decode cX8_unseenBetween 28 = .ok (.sipush 4095, 3) := by decide +kernel
theorem dX8_unseenBetween_31 : decode cX8_unseenBetween 31 = .ok (.if_icmp .eq 5, 3) := by decide +kernel
theorem dX8_unseenBetween_34 : decode cX8_unseenBetween 34 = .ok (.iconst 0, 1) := by decide +kernel
theorem dX8_unseenBetween_35 : decode cX8_unseenBetween 35 = .ok (.ireturn, 1) := by decide +kernel
theorem dX8_unseenBetween_36 : decode cX8_unseenBetween 36 = .ok (.iinc 3 1, 3) := by decide +kernel
theorem dX8_unseenBetween_39 : decode cX8_unseenBetween 39 = .ok (.goto (-35), 3) := by decide +kernel
theorem dX8_unseenBetween_42 : decode cX8_unseenBetween 42 = .ok (.iconst 1, 1) := by decide +kernel
theorem dX8_unseenBetween_43 : decode cX8_unseenBetween 43 = .ok (.ireturn, 1) := by decide +kernel
theorem dX9_init_0 : decode cX9_init 0 = .ok (.aload_n 0, 1) := by decide +kernel
theorem dX9_init_1 : decode cX9_init 1 = .ok (.iload_n 1, 1) := by decide +kernel
theorem dX9_init_2 : decode cX9_init 2 = .ok (.iload_n 2, 1) := by decide +kernel
theorem dX9_init_3 : decode cX9_init 3 = .ok (.invokespecial 1, 3) := by decide +kernel
theorem dX9_init_6 : decode cX9_init 6 = .ok (.return_, 1) := by decide +kernel
theorem dX9_kind_0 : decode cX9_kind 0 = .ok (.iconst 3, 1) := by decide +kernel
theorem dX9_kind_1 : decode cX9_kind 1 = .ok (.ireturn, 1) := by decide +kernel
theorem dX9_cornNeeded_0 : decode cX9_cornNeeded 0 = .ok (.iconst 0, 1) := by decide +kernel
theorem dX9_cornNeeded_1 : decode cX9_cornNeeded 1 = .ok (.ireturn, 1) := by decide +kernel
theorem dX9_hoursWith_0 : decode cX9_hoursWith 0 = .ok (.iconst 2, 1) := by decide +kernel
theorem dX9_hoursWith_1 : decode cX9_hoursWith 1 = .ok (.ireturn, 1) := by decide +kernel
theorem dX9_hoursAcross_0 : decode cX9_hoursAcross 0 = .ok (.iconst 3, 1) := by decide +kernel
theorem dX9_hoursAcross_1 : decode cX9_hoursAcross 1 = .ok (.ireturn, 1) := by decide +kernel
theorem dX9_hoursBecalmed_0 : decode cX9_hoursBecalmed 0 = .ok (.iconst 4, 1) := by decide +kernel
theorem dX9_hoursBecalmed_1 : decode cX9_hoursBecalmed 1 = .ok (.ireturn, 1) := by decide +kernel
theorem dX10_init_0 : decode cX10_init 0 = .ok (.aload_n 0, 1) := by decide +kernel
theorem dX10_init_1 : decode cX10_init 1 = .ok (.iload_n 1, 1) := by decide +kernel
theorem dX10_init_2 : decode cX10_init 2 = .ok (.iload_n 2, 1) := by decide +kernel
theorem dX10_init_3 : decode cX10_init 3 = .ok (.invokespecial 1, 3) := by decide +kernel
theorem dX10_init_6 : decode cX10_init 6 = .ok (.return_, 1) := by decide +kernel
theorem dX10_kind_0 : decode cX10_kind 0 = .ok (.iconst 1, 1) := by decide +kernel
theorem dX10_kind_1 : decode cX10_kind 1 = .ok (.ireturn, 1) := by decide +kernel
theorem dX10_cornNeeded_0 : decode cX10_cornNeeded 0 = .ok (.aload_n 0, 1) := by decide +kernel
theorem dX10_cornNeeded_1 : decode cX10_cornNeeded 1 = .ok (.getfield 7, 3) := by decide +kernel
theorem dX10_cornNeeded_4 : decode cX10_cornNeeded 4 = .ok (.iconst 1, 1) := by decide +kernel
theorem dX10_cornNeeded_5 : decode cX10_cornNeeded 5 = .ok (.isub, 1) := by decide +kernel
theorem dX10_cornNeeded_6 : decode cX10_cornNeeded 6 = .ok (.ireturn, 1) := by decide +kernel
theorem dX11_init_0 : decode cX11_init 0 = .ok (.aload_n 0, 1) := by decide +kernel
theorem dX11_init_1 : decode cX11_init 1 = .ok (.invokespecial 3, 3) := by decide +kernel
theorem dX11_init_4 : decode cX11_init 4 = .ok (.aload_n 0, 1) := by decide +kernel
theorem dX11_init_5 : decode cX11_init 5 = .ok (.bipush 18, 2) := by decide +kernel
theorem dX11_init_7 : decode cX11_init 7 = .ok (.newarray .int, 2) := by decide +kernel
theorem dX11_init_9 : decode cX11_init 9 = .ok (.putfield 9, 3) := by decide +kernel
theorem dX11_init_12 : decode cX11_init 12 = .ok (.aload_n 0, 1) := by decide +kernel
theorem dX11_init_13 : decode cX11_init 13 = .ok (.iconst 3, 1) := by decide +kernel
theorem dX11_init_14 : decode cX11_init 14 = .ok (.anewarray 13, 3) := by decide +kernel
theorem dX11_init_17 : decode cX11_init 17 = .ok (.putfield 15, 3) := by decide +kernel
theorem dX11_init_20 : decode cX11_init 20 = .ok (.aload_n 0, 1) := by decide +kernel
theorem dX11_init_21 : decode cX11_init 21 = .ok (.new 19, 3) := by decide +kernel
theorem dX11_init_24 : decode cX11_init 24 = .ok (.dup, 1) := by decide +kernel
theorem dX11_init_25 : decode cX11_init 25 = .ok (.invokespecial 21, 3) := by decide +kernel
theorem dX11_init_28 : decode cX11_init 28 = .ok (.putfield 22, 3) := by decide +kernel
theorem dX11_init_31 : decode cX11_init 31 = .ok (.aload_n 0, 1) := by decide +kernel
theorem dX11_init_32 : decode cX11_init 32 = .ok (.new 26, 3) := by decide +kernel
theorem dX11_init_35 : decode cX11_init 35 = .ok (.dup, 1) := by decide +kernel
theorem dX11_init_36 : decode cX11_init 36 = .ok (.invokespecial 28, 3) := by decide +kernel
theorem dX11_init_39 : decode cX11_init 39 = .ok (.putfield 29, 3) := by decide +kernel
theorem dX11_init_42 : decode cX11_init 42 = .ok (.aload_n 0, 1) := by decide +kernel
theorem dX11_init_43 : decode cX11_init 43 = .ok (.new 33, 3) := by decide +kernel
theorem dX11_init_46 : decode cX11_init 46 = .ok (.dup, 1) := by decide +kernel
theorem dX11_init_47 : decode cX11_init 47 = .ok (.invokespecial 35, 3) := by decide +kernel
theorem dX11_init_50 : decode cX11_init 50 = .ok (.putfield 36, 3) := by decide +kernel
theorem dX11_init_53 : decode cX11_init 53 = .ok (.aload_n 0, 1) := by decide +kernel
theorem dX11_init_54 : decode cX11_init 54 = .ok (.new 40, 3) := by decide +kernel
theorem dX11_init_57 : decode cX11_init 57 = .ok (.dup, 1) := by decide +kernel
theorem dX11_init_58 : decode cX11_init 58 = .ok (.invokespecial 42, 3) := by decide +kernel
theorem dX11_init_61 : decode cX11_init 61 = .ok (.putfield 43, 3) := by decide +kernel
theorem dX11_init_64 : decode cX11_init 64 = .ok (.aload_n 0, 1) := by decide +kernel
theorem dX11_init_65 : decode cX11_init 65 = .ok (.new 47, 3) := by decide +kernel
theorem dX11_init_68 : decode cX11_init 68 = .ok (.dup, 1) := by decide +kernel
theorem dX11_init_69 : decode cX11_init 69 = .ok (.invokespecial 49, 3) := by decide +kernel
theorem dX11_init_72 : decode cX11_init 72 = .ok (.putfield 50, 3) := by decide +kernel
theorem dX11_init_75 : decode cX11_init 75 = .ok (.bipush 12, 2) := by decide +kernel
theorem dX11_init_77 : decode cX11_init 77 = .ok (.newarray .int, 2) := by decide +kernel
theorem dX11_init_79 : decode cX11_init 79 = .ok (.astore_n 1, 1) := by decide +kernel
theorem dX11_init_80 : decode cX11_init 80 = .ok (.aload_n 0, 1) := by decide +kernel
theorem dX11_init_81 : decode cX11_init 81 = .ok (.new 54, 3) := by decide +kernel
theorem dX11_init_84 : decode cX11_init 84 = .ok (.dup, 1) := by decide +kernel
theorem dX11_init_85 : decode cX11_init 85 = .ok (.aload_n 1, 1) := by decide +kernel
theorem dX11_init_86 : decode cX11_init 86 = .ok (.invokespecial 56, 3) := by decide +kernel
theorem dX11_init_89 : decode cX11_init 89 = .ok (.putfield 59, 3) := by decide +kernel
theorem dX11_init_92 : decode cX11_init 92 = .ok (.aload_n 0, 1) := by decide +kernel
theorem dX11_init_93 : decode cX11_init 93 = .ok (.new 54, 3) := by decide +kernel
theorem dX11_init_96 : decode cX11_init 96 = .ok (.dup, 1) := by decide +kernel
theorem dX11_init_97 : decode cX11_init 97 = .ok (.aload_n 1, 1) := by decide +kernel
theorem dX11_init_98 : decode cX11_init 98 = .ok (.invokespecial 56, 3) := by decide +kernel
theorem dX11_init_101 : decode cX11_init 101 = .ok (.putfield 63, 3) := by decide +kernel
theorem dX11_init_104 : decode cX11_init 104 = .ok (.return_, 1) := by decide +kernel
theorem dX11_letter_0 : decode cX11_letter 0 = .ok (.iload_n 1, 1) := by decide +kernel
theorem dX11_letter_1 : decode cX11_letter 1 = .ok (.iconst 1, 1) := by decide +kernel
theorem dX11_letter_2 : decode cX11_letter 2 = .ok (.if_icmp .lt 9, 3) := by decide +kernel
theorem dX11_letter_5 : decode cX11_letter 5 = .ok (.iload_n 1, 1) := by decide +kernel
theorem dX11_letter_6 : decode cX11_letter 6 = .ok (.bipush 126, 2) := by decide +kernel
theorem dX11_letter_8 : decode cX11_letter 8 = .ok (.if_icmp .le 6, 3) := by decide +kernel
theorem dX11_letter_11 : decode cX11_letter 11 = .ok (.bipush (-102), 2) := by decide +kernel
theorem dX11_letter_13 : decode cX11_letter 13 = .ok (.ireturn, 1) := by decide +kernel
theorem dX11_letter_14 : decode cX11_letter 14 = .ok (.aload_n 0, 1) := by decide +kernel
theorem dX11_letter_15 : decode cX11_letter 15 = .ok (.getfield 66, 3) := by decide +kernel
theorem dX11_letter_18 : decode cX11_letter 18 = .ok (.ifCond .lt 15, 3) := by decide +kernel
theorem dX11_letter_21 : decode cX11_letter 21 = .ok (.aload_n 0, 1) := by decide +kernel
theorem dX11_letter_22 : decode cX11_letter 22 = .ok (.getfield 66, 3) := by decide +kernel
theorem dX11_letter_25 : decode cX11_letter 25 = .ok (.aload_n 0, 1) := by decide +kernel
theorem dX11_letter_26 : decode cX11_letter 26 = .ok (.getfield 9, 3) := by decide +kernel
theorem dX11_letter_29 : decode cX11_letter 29 = .ok (.arraylength, 1) := by decide +kernel
theorem dX11_letter_30 : decode cX11_letter 30 = .ok (.if_icmp .lt 6, 3) := by decide +kernel
theorem dX11_letter_33 : decode cX11_letter 33 = .ok (.bipush (-104), 2) := by decide +kernel
theorem dX11_letter_35 : decode cX11_letter 35 = .ok (.ireturn, 1) := by decide +kernel
theorem dX11_letter_36 : decode cX11_letter 36 = .ok (.aload_n 0, 1) := by decide +kernel
theorem dX11_letter_37 : decode cX11_letter 37 = .ok (.getfield 9, 3) := by decide +kernel
theorem dX11_letter_40 : decode cX11_letter 40 = .ok (.aload_n 0, 1) := by decide +kernel
theorem dX11_letter_41 : decode cX11_letter 41 = .ok (.getfield 66, 3) := by decide +kernel
theorem dX11_letter_44 : decode cX11_letter 44 = .ok (.iload_n 1, 1) := by decide +kernel
theorem dX11_letter_45 : decode cX11_letter 45 = .ok (.iastore, 1) := by decide +kernel
theorem dX11_letter_46 : decode cX11_letter 46 = .ok (.aload_n 0, 1) := by decide +kernel
theorem dX11_letter_47 : decode cX11_letter 47 = .ok (.dup, 1) := by decide +kernel
theorem dX11_letter_48 : decode cX11_letter 48 = .ok (.getfield 66, 3) := by decide +kernel
theorem dX11_letter_51 : decode cX11_letter 51 = .ok (.iconst 1, 1) := by decide +kernel
theorem dX11_letter_52 : decode cX11_letter 52 = .ok (.iadd, 1) := by decide +kernel
theorem dX11_letter_53 : decode cX11_letter 53 = .ok (.putfield 66, 3) := by decide +kernel
theorem dX11_letter_56 : decode cX11_letter 56 = .ok (.aload_n 0, 1) := by decide +kernel
theorem dX11_letter_57 : decode cX11_letter 57 = .ok (.getfield 66, 3) := by decide +kernel
theorem dX11_letter_60 : decode cX11_letter 60 = .ok (.ireturn, 1) := by decide +kernel
theorem dX11_blank_0 : decode cX11_blank 0 = .ok (.aload_n 0, 1) := by decide +kernel
theorem dX11_blank_1 : decode cX11_blank 1 = .ok (.getfield 66, 3) := by decide +kernel
theorem dX11_blank_4 : decode cX11_blank 4 = .ok (.istore_n 1, 1) := by decide +kernel
theorem dX11_blank_5 : decode cX11_blank 5 = .ok (.aload_n 0, 1) := by decide +kernel
theorem dX11_blank_6 : decode cX11_blank 6 = .ok (.iconst 0, 1) := by decide +kernel
theorem dX11_blank_7 : decode cX11_blank 7 = .ok (.putfield 66, 3) := by decide +kernel
theorem dX11_blank_10 : decode cX11_blank 10 = .ok (.iload_n 1, 1) := by decide +kernel
theorem dX11_blank_11 : decode cX11_blank 11 = .ok (.ireturn, 1) := by decide +kernel
theorem dX11_fault_0 : decode cX11_fault 0 = .ok (.iconst 0, 1) := by decide +kernel
theorem dX11_fault_1 : decode cX11_fault 1 = .ok (.istore_n 1, 1) := by decide +kernel
theorem dX11_fault_2 : decode cX11_fault 2 = .ok (.iload_n 1, 1) := by decide +kernel
theorem dX11_fault_3 : decode cX11_fault 3 = .ok (.aload_n 0, 1) := by decide +kernel
theorem dX11_fault_4 : decode cX11_fault 4 = .ok (.getfield 66, 3) := by decide +kernel
theorem dX11_fault_7 : decode cX11_fault 7 = .ok (.if_icmp .ge 33, 3) := by decide +kernel
theorem dX11_fault_10 : decode cX11_fault 10 = .ok (.iload_n 1, 1) := by decide +kernel
theorem dX11_fault_11 : decode cX11_fault 11 = .ok (.aload_n 0, 1) := by decide +kernel
theorem dX11_fault_12 : decode cX11_fault 12 = .ok (.getfield 9, 3) := by decide +kernel
theorem dX11_fault_15 : decode cX11_fault 15 = .ok (.arraylength, 1) := by decide +kernel
theorem dX11_fault_16 : decode cX11_fault 16 = .ok (.if_icmp .ge 24, 3) := by decide +kernel
theorem dX11_fault_19 : decode cX11_fault 19 = .ok (.iload_n 1, 1) := by decide +kernel
theorem dX11_fault_20 : decode cX11_fault 20 = .ok (.aload_n 0, 1) := by decide +kernel
theorem dX11_fault_21 : decode cX11_fault 21 = .ok (.getfield 9, 3) := by decide +kernel
theorem dX11_fault_24 : decode cX11_fault 24 = .ok (.iload_n 1, 1) := by decide +kernel
theorem dX11_fault_25 : decode cX11_fault 25 = .ok (.iaload, 1) := by decide +kernel
theorem dX11_fault_26 : decode cX11_fault 26 = .ok (.invokestatic 70, 3) := by decide +kernel
theorem dX11_fault_29 : decode cX11_fault 29 = .ok (.ifCond .ne 5, 3) := by decide +kernel
theorem dX11_fault_32 : decode cX11_fault 32 = .ok (.iload_n 1, 1) := by decide +kernel
theorem dX11_fault_33 : decode cX11_fault 33 = .ok (.ireturn, 1) := by decide +kernel
theorem dX11_fault_34 : decode cX11_fault 34 = .ok (.iinc 1 1, 3) := by decide +kernel
theorem dX11_fault_37 : decode cX11_fault 37 = .ok (.goto (-35), 3) := by decide +kernel
theorem dX11_fault_40 : decode cX11_fault 40 = .ok (.aload_n 0, 1) := by decide +kernel
theorem dX11_fault_41 : decode cX11_fault 41 = .ok (.getfield 66, 3) := by decide +kernel
theorem dX11_fault_44 : decode cX11_fault 44 = .ok (.ireturn, 1) := by decide +kernel
theorem dX11_plain_0 : decode cX11_plain 0 = .ok (.aload_n 0, 1) := by decide +kernel
theorem dX11_plain_1 : decode cX11_plain 1 = .ok (.getfield 66, 3) := by decide +kernel
theorem dX11_plain_4 : decode cX11_plain 4 = .ok (.ldc 74, 2) := by decide +kernel
theorem dX11_plain_6 : decode cX11_plain 6 = .ok (.invokevirtual 76, 3) := by decide +kernel
theorem dX11_plain_9 : decode cX11_plain 9 = .ok (.if_icmp .ne 14, 3) := by decide +kernel
theorem dX11_plain_12 : decode cX11_plain 12 = .ok (.aload_n 0, 1) := by decide +kernel
theorem dX11_plain_13 : decode cX11_plain 13 = .ok (.invokevirtual 82, 3) := by decide +kernel
theorem dX11_plain_16 : decode cX11_plain 16 = .ok (.aload_n 0, 1) := by decide +kernel
theorem dX11_plain_17 : decode cX11_plain 17 = .ok (.getfield 66, 3) := by decide +kernel
theorem dX11_plain_20 : decode cX11_plain 20 = .ok (.if_icmp .eq 6, 3) := by decide +kernel
theorem dX11_plain_23 : decode cX11_plain 23 = .ok (.bipush (-103), 2) := by decide +kernel
theorem dX11_plain_25 : decode cX11_plain 25 = .ok (.ireturn, 1) := by decide +kernel
theorem dX11_plain_26 : decode cX11_plain 26 = .ok (.aload_n 0, 1) := by decide +kernel
theorem dX11_plain_27 : decode cX11_plain 27 = .ok (.invokevirtual 85, 3) := by decide +kernel
theorem dX11_plain_30 : decode cX11_plain 30 = .ok (.iconst 0, 1) := by decide +kernel
theorem dX11_plain_31 : decode cX11_plain 31 = .ok (.istore_n 1, 1) := by decide +kernel
theorem dX11_plain_32 : decode cX11_plain 32 = .ok (.iconst 0, 1) := by decide +kernel
theorem dX11_plain_33 : decode cX11_plain 33 = .ok (.istore_n 2, 1) := by decide +kernel
theorem dX11_plain_34 : decode cX11_plain 34 = .ok (.iload_n 2, 1) := by decide +kernel
theorem dX11_plain_35 : decode cX11_plain 35 = .ok (.bipush 12, 2) := by decide +kernel
theorem dX11_plain_37 : decode cX11_plain 37 = .ok (.if_icmp .ge 32, 3) := by decide +kernel
theorem dX11_plain_40 : decode cX11_plain 40 = .ok (.aload_n 0, 1) := by decide +kernel
theorem dX11_plain_41 : decode cX11_plain 41 = .ok (.iload_n 2, 1) := by decide +kernel
theorem dX11_plain_42 : decode cX11_plain 42 = .ok (.iload_n 2, 1) := by decide +kernel
theorem dX11_plain_43 : decode cX11_plain 43 = .ok (.iconst 4, 1) := by decide +kernel
theorem dX11_plain_44 : decode cX11_plain 44 = .ok (.idiv, 1) := by decide +kernel
theorem dX11_plain_45 : decode cX11_plain 45 = .ok (.iadd, 1) := by decide +kernel
theorem dX11_plain_46 : decode cX11_plain 46 = .ok (.invokevirtual 88, 3) := by decide +kernel
theorem dX11_plain_49 : decode cX11_plain 49 = .ok (.istore_n 3, 1) := by decide +kernel
theorem dX11_plain_50 : decode cX11_plain 50 = .ok (.aload_n 0, 1) := by decide +kernel
theorem dX11_plain_51 : decode cX11_plain 51 = .ok (.getfield 59, 3) := by decide +kernel
theorem dX11_plain_54 : decode cX11_plain 54 = .ok (.iload_n 2, 1) := by decide +kernel
theorem dX11_plain_55 : decode cX11_plain 55 = .ok (.iload_n 3, 1) := by decide +kernel
theorem dX11_plain_56 : decode cX11_plain 56 = .ok (.invokevirtual 92, 3) := by decide +kernel
theorem dX11_plain_59 : decode cX11_plain 59 = .ok (.iload_n 1, 1) := by decide +kernel
theorem dX11_plain_60 : decode cX11_plain 60 = .ok (.iload_n 3, 1) := by decide +kernel
theorem dX11_plain_61 : decode cX11_plain 61 = .ok (.iadd, 1) := by decide +kernel
theorem dX11_plain_62 : decode cX11_plain 62 = .ok (.istore_n 1, 1) := by decide +kernel
theorem dX11_plain_63 : decode cX11_plain 63 = .ok (.iinc 2 1, 3) := by decide +kernel
theorem dX11_plain_66 : decode cX11_plain 66 = .ok (.goto (-32), 3) := by decide +kernel
theorem dX11_plain_69 : decode cX11_plain 69 = .ok (.aload_n 0, 1) := by decide +kernel
theorem dX11_plain_70 : decode cX11_plain 70 = .ok (.getfield 59, 3) := by decide +kernel
theorem dX11_plain_73 : decode cX11_plain 73 = .ok (.aload_n 0, 1) := by decide +kernel
theorem dX11_plain_74 : decode cX11_plain 74 = .ok (.ldc 74, 2) := by decide +kernel
theorem dX11_plain_76 : decode cX11_plain 76 = .ok (.invokevirtual 76, 3) := by decide +kernel
theorem dX11_plain_79 : decode cX11_plain 79 = .ok (.iconst 1, 1) := by decide +kernel
theorem dX11_plain_80 : decode cX11_plain 80 = .ok (.isub, 1) := by decide +kernel
theorem dX11_plain_81 : decode cX11_plain 81 = .ok (.invokevirtual 88, 3) := by decide +kernel
theorem dX11_plain_84 : decode cX11_plain 84 = .ok (.putfield 96, 3) := by decide +kernel
theorem dX11_plain_87 : decode cX11_plain 87 = .ok (.aload_n 0, 1) := by decide +kernel
theorem dX11_plain_88 : decode cX11_plain 88 = .ok (.dup, 1) := by decide +kernel
theorem dX11_plain_89 : decode cX11_plain 89 = .ok (.getfield 99, 3) := by decide +kernel
theorem dX11_plain_92 : decode cX11_plain 92 = .ok (.iconst 1, 1) := by decide +kernel
theorem dX11_plain_93 : decode cX11_plain 93 = .ok (.iadd, 1) := by decide +kernel
theorem dX11_plain_94 : decode cX11_plain 94 = .ok (.putfield 99, 3) := by decide +kernel
theorem dX11_plain_97 : decode cX11_plain 97 = .ok (.aload_n 0, 1) := by decide +kernel
theorem dX11_plain_98 : decode cX11_plain 98 = .ok (.iconst 0, 1) := by decide +kernel
theorem dX11_plain_99 : decode cX11_plain 99 = .ok (.putfield 66, 3) := by decide +kernel
theorem dX11_plain_102 : decode cX11_plain 102 = .ok (.iload_n 1, 1) := by decide +kernel
theorem dX11_plain_103 : decode cX11_plain 103 = .ok (.ireturn, 1) := by decide +kernel
theorem dX11_cell_0 : decode cX11_cell 0 = .ok (.aload_n 0, 1) := by decide +kernel
theorem dX11_cell_1 : decode cX11_cell 1 = .ok (.iload_n 1, 1) := by decide +kernel
theorem dX11_cell_2 : decode cX11_cell 2 = .ok (.invokevirtual 102, 3) := by decide +kernel
theorem dX11_cell_5 : decode cX11_cell 5 = .ok (.ifCond .ne 6, 3) := by decide +kernel
theorem dX11_cell_8 : decode cX11_cell 8 = .ok (.bipush (-101), 2) := by decide +kernel
theorem dX11_cell_10 : decode cX11_cell 10 = .ok (.ireturn, 1) := by decide +kernel
theorem dX11_cell_11 : decode cX11_cell 11 = .ok (.iload_n 2, 1) := by decide +kernel
theorem dX11_cell_12 : decode cX11_cell 12 = .ok (.tableswitch 70 0 3 #[32, 45, 55, 64], 32) := by decide +kernel
theorem dX11_cell_44 : decode cX11_cell 44 = .ok (.aload_n 0, 1) := by decide +kernel
theorem dX11_cell_45 : decode cX11_cell 45 = .ok (.getfield 59, 3) := by decide +kernel
theorem dX11_cell_48 : decode cX11_cell 48 = .ok (.iload_n 1, 1) := by decide +kernel
theorem dX11_cell_49 : decode cX11_cell 49 = .ok (.aload_n 0, 1) := by decide +kernel
theorem dX11_cell_50 : decode cX11_cell 50 = .ok (.getfield 106, 3) := by decide +kernel
theorem dX11_cell_53 : decode cX11_cell 53 = .ok (.invokevirtual 109, 3) := by decide +kernel
theorem dX11_cell_56 : decode cX11_cell 56 = .ok (.ireturn, 1) := by decide +kernel
theorem dX11_cell_57 : decode cX11_cell 57 = .ok (.aload_n 0, 1) := by decide +kernel
theorem dX11_cell_58 : decode cX11_cell 58 = .ok (.getfield 59, 3) := by decide +kernel
theorem dX11_cell_61 : decode cX11_cell 61 = .ok (.iload_n 1, 1) := by decide +kernel
theorem dX11_cell_62 : decode cX11_cell 62 = .ok (.iconst 0, 1) := by decide +kernel
theorem dX11_cell_63 : decode cX11_cell 63 = .ok (.invokevirtual 109, 3) := by decide +kernel
theorem dX11_cell_66 : decode cX11_cell 66 = .ok (.ireturn, 1) := by decide +kernel
theorem dX11_cell_67 : decode cX11_cell 67 = .ok (.aload_n 0, 1) := by decide +kernel
theorem dX11_cell_68 : decode cX11_cell 68 = .ok (.getfield 59, 3) := by decide +kernel
theorem dX11_cell_71 : decode cX11_cell 71 = .ok (.iload_n 1, 1) := by decide +kernel
theorem dX11_cell_72 : decode cX11_cell 72 = .ok (.invokevirtual 113, 3) := by decide +kernel
theorem dX11_cell_75 : decode cX11_cell 75 = .ok (.ireturn, 1) := by decide +kernel
theorem dX11_cell_76 : decode cX11_cell 76 = .ok (.aload_n 0, 1) := by decide +kernel
theorem dX11_cell_77 : decode cX11_cell 77 = .ok (.iload_n 1, 1) := by decide +kernel
theorem dX11_cell_78 : decode cX11_cell 78 = .ok (.invokevirtual 116, 3) := by decide +kernel
theorem dX11_cell_81 : decode cX11_cell 81 = .ok (.ireturn, 1) := by decide +kernel
theorem dX11_cell_82 : decode cX11_cell 82 = .ok (.bipush (-102), 2) := by decide +kernel
theorem dX11_cell_84 : decode cX11_cell 84 = .ok (.ireturn, 1) := by decide +kernel
theorem dX11_wind_0 : decode cX11_wind 0 = .ok (.iload_n 1, 1) := by decide +kernel
theorem dX11_wind_1 : decode cX11_wind 1 = .ok (.ifCond .lt 8, 3) := by decide +kernel
theorem dX11_wind_4 : decode cX11_wind 4 = .ok (.iload_n 1, 1) := by decide +kernel
theorem dX11_wind_5 : decode cX11_wind 5 = .ok (.iconst 4, 1) := by decide +kernel
theorem dX11_wind_6 : decode cX11_wind 6 = .ok (.if_icmp .le 6, 3) := by decide +kernel
theorem dX11_wind_9 : decode cX11_wind 9 = .ok (.bipush (-102), 2) := by decide +kernel
theorem dX11_wind_11 : decode cX11_wind 11 = .ok (.ireturn, 1) := by decide +kernel
theorem dX11_wind_12 : decode cX11_wind 12 = .ok (.aload_n 0, 1) := by decide +kernel
theorem dX11_wind_13 : decode cX11_wind 13 = .ok (.invokevirtual 119, 3) := by decide +kernel
theorem dX11_wind_16 : decode cX11_wind 16 = .ok (.ifCond .ne 6, 3) := by decide +kernel
theorem dX11_wind_19 : decode cX11_wind 19 = .ok (.bipush (-103), 2) := by decide +kernel
theorem dX11_wind_21 : decode cX11_wind 21 = .ok (.ireturn, 1) := by decide +kernel
theorem dX11_wind_22 : decode cX11_wind 22 = .ok (.aload_n 0, 1) := by decide +kernel
theorem dX11_wind_23 : decode cX11_wind 23 = .ok (.getfield 59, 3) := by decide +kernel
theorem dX11_wind_26 : decode cX11_wind 26 = .ok (.getfield 123, 3) := by decide +kernel
theorem dX11_wind_29 : decode cX11_wind 29 = .ok (.istore_n 2, 1) := by decide +kernel
theorem dX11_wind_30 : decode cX11_wind 30 = .ok (.aload_n 0, 1) := by decide +kernel
theorem dX11_wind_31 : decode cX11_wind 31 = .ok (.getfield 59, 3) := by decide +kernel
theorem dX11_wind_34 : decode cX11_wind 34 = .ok (.iload_n 1, 1) := by decide +kernel
theorem dX11_wind_35 : decode cX11_wind 35 = .ok (.putfield 123, 3) := by decide +kernel
theorem dX11_wind_38 : decode cX11_wind 38 = .ok (.iload_n 2, 1) := by decide +kernel
theorem dX11_wind_39 : decode cX11_wind 39 = .ok (.ireturn, 1) := by decide +kernel
theorem dX11_pass_0 : decode cX11_pass 0 = .ok (.iload_n 1, 1) := by decide +kernel
theorem dX11_pass_1 : decode cX11_pass 1 = .ok (.iconst 1, 1) := by decide +kernel
theorem dX11_pass_2 : decode cX11_pass 2 = .ok (.if_icmp .lt 9, 3) := by decide +kernel
theorem dX11_pass_5 : decode cX11_pass 5 = .ok (.iload_n 1, 1) := by decide +kernel
theorem dX11_pass_6 : decode cX11_pass 6 = .ok (.bipush 30, 2) := by decide +kernel
theorem dX11_pass_8 : decode cX11_pass 8 = .ok (.if_icmp .le 6, 3) := by decide +kernel
theorem dX11_pass_11 : decode cX11_pass 11 = .ok (.bipush (-102), 2) := by decide +kernel
theorem dX11_pass_13 : decode cX11_pass 13 = .ok (.ireturn, 1) := by decide +kernel
theorem dX11_pass_14 : decode cX11_pass 14 = .ok (.aload_n 0, 1) := by decide +kernel
theorem dX11_pass_15 : decode cX11_pass 15 = .ok (.invokevirtual 119, 3) := by decide +kernel
theorem dX11_pass_18 : decode cX11_pass 18 = .ok (.ifCond .eq 15, 3) := by decide +kernel
theorem dX11_pass_21 : decode cX11_pass 21 = .ok (.aload_n 0, 1) := by decide +kernel
theorem dX11_pass_22 : decode cX11_pass 22 = .ok (.getfield 106, 3) := by decide +kernel
theorem dX11_pass_25 : decode cX11_pass 25 = .ok (.iload_n 1, 1) := by decide +kernel
theorem dX11_pass_26 : decode cX11_pass 26 = .ok (.iadd, 1) := by decide +kernel
theorem dX11_pass_27 : decode cX11_pass 27 = .ok (.sipush 999, 3) := by decide +kernel
theorem dX11_pass_30 : decode cX11_pass 30 = .ok (.if_icmp .le 6, 3) := by decide +kernel
theorem dX11_pass_33 : decode cX11_pass 33 = .ok (.bipush (-103), 2) := by decide +kernel
theorem dX11_pass_35 : decode cX11_pass 35 = .ok (.ireturn, 1) := by decide +kernel
theorem dX11_pass_36 : decode cX11_pass 36 = .ok (.aload_n 0, 1) := by decide +kernel
theorem dX11_pass_37 : decode cX11_pass 37 = .ok (.dup, 1) := by decide +kernel
theorem dX11_pass_38 : decode cX11_pass 38 = .ok (.getfield 106, 3) := by decide +kernel
theorem dX11_pass_41 : decode cX11_pass 41 = .ok (.iload_n 1, 1) := by decide +kernel
theorem dX11_pass_42 : decode cX11_pass 42 = .ok (.iadd, 1) := by decide +kernel
theorem dX11_pass_43 : decode cX11_pass 43 = .ok (.putfield 106, 3) := by decide +kernel
theorem dX11_pass_46 : decode cX11_pass 46 = .ok (.aload_n 0, 1) := by decide +kernel
theorem dX11_pass_47 : decode cX11_pass 47 = .ok (.getfield 106, 3) := by decide +kernel
theorem dX11_pass_50 : decode cX11_pass 50 = .ok (.ireturn, 1) := by decide +kernel
theorem dX11_hull_0 : decode cX11_hull 0 = .ok (.iload_n 1, 1) := by decide +kernel
theorem dX11_hull_1 : decode cX11_hull 1 = .ok (.ifCond .lt 19, 3) := by decide +kernel
theorem dX11_hull_4 : decode cX11_hull 4 = .ok (.iload_n 1, 1) := by decide +kernel
theorem dX11_hull_5 : decode cX11_hull 5 = .ok (.iconst 5, 1) := by decide +kernel
theorem dX11_hull_6 : decode cX11_hull 6 = .ok (.if_icmp .ge 14, 3) := by decide +kernel
theorem dX11_hull_9 : decode cX11_hull 9 = .ok (.iload_n 2, 1) := by decide +kernel
theorem dX11_hull_10 : decode cX11_hull 10 = .ok (.iconst 1, 1) := by decide +kernel
theorem dX11_hull_11 : decode cX11_hull 11 = .ok (.if_icmp .lt 9, 3) := by decide +kernel
theorem dX11_hull_14 : decode cX11_hull 14 = .ok (.iload_n 2, 1) := by decide +kernel
theorem dX11_hull_15 : decode cX11_hull 15 = .ok (.bipush 9, 2) := by decide +kernel
theorem dX11_hull_17 : decode cX11_hull 17 = .ok (.if_icmp .le 6, 3) := by decide +kernel
theorem dX11_hull_20 : decode cX11_hull 20 = .ok (.bipush (-102), 2) := by decide +kernel
theorem dX11_hull_22 : decode cX11_hull 22 = .ok (.ireturn, 1) := by decide +kernel
theorem dX11_hull_23 : decode cX11_hull 23 = .ok (.aload_n 0, 1) := by decide +kernel
theorem dX11_hull_24 : decode cX11_hull 24 = .ok (.iload_n 3, 1) := by decide +kernel
theorem dX11_hull_25 : decode cX11_hull 25 = .ok (.invokevirtual 102, 3) := by decide +kernel
theorem dX11_hull_28 : decode cX11_hull 28 = .ok (.ifCond .ne 6, 3) := by decide +kernel
theorem dX11_hull_31 : decode cX11_hull 31 = .ok (.bipush (-101), 2) := by decide +kernel
theorem dX11_hull_33 : decode cX11_hull 33 = .ok (.ireturn, 1) := by decide +kernel
theorem dX11_hull_34 : decode cX11_hull 34 = .ok (.aload_n 0, 1) := by decide +kernel
theorem dX11_hull_35 : decode cX11_hull 35 = .ok (.getfield 126, 3) := by decide +kernel
theorem dX11_hull_38 : decode cX11_hull 38 = .ok (.ifCond .lt 15, 3) := by decide +kernel
theorem dX11_hull_41 : decode cX11_hull 41 = .ok (.aload_n 0, 1) := by decide +kernel
theorem dX11_hull_42 : decode cX11_hull 42 = .ok (.getfield 126, 3) := by decide +kernel
theorem dX11_hull_45 : decode cX11_hull 45 = .ok (.aload_n 0, 1) := by decide +kernel
theorem dX11_hull_46 : decode cX11_hull 46 = .ok (.getfield 15, 3) := by decide +kernel
theorem dX11_hull_49 : decode cX11_hull 49 = .ok (.arraylength, 1) := by decide +kernel
theorem dX11_hull_50 : decode cX11_hull 50 = .ok (.if_icmp .lt 6, 3) := by decide +kernel
theorem dX11_hull_53 : decode cX11_hull 53 = .ok (.bipush (-104), 2) := by decide +kernel
theorem dX11_hull_55 : decode cX11_hull 55 = .ok (.ireturn, 1) := by decide +kernel
theorem dX11_hull_56 : decode cX11_hull 56 = .ok (.aload_n 0, 1) := by decide +kernel
theorem dX11_hull_57 : decode cX11_hull 57 = .ok (.getfield 15, 3) := by decide +kernel
theorem dX11_hull_60 : decode cX11_hull 60 = .ok (.aload_n 0, 1) := by decide +kernel
theorem dX11_hull_61 : decode cX11_hull 61 = .ok (.getfield 126, 3) := by decide +kernel
theorem dX11_hull_64 : decode cX11_hull 64 = .ok (.iload_n 1, 1) := by decide +kernel
theorem dX11_hull_65 : decode cX11_hull 65 = .ok (.iload_n 2, 1) := by decide +kernel
theorem dX11_hull_66 : decode cX11_hull 66 = .ok (.iload_n 3, 1) := by decide +kernel
theorem dX11_hull_67 : decode cX11_hull 67 = .ok (.invokestatic 129, 3) := by decide +kernel
theorem dX11_hull_70 : decode cX11_hull 70 = .ok (.aastore, 1) := by decide +kernel
theorem dX11_hull_71 : decode cX11_hull 71 = .ok (.aload_n 0, 1) := by decide +kernel
theorem dX11_hull_72 : decode cX11_hull 72 = .ok (.dup, 1) := by decide +kernel
theorem dX11_hull_73 : decode cX11_hull 73 = .ok (.getfield 126, 3) := by decide +kernel
theorem dX11_hull_76 : decode cX11_hull 76 = .ok (.iconst 1, 1) := by decide +kernel
theorem dX11_hull_77 : decode cX11_hull 77 = .ok (.iadd, 1) := by decide +kernel
theorem dX11_hull_78 : decode cX11_hull 78 = .ok (.putfield 126, 3) := by decide +kernel
theorem dX11_hull_81 : decode cX11_hull 81 = .ok (.aload_n 0, 1) := by decide +kernel
theorem dX11_hull_82 : decode cX11_hull 82 = .ok (.getfield 126, 3) := by decide +kernel
theorem dX11_hull_85 : decode cX11_hull 85 = .ok (.iconst 1, 1) := by decide +kernel
theorem dX11_hull_86 : decode cX11_hull 86 = .ok (.isub, 1) := by decide +kernel
theorem dX11_hull_87 : decode cX11_hull 87 = .ok (.ireturn, 1) := by decide +kernel
theorem dX11_about_0 : decode cX11_about 0 = .ok (.aload_n 0, 1) := by decide +kernel
theorem dX11_about_1 : decode cX11_about 1 = .ok (.iload_n 1, 1) := by decide +kernel
theorem dX11_about_2 : decode cX11_about 2 = .ok (.invokevirtual 133, 3) := by decide +kernel
theorem dX11_about_5 : decode cX11_about 5 = .ok (.astore_n 3, 1) := by decide +kernel
theorem dX11_about_6 : decode cX11_about 6 = .ok (.aload_n 3, 1) := by decide +kernel
theorem dX11_about_7 : decode cX11_about 7 = .ok (.ifnonnull 6, 3) := by decide +kernel
theorem dX11_about_10 : decode cX11_about 10 = .ok (.bipush (-101), 2) := by decide +kernel
theorem dX11_about_12 : decode cX11_about 12 = .ok (.ireturn, 1) := by decide +kernel
theorem dX11_about_13 : decode cX11_about 13 = .ok (.iload_n 2, 1) := by decide +kernel
theorem dX11_about_14 : decode cX11_about 14 = .ok (.tableswitch 136 0 13 #[70, 75, 80, 85, 110, 136, 136, 136, 136, 136, 115, 115, 115, 115], 70) := by decide +kernel
theorem dX11_about_84 : decode cX11_about 84 = .ok (.aload_n 3, 1) := by decide +kernel
theorem dX11_about_85 : decode cX11_about 85 = .ok (.invokevirtual 137, 3) := by decide +kernel
theorem dX11_about_88 : decode cX11_about 88 = .ok (.ireturn, 1) := by decide +kernel
theorem dX11_about_89 : decode cX11_about 89 = .ok (.aload_n 3, 1) := by decide +kernel
theorem dX11_about_90 : decode cX11_about 90 = .ok (.getfield 140, 3) := by decide +kernel
theorem dX11_about_93 : decode cX11_about 93 = .ok (.ireturn, 1) := by decide +kernel
theorem dX11_about_94 : decode cX11_about 94 = .ok (.aload_n 3, 1) := by decide +kernel
theorem dX11_about_95 : decode cX11_about 95 = .ok (.getfield 143, 3) := by decide +kernel
theorem dX11_about_98 : decode cX11_about 98 = .ok (.ireturn, 1) := by decide +kernel
theorem dX11_about_99 : decode cX11_about 99 = .ok (.aload_n 0, 1) := by decide +kernel
theorem dX11_about_100 : decode cX11_about 100 = .ok (.getfield 59, 3) := by decide +kernel
theorem dX11_about_103 : decode cX11_about 103 = .ok (.aload_n 3, 1) := by decide +kernel
theorem dX11_about_104 : decode cX11_about 104 = .ok (.aload_n 3, 1) := by decide +kernel
theorem dX11_about_105 : decode cX11_about 105 = .ok (.getfield 143, 3) := by decide +kernel
theorem dX11_about_108 : decode cX11_about 108 = .ok (.aload_n 0, 1) := by decide +kernel
theorem dX11_about_109 : decode cX11_about 109 = .ok (.getfield 106, 3) := by decide +kernel
theorem dX11_about_112 : decode cX11_about 112 = .ok (.invokevirtual 146, 3) := by decide +kernel
theorem dX11_about_115 : decode cX11_about 115 = .ok (.ifCond .eq 7, 3) := by decide +kernel
theorem dX11_about_118 : decode cX11_about 118 = .ok (.iconst 0, 1) := by decide +kernel
theorem dX11_about_119 : decode cX11_about 119 = .ok (.goto 4, 3) := by decide +kernel
theorem dX11_about_122 : decode cX11_about 122 = .ok (.iconst 1, 1) := by decide +kernel
theorem dX11_about_123 : decode cX11_about 123 = .ok (.ireturn, 1) := by decide +kernel
theorem dX11_about_124 : decode cX11_about 124 = .ok (.aload_n 3, 1) := by decide +kernel
theorem dX11_about_125 : decode cX11_about 125 = .ok (.getfield 150, 3) := by decide +kernel
theorem dX11_about_128 : decode cX11_about 128 = .ok (.ireturn, 1) := by decide +kernel
theorem dX11_about_129 : decode cX11_about 129 = .ok (.aload_n 0, 1) := by decide +kernel
theorem dX11_about_130 : decode cX11_about 130 = .ok (.getfield 59, 3) := by decide +kernel
theorem dX11_about_133 : decode cX11_about 133 = .ok (.aload_n 3, 1) := by decide +kernel
theorem dX11_about_134 : decode cX11_about 134 = .ok (.aload_n 3, 1) := by decide +kernel
theorem dX11_about_135 : decode cX11_about 135 = .ok (.getfield 143, 3) := by decide +kernel
theorem dX11_about_138 : decode cX11_about 138 = .ok (.iload_n 2, 1) := by decide +kernel
theorem dX11_about_139 : decode cX11_about 139 = .ok (.bipush 10, 2) := by decide +kernel
theorem dX11_about_141 : decode cX11_about 141 = .ok (.isub, 1) := by decide +kernel
theorem dX11_about_142 : decode cX11_about 142 = .ok (.aload_n 0, 1) := by decide +kernel
theorem dX11_about_143 : decode cX11_about 143 = .ok (.getfield 106, 3) := by decide +kernel
theorem dX11_about_146 : decode cX11_about 146 = .ok (.invokevirtual 153, 3) := by decide +kernel
theorem dX11_about_149 : decode cX11_about 149 = .ok (.ireturn, 1) := by decide +kernel
theorem dX11_about_150 : decode cX11_about 150 = .ok (.bipush (-102), 2) := by decide +kernel
theorem dX11_about_152 : decode cX11_about 152 = .ok (.ireturn, 1) := by decide +kernel
theorem dX11_as_0 : decode cX11_as 0 = .ok (.aload_n 0, 1) := by decide +kernel
theorem dX11_as_1 : decode cX11_as 1 = .ok (.iload_n 1, 1) := by decide +kernel
theorem dX11_as_2 : decode cX11_as 2 = .ok (.invokevirtual 133, 3) := by decide +kernel
theorem dX11_as_5 : decode cX11_as 5 = .ok (.astore_n 3, 1) := by decide +kernel
theorem dX11_as_6 : decode cX11_as 6 = .ok (.aload_n 3, 1) := by decide +kernel
theorem dX11_as_7 : decode cX11_as 7 = .ok (.ifnonnull 6, 3) := by decide +kernel
theorem dX11_as_10 : decode cX11_as 10 = .ok (.bipush (-101), 2) := by decide +kernel
theorem dX11_as_12 : decode cX11_as 12 = .ok (.ireturn, 1) := by decide +kernel
theorem dX11_as_13 : decode cX11_as 13 = .ok (.iload_n 2, 1) := by decide +kernel
theorem dX11_as_14 : decode cX11_as 14 = .ok (.ifCond .lt 8, 3) := by decide +kernel
theorem dX11_as_17 : decode cX11_as 17 = .ok (.iload_n 2, 1) := by decide +kernel
theorem dX11_as_18 : decode cX11_as 18 = .ok (.iconst 5, 1) := by decide +kernel
theorem dX11_as_19 : decode cX11_as 19 = .ok (.if_icmp .lt 6, 3) := by decide +kernel
theorem dX11_as_22 : decode cX11_as 22 = .ok (.bipush (-102), 2) := by decide +kernel
theorem dX11_as_24 : decode cX11_as 24 = .ok (.ireturn, 1) := by decide +kernel
theorem dX11_as_25 : decode cX11_as 25 = .ok (.aload_n 3, 1) := by decide +kernel
theorem dX11_as_26 : decode cX11_as 26 = .ok (.iload_n 2, 1) := by decide +kernel
theorem dX11_as_27 : decode cX11_as 27 = .ok (.invokestatic 157, 3) := by decide +kernel
theorem dX11_as_30 : decode cX11_as 30 = .ok (.ifCond .eq 7, 3) := by decide +kernel
theorem dX11_as_33 : decode cX11_as 33 = .ok (.iload_n 1, 1) := by decide +kernel
theorem dX11_as_34 : decode cX11_as 34 = .ok (.goto 4, 3) := by decide +kernel
theorem dX11_as_37 : decode cX11_as 37 = .ok (.iconst (-1), 1) := by decide +kernel
theorem dX11_as_38 : decode cX11_as 38 = .ok (.ireturn, 1) := by decide +kernel
theorem dX11_sail_0 : decode cX11_sail 0 = .ok (.aload_n 0, 1) := by decide +kernel
theorem dX11_sail_1 : decode cX11_sail 1 = .ok (.iload_n 1, 1) := by decide +kernel
theorem dX11_sail_2 : decode cX11_sail 2 = .ok (.invokevirtual 133, 3) := by decide +kernel
theorem dX11_sail_5 : decode cX11_sail 5 = .ok (.astore_n 3, 1) := by decide +kernel
theorem dX11_sail_6 : decode cX11_sail 6 = .ok (.aload_n 3, 1) := by decide +kernel
theorem dX11_sail_7 : decode cX11_sail 7 = .ok (.ifnonnull 6, 3) := by decide +kernel
theorem dX11_sail_10 : decode cX11_sail 10 = .ok (.bipush (-101), 2) := by decide +kernel
theorem dX11_sail_12 : decode cX11_sail 12 = .ok (.ireturn, 1) := by decide +kernel
theorem dX11_sail_13 : decode cX11_sail 13 = .ok (.iload_n 2, 1) := by decide +kernel
theorem dX11_sail_14 : decode cX11_sail 14 = .ok (.ifCond .lt 8, 3) := by decide +kernel
theorem dX11_sail_17 : decode cX11_sail 17 = .ok (.iload_n 2, 1) := by decide +kernel
theorem dX11_sail_18 : decode cX11_sail 18 = .ok (.iconst 4, 1) := by decide +kernel
theorem dX11_sail_19 : decode cX11_sail 19 = .ok (.if_icmp .lt 6, 3) := by decide +kernel
theorem dX11_sail_22 : decode cX11_sail 22 = .ok (.bipush (-102), 2) := by decide +kernel
theorem dX11_sail_24 : decode cX11_sail 24 = .ok (.ireturn, 1) := by decide +kernel
theorem dX11_sail_25 : decode cX11_sail 25 = .ok (.aload_n 0, 1) := by decide +kernel
theorem dX11_sail_26 : decode cX11_sail 26 = .ok (.getfield 59, 3) := by decide +kernel
theorem dX11_sail_29 : decode cX11_sail 29 = .ok (.aload_n 3, 1) := by decide +kernel
theorem dX11_sail_30 : decode cX11_sail 30 = .ok (.aload_n 3, 1) := by decide +kernel
theorem dX11_sail_31 : decode cX11_sail 31 = .ok (.getfield 143, 3) := by decide +kernel
theorem dX11_sail_34 : decode cX11_sail 34 = .ok (.iload_n 2, 1) := by decide +kernel
theorem dX11_sail_35 : decode cX11_sail 35 = .ok (.aload_n 0, 1) := by decide +kernel
theorem dX11_sail_36 : decode cX11_sail 36 = .ok (.getfield 106, 3) := by decide +kernel
theorem dX11_sail_39 : decode cX11_sail 39 = .ok (.invokevirtual 153, 3) := by decide +kernel
theorem dX11_sail_42 : decode cX11_sail 42 = .ok (.istore 4, 2) := by decide +kernel
theorem dX11_sail_44 : decode cX11_sail 44 = .ok (.iload 4, 2) := by decide +kernel
theorem dX11_sail_46 : decode cX11_sail 46 = .ok (.iconst (-1), 1) := by decide +kernel
theorem dX11_sail_47 : decode cX11_sail 47 = .ok (.if_icmp .eq 16, 3) := by decide +kernel
theorem dX11_sail_50 : decode cX11_sail 50 = .ok (.aload_n 0, 1) := by decide +kernel
theorem dX11_sail_51 : decode cX11_sail 51 = .ok (.getfield 106, 3) := by decide +kernel
theorem dX11_sail_54 : decode cX11_sail 54 = .ok (.iload 4, 2) := by decide +kernel
theorem dX11_sail_56 : decode cX11_sail 56 = .ok (.iadd, 1) := by decide +kernel
theorem dX11_sail_57 : decode cX11_sail 57 = .ok (.sipush 999, 3) := by decide +kernel
theorem dX11_sail_60 : decode cX11_sail 60 = .ok (.if_icmp .le 6, 3) := by decide +kernel
theorem dX11_sail_63 : decode cX11_sail 63 = .ok (.bipush (-103), 2) := by decide +kernel
theorem dX11_sail_65 : decode cX11_sail 65 = .ok (.ireturn, 1) := by decide +kernel
theorem dX11_sail_66 : decode cX11_sail 66 = .ok (.aload_n 3, 1) := by decide +kernel
theorem dX11_sail_67 : decode cX11_sail 67 = .ok (.aload_n 3, 1) := by decide +kernel
theorem dX11_sail_68 : decode cX11_sail 68 = .ok (.getfield 143, 3) := by decide +kernel
theorem dX11_sail_71 : decode cX11_sail 71 = .ok (.iload_n 2, 1) := by decide +kernel
theorem dX11_sail_72 : decode cX11_sail 72 = .ok (.invokestatic 161, 3) := by decide +kernel
theorem dX11_sail_75 : decode cX11_sail 75 = .ok (.putfield 143, 3) := by decide +kernel
theorem dX11_sail_78 : decode cX11_sail 78 = .ok (.aload_n 3, 1) := by decide +kernel
theorem dX11_sail_79 : decode cX11_sail 79 = .ok (.dup, 1) := by decide +kernel
theorem dX11_sail_80 : decode cX11_sail 80 = .ok (.getfield 150, 3) := by decide +kernel
theorem dX11_sail_83 : decode cX11_sail 83 = .ok (.iload 4, 2) := by decide +kernel
theorem dX11_sail_85 : decode cX11_sail 85 = .ok (.iadd, 1) := by decide +kernel
theorem dX11_sail_86 : decode cX11_sail 86 = .ok (.putfield 150, 3) := by decide +kernel
theorem dX11_sail_89 : decode cX11_sail 89 = .ok (.aload_n 0, 1) := by decide +kernel
theorem dX11_sail_90 : decode cX11_sail 90 = .ok (.dup, 1) := by decide +kernel
theorem dX11_sail_91 : decode cX11_sail 91 = .ok (.getfield 106, 3) := by decide +kernel
theorem dX11_sail_94 : decode cX11_sail 94 = .ok (.iload 4, 2) := by decide +kernel
theorem dX11_sail_96 : decode cX11_sail 96 = .ok (.iadd, 1) := by decide +kernel
theorem dX11_sail_97 : decode cX11_sail 97 = .ok (.putfield 106, 3) := by decide +kernel
theorem dX11_sail_100 : decode cX11_sail 100 = .ok (.aload_n 0, 1) := by decide +kernel
theorem dX11_sail_101 : decode cX11_sail 101 = .ok (.getfield 106, 3) := by decide +kernel
theorem dX11_sail_104 : decode cX11_sail 104 = .ok (.ireturn, 1) := by decide +kernel
theorem dX11_voyage_0 : decode cX11_voyage 0 = .ok (.aload_n 0, 1) := by decide +kernel
theorem dX11_voyage_1 : decode cX11_voyage 1 = .ok (.iload_n 1, 1) := by decide +kernel
theorem dX11_voyage_2 : decode cX11_voyage 2 = .ok (.invokevirtual 133, 3) := by decide +kernel
theorem dX11_voyage_5 : decode cX11_voyage 5 = .ok (.astore 4, 2) := by decide +kernel
theorem dX11_voyage_7 : decode cX11_voyage 7 = .ok (.aload 4, 2) := by decide +kernel
theorem dX11_voyage_9 : decode cX11_voyage 9 = .ok (.ifnull 11, 3) := by decide +kernel
theorem dX11_voyage_12 : decode cX11_voyage 12 = .ok (.aload_n 0, 1) := by decide +kernel
theorem dX11_voyage_13 : decode cX11_voyage 13 = .ok (.iload_n 2, 1) := by decide +kernel
theorem dX11_voyage_14 : decode cX11_voyage 14 = .ok (.invokevirtual 102, 3) := by decide +kernel
theorem dX11_voyage_17 : decode cX11_voyage 17 = .ok (.ifCond .ne 6, 3) := by decide +kernel
theorem dX11_voyage_20 : decode cX11_voyage 20 = .ok (.bipush (-101), 2) := by decide +kernel
theorem dX11_voyage_22 : decode cX11_voyage 22 = .ok (.ireturn, 1) := by decide +kernel
theorem dX11_voyage_23 : decode cX11_voyage 23 = .ok (.iload_n 3, 1) := by decide +kernel
theorem dX11_voyage_24 : decode cX11_voyage 24 = .ok (.ifCond .lt 8, 3) := by decide +kernel
theorem dX11_voyage_27 : decode cX11_voyage 27 = .ok (.iload_n 3, 1) := by decide +kernel
theorem dX11_voyage_28 : decode cX11_voyage 28 = .ok (.iconst 1, 1) := by decide +kernel
theorem dX11_voyage_29 : decode cX11_voyage 29 = .ok (.if_icmp .le 6, 3) := by decide +kernel
theorem dX11_voyage_32 : decode cX11_voyage 32 = .ok (.bipush (-102), 2) := by decide +kernel
theorem dX11_voyage_34 : decode cX11_voyage 34 = .ok (.ireturn, 1) := by decide +kernel
theorem dX11_voyage_35 : decode cX11_voyage 35 = .ok (.aload_n 0, 1) := by decide +kernel
theorem dX11_voyage_36 : decode cX11_voyage 36 = .ok (.getfield 36, 3) := by decide +kernel
theorem dX11_voyage_39 : decode cX11_voyage 39 = .ok (.aload_n 0, 1) := by decide +kernel
theorem dX11_voyage_40 : decode cX11_voyage 40 = .ok (.getfield 59, 3) := by decide +kernel
theorem dX11_voyage_43 : decode cX11_voyage 43 = .ok (.aload 4, 2) := by decide +kernel
theorem dX11_voyage_45 : decode cX11_voyage 45 = .ok (.aload 4, 2) := by decide +kernel
theorem dX11_voyage_47 : decode cX11_voyage 47 = .ok (.getfield 143, 3) := by decide +kernel
theorem dX11_voyage_50 : decode cX11_voyage 50 = .ok (.aload_n 0, 1) := by decide +kernel
theorem dX11_voyage_51 : decode cX11_voyage 51 = .ok (.getfield 106, 3) := by decide +kernel
theorem dX11_voyage_54 : decode cX11_voyage 54 = .ok (.invokevirtual 164, 3) := by decide +kernel
theorem dX11_voyage_57 : decode cX11_voyage 57 = .ok (.iload_n 3, 1) := by decide +kernel
theorem dX11_voyage_58 : decode cX11_voyage 58 = .ok (.ifCond .ne 14, 3) := by decide +kernel
theorem dX11_voyage_61 : decode cX11_voyage 61 = .ok (.aload_n 0, 1) := by decide +kernel
theorem dX11_voyage_62 : decode cX11_voyage 62 = .ok (.getfield 36, 3) := by decide +kernel
theorem dX11_voyage_65 : decode cX11_voyage 65 = .ok (.iload_n 2, 1) := by decide +kernel
theorem dX11_voyage_66 : decode cX11_voyage 66 = .ok (.invokevirtual 168, 3) := by decide +kernel
theorem dX11_voyage_69 : decode cX11_voyage 69 = .ok (.goto 11, 3) := by decide +kernel
theorem dX11_voyage_72 : decode cX11_voyage 72 = .ok (.aload_n 0, 1) := by decide +kernel
theorem dX11_voyage_73 : decode cX11_voyage 73 = .ok (.getfield 36, 3) := by decide +kernel
theorem dX11_voyage_76 : decode cX11_voyage 76 = .ok (.iload_n 2, 1) := by decide +kernel
theorem dX11_voyage_77 : decode cX11_voyage 77 = .ok (.invokevirtual 171, 3) := by decide +kernel
theorem dX11_voyage_80 : decode cX11_voyage 80 = .ok (.ireturn, 1) := by decide +kernel
theorem dX11_latest_0 : decode cX11_latest 0 = .ok (.aload_n 0, 1) := by decide +kernel
theorem dX11_latest_1 : decode cX11_latest 1 = .ok (.iload_n 1, 1) := by decide +kernel
theorem dX11_latest_2 : decode cX11_latest 2 = .ok (.invokevirtual 133, 3) := by decide +kernel
theorem dX11_latest_5 : decode cX11_latest 5 = .ok (.astore_n 3, 1) := by decide +kernel
theorem dX11_latest_6 : decode cX11_latest 6 = .ok (.aload_n 3, 1) := by decide +kernel
theorem dX11_latest_7 : decode cX11_latest 7 = .ok (.ifnull 11, 3) := by decide +kernel
theorem dX11_latest_10 : decode cX11_latest 10 = .ok (.aload_n 0, 1) := by decide +kernel
theorem dX11_latest_11 : decode cX11_latest 11 = .ok (.iload_n 2, 1) := by decide +kernel
theorem dX11_latest_12 : decode cX11_latest 12 = .ok (.invokevirtual 102, 3) := by decide +kernel
theorem dX11_latest_15 : decode cX11_latest 15 = .ok (.ifCond .ne 6, 3) := by decide +kernel
theorem dX11_latest_18 : decode cX11_latest 18 = .ok (.bipush (-101), 2) := by decide +kernel
theorem dX11_latest_20 : decode cX11_latest 20 = .ok (.ireturn, 1) := by decide +kernel
theorem dX11_latest_21 : decode cX11_latest 21 = .ok (.aload_n 0, 1) := by decide +kernel
theorem dX11_latest_22 : decode cX11_latest 22 = .ok (.getfield 63, 3) := by decide +kernel
theorem dX11_latest_25 : decode cX11_latest 25 = .ok (.aload_n 0, 1) := by decide +kernel
theorem dX11_latest_26 : decode cX11_latest 26 = .ok (.getfield 59, 3) := by decide +kernel
theorem dX11_latest_29 : decode cX11_latest 29 = .ok (.getfield 123, 3) := by decide +kernel
theorem dX11_latest_32 : decode cX11_latest 32 = .ok (.putfield 123, 3) := by decide +kernel
theorem dX11_latest_35 : decode cX11_latest 35 = .ok (.iconst 1, 1) := by decide +kernel
theorem dX11_latest_36 : decode cX11_latest 36 = .ok (.istore 4, 2) := by decide +kernel
theorem dX11_latest_38 : decode cX11_latest 38 = .ok (.iload 4, 2) := by decide +kernel
theorem dX11_latest_40 : decode cX11_latest 40 = .ok (.bipush 9, 2) := by decide +kernel
theorem dX11_latest_42 : decode cX11_latest 42 = .ok (.if_icmp .gt 53, 3) := by decide +kernel
theorem dX11_latest_45 : decode cX11_latest 45 = .ok (.aload_n 0, 1) := by decide +kernel
theorem dX11_latest_46 : decode cX11_latest 46 = .ok (.getfield 63, 3) := by decide +kernel
theorem dX11_latest_49 : decode cX11_latest 49 = .ok (.iload 4, 2) := by decide +kernel
theorem dX11_latest_51 : decode cX11_latest 51 = .ok (.putfield 96, 3) := by decide +kernel
theorem dX11_latest_54 : decode cX11_latest 54 = .ok (.aload_n 0, 1) := by decide +kernel
theorem dX11_latest_55 : decode cX11_latest 55 = .ok (.getfield 36, 3) := by decide +kernel
theorem dX11_latest_58 : decode cX11_latest 58 = .ok (.aload_n 0, 1) := by decide +kernel
theorem dX11_latest_59 : decode cX11_latest 59 = .ok (.getfield 63, 3) := by decide +kernel
theorem dX11_latest_62 : decode cX11_latest 62 = .ok (.aload_n 3, 1) := by decide +kernel
theorem dX11_latest_63 : decode cX11_latest 63 = .ok (.aload_n 3, 1) := by decide +kernel
theorem dX11_latest_64 : decode cX11_latest 64 = .ok (.getfield 143, 3) := by decide +kernel
theorem dX11_latest_67 : decode cX11_latest 67 = .ok (.aload_n 0, 1) := by decide +kernel
theorem dX11_latest_68 : decode cX11_latest 68 = .ok (.getfield 106, 3) := by decide +kernel
theorem dX11_latest_71 : decode cX11_latest 71 = .ok (.invokevirtual 164, 3) := by decide +kernel
theorem dX11_latest_74 : decode cX11_latest 74 = .ok (.aload_n 0, 1) := by decide +kernel
theorem dX11_latest_75 : decode cX11_latest 75 = .ok (.getfield 36, 3) := by decide +kernel
theorem dX11_latest_78 : decode cX11_latest 78 = .ok (.iload_n 2, 1) := by decide +kernel
theorem dX11_latest_79 : decode cX11_latest 79 = .ok (.invokevirtual 168, 3) := by decide +kernel
theorem dX11_latest_82 : decode cX11_latest 82 = .ok (.iconst (-1), 1) := by decide +kernel
theorem dX11_latest_83 : decode cX11_latest 83 = .ok (.if_icmp .eq 6, 3) := by decide +kernel
theorem dX11_latest_86 : decode cX11_latest 86 = .ok (.iload 4, 2) := by decide +kernel
theorem dX11_latest_88 : decode cX11_latest 88 = .ok (.ireturn, 1) := by decide +kernel
theorem dX11_latest_89 : decode cX11_latest 89 = .ok (.iinc 4 1, 3) := by decide +kernel
theorem dX11_latest_92 : decode cX11_latest 92 = .ok (.goto (-54), 3) := by decide +kernel
theorem dX11_latest_95 : decode cX11_latest 95 = .ok (.iconst (-1), 1) := by decide +kernel
theorem dX11_latest_96 : decode cX11_latest 96 = .ok (.ireturn, 1) := by decide +kernel
theorem dX11_home_0 : decode cX11_home 0 = .ok (.aload_n 0, 1) := by decide +kernel
theorem dX11_home_1 : decode cX11_home 1 = .ok (.iload_n 1, 1) := by decide +kernel
theorem dX11_home_2 : decode cX11_home 2 = .ok (.invokevirtual 102, 3) := by decide +kernel
theorem dX11_home_5 : decode cX11_home 5 = .ok (.ifCond .ne 6, 3) := by decide +kernel
theorem dX11_home_8 : decode cX11_home 8 = .ok (.bipush (-101), 2) := by decide +kernel
theorem dX11_home_10 : decode cX11_home 10 = .ok (.ireturn, 1) := by decide +kernel
theorem dX11_home_11 : decode cX11_home 11 = .ok (.iload_n 2, 1) := by decide +kernel
theorem dX11_home_12 : decode cX11_home 12 = .ok (.bipush 10, 2) := by decide +kernel
theorem dX11_home_14 : decode cX11_home 14 = .ok (.if_icmp .lt 13, 3) := by decide +kernel
theorem dX11_home_17 : decode cX11_home 17 = .ok (.iload_n 2, 1) := by decide +kernel
theorem dX11_home_18 : decode cX11_home 18 = .ok (.bipush 13, 2) := by decide +kernel
theorem dX11_home_20 : decode cX11_home 20 = .ok (.if_icmp .ge 7, 3) := by decide +kernel
theorem dX11_home_23 : decode cX11_home 23 = .ok (.iconst 1, 1) := by decide +kernel
theorem dX11_home_24 : decode cX11_home 24 = .ok (.goto 4, 3) := by decide +kernel
theorem dX11_home_27 : decode cX11_home 27 = .ok (.iconst 0, 1) := by decide +kernel
theorem dX11_home_28 : decode cX11_home 28 = .ok (.istore_n 3, 1) := by decide +kernel
theorem dX11_home_29 : decode cX11_home 29 = .ok (.iload_n 2, 1) := by decide +kernel
theorem dX11_home_30 : decode cX11_home 30 = .ok (.ifCond .eq 15, 3) := by decide +kernel
theorem dX11_home_33 : decode cX11_home 33 = .ok (.iload_n 2, 1) := by decide +kernel
theorem dX11_home_34 : decode cX11_home 34 = .ok (.iconst 1, 1) := by decide +kernel
theorem dX11_home_35 : decode cX11_home 35 = .ok (.if_icmp .eq 10, 3) := by decide +kernel
theorem dX11_home_38 : decode cX11_home 38 = .ok (.iload_n 3, 1) := by decide +kernel
theorem dX11_home_39 : decode cX11_home 39 = .ok (.ifCond .ne 6, 3) := by decide +kernel
theorem dX11_home_42 : decode cX11_home 42 = .ok (.bipush (-102), 2) := by decide +kernel
theorem dX11_home_44 : decode cX11_home 44 = .ok (.ireturn, 1) := by decide +kernel
theorem dX11_home_45 : decode cX11_home 45 = .ok (.aload_n 0, 1) := by decide +kernel
theorem dX11_home_46 : decode cX11_home 46 = .ok (.getfield 43, 3) := by decide +kernel
theorem dX11_home_49 : decode cX11_home 49 = .ok (.aload_n 0, 1) := by decide +kernel
theorem dX11_home_50 : decode cX11_home 50 = .ok (.getfield 59, 3) := by decide +kernel
theorem dX11_home_53 : decode cX11_home 53 = .ok (.aload_n 0, 1) := by decide +kernel
theorem dX11_home_54 : decode cX11_home 54 = .ok (.getfield 36, 3) := by decide +kernel
theorem dX11_home_57 : decode cX11_home 57 = .ok (.aload_n 0, 1) := by decide +kernel
theorem dX11_home_58 : decode cX11_home 58 = .ok (.getfield 15, 3) := by decide +kernel
theorem dX11_home_61 : decode cX11_home 61 = .ok (.iload_n 1, 1) := by decide +kernel
theorem dX11_home_62 : decode cX11_home 62 = .ok (.aload_n 0, 1) := by decide +kernel
theorem dX11_home_63 : decode cX11_home 63 = .ok (.getfield 106, 3) := by decide +kernel
theorem dX11_home_66 : decode cX11_home 66 = .ok (.invokevirtual 174, 3) := by decide +kernel
theorem dX11_home_69 : decode cX11_home 69 = .ok (.iload_n 3, 1) := by decide +kernel
theorem dX11_home_70 : decode cX11_home 70 = .ok (.ifCond .eq 30, 3) := by decide +kernel
theorem dX11_home_73 : decode cX11_home 73 = .ok (.iload_n 2, 1) := by decide +kernel
theorem dX11_home_74 : decode cX11_home 74 = .ok (.bipush 10, 2) := by decide +kernel
theorem dX11_home_76 : decode cX11_home 76 = .ok (.isub, 1) := by decide +kernel
theorem dX11_home_77 : decode cX11_home 77 = .ok (.aload_n 0, 1) := by decide +kernel
theorem dX11_home_78 : decode cX11_home 78 = .ok (.getfield 126, 3) := by decide +kernel
theorem dX11_home_81 : decode cX11_home 81 = .ok (.if_icmp .ge 17, 3) := by decide +kernel
theorem dX11_home_84 : decode cX11_home 84 = .ok (.aload_n 0, 1) := by decide +kernel
theorem dX11_home_85 : decode cX11_home 85 = .ok (.getfield 43, 3) := by decide +kernel
theorem dX11_home_88 : decode cX11_home 88 = .ok (.iload_n 2, 1) := by decide +kernel
theorem dX11_home_89 : decode cX11_home 89 = .ok (.bipush 10, 2) := by decide +kernel
theorem dX11_home_91 : decode cX11_home 91 = .ok (.isub, 1) := by decide +kernel
theorem dX11_home_92 : decode cX11_home 92 = .ok (.invokevirtual 178, 3) := by decide +kernel
theorem dX11_home_95 : decode cX11_home 95 = .ok (.goto 4, 3) := by decide +kernel
theorem dX11_home_98 : decode cX11_home 98 = .ok (.iconst (-1), 1) := by decide +kernel
theorem dX11_home_99 : decode cX11_home 99 = .ok (.ireturn, 1) := by decide +kernel
theorem dX11_home_100 : decode cX11_home 100 = .ok (.iload_n 2, 1) := by decide +kernel
theorem dX11_home_101 : decode cX11_home 101 = .ok (.ifCond .ne 13, 3) := by decide +kernel
theorem dX11_home_104 : decode cX11_home 104 = .ok (.aload_n 0, 1) := by decide +kernel
theorem dX11_home_105 : decode cX11_home 105 = .ok (.getfield 43, 3) := by decide +kernel
theorem dX11_home_108 : decode cX11_home 108 = .ok (.getfield 181, 3) := by decide +kernel
theorem dX11_home_111 : decode cX11_home 111 = .ok (.goto 10, 3) := by decide +kernel
theorem dX11_home_114 : decode cX11_home 114 = .ok (.aload_n 0, 1) := by decide +kernel
theorem dX11_home_115 : decode cX11_home 115 = .ok (.getfield 43, 3) := by decide +kernel
theorem dX11_home_118 : decode cX11_home 118 = .ok (.getfield 184, 3) := by decide +kernel
theorem dX11_home_121 : decode cX11_home 121 = .ok (.ireturn, 1) := by decide +kernel
theorem dX11_bestWind_0 : decode cX11_bestWind 0 = .ok (.aload_n 0, 1) := by decide +kernel
theorem dX11_bestWind_1 : decode cX11_bestWind 1 = .ok (.iload_n 1, 1) := by decide +kernel
theorem dX11_bestWind_2 : decode cX11_bestWind 2 = .ok (.invokevirtual 133, 3) := by decide +kernel
theorem dX11_bestWind_5 : decode cX11_bestWind 5 = .ok (.astore_n 3, 1) := by decide +kernel
theorem dX11_bestWind_6 : decode cX11_bestWind 6 = .ok (.aload_n 3, 1) := by decide +kernel
theorem dX11_bestWind_7 : decode cX11_bestWind 7 = .ok (.ifnull 11, 3) := by decide +kernel
theorem dX11_bestWind_10 : decode cX11_bestWind 10 = .ok (.aload_n 0, 1) := by decide +kernel
theorem dX11_bestWind_11 : decode cX11_bestWind 11 = .ok (.iload_n 2, 1) := by decide +kernel
theorem dX11_bestWind_12 : decode cX11_bestWind 12 = .ok (.invokevirtual 102, 3) := by decide +kernel
theorem dX11_bestWind_15 : decode cX11_bestWind 15 = .ok (.ifCond .ne 6, 3) := by decide +kernel
theorem dX11_bestWind_18 : decode cX11_bestWind 18 = .ok (.bipush (-101), 2) := by decide +kernel
theorem dX11_bestWind_20 : decode cX11_bestWind 20 = .ok (.ireturn, 1) := by decide +kernel
theorem dX11_bestWind_21 : decode cX11_bestWind 21 = .ok (.aload_n 0, 1) := by decide +kernel
theorem dX11_bestWind_22 : decode cX11_bestWind 22 = .ok (.getfield 63, 3) := by decide +kernel
theorem dX11_bestWind_25 : decode cX11_bestWind 25 = .ok (.aload_n 0, 1) := by decide +kernel
theorem dX11_bestWind_26 : decode cX11_bestWind 26 = .ok (.getfield 59, 3) := by decide +kernel
theorem dX11_bestWind_29 : decode cX11_bestWind 29 = .ok (.getfield 96, 3) := by decide +kernel
theorem dX11_bestWind_32 : decode cX11_bestWind 32 = .ok (.putfield 96, 3) := by decide +kernel
theorem dX11_bestWind_35 : decode cX11_bestWind 35 = .ok (.iconst (-1), 1) := by decide +kernel
theorem dX11_bestWind_36 : decode cX11_bestWind 36 = .ok (.istore 4, 2) := by decide +kernel
theorem dX11_bestWind_38 : decode cX11_bestWind 38 = .ok (.iconst (-1), 1) := by decide +kernel
theorem dX11_bestWind_39 : decode cX11_bestWind 39 = .ok (.istore 5, 2) := by decide +kernel
theorem dX11_bestWind_41 : decode cX11_bestWind 41 = .ok (.iconst 0, 1) := by decide +kernel
theorem dX11_bestWind_42 : decode cX11_bestWind 42 = .ok (.istore 6, 2) := by decide +kernel
theorem dX11_bestWind_44 : decode cX11_bestWind 44 = .ok (.iload 6, 2) := by decide +kernel
theorem dX11_bestWind_46 : decode cX11_bestWind 46 = .ok (.iconst 4, 1) := by decide +kernel
theorem dX11_bestWind_47 : decode cX11_bestWind 47 = .ok (.if_icmp .gt 75, 3) := by decide +kernel
theorem dX11_bestWind_50 : decode cX11_bestWind 50 = .ok (.aload_n 0, 1) := by decide +kernel
theorem dX11_bestWind_51 : decode cX11_bestWind 51 = .ok (.getfield 63, 3) := by decide +kernel
theorem dX11_bestWind_54 : decode cX11_bestWind 54 = .ok (.iload 6, 2) := by decide +kernel
theorem dX11_bestWind_56 : decode cX11_bestWind 56 = .ok (.putfield 123, 3) := by decide +kernel
theorem dX11_bestWind_59 : decode cX11_bestWind 59 = .ok (.aload_n 0, 1) := by decide +kernel
theorem dX11_bestWind_60 : decode cX11_bestWind 60 = .ok (.getfield 36, 3) := by decide +kernel
theorem dX11_bestWind_63 : decode cX11_bestWind 63 = .ok (.aload_n 0, 1) := by decide +kernel
theorem dX11_bestWind_64 : decode cX11_bestWind 64 = .ok (.getfield 63, 3) := by decide +kernel
theorem dX11_bestWind_67 : decode cX11_bestWind 67 = .ok (.aload_n 3, 1) := by decide +kernel
theorem dX11_bestWind_68 : decode cX11_bestWind 68 = .ok (.aload_n 3, 1) := by decide +kernel
theorem dX11_bestWind_69 : decode cX11_bestWind 69 = .ok (.getfield 143, 3) := by decide +kernel
theorem dX11_bestWind_72 : decode cX11_bestWind 72 = .ok (.aload_n 0, 1) := by decide +kernel
theorem dX11_bestWind_73 : decode cX11_bestWind 73 = .ok (.getfield 106, 3) := by decide +kernel
theorem dX11_bestWind_76 : decode cX11_bestWind 76 = .ok (.invokevirtual 164, 3) := by decide +kernel
theorem dX11_bestWind_79 : decode cX11_bestWind 79 = .ok (.aload_n 0, 1) := by decide +kernel
theorem dX11_bestWind_80 : decode cX11_bestWind 80 = .ok (.getfield 36, 3) := by decide +kernel
theorem dX11_bestWind_83 : decode cX11_bestWind 83 = .ok (.iload_n 2, 1) := by decide +kernel
theorem dX11_bestWind_84 : decode cX11_bestWind 84 = .ok (.invokevirtual 168, 3) := by decide +kernel
theorem dX11_bestWind_87 : decode cX11_bestWind 87 = .ok (.istore 7, 2) := by decide +kernel
theorem dX11_bestWind_89 : decode cX11_bestWind 89 = .ok (.iload 7, 2) := by decide +kernel
theorem dX11_bestWind_91 : decode cX11_bestWind 91 = .ok (.iconst (-1), 1) := by decide +kernel
theorem dX11_bestWind_92 : decode cX11_bestWind 92 = .ok (.if_icmp .eq 24, 3) := by decide +kernel
theorem dX11_bestWind_95 : decode cX11_bestWind 95 = .ok (.iload 4, 2) := by decide +kernel
theorem dX11_bestWind_97 : decode cX11_bestWind 97 = .ok (.iconst (-1), 1) := by decide +kernel
theorem dX11_bestWind_98 : decode cX11_bestWind 98 = .ok (.if_icmp .eq 10, 3) := by decide +kernel
theorem dX11_bestWind_101 : decode cX11_bestWind 101 = .ok (.iload 7, 2) := by decide +kernel
theorem dX11_bestWind_103 : decode cX11_bestWind 103 = .ok (.iload 5, 2) := by decide +kernel
theorem dX11_bestWind_105 : decode cX11_bestWind 105 = .ok (.if_icmp .ge 11, 3) := by decide +kernel
theorem dX11_bestWind_108 : decode cX11_bestWind 108 = .ok (.iload 6, 2) := by decide +kernel
theorem dX11_bestWind_110 : decode cX11_bestWind 110 = .ok (.istore 4, 2) := by decide +kernel
theorem dX11_bestWind_112 : decode cX11_bestWind 112 = .ok (.iload 7, 2) := by decide +kernel
theorem dX11_bestWind_114 : decode cX11_bestWind 114 = .ok (.istore 5, 2) := by decide +kernel
theorem dX11_bestWind_116 : decode cX11_bestWind 116 = .ok (.iinc 6 1, 3) := by decide +kernel
theorem dX11_bestWind_119 : decode cX11_bestWind 119 = .ok (.goto (-75), 3) := by decide +kernel
theorem dX11_bestWind_122 : decode cX11_bestWind 122 = .ok (.iload 4, 2) := by decide +kernel
theorem dX11_bestWind_124 : decode cX11_bestWind 124 = .ok (.ireturn, 1) := by decide +kernel
theorem dX11_see_0 : decode cX11_see 0 = .ok (.aload_n 0, 1) := by decide +kernel
theorem dX11_see_1 : decode cX11_see 1 = .ok (.iload_n 1, 1) := by decide +kernel
theorem dX11_see_2 : decode cX11_see 2 = .ok (.invokevirtual 133, 3) := by decide +kernel
theorem dX11_see_5 : decode cX11_see 5 = .ok (.ifnull 11, 3) := by decide +kernel
