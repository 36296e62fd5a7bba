theorem dX12_latest_13 : decode cX12_latest 13 = .ok (.ifCond .ne 6, 3) := by decide +kernel
theorem dX12_latest_16 : decode cX12_latest 16 = .ok (.bipush (-101), 2) := by decide +kernel
theorem dX12_latest_18 : decode cX12_latest 18 = .ok (.ireturn, 1) := by decide +kernel
theorem dX12_latest_19 : decode cX12_latest 19 = .ok (.iconst 1, 1) := by decide +kernel
theorem dX12_latest_20 : decode cX12_latest 20 = .ok (.istore_n 3, 1) := by decide +kernel
theorem dX12_latest_21 : decode cX12_latest 21 = .ok (.iload_n 3, 1) := by decide +kernel
theorem dX12_latest_22 : decode cX12_latest 22 = .ok (.bipush 10, 2) := by decide +kernel
theorem dX12_latest_24 : decode cX12_latest 24 = .ok (.if_icmp .ge 30, 3) := by decide +kernel
theorem dX12_latest_27 : decode cX12_latest 27 = .ok (.aload_n 0, 1) := by decide +kernel
theorem dX12_latest_28 : decode cX12_latest 28 = .ok (.iload_n 1, 1) := by decide +kernel
theorem dX12_latest_29 : decode cX12_latest 29 = .ok (.iload_n 2, 1) := by decide +kernel
theorem dX12_latest_30 : decode cX12_latest 30 = .ok (.aload_n 0, 1) := by decide +kernel
theorem dX12_latest_31 : decode cX12_latest 31 = .ok (.getfield 75, 3) := by decide +kernel
theorem dX12_latest_34 : decode cX12_latest 34 = .ok (.aload_n 0, 1) := by decide +kernel
theorem dX12_latest_35 : decode cX12_latest 35 = .ok (.getfield 50, 3) := by decide +kernel
theorem dX12_latest_38 : decode cX12_latest 38 = .ok (.iload_n 3, 1) := by decide +kernel
theorem dX12_latest_39 : decode cX12_latest 39 = .ok (.invokevirtual 147, 3) := by decide +kernel
theorem dX12_latest_42 : decode cX12_latest 42 = .ok (.iconst (-1), 1) := by decide +kernel
theorem dX12_latest_43 : decode cX12_latest 43 = .ok (.if_icmp .eq 5, 3) := by decide +kernel
theorem dX12_latest_46 : decode cX12_latest 46 = .ok (.iload_n 3, 1) := by decide +kernel
theorem dX12_latest_47 : decode cX12_latest 47 = .ok (.ireturn, 1) := by decide +kernel
theorem dX12_latest_48 : decode cX12_latest 48 = .ok (.iinc 3 1, 3) := by decide +kernel
theorem dX12_latest_51 : decode cX12_latest 51 = .ok (.goto (-30), 3) := by decide +kernel
theorem dX12_latest_54 : decode cX12_latest 54 = .ok (.iconst (-1), 1) := by decide +kernel
theorem dX12_latest_55 : decode cX12_latest 55 = .ok (.ireturn, 1) := by decide +kernel
theorem dX12_isOrder_0 : decode cX12_isOrder 0 = .ok (.iload_n 1, 1) := by decide +kernel
theorem dX12_isOrder_1 : decode cX12_isOrder 1 = .ok (.istore_n 2, 1) := by decide +kernel
theorem dX12_isOrder_2 : decode cX12_isOrder 2 = .ok (.iconst 0, 1) := by decide +kernel
theorem dX12_isOrder_3 : decode cX12_isOrder 3 = .ok (.istore_n 3, 1) := by decide +kernel
theorem dX12_isOrder_4 : decode cX12_isOrder 4 = .ok (.aload_n 0, 1) := by decide +kernel
theorem dX12_isOrder_5 : decode cX12_isOrder 5 = .ok (.getfield 78, 3) := by decide +kernel
theorem dX12_isOrder_8 : decode cX12_isOrder 8 = .ok (.iconst 1, 1) := by decide +kernel
theorem dX12_isOrder_9 : decode cX12_isOrder 9 = .ok (.isub, 1) := by decide +kernel
theorem dX12_isOrder_10 : decode cX12_isOrder 10 = .ok (.istore 4, 2) := by decide +kernel
theorem dX12_isOrder_12 : decode cX12_isOrder 12 = .ok (.iload 4, 2) := by decide +kernel
theorem dX12_isOrder_14 : decode cX12_isOrder 14 = .ok (.ifCond .lt 41, 3) := by decide +kernel
theorem dX12_isOrder_17 : decode cX12_isOrder 17 = .ok (.aload_n 0, 1) := by decide +kernel
theorem dX12_isOrder_18 : decode cX12_isOrder 18 = .ok (.getfield 25, 3) := by decide +kernel
theorem dX12_isOrder_21 : decode cX12_isOrder 21 = .ok (.iload 4, 2) := by decide +kernel
theorem dX12_isOrder_23 : decode cX12_isOrder 23 = .ok (.iload_n 2, 1) := by decide +kernel
theorem dX12_isOrder_24 : decode cX12_isOrder 24 = .ok (.aload_n 0, 1) := by decide +kernel
theorem dX12_isOrder_25 : decode cX12_isOrder 25 = .ok (.getfield 78, 3) := by decide +kernel
theorem dX12_isOrder_28 : decode cX12_isOrder 28 = .ok (.irem, 1) := by decide +kernel
theorem dX12_isOrder_29 : decode cX12_isOrder 29 = .ok (.iastore, 1) := by decide +kernel
theorem dX12_isOrder_30 : decode cX12_isOrder 30 = .ok (.iload_n 3, 1) := by decide +kernel
theorem dX12_isOrder_31 : decode cX12_isOrder 31 = .ok (.iconst 1, 1) := by decide +kernel
theorem dX12_isOrder_32 : decode cX12_isOrder 32 = .ok (.aload_n 0, 1) := by decide +kernel
theorem dX12_isOrder_33 : decode cX12_isOrder 33 = .ok (.getfield 25, 3) := by decide +kernel
theorem dX12_isOrder_36 : decode cX12_isOrder 36 = .ok (.iload 4, 2) := by decide +kernel
theorem dX12_isOrder_38 : decode cX12_isOrder 38 = .ok (.iaload, 1) := by decide +kernel
theorem dX12_isOrder_39 : decode cX12_isOrder 39 = .ok (.ishl, 1) := by decide +kernel
theorem dX12_isOrder_40 : decode cX12_isOrder 40 = .ok (.ior, 1) := by decide +kernel
theorem dX12_isOrder_41 : decode cX12_isOrder 41 = .ok (.istore_n 3, 1) := by decide +kernel
theorem dX12_isOrder_42 : decode cX12_isOrder 42 = .ok (.iload_n 2, 1) := by decide +kernel
theorem dX12_isOrder_43 : decode cX12_isOrder 43 = .ok (.aload_n 0, 1) := by decide +kernel
theorem dX12_isOrder_44 : decode cX12_isOrder 44 = .ok (.getfield 78, 3) := by decide +kernel
theorem dX12_isOrder_47 : decode cX12_isOrder 47 = .ok (.idiv, 1) := by decide +kernel
theorem dX12_isOrder_48 : decode cX12_isOrder 48 = .ok (.istore_n 2, 1) := by decide +kernel
theorem dX12_isOrder_49 : decode cX12_isOrder 49 = .ok (.iinc 4 (-1), 3) := by decide +kernel
theorem dX12_isOrder_52 : decode cX12_isOrder 52 = .ok (.goto (-40), 3) := by decide +kernel
theorem dX12_isOrder_55 : decode cX12_isOrder 55 = .ok (.iload_n 3, 1) := by decide +kernel
theorem dX12_isOrder_56 : decode cX12_isOrder 56 = .ok (.iconst 1, 1) := by decide +kernel
theorem dX12_isOrder_57 : decode cX12_isOrder 57 = .ok (.aload_n 0, 1) := by decide +kernel
theorem dX12_isOrder_58 : decode cX12_isOrder 58 = .ok (.getfield 78, 3) := by decide +kernel
theorem dX12_isOrder_61 : decode cX12_isOrder 61 = .ok (.ishl, 1) := by decide +kernel
theorem dX12_isOrder_62 : decode cX12_isOrder 62 = .ok (.iconst 1, 1) := by decide +kernel
theorem dX12_isOrder_63 : decode cX12_isOrder 63 = .ok (.isub, 1) := by decide +kernel
theorem dX12_isOrder_64 : decode cX12_isOrder 64 = .ok (.if_icmp .ne 7, 3) := by decide +kernel
theorem dX12_isOrder_67 : decode cX12_isOrder 67 = .ok (.iconst 1, 1) := by decide +kernel
theorem dX12_isOrder_68 : decode cX12_isOrder 68 = .ok (.goto 4, 3) := by decide +kernel
theorem dX12_isOrder_71 : decode cX12_isOrder 71 = .ok (.iconst 0, 1) := by decide +kernel
theorem dX12_isOrder_72 : decode cX12_isOrder 72 = .ok (.ireturn, 1) := by decide +kernel
theorem dX12_layHome_0 : decode cX12_layHome 0 = .ok (.aload_n 0, 1) := by decide +kernel
theorem dX12_layHome_1 : decode cX12_layHome 1 = .ok (.getfield 78, 3) := by decide +kernel
theorem dX12_layHome_4 : decode cX12_layHome 4 = .ok (.ifCond .ne 7, 3) := by decide +kernel
theorem dX12_layHome_7 : decode cX12_layHome 7 = .ok (.iconst 1, 1) := by decide +kernel
theorem dX12_layHome_8 : decode cX12_layHome 8 = .ok (.goto 29, 3) := by decide +kernel
theorem dX12_layHome_11 : decode cX12_layHome 11 = .ok (.aload_n 0, 1) := by decide +kernel
theorem dX12_layHome_12 : decode cX12_layHome 12 = .ok (.getfield 78, 3) := by decide +kernel
theorem dX12_layHome_15 : decode cX12_layHome 15 = .ok (.iconst 1, 1) := by decide +kernel
theorem dX12_layHome_16 : decode cX12_layHome 16 = .ok (.if_icmp .ne 7, 3) := by decide +kernel
theorem dX12_layHome_19 : decode cX12_layHome 19 = .ok (.iconst 1, 1) := by decide +kernel
theorem dX12_layHome_20 : decode cX12_layHome 20 = .ok (.goto 17, 3) := by decide +kernel
theorem dX12_layHome_23 : decode cX12_layHome 23 = .ok (.aload_n 0, 1) := by decide +kernel
theorem dX12_layHome_24 : decode cX12_layHome 24 = .ok (.getfield 78, 3) := by decide +kernel
theorem dX12_layHome_27 : decode cX12_layHome 27 = .ok (.iconst 2, 1) := by decide +kernel
theorem dX12_layHome_28 : decode cX12_layHome 28 = .ok (.if_icmp .ne 7, 3) := by decide +kernel
theorem dX12_layHome_31 : decode cX12_layHome 31 = .ok (.iconst 4, 1) := by decide +kernel
theorem dX12_layHome_32 : decode cX12_layHome 32 = .ok (.goto 5, 3) := by decide +kernel
theorem dX12_layHome_35 : decode cX12_layHome 35 = .ok (.bipush 27, 2) := by decide +kernel
theorem dX12_layHome_37 : decode cX12_layHome 37 = .ok (.istore_n 2, 1) := by decide +kernel
theorem dX12_layHome_38 : decode cX12_layHome 38 = .ok (.aload_n 0, 1) := by decide +kernel
theorem dX12_layHome_39 : decode cX12_layHome 39 = .ok (.iconst (-1), 1) := by decide +kernel
theorem dX12_layHome_40 : decode cX12_layHome 40 = .ok (.putfield 151, 3) := by decide +kernel
theorem dX12_layHome_43 : decode cX12_layHome 43 = .ok (.aload_n 0, 1) := by decide +kernel
theorem dX12_layHome_44 : decode cX12_layHome 44 = .ok (.iconst 0, 1) := by decide +kernel
theorem dX12_layHome_45 : decode cX12_layHome 45 = .ok (.putfield 154, 3) := by decide +kernel
theorem dX12_layHome_48 : decode cX12_layHome 48 = .ok (.iconst 0, 1) := by decide +kernel
theorem dX12_layHome_49 : decode cX12_layHome 49 = .ok (.istore_n 3, 1) := by decide +kernel
theorem dX12_layHome_50 : decode cX12_layHome 50 = .ok (.iload_n 3, 1) := by decide +kernel
theorem dX12_layHome_51 : decode cX12_layHome 51 = .ok (.iload_n 2, 1) := by decide +kernel
theorem dX12_layHome_52 : decode cX12_layHome 52 = .ok (.if_icmp .ge 149, 3) := by decide +kernel
theorem dX12_layHome_55 : decode cX12_layHome 55 = .ok (.aload_n 0, 1) := by decide +kernel
theorem dX12_layHome_56 : decode cX12_layHome 56 = .ok (.iload_n 3, 1) := by decide +kernel
theorem dX12_layHome_57 : decode cX12_layHome 57 = .ok (.invokevirtual 157, 3) := by decide +kernel
theorem dX12_layHome_60 : decode cX12_layHome 60 = .ok (.ifCond .eq 135, 3) := by decide +kernel
theorem dX12_layHome_63 : decode cX12_layHome 63 = .ok (.iconst 0, 1) := by decide +kernel
theorem dX12_layHome_64 : decode cX12_layHome 64 = .ok (.istore 4, 2) := by decide +kernel
theorem dX12_layHome_66 : decode cX12_layHome 66 = .ok (.aload_n 0, 1) := by decide +kernel
theorem dX12_layHome_67 : decode cX12_layHome 67 = .ok (.getfield 75, 3) := by decide +kernel
theorem dX12_layHome_70 : decode cX12_layHome 70 = .ok (.istore 5, 2) := by decide +kernel
theorem dX12_layHome_72 : decode cX12_layHome 72 = .ok (.iconst 0, 1) := by decide +kernel
theorem dX12_layHome_73 : decode cX12_layHome 73 = .ok (.istore 6, 2) := by decide +kernel
theorem dX12_layHome_75 : decode cX12_layHome 75 = .ok (.iload 6, 2) := by decide +kernel
theorem dX12_layHome_77 : decode cX12_layHome 77 = .ok (.aload_n 0, 1) := by decide +kernel
theorem dX12_layHome_78 : decode cX12_layHome 78 = .ok (.getfield 78, 3) := by decide +kernel
theorem dX12_layHome_81 : decode cX12_layHome 81 = .ok (.if_icmp .ge 64, 3) := by decide +kernel
theorem dX12_layHome_84 : decode cX12_layHome 84 = .ok (.aload_n 0, 1) := by decide +kernel
theorem dX12_layHome_85 : decode cX12_layHome 85 = .ok (.aload_n 0, 1) := by decide +kernel
theorem dX12_layHome_86 : decode cX12_layHome 86 = .ok (.getfield 25, 3) := by decide +kernel
theorem dX12_layHome_89 : decode cX12_layHome 89 = .ok (.iload 6, 2) := by decide +kernel
theorem dX12_layHome_91 : decode cX12_layHome 91 = .ok (.iaload, 1) := by decide +kernel
theorem dX12_layHome_92 : decode cX12_layHome 92 = .ok (.iload_n 1, 1) := by decide +kernel
theorem dX12_layHome_93 : decode cX12_layHome 93 = .ok (.iload 5, 2) := by decide +kernel
theorem dX12_layHome_95 : decode cX12_layHome 95 = .ok (.aload_n 0, 1) := by decide +kernel
theorem dX12_layHome_96 : decode cX12_layHome 96 = .ok (.getfield 50, 3) := by decide +kernel
theorem dX12_layHome_99 : decode cX12_layHome 99 = .ok (.aload_n 0, 1) := by decide +kernel
theorem dX12_layHome_100 : decode cX12_layHome 100 = .ok (.getfield 72, 3) := by decide +kernel
theorem dX12_layHome_103 : decode cX12_layHome 103 = .ok (.invokevirtual 147, 3) := by decide +kernel
theorem dX12_layHome_106 : decode cX12_layHome 106 = .ok (.istore 7, 2) := by decide +kernel
theorem dX12_layHome_108 : decode cX12_layHome 108 = .ok (.iload 4, 2) := by decide +kernel
theorem dX12_layHome_110 : decode cX12_layHome 110 = .ok (.iload 7, 2) := by decide +kernel
theorem dX12_layHome_112 : decode cX12_layHome 112 = .ok (.iconst (-1), 1) := by decide +kernel
theorem dX12_layHome_113 : decode cX12_layHome 113 = .ok (.if_icmp .ne 7, 3) := by decide +kernel
theorem dX12_layHome_116 : decode cX12_layHome 116 = .ok (.iconst 0, 1) := by decide +kernel
theorem dX12_layHome_117 : decode cX12_layHome 117 = .ok (.goto 4, 3) := by decide +kernel
theorem dX12_layHome_120 : decode cX12_layHome 120 = .ok (.iconst 1, 1) := by decide +kernel
theorem dX12_layHome_121 : decode cX12_layHome 121 = .ok (.iadd, 1) := by decide +kernel
theorem dX12_layHome_122 : decode cX12_layHome 122 = .ok (.istore 4, 2) := by decide +kernel
theorem dX12_layHome_124 : decode cX12_layHome 124 = .ok (.iload 7, 2) := by decide +kernel
theorem dX12_layHome_126 : decode cX12_layHome 126 = .ok (.iconst (-1), 1) := by decide +kernel
theorem dX12_layHome_127 : decode cX12_layHome 127 = .ok (.if_icmp .ne 8, 3) := by decide +kernel
theorem dX12_layHome_130 : decode cX12_layHome 130 = .ok (.iload 5, 2) := by decide +kernel
theorem dX12_layHome_132 : decode cX12_layHome 132 = .ok (.goto 5, 3) := by decide +kernel
theorem dX12_layHome_135 : decode cX12_layHome 135 = .ok (.iload 7, 2) := by decide +kernel
theorem dX12_layHome_137 : decode cX12_layHome 137 = .ok (.istore 5, 2) := by decide +kernel
theorem dX12_layHome_139 : decode cX12_layHome 139 = .ok (.iinc 6 1, 3) := by decide +kernel
theorem dX12_layHome_142 : decode cX12_layHome 142 = .ok (.goto (-67), 3) := by decide +kernel
theorem dX12_layHome_145 : decode cX12_layHome 145 = .ok (.iload 4, 2) := by decide +kernel
theorem dX12_layHome_147 : decode cX12_layHome 147 = .ok (.aload_n 0, 1) := by decide +kernel
theorem dX12_layHome_148 : decode cX12_layHome 148 = .ok (.getfield 151, 3) := by decide +kernel
theorem dX12_layHome_151 : decode cX12_layHome 151 = .ok (.if_icmp .gt 21, 3) := by decide +kernel
theorem dX12_layHome_154 : decode cX12_layHome 154 = .ok (.iload 4, 2) := by decide +kernel
theorem dX12_layHome_156 : decode cX12_layHome 156 = .ok (.aload_n 0, 1) := by decide +kernel
theorem dX12_layHome_157 : decode cX12_layHome 157 = .ok (.getfield 151, 3) := by decide +kernel
theorem dX12_layHome_160 : decode cX12_layHome 160 = .ok (.if_icmp .ne 35, 3) := by decide +kernel
theorem dX12_layHome_163 : decode cX12_layHome 163 = .ok (.iload 5, 2) := by decide +kernel
theorem dX12_layHome_165 : decode cX12_layHome 165 = .ok (.aload_n 0, 1) := by decide +kernel
theorem dX12_layHome_166 : decode cX12_layHome 166 = .ok (.getfield 154, 3) := by decide +kernel
theorem dX12_layHome_169 : decode cX12_layHome 169 = .ok (.if_icmp .ge 26, 3) := by decide +kernel
theorem dX12_layHome_172 : decode cX12_layHome 172 = .ok (.aload_n 0, 1) := by decide +kernel
theorem dX12_layHome_173 : decode cX12_layHome 173 = .ok (.iload 4, 2) := by decide +kernel
theorem dX12_layHome_175 : decode cX12_layHome 175 = .ok (.putfield 151, 3) := by decide +kernel
theorem dX12_layHome_178 : decode cX12_layHome 178 = .ok (.aload_n 0, 1) := by decide +kernel
theorem dX12_layHome_179 : decode cX12_layHome 179 = .ok (.iload 5, 2) := by decide +kernel
theorem dX12_layHome_181 : decode cX12_layHome 181 = .ok (.putfield 154, 3) := by decide +kernel
theorem dX12_layHome_184 : decode cX12_layHome 184 = .ok (.aload_n 0, 1) := by decide +kernel
theorem dX12_layHome_185 : decode cX12_layHome 185 = .ok (.getfield 25, 3) := by decide +kernel
theorem dX12_layHome_188 : decode cX12_layHome 188 = .ok (.aload_n 0, 1) := by decide +kernel
theorem dX12_layHome_189 : decode cX12_layHome 189 = .ok (.getfield 28, 3) := by decide +kernel
theorem dX12_layHome_192 : decode cX12_layHome 192 = .ok (.invokestatic 160, 3) := by decide +kernel
theorem dX12_layHome_195 : decode cX12_layHome 195 = .ok (.iinc 3 1, 3) := by decide +kernel
theorem dX12_layHome_198 : decode cX12_layHome 198 = .ok (.goto (-148), 3) := by decide +kernel
theorem dX12_layHome_201 : decode cX12_layHome 201 = .ok (.return_, 1) := by decide +kernel
theorem dX12_home_0 : decode cX12_home 0 = .ok (.aload_n 0, 1) := by decide +kernel
theorem dX12_home_1 : decode cX12_home 1 = .ok (.iload_n 1, 1) := by decide +kernel
theorem dX12_home_2 : decode cX12_home 2 = .ok (.invokevirtual 101, 3) := by decide +kernel
theorem dX12_home_5 : decode cX12_home 5 = .ok (.ifCond .ne 6, 3) := by decide +kernel
theorem dX12_home_8 : decode cX12_home 8 = .ok (.bipush (-101), 2) := by decide +kernel
theorem dX12_home_10 : decode cX12_home 10 = .ok (.ireturn, 1) := by decide +kernel
theorem dX12_home_11 : decode cX12_home 11 = .ok (.iload_n 2, 1) := by decide +kernel
theorem dX12_home_12 : decode cX12_home 12 = .ok (.i2l, 1) := by decide +kernel
theorem dX12_home_13 : decode cX12_home 13 = .ok (.lconst 0, 1) := by decide +kernel
theorem dX12_home_14 : decode cX12_home 14 = .ok (.lconst 1, 1) := by decide +kernel
theorem dX12_home_15 : decode cX12_home 15 = .ok (.invokestatic 55, 3) := by decide +kernel
theorem dX12_home_18 : decode cX12_home 18 = .ok (.ifCond .ne 20, 3) := by decide +kernel
theorem dX12_home_21 : decode cX12_home 21 = .ok (.iload_n 2, 1) := by decide +kernel
theorem dX12_home_22 : decode cX12_home 22 = .ok (.i2l, 1) := by decide +kernel
theorem dX12_home_23 : decode cX12_home 23 = .ok (.ldc2_w 123, 3) := by decide +kernel
theorem dX12_home_26 : decode cX12_home 26 = .ok (.ldc2_w 164, 3) := by decide +kernel
theorem dX12_home_29 : decode cX12_home 29 = .ok (.invokestatic 55, 3) := by decide +kernel
theorem dX12_home_32 : decode cX12_home 32 = .ok (.ifCond .ne 6, 3) := by decide +kernel
theorem dX12_home_35 : decode cX12_home 35 = .ok (.bipush (-102), 2) := by decide +kernel
theorem dX12_home_37 : decode cX12_home 37 = .ok (.ireturn, 1) := by decide +kernel
theorem dX12_home_38 : decode cX12_home 38 = .ok (.aload_n 0, 1) := by decide +kernel
theorem dX12_home_39 : decode cX12_home 39 = .ok (.iload_n 1, 1) := by decide +kernel
theorem dX12_home_40 : decode cX12_home 40 = .ok (.invokevirtual 166, 3) := by decide +kernel
theorem dX12_home_43 : decode cX12_home 43 = .ok (.iload_n 2, 1) := by decide +kernel
theorem dX12_home_44 : decode cX12_home 44 = .ok (.ifCond .ne 10, 3) := by decide +kernel
theorem dX12_home_47 : decode cX12_home 47 = .ok (.aload_n 0, 1) := by decide +kernel
theorem dX12_home_48 : decode cX12_home 48 = .ok (.getfield 151, 3) := by decide +kernel
theorem dX12_home_51 : decode cX12_home 51 = .ok (.goto 39, 3) := by decide +kernel
theorem dX12_home_54 : decode cX12_home 54 = .ok (.iload_n 2, 1) := by decide +kernel
theorem dX12_home_55 : decode cX12_home 55 = .ok (.iconst 1, 1) := by decide +kernel
theorem dX12_home_56 : decode cX12_home 56 = .ok (.if_icmp .ne 10, 3) := by decide +kernel
theorem dX12_home_59 : decode cX12_home 59 = .ok (.aload_n 0, 1) := by decide +kernel
theorem dX12_home_60 : decode cX12_home 60 = .ok (.getfield 154, 3) := by decide +kernel
theorem dX12_home_63 : decode cX12_home 63 = .ok (.goto 27, 3) := by decide +kernel
theorem dX12_home_66 : decode cX12_home 66 = .ok (.iload_n 2, 1) := by decide +kernel
theorem dX12_home_67 : decode cX12_home 67 = .ok (.bipush 10, 2) := by decide +kernel
theorem dX12_home_69 : decode cX12_home 69 = .ok (.isub, 1) := by decide +kernel
theorem dX12_home_70 : decode cX12_home 70 = .ok (.aload_n 0, 1) := by decide +kernel
theorem dX12_home_71 : decode cX12_home 71 = .ok (.getfield 78, 3) := by decide +kernel
theorem dX12_home_74 : decode cX12_home 74 = .ok (.if_icmp .ge 15, 3) := by decide +kernel
theorem dX12_home_77 : decode cX12_home 77 = .ok (.aload_n 0, 1) := by decide +kernel
theorem dX12_home_78 : decode cX12_home 78 = .ok (.getfield 28, 3) := by decide +kernel
theorem dX12_home_81 : decode cX12_home 81 = .ok (.iload_n 2, 1) := by decide +kernel
theorem dX12_home_82 : decode cX12_home 82 = .ok (.bipush 10, 2) := by decide +kernel
theorem dX12_home_84 : decode cX12_home 84 = .ok (.isub, 1) := by decide +kernel
theorem dX12_home_85 : decode cX12_home 85 = .ok (.iaload, 1) := by decide +kernel
theorem dX12_home_86 : decode cX12_home 86 = .ok (.goto 4, 3) := by decide +kernel
theorem dX12_home_89 : decode cX12_home 89 = .ok (.iconst (-1), 1) := by decide +kernel
theorem dX12_home_90 : decode cX12_home 90 = .ok (.ireturn, 1) := by decide +kernel
theorem dX12_bestWind_0 : decode cX12_bestWind 0 = .ok (.aload_n 0, 1) := by decide +kernel
theorem dX12_bestWind_1 : decode cX12_bestWind 1 = .ok (.iload_n 1, 1) := by decide +kernel
theorem dX12_bestWind_2 : decode cX12_bestWind 2 = .ok (.invokevirtual 134, 3) := by decide +kernel
theorem dX12_bestWind_5 : decode cX12_bestWind 5 = .ok (.ifCond .eq 11, 3) := by decide +kernel
theorem dX12_bestWind_8 : decode cX12_bestWind 8 = .ok (.aload_n 0, 1) := by decide +kernel
theorem dX12_bestWind_9 : decode cX12_bestWind 9 = .ok (.iload_n 2, 1) := by decide +kernel
theorem dX12_bestWind_10 : decode cX12_bestWind 10 = .ok (.invokevirtual 101, 3) := by decide +kernel
theorem dX12_bestWind_13 : decode cX12_bestWind 13 = .ok (.ifCond .ne 6, 3) := by decide +kernel
theorem dX12_bestWind_16 : decode cX12_bestWind 16 = .ok (.bipush (-101), 2) := by decide +kernel
theorem dX12_bestWind_18 : decode cX12_bestWind 18 = .ok (.ireturn, 1) := by decide +kernel
theorem dX12_bestWind_19 : decode cX12_bestWind 19 = .ok (.iconst (-1), 1) := by decide +kernel
theorem dX12_bestWind_20 : decode cX12_bestWind 20 = .ok (.istore_n 3, 1) := by decide +kernel
theorem dX12_bestWind_21 : decode cX12_bestWind 21 = .ok (.ldc 142, 2) := by decide +kernel
theorem dX12_bestWind_23 : decode cX12_bestWind 23 = .ok (.istore 4, 2) := by decide +kernel
theorem dX12_bestWind_25 : decode cX12_bestWind 25 = .ok (.iconst 0, 1) := by decide +kernel
theorem dX12_bestWind_26 : decode cX12_bestWind 26 = .ok (.istore 5, 2) := by decide +kernel
theorem dX12_bestWind_28 : decode cX12_bestWind 28 = .ok (.iload 5, 2) := by decide +kernel
theorem dX12_bestWind_30 : decode cX12_bestWind 30 = .ok (.iconst 5, 1) := by decide +kernel
theorem dX12_bestWind_31 : decode cX12_bestWind 31 = .ok (.if_icmp .ge 73, 3) := by decide +kernel
theorem dX12_bestWind_34 : decode cX12_bestWind 34 = .ok (.aload_n 0, 1) := by decide +kernel
theorem dX12_bestWind_35 : decode cX12_bestWind 35 = .ok (.iload_n 1, 1) := by decide +kernel
theorem dX12_bestWind_36 : decode cX12_bestWind 36 = .ok (.iload_n 2, 1) := by decide +kernel
theorem dX12_bestWind_37 : decode cX12_bestWind 37 = .ok (.aload_n 0, 1) := by decide +kernel
theorem dX12_bestWind_38 : decode cX12_bestWind 38 = .ok (.getfield 75, 3) := by decide +kernel
theorem dX12_bestWind_41 : decode cX12_bestWind 41 = .ok (.iload 5, 2) := by decide +kernel
theorem dX12_bestWind_43 : decode cX12_bestWind 43 = .ok (.aload_n 0, 1) := by decide +kernel
theorem dX12_bestWind_44 : decode cX12_bestWind 44 = .ok (.getfield 72, 3) := by decide +kernel
theorem dX12_bestWind_47 : decode cX12_bestWind 47 = .ok (.invokevirtual 147, 3) := by decide +kernel
theorem dX12_bestWind_50 : decode cX12_bestWind 50 = .ok (.istore 6, 2) := by decide +kernel
theorem dX12_bestWind_52 : decode cX12_bestWind 52 = .ok (.iload 6, 2) := by decide +kernel
theorem dX12_bestWind_54 : decode cX12_bestWind 54 = .ok (.iconst (-1), 1) := by decide +kernel
theorem dX12_bestWind_55 : decode cX12_bestWind 55 = .ok (.if_icmp .eq 14, 3) := by decide +kernel
theorem dX12_bestWind_58 : decode cX12_bestWind 58 = .ok (.iload 6, 2) := by decide +kernel
theorem dX12_bestWind_60 : decode cX12_bestWind 60 = .ok (.iload 4, 2) := by decide +kernel
theorem dX12_bestWind_62 : decode cX12_bestWind 62 = .ok (.if_icmp .ge 7, 3) := by decide +kernel
theorem dX12_bestWind_65 : decode cX12_bestWind 65 = .ok (.iconst 1, 1) := by decide +kernel
theorem dX12_bestWind_66 : decode cX12_bestWind 66 = .ok (.goto 4, 3) := by decide +kernel
theorem dX12_bestWind_69 : decode cX12_bestWind 69 = .ok (.iconst 0, 1) := by decide +kernel
theorem dX12_bestWind_70 : decode cX12_bestWind 70 = .ok (.istore 7, 2) := by decide +kernel
theorem dX12_bestWind_72 : decode cX12_bestWind 72 = .ok (.iload 7, 2) := by decide +kernel
theorem dX12_bestWind_74 : decode cX12_bestWind 74 = .ok (.ifCond .eq 8, 3) := by decide +kernel
theorem dX12_bestWind_77 : decode cX12_bestWind 77 = .ok (.iload 5, 2) := by decide +kernel
theorem dX12_bestWind_79 : decode cX12_bestWind 79 = .ok (.goto 4, 3) := by decide +kernel
theorem dX12_bestWind_82 : decode cX12_bestWind 82 = .ok (.iload_n 3, 1) := by decide +kernel
theorem dX12_bestWind_83 : decode cX12_bestWind 83 = .ok (.istore_n 3, 1) := by decide +kernel
theorem dX12_bestWind_84 : decode cX12_bestWind 84 = .ok (.iload 7, 2) := by decide +kernel
theorem dX12_bestWind_86 : decode cX12_bestWind 86 = .ok (.ifCond .eq 8, 3) := by decide +kernel
theorem dX12_bestWind_89 : decode cX12_bestWind 89 = .ok (.iload 6, 2) := by decide +kernel
theorem dX12_bestWind_91 : decode cX12_bestWind 91 = .ok (.goto 5, 3) := by decide +kernel
theorem dX12_bestWind_94 : decode cX12_bestWind 94 = .ok (.iload 4, 2) := by decide +kernel
theorem dX12_bestWind_96 : decode cX12_bestWind 96 = .ok (.istore 4, 2) := by decide +kernel
theorem dX12_bestWind_98 : decode cX12_bestWind 98 = .ok (.iinc 5 1, 3) := by decide +kernel
theorem dX12_bestWind_101 : decode cX12_bestWind 101 = .ok (.goto (-73), 3) := by decide +kernel
theorem dX12_bestWind_104 : decode cX12_bestWind 104 = .ok (.iload_n 3, 1) := by decide +kernel
theorem dX12_bestWind_105 : decode cX12_bestWind 105 = .ok (.ireturn, 1) := by decide +kernel
theorem dX12_see_0 : decode cX12_see 0 = .ok (.aload_n 0, 1) := by decide +kernel
theorem dX12_see_1 : decode cX12_see 1 = .ok (.iload_n 1, 1) := by decide +kernel
theorem dX12_see_2 : decode cX12_see 2 = .ok (.invokevirtual 134, 3) := by decide +kernel
theorem dX12_see_5 : decode cX12_see 5 = .ok (.ifCond .eq 11, 3) := by decide +kernel
theorem dX12_see_8 : decode cX12_see 8 = .ok (.aload_n 0, 1) := by decide +kernel
theorem dX12_see_9 : decode cX12_see 9 = .ok (.iload_n 2, 1) := by decide +kernel
theorem dX12_see_10 : decode cX12_see 10 = .ok (.invokevirtual 101, 3) := by decide +kernel
theorem dX12_see_13 : decode cX12_see 13 = .ok (.ifCond .ne 6, 3) := by decide +kernel
theorem dX12_see_16 : decode cX12_see 16 = .ok (.bipush (-101), 2) := by decide +kernel
theorem dX12_see_18 : decode cX12_see 18 = .ok (.ireturn, 1) := by decide +kernel
theorem dX12_see_19 : decode cX12_see 19 = .ok (.iload_n 3, 1) := by decide +kernel
theorem dX12_see_20 : decode cX12_see 20 = .ok (.i2l, 1) := by decide +kernel
theorem dX12_see_21 : decode cX12_see 21 = .ok (.lconst 0, 1) := by decide +kernel
theorem dX12_see_22 : decode cX12_see 22 = .ok (.ldc2_w 170, 3) := by decide +kernel
theorem dX12_see_25 : decode cX12_see 25 = .ok (.invokestatic 55, 3) := by decide +kernel
theorem dX12_see_28 : decode cX12_see 28 = .ok (.ifCond .ne 6, 3) := by decide +kernel
theorem dX12_see_31 : decode cX12_see 31 = .ok (.bipush (-102), 2) := by decide +kernel
theorem dX12_see_33 : decode cX12_see 33 = .ok (.ireturn, 1) := by decide +kernel
theorem dX12_see_34 : decode cX12_see 34 = .ok (.aload_n 0, 1) := by decide +kernel
theorem dX12_see_35 : decode cX12_see 35 = .ok (.getfield 81, 3) := by decide +kernel
theorem dX12_see_38 : decode cX12_see 38 = .ok (.bipush 6, 2) := by decide +kernel
theorem dX12_see_40 : decode cX12_see 40 = .ok (.if_icmp .ne 6, 3) := by decide +kernel
theorem dX12_see_43 : decode cX12_see 43 = .ok (.bipush (-104), 2) := by decide +kernel
theorem dX12_see_45 : decode cX12_see 45 = .ok (.ireturn, 1) := by decide +kernel
theorem dX12_see_46 : decode cX12_see 46 = .ok (.aload_n 0, 1) := by decide +kernel
theorem dX12_see_47 : decode cX12_see 47 = .ok (.getfield 31, 3) := by decide +kernel
theorem dX12_see_50 : decode cX12_see 50 = .ok (.iconst 3, 1) := by decide +kernel
theorem dX12_see_51 : decode cX12_see 51 = .ok (.aload_n 0, 1) := by decide +kernel
theorem dX12_see_52 : decode cX12_see 52 = .ok (.getfield 81, 3) := by decide +kernel
theorem dX12_see_55 : decode cX12_see 55 = .ok (.imul, 1) := by decide +kernel
theorem dX12_see_56 : decode cX12_see 56 = .ok (.iload_n 1, 1) := by decide +kernel
theorem dX12_see_57 : decode cX12_see 57 = .ok (.iastore, 1) := by decide +kernel
theorem dX12_see_58 : decode cX12_see 58 = .ok (.aload_n 0, 1) := by decide +kernel
theorem dX12_see_59 : decode cX12_see 59 = .ok (.getfield 31, 3) := by decide +kernel
theorem dX12_see_62 : decode cX12_see 62 = .ok (.iconst 3, 1) := by decide +kernel
theorem dX12_see_63 : decode cX12_see 63 = .ok (.aload_n 0, 1) := by decide +kernel
theorem dX12_see_64 : decode cX12_see 64 = .ok (.getfield 81, 3) := by decide +kernel
theorem dX12_see_67 : decode cX12_see 67 = .ok (.imul, 1) := by decide +kernel
theorem dX12_see_68 : decode cX12_see 68 = .ok (.iconst 1, 1) := by decide +kernel
theorem dX12_see_69 : decode cX12_see 69 = .ok (.iadd, 1) := by decide +kernel
theorem dX12_see_70 : decode cX12_see 70 = .ok (.iload_n 2, 1) := by decide +kernel
theorem dX12_see_71 : decode cX12_see 71 = .ok (.iastore, 1) := by decide +kernel
theorem dX12_see_72 : decode cX12_see 72 = .ok (.aload_n 0, 1) := by decide +kernel
theorem dX12_see_73 : decode cX12_see 73 = .ok (.getfield 31, 3) := by decide +kernel
theorem dX12_see_76 : decode cX12_see 76 = .ok (.iconst 3, 1) := by decide +kernel
theorem dX12_see_77 : decode cX12_see 77 = .ok (.aload_n 0, 1) := by decide +kernel
theorem dX12_see_78 : decode cX12_see 78 = .ok (.getfield 81, 3) := by decide +kernel
theorem dX12_see_81 : decode cX12_see 81 = .ok (.imul, 1) := by decide +kernel
theorem dX12_see_82 : decode cX12_see 82 = .ok (.iconst 2, 1) := by decide +kernel
theorem dX12_see_83 : decode cX12_see 83 = .ok (.iadd, 1) := by decide +kernel
theorem dX12_see_84 : decode cX12_see 84 = .ok (.iload_n 3, 1) := by decide +kernel
theorem dX12_see_85 : decode cX12_see 85 = .ok (.iastore, 1) := by decide +kernel
theorem dX12_see_86 : decode cX12_see 86 = .ok (.aload_n 0, 1) := by decide +kernel
theorem dX12_see_87 : decode cX12_see 87 = .ok (.dup, 1) := by decide +kernel
theorem dX12_see_88 : decode cX12_see 88 = .ok (.getfield 81, 3) := by decide +kernel
theorem dX12_see_91 : decode cX12_see 91 = .ok (.iconst 1, 1) := by decide +kernel
theorem dX12_see_92 : decode cX12_see 92 = .ok (.iadd, 1) := by decide +kernel
theorem dX12_see_93 : decode cX12_see 93 = .ok (.putfield 81, 3) := by decide +kernel
theorem dX12_see_96 : decode cX12_see 96 = .ok (.aload_n 0, 1) := by decide +kernel
theorem dX12_see_97 : decode cX12_see 97 = .ok (.getfield 81, 3) := by decide +kernel
theorem dX12_see_100 : decode cX12_see 100 = .ok (.ireturn, 1) := by decide +kernel
theorem dX12_forget_0 : decode cX12_forget 0 = .ok (.aload_n 0, 1) := by decide +kernel
theorem dX12_forget_1 : decode cX12_forget 1 = .ok (.getfield 81, 3) := by decide +kernel
theorem dX12_forget_4 : decode cX12_forget 4 = .ok (.istore_n 1, 1) := by decide +kernel
theorem dX12_forget_5 : decode cX12_forget 5 = .ok (.aload_n 0, 1) := by decide +kernel
theorem dX12_forget_6 : decode cX12_forget 6 = .ok (.iconst 0, 1) := by decide +kernel
theorem dX12_forget_7 : decode cX12_forget 7 = .ok (.putfield 81, 3) := by decide +kernel
theorem dX12_forget_10 : decode cX12_forget 10 = .ok (.iload_n 1, 1) := by decide +kernel
theorem dX12_forget_11 : decode cX12_forget 11 = .ok (.ireturn, 1) := by decide +kernel
theorem dX12_seenAt_0 : decode cX12_seenAt 0 = .ok (.sipush 4095, 3) := by decide +kernel
theorem dX12_seenAt_3 : decode cX12_seenAt 3 = .ok (.istore_n 3, 1) := by decide +kernel
theorem dX12_seenAt_4 : decode cX12_seenAt 4 = .ok (.iconst 0, 1) := by decide +kernel
theorem dX12_seenAt_5 : decode cX12_seenAt 5 = .ok (.istore 4, 2) := by decide +kernel
theorem dX12_seenAt_7 : decode cX12_seenAt 7 = .ok (.iload 4, 2) := by decide +kernel
theorem dX12_seenAt_9 : decode cX12_seenAt 9 = .ok (.aload_n 0, 1) := by decide +kernel
theorem dX12_seenAt_10 : decode cX12_seenAt 10 = .ok (.getfield 81, 3) := by decide +kernel
theorem dX12_seenAt_13 : decode cX12_seenAt 13 = .ok (.if_icmp .ge 59, 3) := by decide +kernel
theorem dX12_seenAt_16 : decode cX12_seenAt 16 = .ok (.iload_n 3, 1) := by decide +kernel
theorem dX12_seenAt_17 : decode cX12_seenAt 17 = .ok (.aload_n 0, 1) := by decide +kernel
theorem dX12_seenAt_18 : decode cX12_seenAt 18 = .ok (.getfield 31, 3) := by decide +kernel
theorem dX12_seenAt_21 : decode cX12_seenAt 21 = .ok (.iconst 3, 1) := by decide +kernel
theorem dX12_seenAt_22 : decode cX12_seenAt 22 = .ok (.iload 4, 2) := by decide +kernel
theorem dX12_seenAt_24 : decode cX12_seenAt 24 = .ok (.imul, 1) := by decide +kernel
theorem dX12_seenAt_25 : decode cX12_seenAt 25 = .ok (.iaload, 1) := by decide +kernel
theorem dX12_seenAt_26 : decode cX12_seenAt 26 = .ok (.iload_n 1, 1) := by decide +kernel
theorem dX12_seenAt_27 : decode cX12_seenAt 27 = .ok (.if_icmp .ne 34, 3) := by decide +kernel
theorem dX12_seenAt_30 : decode cX12_seenAt 30 = .ok (.aload_n 0, 1) := by decide +kernel
theorem dX12_seenAt_31 : decode cX12_seenAt 31 = .ok (.getfield 31, 3) := by decide +kernel
theorem dX12_seenAt_34 : decode cX12_seenAt 34 = .ok (.iconst 3, 1) := by decide +kernel
theorem dX12_seenAt_35 : decode cX12_seenAt 35 = .ok (.iload 4, 2) := by decide +kernel
theorem dX12_seenAt_37 : decode cX12_seenAt 37 = .ok (.imul, 1) := by decide +kernel
theorem dX12_seenAt_38 : decode cX12_seenAt 38 = .ok (.iconst 2, 1) := by decide +kernel
theorem dX12_seenAt_39 : decode cX12_seenAt 39 = .ok (.iadd, 1) := by decide +kernel
theorem dX12_seenAt_40 : decode cX12_seenAt 40 = .ok (.iaload, 1) := by decide +kernel
theorem dX12_seenAt_41 : decode cX12_seenAt 41 = .ok (.iload_n 2, 1) := by decide +kernel
theorem dX12_seenAt_42 : decode cX12_seenAt 42 = .ok (.if_icmp .ne 19, 3) := by decide +kernel
theorem dX12_seenAt_45 : decode cX12_seenAt 45 = .ok (.iconst 1, 1) := by decide +kernel
theorem dX12_seenAt_46 : decode cX12_seenAt 46 = .ok (.aload_n 0, 1) := by decide +kernel
theorem dX12_seenAt_47 : decode cX12_seenAt 47 = .ok (.getfield 31, 3) := by decide +kernel
theorem dX12_seenAt_50 : decode cX12_seenAt 50 = .ok (.iconst 3, 1) := by decide +kernel
theorem dX12_seenAt_51 : decode cX12_seenAt 51 = .ok (.iload 4, 2) := by decide +kernel
theorem dX12_seenAt_53 : decode cX12_seenAt 53 = .ok (.imul, 1) := by decide +kernel
theorem dX12_seenAt_54 : decode cX12_seenAt 54 = .ok (.iconst 1, 1) := by decide +kernel
theorem dX12_seenAt_55 : decode cX12_seenAt 55 = .ok (.iadd, 1) := by decide +kernel
theorem dX12_seenAt_56 : decode cX12_seenAt 56 = .ok (.iaload, 1) := by decide +kernel
theorem dX12_seenAt_57 : decode cX12_seenAt 57 = .ok (.ishl, 1) := by decide +kernel
theorem dX12_seenAt_58 : decode cX12_seenAt 58 = .ok (.goto 6, 3) := by decide +kernel
theorem dX12_seenAt_61 : decode cX12_seenAt 61 = .ok (.sipush 4095, 3) := by decide +kernel
theorem dX12_seenAt_64 : decode cX12_seenAt 64 = .ok (.iand, 1) := by decide +kernel
theorem dX12_seenAt_65 : decode cX12_seenAt 65 = .ok (.istore_n 3, 1) := by decide +kernel
theorem dX12_seenAt_66 : decode cX12_seenAt 66 = .ok (.iinc 4 1, 3) := by decide +kernel
theorem dX12_seenAt_69 : decode cX12_seenAt 69 = .ok (.goto (-62), 3) := by decide +kernel
theorem dX12_seenAt_72 : decode cX12_seenAt 72 = .ok (.iload_n 3, 1) := by decide +kernel
theorem dX12_seenAt_73 : decode cX12_seenAt 73 = .ok (.ireturn, 1) := by decide +kernel
theorem dX12_isSeenBetween_0 : decode cX12_isSeenBetween 0 = .ok (.iconst 0, 1) := by decide +kernel
theorem dX12_isSeenBetween_1 : decode cX12_isSeenBetween 1 = .ok (.istore 4, 2) := by decide +kernel
theorem dX12_isSeenBetween_3 : decode cX12_isSeenBetween 3 = .ok (.iconst 0, 1) := by decide +kernel
theorem dX12_isSeenBetween_4 : decode cX12_isSeenBetween 4 = .ok (.istore 5, 2) := by decide +kernel
theorem dX12_isSeenBetween_6 : decode cX12_isSeenBetween 6 = .ok (.iload 5, 2) := by decide +kernel
theorem dX12_isSeenBetween_8 : decode cX12_isSeenBetween 8 = .ok (.aload_n 0, 1) := by decide +kernel
theorem dX12_isSeenBetween_9 : decode cX12_isSeenBetween 9 = .ok (.getfield 81, 3) := by decide +kernel
theorem dX12_isSeenBetween_12 : decode cX12_isSeenBetween 12 = .ok (.if_icmp .ge 64, 3) := by decide +kernel
theorem dX12_isSeenBetween_15 : decode cX12_isSeenBetween 15 = .ok (.iload 4, 2) := by decide +kernel
theorem dX12_isSeenBetween_17 : decode cX12_isSeenBetween 17 = .ok (.ifCond .ne 46, 3) := by decide +kernel
theorem dX12_isSeenBetween_20 : decode cX12_isSeenBetween 20 = .ok (.aload_n 0, 1) := by decide +kernel
theorem dX12_isSeenBetween_21 : decode cX12_isSeenBetween 21 = .ok (.getfield 31, 3) := by decide +kernel
theorem dX12_isSeenBetween_24 : decode cX12_isSeenBetween 24 = .ok (.iconst 3, 1) := by decide +kernel
theorem dX12_isSeenBetween_25 : decode cX12_isSeenBetween 25 = .ok (.iload 5, 2) := by decide +kernel
theorem dX12_isSeenBetween_27 : decode cX12_isSeenBetween 27 = .ok (.imul, 1) := by decide +kernel
theorem dX12_isSeenBetween_28 : decode cX12_isSeenBetween 28 = .ok (.iaload, 1) := by decide +kernel
theorem dX12_isSeenBetween_29 : decode cX12_isSeenBetween 29 = .ok (.iload_n 1, 1) := by decide +kernel
theorem dX12_isSeenBetween_30 : decode cX12_isSeenBetween 30 = .ok (.if_icmp .ne 37, 3) := by decide +kernel
theorem dX12_isSeenBetween_33 : decode cX12_isSeenBetween 33 = .ok (.aload_n 0, 1) := by decide +kernel
theorem dX12_isSeenBetween_34 : decode cX12_isSeenBetween 34 = .ok (.getfield 31, 3) := by decide +kernel
theorem dX12_isSeenBetween_37 : decode cX12_isSeenBetween 37 = .ok (.iconst 3, 1) := by decide +kernel
theorem dX12_isSeenBetween_38 : decode cX12_isSeenBetween 38 = .ok (.iload 5, 2) := by decide +kernel
theorem dX12_isSeenBetween_40 : decode cX12_isSeenBetween 40 = .ok (.imul, 1) := by decide +kernel
theorem dX12_isSeenBetween_41 : decode cX12_isSeenBetween 41 = .ok (.iconst 2, 1) := by decide +kernel
theorem dX12_isSeenBetween_42 : decode cX12_isSeenBetween 42 = .ok (.iadd, 1) := by decide +kernel
theorem dX12_isSeenBetween_43 : decode cX12_isSeenBetween 43 = .ok (.iaload, 1) := by decide +kernel
theorem dX12_isSeenBetween_44 : decode cX12_isSeenBetween 44 = .ok (.iload_n 2, 1) := by decide +kernel
theorem dX12_isSeenBetween_45 : decode cX12_isSeenBetween 45 = .ok (.if_icmp .le 22, 3) := by decide +kernel
theorem dX12_isSeenBetween_48 : decode cX12_isSeenBetween 48 = .ok (.aload_n 0, 1) := by decide +kernel
theorem dX12_isSeenBetween_49 : decode cX12_isSeenBetween 49 = .ok (.getfield 31, 3) := by decide +kernel
theorem dX12_isSeenBetween_52 : decode cX12_isSeenBetween 52 = .ok (.iconst 3, 1) := by decide +kernel
theorem dX12_isSeenBetween_53 : decode cX12_isSeenBetween 53 = .ok (.iload 5, 2) := by decide +kernel
theorem dX12_isSeenBetween_55 : decode cX12_isSeenBetween 55 = .ok (.imul, 1) := by decide +kernel
theorem dX12_isSeenBetween_56 : decode cX12_isSeenBetween 56 = .ok (.iconst 2, 1) := by decide +kernel
theorem dX12_isSeenBetween_57 : decode cX12_isSeenBetween 57 = .ok (.iadd, 1) := by decide +kernel
theorem dX12_isSeenBetween_58 : decode cX12_isSeenBetween 58 = .ok (.iaload, 1) := by decide +kernel
theorem dX12_isSeenBetween_59 : decode cX12_isSeenBetween 59 = .ok (.iload_n 3, 1) := by decide +kernel
theorem dX12_isSeenBetween_60 : decode cX12_isSeenBetween 60 = .ok (.if_icmp .ge 7, 3) := by decide +kernel
theorem dX12_isSeenBetween_63 : decode cX12_isSeenBetween 63 = .ok (.iconst 1, 1) := by decide +kernel
theorem dX12_isSeenBetween_64 : decode cX12_isSeenBetween 64 = .ok (.goto 4, 3) := by decide +kernel
theorem dX12_isSeenBetween_67 : decode cX12_isSeenBetween 67 = .ok (.iconst 0, 1) := by decide +kernel
theorem dX12_isSeenBetween_68 : decode cX12_isSeenBetween 68 = .ok (.istore 4, 2) := by decide +kernel
theorem dX12_isSeenBetween_70 : decode cX12_isSeenBetween 70 = .ok (.iinc 5 1, 3) := by decide +kernel
theorem dX12_isSeenBetween_73 : decode cX12_isSeenBetween 73 = .ok (.goto (-67), 3) := by decide +kernel
theorem dX12_isSeenBetween_76 : decode cX12_isSeenBetween 76 = .ok (.iload 4, 2) := by decide +kernel
theorem dX12_isSeenBetween_78 : decode cX12_isSeenBetween 78 = .ok (.ireturn, 1) := by decide +kernel
theorem dX12_canStart_0 : decode cX12_canStart 0 = .ok (.iconst 0, 1) := by decide +kernel
theorem dX12_canStart_1 : decode cX12_canStart 1 = .ok (.istore_n 3, 1) := by decide +kernel
theorem dX12_canStart_2 : decode cX12_canStart 2 = .ok (.iload_n 3, 1) := by decide +kernel
theorem dX12_canStart_3 : decode cX12_canStart 3 = .ok (.bipush 48, 2) := by decide +kernel
theorem dX12_canStart_5 : decode cX12_canStart 5 = .ok (.if_icmp .ge 16, 3) := by decide +kernel
theorem dX12_canStart_8 : decode cX12_canStart 8 = .ok (.aload_n 0, 1) := by decide +kernel
theorem dX12_canStart_9 : decode cX12_canStart 9 = .ok (.getfield 34, 3) := by decide +kernel
theorem dX12_canStart_12 : decode cX12_canStart 12 = .ok (.iload_n 3, 1) := by decide +kernel
theorem dX12_canStart_13 : decode cX12_canStart 13 = .ok (.iconst 0, 1) := by decide +kernel
theorem dX12_canStart_14 : decode cX12_canStart 14 = .ok (.iastore, 1) := by decide +kernel
theorem dX12_canStart_15 : decode cX12_canStart 15 = .ok (.iinc 3 1, 3) := by decide +kernel
theorem dX12_canStart_18 : decode cX12_canStart 18 = .ok (.goto (-16), 3) := by decide +kernel
theorem dX12_canStart_21 : decode cX12_canStart 21 = .ok (.aload_n 0, 1) := by decide +kernel
theorem dX12_canStart_22 : decode cX12_canStart 22 = .ok (.getfield 34, 3) := by decide +kernel
theorem dX12_canStart_25 : decode cX12_canStart 25 = .ok (.iconst 0, 1) := by decide +kernel
theorem dX12_canStart_26 : decode cX12_canStart 26 = .ok (.iconst 1, 1) := by decide +kernel
theorem dX12_canStart_27 : decode cX12_canStart 27 = .ok (.iload_n 2, 1) := by decide +kernel
theorem dX12_canStart_28 : decode cX12_canStart 28 = .ok (.ishl, 1) := by decide +kernel
theorem dX12_canStart_29 : decode cX12_canStart 29 = .ok (.iastore, 1) := by decide +kernel
theorem dX12_canStart_30 : decode cX12_canStart 30 = .ok (.iconst 0, 1) := by decide +kernel
theorem dX12_canStart_31 : decode cX12_canStart 31 = .ok (.istore_n 3, 1) := by decide +kernel
theorem dX12_canStart_32 : decode cX12_canStart 32 = .ok (.iload_n 3, 1) := by decide +kernel
theorem dX12_canStart_33 : decode cX12_canStart 33 = .ok (.bipush 40, 2) := by decide +kernel
theorem dX12_canStart_35 : decode cX12_canStart 35 = .ok (.if_icmp .gt 158, 3) := by decide +kernel
theorem dX12_canStart_38 : decode cX12_canStart 38 = .ok (.aload_n 0, 1) := by decide +kernel
theorem dX12_canStart_39 : decode cX12_canStart 39 = .ok (.getfield 34, 3) := by decide +kernel
theorem dX12_canStart_42 : decode cX12_canStart 42 = .ok (.iload_n 3, 1) := by decide +kernel
theorem dX12_canStart_43 : decode cX12_canStart 43 = .ok (.dup2, 1) := by decide +kernel
theorem dX12_canStart_44 : decode cX12_canStart 44 = .ok (.iaload, 1) := by decide +kernel
theorem dX12_canStart_45 : decode cX12_canStart 45 = .ok (.aload_n 0, 1) := by decide +kernel
theorem dX12_canStart_46 : decode cX12_canStart 46 = .ok (.iload_n 1, 1) := by decide +kernel
theorem dX12_canStart_47 : decode cX12_canStart 47 = .ok (.iload_n 3, 1) := by decide +kernel
theorem dX12_canStart_48 : decode cX12_canStart 48 = .ok (.invokevirtual 172, 3) := by decide +kernel
theorem dX12_canStart_51 : decode cX12_canStart 51 = .ok (.iand, 1) := by decide +kernel
theorem dX12_canStart_52 : decode cX12_canStart 52 = .ok (.iastore, 1) := by decide +kernel
theorem dX12_canStart_53 : decode cX12_canStart 53 = .ok (.aload_n 0, 1) := by decide +kernel
theorem dX12_canStart_54 : decode cX12_canStart 54 = .ok (.getfield 34, 3) := by decide +kernel
theorem dX12_canStart_57 : decode cX12_canStart 57 = .ok (.iload_n 3, 1) := by decide +kernel
theorem dX12_canStart_58 : decode cX12_canStart 58 = .ok (.iconst 1, 1) := by decide +kernel
theorem dX12_canStart_59 : decode cX12_canStart 59 = .ok (.iadd, 1) := by decide +kernel
theorem dX12_canStart_60 : decode cX12_canStart 60 = .ok (.dup2, 1) := by decide +kernel
theorem dX12_canStart_61 : decode cX12_canStart 61 = .ok (.iaload, 1) := by decide +kernel
theorem dX12_canStart_62 : decode cX12_canStart 62 = .ok (.aload_n 0, 1) := by decide +kernel
theorem dX12_canStart_63 : decode cX12_canStart 63 = .ok (.getfield 34, 3) := by decide +kernel
theorem dX12_canStart_66 : decode cX12_canStart 66 = .ok (.iload_n 3, 1) := by decide +kernel
theorem dX12_canStart_67 : decode cX12_canStart 67 = .ok (.iaload, 1) := by decide +kernel
theorem dX12_canStart_68 : decode cX12_canStart 68 = .ok (.ior, 1) := by decide +kernel
theorem dX12_canStart_69 : decode cX12_canStart 69 = .ok (.iastore, 1) := by decide +kernel
theorem dX12_canStart_70 : decode cX12_canStart 70 = .ok (.iconst 0, 1) := by decide +kernel
theorem dX12_canStart_71 : decode cX12_canStart 71 = .ok (.istore 4, 2) := by decide +kernel
theorem dX12_canStart_73 : decode cX12_canStart 73 = .ok (.iload 4, 2) := by decide +kernel
theorem dX12_canStart_75 : decode cX12_canStart 75 = .ok (.bipush 48, 2) := by decide +kernel
theorem dX12_canStart_77 : decode cX12_canStart 77 = .ok (.if_icmp .ge 110, 3) := by decide +kernel
theorem dX12_canStart_80 : decode cX12_canStart 80 = .ok (.aload_n 0, 1) := by decide +kernel
theorem dX12_canStart_81 : decode cX12_canStart 81 = .ok (.getfield 34, 3) := by decide +kernel
theorem dX12_canStart_84 : decode cX12_canStart 84 = .ok (.iload_n 3, 1) := by decide +kernel
theorem dX12_canStart_85 : decode cX12_canStart 85 = .ok (.iaload, 1) := by decide +kernel
theorem dX12_canStart_86 : decode cX12_canStart 86 = .ok (.iload 4, 2) := by decide +kernel
theorem dX12_canStart_88 : decode cX12_canStart 88 = .ok (.iconst 4, 1) := by decide +kernel
theorem dX12_canStart_89 : decode cX12_canStart 89 = .ok (.idiv, 1) := by decide +kernel
theorem dX12_canStart_90 : decode cX12_canStart 90 = .ok (.ishr, 1) := by decide +kernel
theorem dX12_canStart_91 : decode cX12_canStart 91 = .ok (.iconst 1, 1) := by decide +kernel
theorem dX12_canStart_92 : decode cX12_canStart 92 = .ok (.iand, 1) := by decide +kernel
theorem dX12_canStart_93 : decode cX12_canStart 93 = .ok (.iconst 1, 1) := by decide +kernel
theorem dX12_canStart_94 : decode cX12_canStart 94 = .ok (.if_icmp .ne 7, 3) := by decide +kernel
theorem dX12_canStart_97 : decode cX12_canStart 97 = .ok (.iconst 1, 1) := by decide +kernel
theorem dX12_canStart_98 : decode cX12_canStart 98 = .ok (.goto 4, 3) := by decide +kernel
theorem dX12_canStart_101 : decode cX12_canStart 101 = .ok (.iconst 0, 1) := by decide +kernel
theorem dX12_canStart_102 : decode cX12_canStart 102 = .ok (.istore 5, 2) := by decide +kernel
theorem dX12_canStart_104 : decode cX12_canStart 104 = .ok (.iload 5, 2) := by decide +kernel
theorem dX12_canStart_106 : decode cX12_canStart 106 = .ok (.ifCond .eq 28, 3) := by decide +kernel
theorem dX12_canStart_109 : decode cX12_canStart 109 = .ok (.aload_n 0, 1) := by decide +kernel
theorem dX12_canStart_110 : decode cX12_canStart 110 = .ok (.iload_n 1, 1) := by decide +kernel
theorem dX12_canStart_111 : decode cX12_canStart 111 = .ok (.iload 4, 2) := by decide +kernel
theorem dX12_canStart_113 : decode cX12_canStart 113 = .ok (.iconst 4, 1) := by decide +kernel
theorem dX12_canStart_114 : decode cX12_canStart 114 = .ok (.idiv, 1) := by decide +kernel
theorem dX12_canStart_115 : decode cX12_canStart 115 = .ok (.iload_n 3, 1) := by decide +kernel
theorem dX12_canStart_116 : decode cX12_canStart 116 = .ok (.iload 4, 2) := by decide +kernel
theorem dX12_canStart_118 : decode cX12_canStart 118 = .ok (.iconst 4, 1) := by decide +kernel
theorem dX12_canStart_119 : decode cX12_canStart 119 = .ok (.irem, 1) := by decide +kernel
theorem dX12_canStart_120 : decode cX12_canStart 120 = .ok (.aload_n 0, 1) := by decide +kernel
theorem dX12_canStart_121 : decode cX12_canStart 121 = .ok (.getfield 50, 3) := by decide +kernel
theorem dX12_canStart_124 : decode cX12_canStart 124 = .ok (.aload_n 0, 1) := by decide +kernel
theorem dX12_canStart_125 : decode cX12_canStart 125 = .ok (.getfield 72, 3) := by decide +kernel
theorem dX12_canStart_128 : decode cX12_canStart 128 = .ok (.invokevirtual 127, 3) := by decide +kernel
theorem dX12_canStart_131 : decode cX12_canStart 131 = .ok (.goto 4, 3) := by decide +kernel
theorem dX12_canStart_134 : decode cX12_canStart 134 = .ok (.iconst (-1), 1) := by decide +kernel
theorem dX12_canStart_135 : decode cX12_canStart 135 = .ok (.istore 6, 2) := by decide +kernel
theorem dX12_canStart_137 : decode cX12_canStart 137 = .ok (.iload 6, 2) := by decide +kernel
theorem dX12_canStart_139 : decode cX12_canStart 139 = .ok (.iconst (-1), 1) := by decide +kernel
theorem dX12_canStart_140 : decode cX12_canStart 140 = .ok (.if_icmp .eq 41, 3) := by decide +kernel
theorem dX12_canStart_143 : decode cX12_canStart 143 = .ok (.aload_n 0, 1) := by decide +kernel
theorem dX12_canStart_144 : decode cX12_canStart 144 = .ok (.iload_n 1, 1) := by decide +kernel
theorem dX12_canStart_145 : decode cX12_canStart 145 = .ok (.iload_n 3, 1) := by decide +kernel
theorem dX12_canStart_146 : decode cX12_canStart 146 = .ok (.iload_n 3, 1) := by decide +kernel
theorem dX12_canStart_147 : decode cX12_canStart 147 = .ok (.iload 6, 2) := by decide +kernel
theorem dX12_canStart_149 : decode cX12_canStart 149 = .ok (.iadd, 1) := by decide +kernel
theorem dX12_canStart_150 : decode cX12_canStart 150 = .ok (.invokevirtual 175, 3) := by decide +kernel
theorem dX12_canStart_153 : decode cX12_canStart 153 = .ok (.ifCond .ne 28, 3) := by decide +kernel
theorem dX12_canStart_156 : decode cX12_canStart 156 = .ok (.aload_n 0, 1) := by decide +kernel
theorem dX12_canStart_157 : decode cX12_canStart 157 = .ok (.getfield 34, 3) := by decide +kernel
theorem dX12_canStart_160 : decode cX12_canStart 160 = .ok (.iload_n 3, 1) := by decide +kernel
theorem dX12_canStart_161 : decode cX12_canStart 161 = .ok (.iload 6, 2) := by decide +kernel
theorem dX12_canStart_163 : decode cX12_canStart 163 = .ok (.iadd, 1) := by decide +kernel
theorem dX12_canStart_164 : decode cX12_canStart 164 = .ok (.dup2, 1) := by decide +kernel
theorem dX12_canStart_165 : decode cX12_canStart 165 = .ok (.iaload, 1) := by decide +kernel
theorem dX12_canStart_166 : decode cX12_canStart 166 = .ok (.iconst 1, 1) := by decide +kernel
theorem dX12_canStart_167 : decode cX12_canStart 167 = .ok (.iload 4, 2) := by decide +kernel
theorem dX12_canStart_169 : decode cX12_canStart 169 = .ok (.iconst 4, 1) := by decide +kernel
theorem dX12_canStart_170 : decode cX12_canStart 170 = .ok (.idiv, 1) := by decide +kernel
theorem dX12_canStart_171 : decode cX12_canStart 171 = .ok (.iload 4, 2) := by decide +kernel
theorem dX12_canStart_173 : decode cX12_canStart 173 = .ok (.iconst 4, 1) := by decide +kernel
theorem dX12_canStart_174 : decode cX12_canStart 174 = .ok (.irem, 1) := by decide +kernel
theorem dX12_canStart_175 : decode cX12_canStart 175 = .ok (.invokestatic 113, 3) := by decide +kernel
theorem dX12_canStart_178 : decode cX12_canStart 178 = .ok (.ishl, 1) := by decide +kernel
theorem dX12_canStart_179 : decode cX12_canStart 179 = .ok (.ior, 1) := by decide +kernel
theorem dX12_canStart_180 : decode cX12_canStart 180 = .ok (.iastore, 1) := by decide +kernel
theorem dX12_canStart_181 : decode cX12_canStart 181 = .ok (.iinc 4 1, 3) := by decide +kernel
theorem dX12_canStart_184 : decode cX12_canStart 184 = .ok (.goto (-111), 3) := by decide +kernel
theorem dX12_canStart_187 : decode cX12_canStart 187 = .ok (.iinc 3 1, 3) := by decide +kernel
theorem dX12_canStart_190 : decode cX12_canStart 190 = .ok (.goto (-158), 3) := by decide +kernel
theorem dX12_canStart_193 : decode cX12_canStart 193 = .ok (.aload_n 0, 1) := by decide +kernel
theorem dX12_canStart_194 : decode cX12_canStart 194 = .ok (.getfield 34, 3) := by decide +kernel
theorem dX12_canStart_197 : decode cX12_canStart 197 = .ok (.bipush 40, 2) := by decide +kernel
theorem dX12_canStart_199 : decode cX12_canStart 199 = .ok (.iaload, 1) := by decide +kernel
theorem dX12_canStart_200 : decode cX12_canStart 200 = .ok (.ifCond .eq 7, 3) := by decide +kernel
theorem dX12_canStart_203 : decode cX12_canStart 203 = .ok (.iconst 1, 1) := by decide +kernel
theorem dX12_canStart_204 : decode cX12_canStart 204 = .ok (.goto 4, 3) := by decide +kernel
theorem dX12_canStart_207 : decode cX12_canStart 207 = .ok (.iconst 0, 1) := by decide +kernel
theorem dX12_canStart_208 : decode cX12_canStart 208 = .ok (.ireturn, 1) := by decide +kernel
theorem dX12_startOf_0 : decode cX12_startOf 0 = .ok (.iconst 0, 1) := by decide +kernel
theorem dX12_startOf_1 : decode cX12_startOf 1 = .ok (.istore_n 2, 1) := by decide +kernel
theorem dX12_startOf_2 : decode cX12_startOf 2 = .ok (.iconst 0, 1) := by decide +kernel
theorem dX12_startOf_3 : decode cX12_startOf 3 = .ok (.istore_n 3, 1) := by decide +kernel
theorem dX12_startOf_4 : decode cX12_startOf 4 = .ok (.iload_n 3, 1) := by decide +kernel
theorem dX12_startOf_5 : decode cX12_startOf 5 = .ok (.bipush 12, 2) := by decide +kernel
theorem dX12_startOf_7 : decode cX12_startOf 7 = .ok (.if_icmp .ge 28, 3) := by decide +kernel
theorem dX12_startOf_10 : decode cX12_startOf 10 = .ok (.iload_n 2, 1) := by decide +kernel
theorem dX12_startOf_11 : decode cX12_startOf 11 = .ok (.aload_n 0, 1) := by decide +kernel
theorem dX12_startOf_12 : decode cX12_startOf 12 = .ok (.iload_n 1, 1) := by decide +kernel
theorem dX12_startOf_13 : decode cX12_startOf 13 = .ok (.iload_n 3, 1) := by decide +kernel
theorem dX12_startOf_14 : decode cX12_startOf 14 = .ok (.invokevirtual 179, 3) := by decide +kernel
theorem dX12_startOf_17 : decode cX12_startOf 17 = .ok (.ifCond .eq 9, 3) := by decide +kernel
theorem dX12_startOf_20 : decode cX12_startOf 20 = .ok (.iconst 1, 1) := by decide +kernel
theorem dX12_startOf_21 : decode cX12_startOf 21 = .ok (.iload_n 3, 1) := by decide +kernel
theorem dX12_startOf_22 : decode cX12_startOf 22 = .ok (.ishl, 1) := by decide +kernel
theorem dX12_startOf_23 : decode cX12_startOf 23 = .ok (.goto 4, 3) := by decide +kernel
theorem dX12_startOf_26 : decode cX12_startOf 26 = .ok (.iconst 0, 1) := by decide +kernel
theorem dX12_startOf_27 : decode cX12_startOf 27 = .ok (.ior, 1) := by decide +kernel
theorem dX12_startOf_28 : decode cX12_startOf 28 = .ok (.istore_n 2, 1) := by decide +kernel
theorem dX12_startOf_29 : decode cX12_startOf 29 = .ok (.iinc 3 1, 3) := by decide +kernel
theorem dX12_startOf_32 : decode cX12_startOf 32 = .ok (.goto (-28), 3) := by decide +kernel
theorem dX12_startOf_35 : decode cX12_startOf 35 = .ok (.iload_n 2, 1) := by decide +kernel
theorem dX12_startOf_36 : decode cX12_startOf 36 = .ok (.ireturn, 1) := by decide +kernel
theorem dX12_start_0 : decode cX12_start 0 = .ok (.aload_n 0, 1) := by decide +kernel
theorem dX12_start_1 : decode cX12_start 1 = .ok (.iload_n 1, 1) := by decide +kernel
theorem dX12_start_2 : decode cX12_start 2 = .ok (.invokevirtual 134, 3) := by decide +kernel
theorem dX12_start_5 : decode cX12_start 5 = .ok (.ifCond .eq 11, 3) := by decide +kernel
theorem dX12_start_8 : decode cX12_start 8 = .ok (.aload_n 0, 1) := by decide +kernel
theorem dX12_start_9 : decode cX12_start 9 = .ok (.iload_n 1, 1) := by decide +kernel
theorem dX12_start_10 : decode cX12_start 10 = .ok (.invokevirtual 182, 3) := by decide +kernel
theorem dX12_start_13 : decode cX12_start 13 = .ok (.goto 5, 3) := by decide +kernel
theorem dX12_start_16 : decode cX12_start 16 = .ok (.bipush (-101), 2) := by decide +kernel
theorem dX12_start_18 : decode cX12_start 18 = .ok (.ireturn, 1) := by decide +kernel
theorem dX12_draw_0 : decode cX12_draw 0 = .ok (.aload_n 0, 1) := by decide +kernel
theorem dX12_draw_1 : decode cX12_draw 1 = .ok (.ldc2_w 185, 3) := by decide +kernel
theorem dX12_draw_4 : decode cX12_draw 4 = .ok (.aload_n 0, 1) := by decide +kernel
theorem dX12_draw_5 : decode cX12_draw 5 = .ok (.getfield 187, 3) := by decide +kernel
theorem dX12_draw_8 : decode cX12_draw 8 = .ok (.i2l, 1) := by decide +kernel
theorem dX12_draw_9 : decode cX12_draw 9 = .ok (.lmul, 1) := by decide +kernel
theorem dX12_draw_10 : decode cX12_draw 10 = .ok (.ldc2_w 190, 3) := by decide +kernel
theorem dX12_draw_13 : decode cX12_draw 13 = .ok (.ladd, 1) := by decide +kernel
theorem dX12_draw_14 : decode cX12_draw 14 = .ok (.ldc2_w 192, 3) := by decide +kernel
theorem dX12_draw_17 : decode cX12_draw 17 = .ok (.land, 1) := by decide +kernel
theorem dX12_draw_18 : decode cX12_draw 18 = .ok (.l2i, 1) := by decide +kernel
theorem dX12_draw_19 : decode cX12_draw 19 = .ok (.putfield 187, 3) := by decide +kernel
theorem dX12_draw_22 : decode cX12_draw 22 = .ok (.aload_n 0, 1) := by decide +kernel
theorem dX12_draw_23 : decode cX12_draw 23 = .ok (.getfield 187, 3) := by decide +kernel
theorem dX12_draw_26 : decode cX12_draw 26 = .ok (.ldc 194, 2) := by decide +kernel
theorem dX12_draw_28 : decode cX12_draw 28 = .ok (.idiv, 1) := by decide +kernel
theorem dX12_draw_29 : decode cX12_draw 29 = .ok (.iload_n 1, 1) := by decide +kernel
theorem dX12_draw_30 : decode cX12_draw 30 = .ok (.irem, 1) := by decide +kernel
theorem dX12_draw_31 : decode cX12_draw 31 = .ok (.ireturn, 1) := by decide +kernel
theorem dX12_strandedMany_0 : decode cX12_strandedMany 0 = .ok (.iconst 0, 1) := by decide +kernel
theorem dX12_strandedMany_1 : decode cX12_strandedMany 1 = .ok (.istore_n 1, 1) := by decide +kernel
theorem dX12_strandedMany_2 : decode cX12_strandedMany 2 = .ok (.iconst 0, 1) := by decide +kernel
theorem dX12_strandedMany_3 : decode cX12_strandedMany 3 = .ok (.istore_n 2, 1) := by decide +kernel
theorem dX12_strandedMany_4 : decode cX12_strandedMany 4 = .ok (.iload_n 2, 1) := by decide +kernel
theorem dX12_strandedMany_5 : decode cX12_strandedMany 5 = .ok (.aload_n 0, 1) := by decide +kernel
theorem dX12_strandedMany_6 : decode cX12_strandedMany 6 = .ok (.getfield 78, 3) := by decide +kernel
theorem dX12_strandedMany_9 : decode cX12_strandedMany 9 = .ok (.if_icmp .ge 25, 3) := by decide +kernel
theorem dX12_strandedMany_12 : decode cX12_strandedMany 12 = .ok (.iload_n 1, 1) := by decide +kernel
theorem dX12_strandedMany_13 : decode cX12_strandedMany 13 = .ok (.aload_n 0, 1) := by decide +kernel
theorem dX12_strandedMany_14 : decode cX12_strandedMany 14 = .ok (.iload_n 2, 1) := by decide +kernel
theorem dX12_strandedMany_15 : decode cX12_strandedMany 15 = .ok (.invokevirtual 131, 3) := by decide +kernel
theorem dX12_strandedMany_18 : decode cX12_strandedMany 18 = .ok (.ifCond .eq 7, 3) := by decide +kernel
theorem dX12_strandedMany_21 : decode cX12_strandedMany 21 = .ok (.iconst 1, 1) := by decide +kernel
theorem dX12_strandedMany_22 : decode cX12_strandedMany 22 = .ok (.goto 4, 3) := by decide +kernel
theorem dX12_strandedMany_25 : decode cX12_strandedMany 25 = .ok (.iconst 0, 1) := by decide +kernel
theorem dX12_strandedMany_26 : decode cX12_strandedMany 26 = .ok (.iadd, 1) := by decide +kernel
theorem dX12_strandedMany_27 : decode cX12_strandedMany 27 = .ok (.istore_n 1, 1) := by decide +kernel
theorem dX12_strandedMany_28 : decode cX12_strandedMany 28 = .ok (.iinc 2 1, 3) := by decide +kernel
theorem dX12_strandedMany_31 : decode cX12_strandedMany 31 = .ok (.goto (-27), 3) := by decide +kernel
theorem dX12_strandedMany_34 : decode cX12_strandedMany 34 = .ok (.iload_n 1, 1) := by decide +kernel
theorem dX12_strandedMany_35 : decode cX12_strandedMany 35 = .ok (.ireturn, 1) := by decide +kernel
theorem dX12_junes_0 : decode cX12_junes 0 = .ok (.iload_n 1, 1) := by decide +kernel
theorem dX12_junes_1 : decode cX12_junes 1 = .ok (.i2l, 1) := by decide +kernel
theorem dX12_junes_2 : decode cX12_junes 2 = .ok (.lconst 1, 1) := by decide +kernel
theorem dX12_junes_3 : decode cX12_junes 3 = .ok (.ldc2_w 195, 3) := by decide +kernel
theorem dX12_junes_6 : decode cX12_junes 6 = .ok (.invokestatic 55, 3) := by decide +kernel
theorem dX12_junes_9 : decode cX12_junes 9 = .ok (.ifCond .eq 19, 3) := by decide +kernel
theorem dX12_junes_12 : decode cX12_junes 12 = .ok (.iload_n 2, 1) := by decide +kernel
theorem dX12_junes_13 : decode cX12_junes 13 = .ok (.ifCond .lt 15, 3) := by decide +kernel
theorem dX12_junes_16 : decode cX12_junes 16 = .ok (.iload_n 3, 1) := by decide +kernel
theorem dX12_junes_17 : decode cX12_junes 17 = .ok (.i2l, 1) := by decide +kernel
theorem dX12_junes_18 : decode cX12_junes 18 = .ok (.lconst 0, 1) := by decide +kernel
theorem dX12_junes_19 : decode cX12_junes 19 = .ok (.ldc2_w 140, 3) := by decide +kernel
theorem dX12_junes_22 : decode cX12_junes 22 = .ok (.invokestatic 55, 3) := by decide +kernel
theorem dX12_junes_25 : decode cX12_junes 25 = .ok (.ifCond .ne 6, 3) := by decide +kernel
theorem dX12_junes_28 : decode cX12_junes 28 = .ok (.bipush (-102), 2) := by decide +kernel
theorem dX12_junes_30 : decode cX12_junes 30 = .ok (.ireturn, 1) := by decide +kernel
theorem dX12_junes_31 : decode cX12_junes 31 = .ok (.aload_n 0, 1) := by decide +kernel
theorem dX12_junes_32 : decode cX12_junes 32 = .ok (.invokevirtual 89, 3) := by decide +kernel
theorem dX12_junes_35 : decode cX12_junes 35 = .ok (.ifCond .eq 6, 3) := by decide +kernel
theorem dX12_junes_38 : decode cX12_junes 38 = .ok (.bipush (-103), 2) := by decide +kernel
theorem dX12_junes_40 : decode cX12_junes 40 = .ok (.ireturn, 1) := by decide +kernel
theorem dX12_junes_41 : decode cX12_junes 41 = .ok (.aload_n 0, 1) := by decide +kernel
theorem dX12_junes_42 : decode cX12_junes 42 = .ok (.getfield 16, 3) := by decide +kernel
theorem dX12_junes_45 : decode cX12_junes 45 = .ok (.aload_n 0, 1) := by decide +kernel
theorem dX12_junes_46 : decode cX12_junes 46 = .ok (.getfield 37, 3) := by decide +kernel
theorem dX12_junes_49 : decode cX12_junes 49 = .ok (.invokestatic 160, 3) := by decide +kernel
theorem dX12_junes_52 : decode cX12_junes 52 = .ok (.aload_n 0, 1) := by decide +kernel
theorem dX12_junes_53 : decode cX12_junes 53 = .ok (.getfield 75, 3) := by decide +kernel
theorem dX12_junes_56 : decode cX12_junes 56 = .ok (.istore 4, 2) := by decide +kernel
theorem dX12_junes_58 : decode cX12_junes 58 = .ok (.aload_n 0, 1) := by decide +kernel
theorem dX12_junes_59 : decode cX12_junes 59 = .ok (.iload_n 2, 1) := by decide +kernel
theorem dX12_junes_60 : decode cX12_junes 60 = .ok (.putfield 187, 3) := by decide +kernel
theorem dX12_junes_63 : decode cX12_junes 63 = .ok (.iconst 0, 1) := by decide +kernel
theorem dX12_junes_64 : decode cX12_junes 64 = .ok (.istore 5, 2) := by decide +kernel
theorem dX12_junes_66 : decode cX12_junes 66 = .ok (.iconst 0, 1) := by decide +kernel
theorem dX12_junes_67 : decode cX12_junes 67 = .ok (.istore 6, 2) := by decide +kernel
theorem dX12_junes_69 : decode cX12_junes 69 = .ok (.iload 6, 2) := by decide +kernel
theorem dX12_junes_71 : decode cX12_junes 71 = .ok (.iload_n 1, 1) := by decide +kernel
theorem dX12_junes_72 : decode cX12_junes 72 = .ok (.aload_n 0, 1) := by decide +kernel
theorem dX12_junes_73 : decode cX12_junes 73 = .ok (.getfield 78, 3) := by decide +kernel
theorem dX12_junes_76 : decode cX12_junes 76 = .ok (.imul, 1) := by decide +kernel
theorem dX12_junes_77 : decode cX12_junes 77 = .ok (.if_icmp .ge 113, 3) := by decide +kernel
theorem dX12_junes_80 : decode cX12_junes 80 = .ok (.iload 6, 2) := by decide +kernel
theorem dX12_junes_82 : decode cX12_junes 82 = .ok (.aload_n 0, 1) := by decide +kernel
theorem dX12_junes_83 : decode cX12_junes 83 = .ok (.getfield 78, 3) := by decide +kernel
theorem dX12_junes_86 : decode cX12_junes 86 = .ok (.irem, 1) := by decide +kernel
theorem dX12_junes_87 : decode cX12_junes 87 = .ok (.istore 7, 2) := by decide +kernel
theorem dX12_junes_89 : decode cX12_junes 89 = .ok (.aload_n 0, 1) := by decide +kernel
theorem dX12_junes_90 : decode cX12_junes 90 = .ok (.iconst 5, 1) := by decide +kernel
theorem dX12_junes_91 : decode cX12_junes 91 = .ok (.invokevirtual 197, 3) := by decide +kernel
theorem dX12_junes_94 : decode cX12_junes 94 = .ok (.istore 8, 2) := by decide +kernel
theorem dX12_junes_96 : decode cX12_junes 96 = .ok (.aload_n 0, 1) := by decide +kernel
theorem dX12_junes_97 : decode cX12_junes 97 = .ok (.iconst 4, 1) := by decide +kernel
theorem dX12_junes_98 : decode cX12_junes 98 = .ok (.invokevirtual 197, 3) := by decide +kernel
theorem dX12_junes_101 : decode cX12_junes 101 = .ok (.istore 9, 2) := by decide +kernel
theorem dX12_junes_103 : decode cX12_junes 103 = .ok (.aload_n 0, 1) := by decide +kernel
theorem dX12_junes_104 : decode cX12_junes 104 = .ok (.iload 7, 2) := by decide +kernel
theorem dX12_junes_106 : decode cX12_junes 106 = .ok (.aload_n 0, 1) := by decide +kernel
theorem dX12_junes_107 : decode cX12_junes 107 = .ok (.getfield 16, 3) := by decide +kernel
theorem dX12_junes_110 : decode cX12_junes 110 = .ok (.iconst 4, 1) := by decide +kernel
theorem dX12_junes_111 : decode cX12_junes 111 = .ok (.iload 7, 2) := by decide +kernel
theorem dX12_junes_113 : decode cX12_junes 113 = .ok (.imul, 1) := by decide +kernel
theorem dX12_junes_114 : decode cX12_junes 114 = .ok (.iconst 2, 1) := by decide +kernel
theorem dX12_junes_115 : decode cX12_junes 115 = .ok (.iadd, 1) := by decide +kernel
theorem dX12_junes_116 : decode cX12_junes 116 = .ok (.iaload, 1) := by decide +kernel
theorem dX12_junes_117 : decode cX12_junes 117 = .ok (.aload_n 0, 1) := by decide +kernel
theorem dX12_junes_118 : decode cX12_junes 118 = .ok (.getfield 75, 3) := by decide +kernel
theorem dX12_junes_121 : decode cX12_junes 121 = .ok (.iload 9, 2) := by decide +kernel
theorem dX12_junes_123 : decode cX12_junes 123 = .ok (.iload 8, 2) := by decide +kernel
theorem dX12_junes_125 : decode cX12_junes 125 = .ok (.aload_n 0, 1) := by decide +kernel
theorem dX12_junes_126 : decode cX12_junes 126 = .ok (.getfield 72, 3) := by decide +kernel
theorem dX12_junes_129 : decode cX12_junes 129 = .ok (.invokevirtual 127, 3) := by decide +kernel
theorem dX12_junes_132 : decode cX12_junes 132 = .ok (.istore 10, 2) := by decide +kernel
theorem dX12_junes_134 : decode cX12_junes 134 = .ok (.iload 10, 2) := by decide +kernel
theorem dX12_junes_136 : decode cX12_junes 136 = .ok (.iconst (-1), 1) := by decide +kernel
theorem dX12_junes_137 : decode cX12_junes 137 = .ok (.if_icmp .ne 9, 3) := by decide +kernel
theorem dX12_junes_140 : decode cX12_junes 140 = .ok (.iinc 5 1, 3) := by decide +kernel
theorem dX12_junes_143 : decode cX12_junes 143 = .ok (.goto 41, 3) := by decide +kernel
theorem dX12_junes_146 : decode cX12_junes 146 = .ok (.aload_n 0, 1) := by decide +kernel
theorem dX12_junes_147 : decode cX12_junes 147 = .ok (.getfield 16, 3) := by decide +kernel
theorem dX12_junes_150 : decode cX12_junes 150 = .ok (.iconst 4, 1) := by decide +kernel
theorem dX12_junes_151 : decode cX12_junes 151 = .ok (.iload 7, 2) := by decide +kernel
theorem dX12_junes_153 : decode cX12_junes 153 = .ok (.imul, 1) := by decide +kernel
theorem dX12_junes_154 : decode cX12_junes 154 = .ok (.iconst 2, 1) := by decide +kernel
theorem dX12_junes_155 : decode cX12_junes 155 = .ok (.iadd, 1) := by decide +kernel
theorem dX12_junes_156 : decode cX12_junes 156 = .ok (.aload_n 0, 1) := by decide +kernel
theorem dX12_junes_157 : decode cX12_junes 157 = .ok (.getfield 16, 3) := by decide +kernel
theorem dX12_junes_160 : decode cX12_junes 160 = .ok (.iconst 4, 1) := by decide +kernel
theorem dX12_junes_161 : decode cX12_junes 161 = .ok (.iload 7, 2) := by decide +kernel
theorem dX12_junes_163 : decode cX12_junes 163 = .ok (.imul, 1) := by decide +kernel
theorem dX12_junes_164 : decode cX12_junes 164 = .ok (.iconst 2, 1) := by decide +kernel
theorem dX12_junes_165 : decode cX12_junes 165 = .ok (.iadd, 1) := by decide +kernel
theorem dX12_junes_166 : decode cX12_junes 166 = .ok (.iaload, 1) := by decide +kernel
theorem dX12_junes_167 : decode cX12_junes 167 = .ok (.iload 9, 2) := by decide +kernel
theorem dX12_junes_169 : decode cX12_junes 169 = .ok (.invokestatic 113, 3) := by decide +kernel
theorem dX12_junes_172 : decode cX12_junes 172 = .ok (.iastore, 1) := by decide +kernel
theorem dX12_junes_173 : decode cX12_junes 173 = .ok (.aload_n 0, 1) := by decide +kernel
theorem dX12_junes_174 : decode cX12_junes 174 = .ok (.dup, 1) := by decide +kernel
theorem dX12_junes_175 : decode cX12_junes 175 = .ok (.getfield 75, 3) := by decide +kernel
theorem dX12_junes_178 : decode cX12_junes 178 = .ok (.iload 10, 2) := by decide +kernel
theorem dX12_junes_180 : decode cX12_junes 180 = .ok (.iadd, 1) := by decide +kernel
theorem dX12_junes_181 : decode cX12_junes 181 = .ok (.putfield 75, 3) := by decide +kernel
theorem dX12_junes_184 : decode cX12_junes 184 = .ok (.iinc 6 1, 3) := by decide +kernel
theorem dX12_junes_187 : decode cX12_junes 187 = .ok (.goto (-118), 3) := by decide +kernel
theorem dX12_junes_190 : decode cX12_junes 190 = .ok (.aload_n 0, 1) := by decide +kernel
theorem dX12_junes_191 : decode cX12_junes 191 = .ok (.invokevirtual 200, 3) := by decide +kernel
theorem dX12_junes_194 : decode cX12_junes 194 = .ok (.istore 6, 2) := by decide +kernel
theorem dX12_junes_196 : decode cX12_junes 196 = .ok (.aload_n 0, 1) := by decide +kernel
theorem dX12_junes_197 : decode cX12_junes 197 = .ok (.getfield 75, 3) := by decide +kernel
theorem dX12_junes_200 : decode cX12_junes 200 = .ok (.istore 7, 2) := by decide +kernel
theorem dX12_junes_202 : decode cX12_junes 202 = .ok (.aload_n 0, 1) := by decide +kernel
theorem dX12_junes_203 : decode cX12_junes 203 = .ok (.getfield 37, 3) := by decide +kernel
theorem dX12_junes_206 : decode cX12_junes 206 = .ok (.aload_n 0, 1) := by decide +kernel
theorem dX12_junes_207 : decode cX12_junes 207 = .ok (.getfield 16, 3) := by decide +kernel
theorem dX12_junes_210 : decode cX12_junes 210 = .ok (.invokestatic 160, 3) := by decide +kernel
theorem dX12_junes_213 : decode cX12_junes 213 = .ok (.aload_n 0, 1) := by decide +kernel
theorem dX12_junes_214 : decode cX12_junes 214 = .ok (.iload 4, 2) := by decide +kernel
theorem dX12_junes_216 : decode cX12_junes 216 = .ok (.putfield 75, 3) := by decide +kernel
theorem dX12_junes_219 : decode cX12_junes 219 = .ok (.iload_n 3, 1) := by decide +kernel
theorem dX12_junes_220 : decode cX12_junes 220 = .ok (.ifCond .ne 8, 3) := by decide +kernel
theorem dX12_junes_223 : decode cX12_junes 223 = .ok (.iload 5, 2) := by decide +kernel
theorem dX12_junes_225 : decode cX12_junes 225 = .ok (.goto 27, 3) := by decide +kernel
theorem dX12_junes_228 : decode cX12_junes 228 = .ok (.iload_n 3, 1) := by decide +kernel
theorem dX12_junes_229 : decode cX12_junes 229 = .ok (.iconst 1, 1) := by decide +kernel
theorem dX12_junes_230 : decode cX12_junes 230 = .ok (.if_icmp .ne 8, 3) := by decide +kernel
theorem dX12_junes_233 : decode cX12_junes 233 = .ok (.iload 6, 2) := by decide +kernel
theorem dX12_junes_235 : decode cX12_junes 235 = .ok (.goto 17, 3) := by decide +kernel
theorem dX12_junes_238 : decode cX12_junes 238 = .ok (.iload_n 3, 1) := by decide +kernel
theorem dX12_junes_239 : decode cX12_junes 239 = .ok (.iconst 2, 1) := by decide +kernel
theorem dX12_junes_240 : decode cX12_junes 240 = .ok (.if_icmp .ne 8, 3) := by decide +kernel
theorem dX12_junes_243 : decode cX12_junes 243 = .ok (.iload 7, 2) := by decide +kernel
theorem dX12_junes_245 : decode cX12_junes 245 = .ok (.goto 7, 3) := by decide +kernel
theorem dX12_junes_248 : decode cX12_junes 248 = .ok (.aload_n 0, 1) := by decide +kernel
theorem dX12_junes_249 : decode cX12_junes 249 = .ok (.getfield 187, 3) := by decide +kernel
theorem dX12_junes_252 : decode cX12_junes 252 = .ok (.ireturn, 1) := by decide +kernel
theorem dX12_copy_0 : decode cX12_copy 0 = .ok (.iconst 0, 1) := by decide +kernel
theorem dX12_copy_1 : decode cX12_copy 1 = .ok (.istore_n 2, 1) := by decide +kernel
theorem dX12_copy_2 : decode cX12_copy 2 = .ok (.iload_n 2, 1) := by decide +kernel
theorem dX12_copy_3 : decode cX12_copy 3 = .ok (.aload_n 0, 1) := by decide +kernel
theorem dX12_copy_4 : decode cX12_copy 4 = .ok (.arraylength, 1) := by decide +kernel
theorem dX12_copy_5 : decode cX12_copy 5 = .ok (.if_icmp .ge 15, 3) := by decide +kernel
theorem dX12_copy_8 : decode cX12_copy 8 = .ok (.aload_n 1, 1) := by decide +kernel
theorem dX12_copy_9 : decode cX12_copy 9 = .ok (.iload_n 2, 1) := by decide +kernel
theorem dX12_copy_10 : decode cX12_copy 10 = .ok (.aload_n 0, 1) := by decide +kernel
theorem dX12_copy_11 : decode cX12_copy 11 = .ok (.iload_n 2, 1) := by decide +kernel
theorem dX12_copy_12 : decode cX12_copy 12 = .ok (.iaload, 1) := by decide +kernel
theorem dX12_copy_13 : decode cX12_copy 13 = .ok (.iastore, 1) := by decide +kernel
theorem dX12_copy_14 : decode cX12_copy 14 = .ok (.iinc 2 1, 3) := by decide +kernel
theorem dX12_copy_17 : decode cX12_copy 17 = .ok (.goto (-15), 3) := by decide +kernel
theorem dX12_copy_20 : decode cX12_copy 20 = .ok (.return_, 1) := by decide +kernel
theorem dX12_image_0 : decode cX12_image 0 = .ok (.aload_n 0, 1) := by decide +kernel
theorem dX12_image_1 : decode cX12_image 1 = .ok (.invokevirtual 89, 3) := by decide +kernel
theorem dX12_image_4 : decode cX12_image 4 = .ok (.ifCond .eq 6, 3) := by decide +kernel
theorem dX12_image_7 : decode cX12_image 7 = .ok (.bipush (-103), 2) := by decide +kernel
theorem dX12_image_9 : decode cX12_image 9 = .ok (.ireturn, 1) := by decide +kernel
theorem dX12_image_10 : decode cX12_image 10 = .ok (.aload_n 0, 1) := by decide +kernel
theorem dX12_image_11 : decode cX12_image 11 = .ok (.getfield 16, 3) := by decide +kernel
theorem dX12_image_14 : decode cX12_image 14 = .ok (.aload_n 0, 1) := by decide +kernel
theorem dX12_image_15 : decode cX12_image 15 = .ok (.getfield 40, 3) := by decide +kernel
theorem dX12_image_18 : decode cX12_image 18 = .ok (.invokestatic 160, 3) := by decide +kernel
theorem dX12_image_21 : decode cX12_image 21 = .ok (.aload_n 0, 1) := by decide +kernel
theorem dX12_image_22 : decode cX12_image 22 = .ok (.getfield 31, 3) := by decide +kernel
theorem dX12_image_25 : decode cX12_image 25 = .ok (.aload_n 0, 1) := by decide +kernel
theorem dX12_image_26 : decode cX12_image 26 = .ok (.getfield 43, 3) := by decide +kernel
theorem dX12_image_29 : decode cX12_image 29 = .ok (.invokestatic 160, 3) := by decide +kernel
theorem dX12_image_32 : decode cX12_image 32 = .ok (.aload_n 0, 1) := by decide +kernel
theorem dX12_image_33 : decode cX12_image 33 = .ok (.aload_n 0, 1) := by decide +kernel
theorem dX12_image_34 : decode cX12_image 34 = .ok (.getfield 78, 3) := by decide +kernel
theorem dX12_image_37 : decode cX12_image 37 = .ok (.putfield 203, 3) := by decide +kernel
theorem dX12_image_40 : decode cX12_image 40 = .ok (.aload_n 0, 1) := by decide +kernel
theorem dX12_image_41 : decode cX12_image 41 = .ok (.aload_n 0, 1) := by decide +kernel
theorem dX12_image_42 : decode cX12_image 42 = .ok (.getfield 75, 3) := by decide +kernel
theorem dX12_image_45 : decode cX12_image 45 = .ok (.putfield 206, 3) := by decide +kernel
theorem dX12_image_48 : decode cX12_image 48 = .ok (.aload_n 0, 1) := by decide +kernel
theorem dX12_image_49 : decode cX12_image 49 = .ok (.aload_n 0, 1) := by decide +kernel
theorem dX12_image_50 : decode cX12_image 50 = .ok (.getfield 50, 3) := by decide +kernel
theorem dX12_image_53 : decode cX12_image 53 = .ok (.putfield 209, 3) := by decide +kernel
theorem dX12_image_56 : decode cX12_image 56 = .ok (.aload_n 0, 1) := by decide +kernel
theorem dX12_image_57 : decode cX12_image 57 = .ok (.aload_n 0, 1) := by decide +kernel
theorem dX12_image_58 : decode cX12_image 58 = .ok (.getfield 81, 3) := by decide +kernel
theorem dX12_image_61 : decode cX12_image 61 = .ok (.putfield 212, 3) := by decide +kernel
theorem dX12_image_64 : decode cX12_image 64 = .ok (.aload_n 0, 1) := by decide +kernel
theorem dX12_image_65 : decode cX12_image 65 = .ok (.aload_n 0, 1) := by decide +kernel
theorem dX12_image_66 : decode cX12_image 66 = .ok (.getfield 84, 3) := by decide +kernel
theorem dX12_image_69 : decode cX12_image 69 = .ok (.putfield 46, 3) := by decide +kernel
theorem dX12_image_72 : decode cX12_image 72 = .ok (.aload_n 0, 1) := by decide +kernel
theorem dX12_image_73 : decode cX12_image 73 = .ok (.getfield 75, 3) := by decide +kernel
theorem dX12_image_76 : decode cX12_image 76 = .ok (.ireturn, 1) := by decide +kernel
theorem dX12_restore_0 : decode cX12_restore 0 = .ok (.aload_n 0, 1) := by decide +kernel
theorem dX12_restore_1 : decode cX12_restore 1 = .ok (.getfield 46, 3) := by decide +kernel
theorem dX12_restore_4 : decode cX12_restore 4 = .ok (.aload_n 0, 1) := by decide +kernel
theorem dX12_restore_5 : decode cX12_restore 5 = .ok (.getfield 84, 3) := by decide +kernel
theorem dX12_restore_8 : decode cX12_restore 8 = .ok (.if_icmp .eq 6, 3) := by decide +kernel
theorem dX12_restore_11 : decode cX12_restore 11 = .ok (.bipush (-103), 2) := by decide +kernel
theorem dX12_restore_13 : decode cX12_restore 13 = .ok (.ireturn, 1) := by decide +kernel
theorem dX12_restore_14 : decode cX12_restore 14 = .ok (.aload_n 0, 1) := by decide +kernel
theorem dX12_restore_15 : decode cX12_restore 15 = .ok (.getfield 40, 3) := by decide +kernel
theorem dX12_restore_18 : decode cX12_restore 18 = .ok (.aload_n 0, 1) := by decide +kernel
theorem dX12_restore_19 : decode cX12_restore 19 = .ok (.getfield 16, 3) := by decide +kernel
theorem dX12_restore_22 : decode cX12_restore 22 = .ok (.invokestatic 160, 3) := by decide +kernel
theorem dX12_restore_25 : decode cX12_restore 25 = .ok (.aload_n 0, 1) := by decide +kernel
theorem dX12_restore_26 : decode cX12_restore 26 = .ok (.getfield 43, 3) := by decide +kernel
theorem dX12_restore_29 : decode cX12_restore 29 = .ok (.aload_n 0, 1) := by decide +kernel
theorem dX12_restore_30 : decode cX12_restore 30 = .ok (.getfield 31, 3) := by decide +kernel
theorem dX12_restore_33 : decode cX12_restore 33 = .ok (.invokestatic 160, 3) := by decide +kernel
theorem dX12_restore_36 : decode cX12_restore 36 = .ok (.aload_n 0, 1) := by decide +kernel
theorem dX12_restore_37 : decode cX12_restore 37 = .ok (.aload_n 0, 1) := by decide +kernel
theorem dX12_restore_38 : decode cX12_restore 38 = .ok (.getfield 203, 3) := by decide +kernel
theorem dX12_restore_41 : decode cX12_restore 41 = .ok (.putfield 78, 3) := by decide +kernel
theorem dX12_restore_44 : decode cX12_restore 44 = .ok (.aload_n 0, 1) := by decide +kernel
theorem dX12_restore_45 : decode cX12_restore 45 = .ok (.aload_n 0, 1) := by decide +kernel
theorem dX12_restore_46 : decode cX12_restore 46 = .ok (.getfield 206, 3) := by decide +kernel
theorem dX12_restore_49 : decode cX12_restore 49 = .ok (.putfield 75, 3) := by decide +kernel
theorem dX12_restore_52 : decode cX12_restore 52 = .ok (.aload_n 0, 1) := by decide +kernel
theorem dX12_restore_53 : decode cX12_restore 53 = .ok (.aload_n 0, 1) := by decide +kernel
theorem dX12_restore_54 : decode cX12_restore 54 = .ok (.getfield 209, 3) := by decide +kernel
theorem dX12_restore_57 : decode cX12_restore 57 = .ok (.putfield 50, 3) := by decide +kernel
theorem dX12_restore_60 : decode cX12_restore 60 = .ok (.aload_n 0, 1) := by decide +kernel
theorem dX12_restore_61 : decode cX12_restore 61 = .ok (.aload_n 0, 1) := by decide +kernel
theorem dX12_restore_62 : decode cX12_restore 62 = .ok (.getfield 212, 3) := by decide +kernel
theorem dX12_restore_65 : decode cX12_restore 65 = .ok (.putfield 81, 3) := by decide +kernel
theorem dX12_restore_68 : decode cX12_restore 68 = .ok (.aload_n 0, 1) := by decide +kernel
theorem dX12_restore_69 : decode cX12_restore 69 = .ok (.getfield 75, 3) := by decide +kernel
theorem dX12_restore_72 : decode cX12_restore 72 = .ok (.ireturn, 1) := by decide +kernel
theorem dX12_cutMany_0 : decode cX12_cutMany 0 = .ok (.iconst 0, 1) := by decide +kernel
theorem dX12_cutMany_1 : decode cX12_cutMany 1 = .ok (.istore_n 1, 1) := by decide +kernel
theorem dX12_cutMany_2 : decode cX12_cutMany 2 = .ok (.iconst 0, 1) := by decide +kernel
theorem dX12_cutMany_3 : decode cX12_cutMany 3 = .ok (.istore_n 2, 1) := by decide +kernel
theorem dX12_cutMany_4 : decode cX12_cutMany 4 = .ok (.iload_n 2, 1) := by decide +kernel
theorem dX12_cutMany_5 : decode cX12_cutMany 5 = .ok (.bipush 12, 2) := by decide +kernel
theorem dX12_cutMany_7 : decode cX12_cutMany 7 = .ok (.if_icmp .ge 39, 3) := by decide +kernel
theorem dX12_cutMany_10 : decode cX12_cutMany 10 = .ok (.aload_n 0, 1) := by decide +kernel
theorem dX12_cutMany_11 : decode cX12_cutMany 11 = .ok (.invokevirtual 89, 3) := by decide +kernel
theorem dX12_cutMany_14 : decode cX12_cutMany 14 = .ok (.ifCond .ne 32, 3) := by decide +kernel
theorem dX12_cutMany_17 : decode cX12_cutMany 17 = .ok (.iload_n 1, 1) := by decide +kernel
theorem dX12_cutMany_18 : decode cX12_cutMany 18 = .ok (.aload_n 0, 1) := by decide +kernel
theorem dX12_cutMany_19 : decode cX12_cutMany 19 = .ok (.getfield 75, 3) := by decide +kernel
theorem dX12_cutMany_22 : decode cX12_cutMany 22 = .ok (.aload_n 0, 1) := by decide +kernel
theorem dX12_cutMany_23 : decode cX12_cutMany 23 = .ok (.getfield 72, 3) := by decide +kernel
theorem dX12_cutMany_26 : decode cX12_cutMany 26 = .ok (.iload_n 2, 1) := by decide +kernel
theorem dX12_cutMany_27 : decode cX12_cutMany 27 = .ok (.iconst 1, 1) := by decide +kernel
theorem dX12_cutMany_28 : decode cX12_cutMany 28 = .ok (.iadd, 1) := by decide +kernel
theorem dX12_cutMany_29 : decode cX12_cutMany 29 = .ok (.imul, 1) := by decide +kernel
theorem dX12_cutMany_30 : decode cX12_cutMany 30 = .ok (.if_icmp .lt 7, 3) := by decide +kernel
theorem dX12_cutMany_33 : decode cX12_cutMany 33 = .ok (.iconst 1, 1) := by decide +kernel
theorem dX12_cutMany_34 : decode cX12_cutMany 34 = .ok (.goto 4, 3) := by decide +kernel
theorem dX12_cutMany_37 : decode cX12_cutMany 37 = .ok (.iconst 0, 1) := by decide +kernel
theorem dX12_cutMany_38 : decode cX12_cutMany 38 = .ok (.iadd, 1) := by decide +kernel
theorem dX12_cutMany_39 : decode cX12_cutMany 39 = .ok (.istore_n 1, 1) := by decide +kernel
theorem dX12_cutMany_40 : decode cX12_cutMany 40 = .ok (.iinc 2 1, 3) := by decide +kernel
theorem dX12_cutMany_43 : decode cX12_cutMany 43 = .ok (.goto (-39), 3) := by decide +kernel
theorem dX12_cutMany_46 : decode cX12_cutMany 46 = .ok (.iload_n 1, 1) := by decide +kernel
theorem dX12_cutMany_47 : decode cX12_cutMany 47 = .ok (.ireturn, 1) := by decide +kernel
theorem dX12_countOf_0 : decode cX12_countOf 0 = .ok (.iload_n 1, 1) := by decide +kernel
theorem dX12_countOf_1 : decode cX12_countOf 1 = .ok (.tableswitch 96 0 8 #[51, 56, 61, 66, 71, 76, 81, 86, 91], 51) := by decide +kernel
theorem dX12_countOf_52 : decode cX12_countOf 52 = .ok (.aload_n 0, 1) := by decide +kernel
theorem dX12_countOf_53 : decode cX12_countOf 53 = .ok (.getfield 72, 3) := by decide +kernel
