theorem dX11_see_8 : decode cX11_see 8 = .ok (.aload_n 0, 1) := by decide +kernel
theorem dX11_see_9 : decode cX11_see 9 = .ok (.iload_n 2, 1) := by decide +kernel
theorem dX11_see_10 : decode cX11_see 10 = .ok (.invokevirtual 102, 3) := by decide +kernel
theorem dX11_see_13 : decode cX11_see 13 = .ok (.ifCond .ne 6, 3) := by decide +kernel
theorem dX11_see_16 : decode cX11_see 16 = .ok (.bipush (-101), 2) := by decide +kernel
theorem dX11_see_18 : decode cX11_see 18 = .ok (.ireturn, 1) := by decide +kernel
theorem dX11_see_19 : decode cX11_see 19 = .ok (.iload_n 3, 1) := by decide +kernel
theorem dX11_see_20 : decode cX11_see 20 = .ok (.ifCond .lt 9, 3) := by decide +kernel
theorem dX11_see_23 : decode cX11_see 23 = .ok (.iload_n 3, 1) := by decide +kernel
theorem dX11_see_24 : decode cX11_see 24 = .ok (.bipush 40, 2) := by decide +kernel
theorem dX11_see_26 : decode cX11_see 26 = .ok (.if_icmp .le 6, 3) := by decide +kernel
theorem dX11_see_29 : decode cX11_see 29 = .ok (.bipush (-102), 2) := by decide +kernel
theorem dX11_see_31 : decode cX11_see 31 = .ok (.ireturn, 1) := by decide +kernel
theorem dX11_see_32 : decode cX11_see 32 = .ok (.aload_n 0, 1) := by decide +kernel
theorem dX11_see_33 : decode cX11_see 33 = .ok (.getfield 22, 3) := by decide +kernel
theorem dX11_see_36 : decode cX11_see 36 = .ok (.iload_n 1, 1) := by decide +kernel
theorem dX11_see_37 : decode cX11_see 37 = .ok (.iload_n 2, 1) := by decide +kernel
theorem dX11_see_38 : decode cX11_see 38 = .ok (.iload_n 3, 1) := by decide +kernel
theorem dX11_see_39 : decode cX11_see 39 = .ok (.invokevirtual 185, 3) := by decide +kernel
theorem dX11_see_42 : decode cX11_see 42 = .ok (.ifCond .eq 13, 3) := by decide +kernel
theorem dX11_see_45 : decode cX11_see 45 = .ok (.aload_n 0, 1) := by decide +kernel
theorem dX11_see_46 : decode cX11_see 46 = .ok (.getfield 22, 3) := by decide +kernel
theorem dX11_see_49 : decode cX11_see 49 = .ok (.getfield 189, 3) := by decide +kernel
theorem dX11_see_52 : decode cX11_see 52 = .ok (.goto 5, 3) := by decide +kernel
theorem dX11_see_55 : decode cX11_see 55 = .ok (.bipush (-104), 2) := by decide +kernel
theorem dX11_see_57 : decode cX11_see 57 = .ok (.ireturn, 1) := by decide +kernel
theorem dX11_forget_0 : decode cX11_forget 0 = .ok (.aload_n 0, 1) := by decide +kernel
theorem dX11_forget_1 : decode cX11_forget 1 = .ok (.getfield 22, 3) := by decide +kernel
theorem dX11_forget_4 : decode cX11_forget 4 = .ok (.getfield 189, 3) := by decide +kernel
theorem dX11_forget_7 : decode cX11_forget 7 = .ok (.istore_n 1, 1) := by decide +kernel
theorem dX11_forget_8 : decode cX11_forget 8 = .ok (.aload_n 0, 1) := by decide +kernel
theorem dX11_forget_9 : decode cX11_forget 9 = .ok (.getfield 22, 3) := by decide +kernel
theorem dX11_forget_12 : decode cX11_forget 12 = .ok (.iconst 0, 1) := by decide +kernel
theorem dX11_forget_13 : decode cX11_forget 13 = .ok (.putfield 189, 3) := by decide +kernel
theorem dX11_forget_16 : decode cX11_forget 16 = .ok (.iload_n 1, 1) := by decide +kernel
theorem dX11_forget_17 : decode cX11_forget 17 = .ok (.ireturn, 1) := by decide +kernel
theorem dX11_start_0 : decode cX11_start 0 = .ok (.aload_n 0, 1) := by decide +kernel
theorem dX11_start_1 : decode cX11_start 1 = .ok (.iload_n 1, 1) := by decide +kernel
theorem dX11_start_2 : decode cX11_start 2 = .ok (.invokevirtual 133, 3) := by decide +kernel
theorem dX11_start_5 : decode cX11_start 5 = .ok (.astore_n 2, 1) := by decide +kernel
theorem dX11_start_6 : decode cX11_start 6 = .ok (.aload_n 2, 1) := by decide +kernel
theorem dX11_start_7 : decode cX11_start 7 = .ok (.ifnonnull 6, 3) := by decide +kernel
theorem dX11_start_10 : decode cX11_start 10 = .ok (.bipush (-101), 2) := by decide +kernel
theorem dX11_start_12 : decode cX11_start 12 = .ok (.ireturn, 1) := by decide +kernel
theorem dX11_start_13 : decode cX11_start 13 = .ok (.aload_n 0, 1) := by decide +kernel
theorem dX11_start_14 : decode cX11_start 14 = .ok (.getfield 22, 3) := by decide +kernel
theorem dX11_start_17 : decode cX11_start 17 = .ok (.aload_n 0, 1) := by decide +kernel
theorem dX11_start_18 : decode cX11_start 18 = .ok (.getfield 59, 3) := by decide +kernel
theorem dX11_start_21 : decode cX11_start 21 = .ok (.aload_n 2, 1) := by decide +kernel
theorem dX11_start_22 : decode cX11_start 22 = .ok (.iload_n 1, 1) := by decide +kernel
theorem dX11_start_23 : decode cX11_start 23 = .ok (.invokevirtual 190, 3) := by decide +kernel
theorem dX11_start_26 : decode cX11_start 26 = .ok (.ireturn, 1) := by decide +kernel
theorem dX11_junes_0 : decode cX11_junes 0 = .ok (.iload_n 1, 1) := by decide +kernel
theorem dX11_junes_1 : decode cX11_junes 1 = .ok (.iconst 1, 1) := by decide +kernel
theorem dX11_junes_2 : decode cX11_junes 2 = .ok (.if_icmp .lt 22, 3) := by decide +kernel
theorem dX11_junes_5 : decode cX11_junes 5 = .ok (.iload_n 1, 1) := by decide +kernel
theorem dX11_junes_6 : decode cX11_junes 6 = .ok (.bipush 20, 2) := by decide +kernel
theorem dX11_junes_8 : decode cX11_junes 8 = .ok (.if_icmp .gt 16, 3) := by decide +kernel
theorem dX11_junes_11 : decode cX11_junes 11 = .ok (.iload_n 2, 1) := by decide +kernel
theorem dX11_junes_12 : decode cX11_junes 12 = .ok (.ifCond .lt 12, 3) := by decide +kernel
theorem dX11_junes_15 : decode cX11_junes 15 = .ok (.iload_n 3, 1) := by decide +kernel
theorem dX11_junes_16 : decode cX11_junes 16 = .ok (.ifCond .lt 8, 3) := by decide +kernel
theorem dX11_junes_19 : decode cX11_junes 19 = .ok (.iload_n 3, 1) := by decide +kernel
theorem dX11_junes_20 : decode cX11_junes 20 = .ok (.iconst 3, 1) := by decide +kernel
theorem dX11_junes_21 : decode cX11_junes 21 = .ok (.if_icmp .le 6, 3) := by decide +kernel
theorem dX11_junes_24 : decode cX11_junes 24 = .ok (.bipush (-102), 2) := by decide +kernel
theorem dX11_junes_26 : decode cX11_junes 26 = .ok (.ireturn, 1) := by decide +kernel
theorem dX11_junes_27 : decode cX11_junes 27 = .ok (.aload_n 0, 1) := by decide +kernel
theorem dX11_junes_28 : decode cX11_junes 28 = .ok (.invokevirtual 119, 3) := by decide +kernel
theorem dX11_junes_31 : decode cX11_junes 31 = .ok (.ifCond .ne 6, 3) := by decide +kernel
theorem dX11_junes_34 : decode cX11_junes 34 = .ok (.bipush (-103), 2) := by decide +kernel
theorem dX11_junes_36 : decode cX11_junes 36 = .ok (.ireturn, 1) := by decide +kernel
theorem dX11_junes_37 : decode cX11_junes 37 = .ok (.aload_n 0, 1) := by decide +kernel
theorem dX11_junes_38 : decode cX11_junes 38 = .ok (.getfield 63, 3) := by decide +kernel
theorem dX11_junes_41 : decode cX11_junes 41 = .ok (.aload_n 0, 1) := by decide +kernel
theorem dX11_junes_42 : decode cX11_junes 42 = .ok (.getfield 59, 3) := by decide +kernel
theorem dX11_junes_45 : decode cX11_junes 45 = .ok (.getfield 96, 3) := by decide +kernel
theorem dX11_junes_48 : decode cX11_junes 48 = .ok (.putfield 96, 3) := by decide +kernel
theorem dX11_junes_51 : decode cX11_junes 51 = .ok (.aload_n 0, 1) := by decide +kernel
theorem dX11_junes_52 : decode cX11_junes 52 = .ok (.getfield 50, 3) := by decide +kernel
theorem dX11_junes_55 : decode cX11_junes 55 = .ok (.aload_n 0, 1) := by decide +kernel
theorem dX11_junes_56 : decode cX11_junes 56 = .ok (.getfield 15, 3) := by decide +kernel
theorem dX11_junes_59 : decode cX11_junes 59 = .ok (.aload_n 0, 1) := by decide +kernel
theorem dX11_junes_60 : decode cX11_junes 60 = .ok (.getfield 106, 3) := by decide +kernel
theorem dX11_junes_63 : decode cX11_junes 63 = .ok (.iload_n 2, 1) := by decide +kernel
theorem dX11_junes_64 : decode cX11_junes 64 = .ok (.invokevirtual 194, 3) := by decide +kernel
theorem dX11_junes_67 : decode cX11_junes 67 = .ok (.aload_n 0, 1) := by decide +kernel
theorem dX11_junes_68 : decode cX11_junes 68 = .ok (.getfield 50, 3) := by decide +kernel
theorem dX11_junes_71 : decode cX11_junes 71 = .ok (.aload_n 0, 1) := by decide +kernel
theorem dX11_junes_72 : decode cX11_junes 72 = .ok (.getfield 63, 3) := by decide +kernel
theorem dX11_junes_75 : decode cX11_junes 75 = .ok (.aload_n 0, 1) := by decide +kernel
theorem dX11_junes_76 : decode cX11_junes 76 = .ok (.getfield 15, 3) := by decide +kernel
theorem dX11_junes_79 : decode cX11_junes 79 = .ok (.iload_n 1, 1) := by decide +kernel
theorem dX11_junes_80 : decode cX11_junes 80 = .ok (.invokevirtual 198, 3) := by decide +kernel
theorem dX11_junes_83 : decode cX11_junes 83 = .ok (.iload_n 3, 1) := by decide +kernel
theorem dX11_junes_84 : decode cX11_junes 84 = .ok (.tableswitch 60 0 2 #[28, 36, 52], 28) := by decide +kernel
theorem dX11_junes_112 : decode cX11_junes 112 = .ok (.aload_n 0, 1) := by decide +kernel
theorem dX11_junes_113 : decode cX11_junes 113 = .ok (.getfield 50, 3) := by decide +kernel
theorem dX11_junes_116 : decode cX11_junes 116 = .ok (.getfield 202, 3) := by decide +kernel
theorem dX11_junes_119 : decode cX11_junes 119 = .ok (.ireturn, 1) := by decide +kernel
theorem dX11_junes_120 : decode cX11_junes 120 = .ok (.aload_n 0, 1) := by decide +kernel
theorem dX11_junes_121 : decode cX11_junes 121 = .ok (.getfield 50, 3) := by decide +kernel
theorem dX11_junes_124 : decode cX11_junes 124 = .ok (.aload_n 0, 1) := by decide +kernel
theorem dX11_junes_125 : decode cX11_junes 125 = .ok (.getfield 63, 3) := by decide +kernel
theorem dX11_junes_128 : decode cX11_junes 128 = .ok (.aload_n 0, 1) := by decide +kernel
theorem dX11_junes_129 : decode cX11_junes 129 = .ok (.getfield 15, 3) := by decide +kernel
theorem dX11_junes_132 : decode cX11_junes 132 = .ok (.invokevirtual 205, 3) := by decide +kernel
theorem dX11_junes_135 : decode cX11_junes 135 = .ok (.ireturn, 1) := by decide +kernel
theorem dX11_junes_136 : decode cX11_junes 136 = .ok (.aload_n 0, 1) := by decide +kernel
theorem dX11_junes_137 : decode cX11_junes 137 = .ok (.getfield 50, 3) := by decide +kernel
theorem dX11_junes_140 : decode cX11_junes 140 = .ok (.getfield 209, 3) := by decide +kernel
theorem dX11_junes_143 : decode cX11_junes 143 = .ok (.ireturn, 1) := by decide +kernel
theorem dX11_junes_144 : decode cX11_junes 144 = .ok (.aload_n 0, 1) := by decide +kernel
theorem dX11_junes_145 : decode cX11_junes 145 = .ok (.getfield 50, 3) := by decide +kernel
theorem dX11_junes_148 : decode cX11_junes 148 = .ok (.getfield 210, 3) := by decide +kernel
theorem dX11_junes_151 : decode cX11_junes 151 = .ok (.ireturn, 1) := by decide +kernel
theorem dX11_image_0 : decode cX11_image 0 = .ok (.aload_n 0, 1) := by decide +kernel
theorem dX11_image_1 : decode cX11_image 1 = .ok (.invokevirtual 119, 3) := by decide +kernel
theorem dX11_image_4 : decode cX11_image 4 = .ok (.ifCond .ne 6, 3) := by decide +kernel
theorem dX11_image_7 : decode cX11_image 7 = .ok (.bipush (-103), 2) := by decide +kernel
theorem dX11_image_9 : decode cX11_image 9 = .ok (.ireturn, 1) := by decide +kernel
theorem dX11_image_10 : decode cX11_image 10 = .ok (.aload_n 0, 1) := by decide +kernel
theorem dX11_image_11 : decode cX11_image 11 = .ok (.getfield 29, 3) := by decide +kernel
theorem dX11_image_14 : decode cX11_image 14 = .ok (.aload_n 0, 1) := by decide +kernel
theorem dX11_image_15 : decode cX11_image 15 = .ok (.getfield 15, 3) := by decide +kernel
theorem dX11_image_18 : decode cX11_image 18 = .ok (.aload_n 0, 1) := by decide +kernel
theorem dX11_image_19 : decode cX11_image 19 = .ok (.getfield 126, 3) := by decide +kernel
theorem dX11_image_22 : decode cX11_image 22 = .ok (.invokevirtual 213, 3) := by decide +kernel
theorem dX11_image_25 : decode cX11_image 25 = .ok (.aload_n 0, 1) := by decide +kernel
theorem dX11_image_26 : decode cX11_image 26 = .ok (.getfield 29, 3) := by decide +kernel
theorem dX11_image_29 : decode cX11_image 29 = .ok (.aload_n 0, 1) := by decide +kernel
theorem dX11_image_30 : decode cX11_image 30 = .ok (.getfield 106, 3) := by decide +kernel
theorem dX11_image_33 : decode cX11_image 33 = .ok (.putfield 217, 3) := by decide +kernel
theorem dX11_image_36 : decode cX11_image 36 = .ok (.aload_n 0, 1) := by decide +kernel
theorem dX11_image_37 : decode cX11_image 37 = .ok (.getfield 29, 3) := by decide +kernel
theorem dX11_image_40 : decode cX11_image 40 = .ok (.aload_n 0, 1) := by decide +kernel
theorem dX11_image_41 : decode cX11_image 41 = .ok (.getfield 59, 3) := by decide +kernel
theorem dX11_image_44 : decode cX11_image 44 = .ok (.getfield 123, 3) := by decide +kernel
theorem dX11_image_47 : decode cX11_image 47 = .ok (.putfield 218, 3) := by decide +kernel
theorem dX11_image_50 : decode cX11_image 50 = .ok (.aload_n 0, 1) := by decide +kernel
theorem dX11_image_51 : decode cX11_image 51 = .ok (.getfield 29, 3) := by decide +kernel
theorem dX11_image_54 : decode cX11_image 54 = .ok (.getfield 219, 3) := by decide +kernel
theorem dX11_image_57 : decode cX11_image 57 = .ok (.aload_n 0, 1) := by decide +kernel
theorem dX11_image_58 : decode cX11_image 58 = .ok (.getfield 22, 3) := by decide +kernel
theorem dX11_image_61 : decode cX11_image 61 = .ok (.invokevirtual 220, 3) := by decide +kernel
theorem dX11_image_64 : decode cX11_image 64 = .ok (.aload_n 0, 1) := by decide +kernel
theorem dX11_image_65 : decode cX11_image 65 = .ok (.getfield 106, 3) := by decide +kernel
theorem dX11_image_68 : decode cX11_image 68 = .ok (.ireturn, 1) := by decide +kernel
theorem dX11_restore_0 : decode cX11_restore 0 = .ok (.aload_n 0, 1) := by decide +kernel
theorem dX11_restore_1 : decode cX11_restore 1 = .ok (.getfield 29, 3) := by decide +kernel
theorem dX11_restore_4 : decode cX11_restore 4 = .ok (.getfield 224, 3) := by decide +kernel
theorem dX11_restore_7 : decode cX11_restore 7 = .ok (.ifCond .ne 6, 3) := by decide +kernel
theorem dX11_restore_10 : decode cX11_restore 10 = .ok (.bipush (-103), 2) := by decide +kernel
theorem dX11_restore_12 : decode cX11_restore 12 = .ok (.ireturn, 1) := by decide +kernel
theorem dX11_restore_13 : decode cX11_restore 13 = .ok (.aload_n 0, 1) := by decide +kernel
theorem dX11_restore_14 : decode cX11_restore 14 = .ok (.getfield 29, 3) := by decide +kernel
theorem dX11_restore_17 : decode cX11_restore 17 = .ok (.aload_n 0, 1) := by decide +kernel
theorem dX11_restore_18 : decode cX11_restore 18 = .ok (.getfield 15, 3) := by decide +kernel
theorem dX11_restore_21 : decode cX11_restore 21 = .ok (.invokevirtual 228, 3) := by decide +kernel
theorem dX11_restore_24 : decode cX11_restore 24 = .ok (.aload_n 0, 1) := by decide +kernel
theorem dX11_restore_25 : decode cX11_restore 25 = .ok (.aload_n 0, 1) := by decide +kernel
theorem dX11_restore_26 : decode cX11_restore 26 = .ok (.getfield 29, 3) := by decide +kernel
theorem dX11_restore_29 : decode cX11_restore 29 = .ok (.getfield 232, 3) := by decide +kernel
theorem dX11_restore_32 : decode cX11_restore 32 = .ok (.putfield 126, 3) := by decide +kernel
theorem dX11_restore_35 : decode cX11_restore 35 = .ok (.aload_n 0, 1) := by decide +kernel
theorem dX11_restore_36 : decode cX11_restore 36 = .ok (.aload_n 0, 1) := by decide +kernel
theorem dX11_restore_37 : decode cX11_restore 37 = .ok (.getfield 29, 3) := by decide +kernel
theorem dX11_restore_40 : decode cX11_restore 40 = .ok (.getfield 217, 3) := by decide +kernel
theorem dX11_restore_43 : decode cX11_restore 43 = .ok (.putfield 106, 3) := by decide +kernel
theorem dX11_restore_46 : decode cX11_restore 46 = .ok (.aload_n 0, 1) := by decide +kernel
theorem dX11_restore_47 : decode cX11_restore 47 = .ok (.getfield 59, 3) := by decide +kernel
theorem dX11_restore_50 : decode cX11_restore 50 = .ok (.aload_n 0, 1) := by decide +kernel
theorem dX11_restore_51 : decode cX11_restore 51 = .ok (.getfield 29, 3) := by decide +kernel
theorem dX11_restore_54 : decode cX11_restore 54 = .ok (.getfield 218, 3) := by decide +kernel
theorem dX11_restore_57 : decode cX11_restore 57 = .ok (.putfield 123, 3) := by decide +kernel
theorem dX11_restore_60 : decode cX11_restore 60 = .ok (.aload_n 0, 1) := by decide +kernel
theorem dX11_restore_61 : decode cX11_restore 61 = .ok (.getfield 22, 3) := by decide +kernel
theorem dX11_restore_64 : decode cX11_restore 64 = .ok (.aload_n 0, 1) := by decide +kernel
theorem dX11_restore_65 : decode cX11_restore 65 = .ok (.getfield 29, 3) := by decide +kernel
theorem dX11_restore_68 : decode cX11_restore 68 = .ok (.getfield 219, 3) := by decide +kernel
theorem dX11_restore_71 : decode cX11_restore 71 = .ok (.invokevirtual 220, 3) := by decide +kernel
theorem dX11_restore_74 : decode cX11_restore 74 = .ok (.aload_n 0, 1) := by decide +kernel
theorem dX11_restore_75 : decode cX11_restore 75 = .ok (.getfield 106, 3) := by decide +kernel
theorem dX11_restore_78 : decode cX11_restore 78 = .ok (.ireturn, 1) := by decide +kernel
theorem dX11_count_0 : decode cX11_count 0 = .ok (.iload_n 1, 1) := by decide +kernel
theorem dX11_count_1 : decode cX11_count 1 = .ok (.tableswitch 105 0 8 #[51, 59, 64, 69, 74, 79, 87, 95, 100], 51) := by decide +kernel
theorem dX11_count_52 : decode cX11_count 52 = .ok (.aload_n 0, 1) := by decide +kernel
theorem dX11_count_53 : decode cX11_count 53 = .ok (.getfield 59, 3) := by decide +kernel
theorem dX11_count_56 : decode cX11_count 56 = .ok (.getfield 96, 3) := by decide +kernel
theorem dX11_count_59 : decode cX11_count 59 = .ok (.ireturn, 1) := by decide +kernel
theorem dX11_count_60 : decode cX11_count 60 = .ok (.aload_n 0, 1) := by decide +kernel
theorem dX11_count_61 : decode cX11_count 61 = .ok (.invokevirtual 233, 3) := by decide +kernel
theorem dX11_count_64 : decode cX11_count 64 = .ok (.ireturn, 1) := by decide +kernel
theorem dX11_count_65 : decode cX11_count 65 = .ok (.aload_n 0, 1) := by decide +kernel
theorem dX11_count_66 : decode cX11_count 66 = .ok (.getfield 126, 3) := by decide +kernel
theorem dX11_count_69 : decode cX11_count 69 = .ok (.ireturn, 1) := by decide +kernel
theorem dX11_count_70 : decode cX11_count 70 = .ok (.aload_n 0, 1) := by decide +kernel
theorem dX11_count_71 : decode cX11_count 71 = .ok (.invokevirtual 236, 3) := by decide +kernel
theorem dX11_count_74 : decode cX11_count 74 = .ok (.ireturn, 1) := by decide +kernel
theorem dX11_count_75 : decode cX11_count 75 = .ok (.aload_n 0, 1) := by decide +kernel
theorem dX11_count_76 : decode cX11_count 76 = .ok (.getfield 106, 3) := by decide +kernel
theorem dX11_count_79 : decode cX11_count 79 = .ok (.ireturn, 1) := by decide +kernel
theorem dX11_count_80 : decode cX11_count 80 = .ok (.aload_n 0, 1) := by decide +kernel
theorem dX11_count_81 : decode cX11_count 81 = .ok (.getfield 59, 3) := by decide +kernel
theorem dX11_count_84 : decode cX11_count 84 = .ok (.getfield 123, 3) := by decide +kernel
theorem dX11_count_87 : decode cX11_count 87 = .ok (.ireturn, 1) := by decide +kernel
theorem dX11_count_88 : decode cX11_count 88 = .ok (.aload_n 0, 1) := by decide +kernel
theorem dX11_count_89 : decode cX11_count 89 = .ok (.getfield 22, 3) := by decide +kernel
theorem dX11_count_92 : decode cX11_count 92 = .ok (.getfield 189, 3) := by decide +kernel
theorem dX11_count_95 : decode cX11_count 95 = .ok (.ireturn, 1) := by decide +kernel
theorem dX11_count_96 : decode cX11_count 96 = .ok (.aload_n 0, 1) := by decide +kernel
theorem dX11_count_97 : decode cX11_count 97 = .ok (.getfield 66, 3) := by decide +kernel
theorem dX11_count_100 : decode cX11_count 100 = .ok (.ireturn, 1) := by decide +kernel
theorem dX11_count_101 : decode cX11_count 101 = .ok (.aload_n 0, 1) := by decide +kernel
theorem dX11_count_102 : decode cX11_count 102 = .ok (.getfield 99, 3) := by decide +kernel
theorem dX11_count_105 : decode cX11_count 105 = .ok (.ireturn, 1) := by decide +kernel
theorem dX11_count_106 : decode cX11_count 106 = .ok (.bipush (-102), 2) := by decide +kernel
theorem dX11_count_108 : decode cX11_count 108 = .ok (.ireturn, 1) := by decide +kernel
theorem dX11_digest_0 : decode cX11_digest 0 = .ok (.ldc2_w 239, 3) := by decide +kernel
theorem dX11_digest_3 : decode cX11_digest 3 = .ok (.lstore_n 1, 1) := by decide +kernel
theorem dX11_digest_4 : decode cX11_digest 4 = .ok (.aload_n 0, 1) := by decide +kernel
theorem dX11_digest_5 : decode cX11_digest 5 = .ok (.invokevirtual 119, 3) := by decide +kernel
theorem dX11_digest_8 : decode cX11_digest 8 = .ok (.ifCond .eq 9, 3) := by decide +kernel
theorem dX11_digest_11 : decode cX11_digest 11 = .ok (.aload_n 0, 1) := by decide +kernel
theorem dX11_digest_12 : decode cX11_digest 12 = .ok (.lload_n 1, 1) := by decide +kernel
theorem dX11_digest_13 : decode cX11_digest 13 = .ok (.invokevirtual 241, 3) := by decide +kernel
theorem dX11_digest_16 : decode cX11_digest 16 = .ok (.lstore_n 1, 1) := by decide +kernel
theorem dX11_digest_17 : decode cX11_digest 17 = .ok (.iconst 0, 1) := by decide +kernel
theorem dX11_digest_18 : decode cX11_digest 18 = .ok (.istore_n 3, 1) := by decide +kernel
theorem dX11_digest_19 : decode cX11_digest 19 = .ok (.iload_n 3, 1) := by decide +kernel
theorem dX11_digest_20 : decode cX11_digest 20 = .ok (.aload_n 0, 1) := by decide +kernel
theorem dX11_digest_21 : decode cX11_digest 21 = .ok (.getfield 15, 3) := by decide +kernel
theorem dX11_digest_24 : decode cX11_digest 24 = .ok (.arraylength, 1) := by decide +kernel
theorem dX11_digest_25 : decode cX11_digest 25 = .ok (.if_icmp .ge 31, 3) := by decide +kernel
theorem dX11_digest_28 : decode cX11_digest 28 = .ok (.aload_n 0, 1) := by decide +kernel
theorem dX11_digest_29 : decode cX11_digest 29 = .ok (.getfield 15, 3) := by decide +kernel
theorem dX11_digest_32 : decode cX11_digest 32 = .ok (.iload_n 3, 1) := by decide +kernel
theorem dX11_digest_33 : decode cX11_digest 33 = .ok (.aaload, 1) := by decide +kernel
theorem dX11_digest_34 : decode cX11_digest 34 = .ok (.astore 4, 2) := by decide +kernel
theorem dX11_digest_36 : decode cX11_digest 36 = .ok (.aload 4, 2) := by decide +kernel
theorem dX11_digest_38 : decode cX11_digest 38 = .ok (.ifnull 12, 3) := by decide +kernel
theorem dX11_digest_41 : decode cX11_digest 41 = .ok (.aload_n 0, 1) := by decide +kernel
theorem dX11_digest_42 : decode cX11_digest 42 = .ok (.lload_n 1, 1) := by decide +kernel
theorem dX11_digest_43 : decode cX11_digest 43 = .ok (.aload 4, 2) := by decide +kernel
theorem dX11_digest_45 : decode cX11_digest 45 = .ok (.iload_n 3, 1) := by decide +kernel
theorem dX11_digest_46 : decode cX11_digest 46 = .ok (.invokevirtual 245, 3) := by decide +kernel
theorem dX11_digest_49 : decode cX11_digest 49 = .ok (.lstore_n 1, 1) := by decide +kernel
theorem dX11_digest_50 : decode cX11_digest 50 = .ok (.iinc 3 1, 3) := by decide +kernel
theorem dX11_digest_53 : decode cX11_digest 53 = .ok (.goto (-34), 3) := by decide +kernel
theorem dX11_digest_56 : decode cX11_digest 56 = .ok (.iconst 0, 1) := by decide +kernel
theorem dX11_digest_57 : decode cX11_digest 57 = .ok (.istore_n 3, 1) := by decide +kernel
theorem dX11_digest_58 : decode cX11_digest 58 = .ok (.iload_n 3, 1) := by decide +kernel
theorem dX11_digest_59 : decode cX11_digest 59 = .ok (.aload_n 0, 1) := by decide +kernel
theorem dX11_digest_60 : decode cX11_digest 60 = .ok (.getfield 66, 3) := by decide +kernel
theorem dX11_digest_63 : decode cX11_digest 63 = .ok (.if_icmp .ge 32, 3) := by decide +kernel
theorem dX11_digest_66 : decode cX11_digest 66 = .ok (.iload_n 3, 1) := by decide +kernel
theorem dX11_digest_67 : decode cX11_digest 67 = .ok (.aload_n 0, 1) := by decide +kernel
theorem dX11_digest_68 : decode cX11_digest 68 = .ok (.getfield 9, 3) := by decide +kernel
theorem dX11_digest_71 : decode cX11_digest 71 = .ok (.arraylength, 1) := by decide +kernel
theorem dX11_digest_72 : decode cX11_digest 72 = .ok (.if_icmp .ge 23, 3) := by decide +kernel
theorem dX11_digest_75 : decode cX11_digest 75 = .ok (.ldc2_w 249, 3) := by decide +kernel
theorem dX11_digest_78 : decode cX11_digest 78 = .ok (.lload_n 1, 1) := by decide +kernel
theorem dX11_digest_79 : decode cX11_digest 79 = .ok (.lmul, 1) := by decide +kernel
theorem dX11_digest_80 : decode cX11_digest 80 = .ok (.aload_n 0, 1) := by decide +kernel
theorem dX11_digest_81 : decode cX11_digest 81 = .ok (.getfield 9, 3) := by decide +kernel
theorem dX11_digest_84 : decode cX11_digest 84 = .ok (.iload_n 3, 1) := by decide +kernel
theorem dX11_digest_85 : decode cX11_digest 85 = .ok (.iaload, 1) := by decide +kernel
theorem dX11_digest_86 : decode cX11_digest 86 = .ok (.i2l, 1) := by decide +kernel
theorem dX11_digest_87 : decode cX11_digest 87 = .ok (.ladd, 1) := by decide +kernel
theorem dX11_digest_88 : decode cX11_digest 88 = .ok (.lstore_n 1, 1) := by decide +kernel
theorem dX11_digest_89 : decode cX11_digest 89 = .ok (.iinc 3 1, 3) := by decide +kernel
theorem dX11_digest_92 : decode cX11_digest 92 = .ok (.goto (-34), 3) := by decide +kernel
theorem dX11_digest_95 : decode cX11_digest 95 = .ok (.iconst 0, 1) := by decide +kernel
theorem dX11_digest_96 : decode cX11_digest 96 = .ok (.istore_n 3, 1) := by decide +kernel
theorem dX11_digest_97 : decode cX11_digest 97 = .ok (.iload_n 3, 1) := by decide +kernel
theorem dX11_digest_98 : decode cX11_digest 98 = .ok (.bipush 9, 2) := by decide +kernel
theorem dX11_digest_100 : decode cX11_digest 100 = .ok (.if_icmp .ge 22, 3) := by decide +kernel
theorem dX11_digest_103 : decode cX11_digest 103 = .ok (.ldc2_w 249, 3) := by decide +kernel
theorem dX11_digest_106 : decode cX11_digest 106 = .ok (.lload_n 1, 1) := by decide +kernel
theorem dX11_digest_107 : decode cX11_digest 107 = .ok (.lmul, 1) := by decide +kernel
theorem dX11_digest_108 : decode cX11_digest 108 = .ok (.aload_n 0, 1) := by decide +kernel
theorem dX11_digest_109 : decode cX11_digest 109 = .ok (.iload_n 3, 1) := by decide +kernel
theorem dX11_digest_110 : decode cX11_digest 110 = .ok (.invokevirtual 251, 3) := by decide +kernel
theorem dX11_digest_113 : decode cX11_digest 113 = .ok (.i2l, 1) := by decide +kernel
theorem dX11_digest_114 : decode cX11_digest 114 = .ok (.ladd, 1) := by decide +kernel
theorem dX11_digest_115 : decode cX11_digest 115 = .ok (.lstore_n 1, 1) := by decide +kernel
theorem dX11_digest_116 : decode cX11_digest 116 = .ok (.iinc 3 1, 3) := by decide +kernel
theorem dX11_digest_119 : decode cX11_digest 119 = .ok (.goto (-22), 3) := by decide +kernel
theorem dX11_digest_122 : decode cX11_digest 122 = .ok (.lload_n 1, 1) := by decide +kernel
theorem dX11_digest_123 : decode cX11_digest 123 = .ok (.lreturn, 1) := by decide +kernel
theorem dX11_digestOfCells_0 : decode cX11_digestOfCells 0 = .ok (.lload_n 1, 1) := by decide +kernel
theorem dX11_digestOfCells_1 : decode cX11_digestOfCells 1 = .ok (.lstore_n 3, 1) := by decide +kernel
theorem dX11_digestOfCells_2 : decode cX11_digestOfCells 2 = .ok (.iconst 0, 1) := by decide +kernel
theorem dX11_digestOfCells_3 : decode cX11_digestOfCells 3 = .ok (.istore 5, 2) := by decide +kernel
theorem dX11_digestOfCells_5 : decode cX11_digestOfCells 5 = .ok (.iload 5, 2) := by decide +kernel
theorem dX11_digestOfCells_7 : decode cX11_digestOfCells 7 = .ok (.bipush 12, 2) := by decide +kernel
theorem dX11_digestOfCells_9 : decode cX11_digestOfCells 9 = .ok (.if_icmp .ge 40, 3) := by decide +kernel
theorem dX11_digestOfCells_12 : decode cX11_digestOfCells 12 = .ok (.iconst 0, 1) := by decide +kernel
theorem dX11_digestOfCells_13 : decode cX11_digestOfCells 13 = .ok (.istore 6, 2) := by decide +kernel
theorem dX11_digestOfCells_15 : decode cX11_digestOfCells 15 = .ok (.iload 6, 2) := by decide +kernel
theorem dX11_digestOfCells_17 : decode cX11_digestOfCells 17 = .ok (.iconst 3, 1) := by decide +kernel
theorem dX11_digestOfCells_18 : decode cX11_digestOfCells 18 = .ok (.if_icmp .gt 25, 3) := by decide +kernel
theorem dX11_digestOfCells_21 : decode cX11_digestOfCells 21 = .ok (.ldc2_w 249, 3) := by decide +kernel
theorem dX11_digestOfCells_24 : decode cX11_digestOfCells 24 = .ok (.lload_n 3, 1) := by decide +kernel
theorem dX11_digestOfCells_25 : decode cX11_digestOfCells 25 = .ok (.lmul, 1) := by decide +kernel
theorem dX11_digestOfCells_26 : decode cX11_digestOfCells 26 = .ok (.aload_n 0, 1) := by decide +kernel
theorem dX11_digestOfCells_27 : decode cX11_digestOfCells 27 = .ok (.iload 5, 2) := by decide +kernel
theorem dX11_digestOfCells_29 : decode cX11_digestOfCells 29 = .ok (.iload 6, 2) := by decide +kernel
theorem dX11_digestOfCells_31 : decode cX11_digestOfCells 31 = .ok (.invokevirtual 254, 3) := by decide +kernel
theorem dX11_digestOfCells_34 : decode cX11_digestOfCells 34 = .ok (.i2l, 1) := by decide +kernel
theorem dX11_digestOfCells_35 : decode cX11_digestOfCells 35 = .ok (.ladd, 1) := by decide +kernel
theorem dX11_digestOfCells_36 : decode cX11_digestOfCells 36 = .ok (.lstore_n 3, 1) := by decide +kernel
theorem dX11_digestOfCells_37 : decode cX11_digestOfCells 37 = .ok (.iinc 6 1, 3) := by decide +kernel
theorem dX11_digestOfCells_40 : decode cX11_digestOfCells 40 = .ok (.goto (-25), 3) := by decide +kernel
theorem dX11_digestOfCells_43 : decode cX11_digestOfCells 43 = .ok (.iinc 5 1, 3) := by decide +kernel
theorem dX11_digestOfCells_46 : decode cX11_digestOfCells 46 = .ok (.goto (-41), 3) := by decide +kernel
theorem dX11_digestOfCells_49 : decode cX11_digestOfCells 49 = .ok (.lload_n 3, 1) := by decide +kernel
theorem dX11_digestOfCells_50 : decode cX11_digestOfCells 50 = .ok (.lreturn, 1) := by decide +kernel
theorem dX11_digestOfHull_0 : decode cX11_digestOfHull 0 = .ok (.lload_n 1, 1) := by decide +kernel
theorem dX11_digestOfHull_1 : decode cX11_digestOfHull 1 = .ok (.lstore 5, 2) := by decide +kernel
theorem dX11_digestOfHull_3 : decode cX11_digestOfHull 3 = .ok (.iconst 0, 1) := by decide +kernel
theorem dX11_digestOfHull_4 : decode cX11_digestOfHull 4 = .ok (.istore 7, 2) := by decide +kernel
theorem dX11_digestOfHull_6 : decode cX11_digestOfHull 6 = .ok (.iload 7, 2) := by decide +kernel
theorem dX11_digestOfHull_8 : decode cX11_digestOfHull 8 = .ok (.iconst 4, 1) := by decide +kernel
theorem dX11_digestOfHull_9 : decode cX11_digestOfHull 9 = .ok (.if_icmp .gt 27, 3) := by decide +kernel
theorem dX11_digestOfHull_12 : decode cX11_digestOfHull 12 = .ok (.ldc2_w 249, 3) := by decide +kernel
theorem dX11_digestOfHull_15 : decode cX11_digestOfHull 15 = .ok (.lload 5, 2) := by decide +kernel
theorem dX11_digestOfHull_17 : decode cX11_digestOfHull 17 = .ok (.lmul, 1) := by decide +kernel
theorem dX11_digestOfHull_18 : decode cX11_digestOfHull 18 = .ok (.aload_n 0, 1) := by decide +kernel
theorem dX11_digestOfHull_19 : decode cX11_digestOfHull 19 = .ok (.iload 4, 2) := by decide +kernel
theorem dX11_digestOfHull_21 : decode cX11_digestOfHull 21 = .ok (.iload 7, 2) := by decide +kernel
theorem dX11_digestOfHull_23 : decode cX11_digestOfHull 23 = .ok (.invokevirtual 256, 3) := by decide +kernel
theorem dX11_digestOfHull_26 : decode cX11_digestOfHull 26 = .ok (.i2l, 1) := by decide +kernel
theorem dX11_digestOfHull_27 : decode cX11_digestOfHull 27 = .ok (.ladd, 1) := by decide +kernel
theorem dX11_digestOfHull_28 : decode cX11_digestOfHull 28 = .ok (.lstore 5, 2) := by decide +kernel
theorem dX11_digestOfHull_30 : decode cX11_digestOfHull 30 = .ok (.iinc 7 1, 3) := by decide +kernel
theorem dX11_digestOfHull_33 : decode cX11_digestOfHull 33 = .ok (.goto (-27), 3) := by decide +kernel
theorem dX11_digestOfHull_36 : decode cX11_digestOfHull 36 = .ok (.bipush 10, 2) := by decide +kernel
theorem dX11_digestOfHull_38 : decode cX11_digestOfHull 38 = .ok (.istore 7, 2) := by decide +kernel
theorem dX11_digestOfHull_40 : decode cX11_digestOfHull 40 = .ok (.iload 7, 2) := by decide +kernel
theorem dX11_digestOfHull_42 : decode cX11_digestOfHull 42 = .ok (.bipush 13, 2) := by decide +kernel
theorem dX11_digestOfHull_44 : decode cX11_digestOfHull 44 = .ok (.if_icmp .gt 27, 3) := by decide +kernel
theorem dX11_digestOfHull_47 : decode cX11_digestOfHull 47 = .ok (.ldc2_w 249, 3) := by decide +kernel
theorem dX11_digestOfHull_50 : decode cX11_digestOfHull 50 = .ok (.lload 5, 2) := by decide +kernel
theorem dX11_digestOfHull_52 : decode cX11_digestOfHull 52 = .ok (.lmul, 1) := by decide +kernel
theorem dX11_digestOfHull_53 : decode cX11_digestOfHull 53 = .ok (.aload_n 0, 1) := by decide +kernel
theorem dX11_digestOfHull_54 : decode cX11_digestOfHull 54 = .ok (.iload 4, 2) := by decide +kernel
theorem dX11_digestOfHull_56 : decode cX11_digestOfHull 56 = .ok (.iload 7, 2) := by decide +kernel
theorem dX11_digestOfHull_58 : decode cX11_digestOfHull 58 = .ok (.invokevirtual 256, 3) := by decide +kernel
theorem dX11_digestOfHull_61 : decode cX11_digestOfHull 61 = .ok (.i2l, 1) := by decide +kernel
theorem dX11_digestOfHull_62 : decode cX11_digestOfHull 62 = .ok (.ladd, 1) := by decide +kernel
theorem dX11_digestOfHull_63 : decode cX11_digestOfHull 63 = .ok (.lstore 5, 2) := by decide +kernel
theorem dX11_digestOfHull_65 : decode cX11_digestOfHull 65 = .ok (.iinc 7 1, 3) := by decide +kernel
theorem dX11_digestOfHull_68 : decode cX11_digestOfHull 68 = .ok (.goto (-28), 3) := by decide +kernel
theorem dX11_digestOfHull_71 : decode cX11_digestOfHull 71 = .ok (.aload_n 0, 1) := by decide +kernel
theorem dX11_digestOfHull_72 : decode cX11_digestOfHull 72 = .ok (.getfield 36, 3) := by decide +kernel
theorem dX11_digestOfHull_75 : decode cX11_digestOfHull 75 = .ok (.aload_n 0, 1) := by decide +kernel
theorem dX11_digestOfHull_76 : decode cX11_digestOfHull 76 = .ok (.getfield 59, 3) := by decide +kernel
theorem dX11_digestOfHull_79 : decode cX11_digestOfHull 79 = .ok (.aload_n 3, 1) := by decide +kernel
theorem dX11_digestOfHull_80 : decode cX11_digestOfHull 80 = .ok (.aload_n 3, 1) := by decide +kernel
theorem dX11_digestOfHull_81 : decode cX11_digestOfHull 81 = .ok (.getfield 143, 3) := by decide +kernel
theorem dX11_digestOfHull_84 : decode cX11_digestOfHull 84 = .ok (.aload_n 0, 1) := by decide +kernel
theorem dX11_digestOfHull_85 : decode cX11_digestOfHull 85 = .ok (.getfield 106, 3) := by decide +kernel
theorem dX11_digestOfHull_88 : decode cX11_digestOfHull 88 = .ok (.invokevirtual 164, 3) := by decide +kernel
theorem dX11_digestOfHull_91 : decode cX11_digestOfHull 91 = .ok (.iconst 0, 1) := by decide +kernel
theorem dX11_digestOfHull_92 : decode cX11_digestOfHull 92 = .ok (.istore 7, 2) := by decide +kernel
theorem dX11_digestOfHull_94 : decode cX11_digestOfHull 94 = .ok (.iload 7, 2) := by decide +kernel
theorem dX11_digestOfHull_96 : decode cX11_digestOfHull 96 = .ok (.bipush 12, 2) := by decide +kernel
theorem dX11_digestOfHull_98 : decode cX11_digestOfHull 98 = .ok (.if_icmp .ge 28, 3) := by decide +kernel
theorem dX11_digestOfHull_101 : decode cX11_digestOfHull 101 = .ok (.ldc2_w 249, 3) := by decide +kernel
theorem dX11_digestOfHull_104 : decode cX11_digestOfHull 104 = .ok (.lload 5, 2) := by decide +kernel
theorem dX11_digestOfHull_106 : decode cX11_digestOfHull 106 = .ok (.lmul, 1) := by decide +kernel
theorem dX11_digestOfHull_107 : decode cX11_digestOfHull 107 = .ok (.aload_n 0, 1) := by decide +kernel
theorem dX11_digestOfHull_108 : decode cX11_digestOfHull 108 = .ok (.getfield 36, 3) := by decide +kernel
theorem dX11_digestOfHull_111 : decode cX11_digestOfHull 111 = .ok (.iload 7, 2) := by decide +kernel
theorem dX11_digestOfHull_113 : decode cX11_digestOfHull 113 = .ok (.invokevirtual 168, 3) := by decide +kernel
theorem dX11_digestOfHull_116 : decode cX11_digestOfHull 116 = .ok (.i2l, 1) := by decide +kernel
theorem dX11_digestOfHull_117 : decode cX11_digestOfHull 117 = .ok (.ladd, 1) := by decide +kernel
theorem dX11_digestOfHull_118 : decode cX11_digestOfHull 118 = .ok (.lstore 5, 2) := by decide +kernel
theorem dX11_digestOfHull_120 : decode cX11_digestOfHull 120 = .ok (.iinc 7 1, 3) := by decide +kernel
theorem dX11_digestOfHull_123 : decode cX11_digestOfHull 123 = .ok (.goto (-29), 3) := by decide +kernel
theorem dX11_digestOfHull_126 : decode cX11_digestOfHull 126 = .ok (.ldc2_w 249, 3) := by decide +kernel
theorem dX11_digestOfHull_129 : decode cX11_digestOfHull 129 = .ok (.lload 5, 2) := by decide +kernel
theorem dX11_digestOfHull_131 : decode cX11_digestOfHull 131 = .ok (.lmul, 1) := by decide +kernel
theorem dX11_digestOfHull_132 : decode cX11_digestOfHull 132 = .ok (.aload_n 0, 1) := by decide +kernel
theorem dX11_digestOfHull_133 : decode cX11_digestOfHull 133 = .ok (.getfield 22, 3) := by decide +kernel
theorem dX11_digestOfHull_136 : decode cX11_digestOfHull 136 = .ok (.aload_n 0, 1) := by decide +kernel
theorem dX11_digestOfHull_137 : decode cX11_digestOfHull 137 = .ok (.getfield 59, 3) := by decide +kernel
theorem dX11_digestOfHull_140 : decode cX11_digestOfHull 140 = .ok (.aload_n 3, 1) := by decide +kernel
theorem dX11_digestOfHull_141 : decode cX11_digestOfHull 141 = .ok (.iload 4, 2) := by decide +kernel
theorem dX11_digestOfHull_143 : decode cX11_digestOfHull 143 = .ok (.invokevirtual 190, 3) := by decide +kernel
theorem dX11_digestOfHull_146 : decode cX11_digestOfHull 146 = .ok (.i2l, 1) := by decide +kernel
theorem dX11_digestOfHull_147 : decode cX11_digestOfHull 147 = .ok (.ladd, 1) := by decide +kernel
theorem dX11_digestOfHull_148 : decode cX11_digestOfHull 148 = .ok (.lreturn, 1) := by decide +kernel
theorem dX11_forgetAll_0 : decode cX11_forgetAll 0 = .ok (.iconst 0, 1) := by decide +kernel
theorem dX11_forgetAll_1 : decode cX11_forgetAll 1 = .ok (.istore_n 1, 1) := by decide +kernel
theorem dX11_forgetAll_2 : decode cX11_forgetAll 2 = .ok (.iload_n 1, 1) := by decide +kernel
theorem dX11_forgetAll_3 : decode cX11_forgetAll 3 = .ok (.aload_n 0, 1) := by decide +kernel
theorem dX11_forgetAll_4 : decode cX11_forgetAll 4 = .ok (.getfield 15, 3) := by decide +kernel
theorem dX11_forgetAll_7 : decode cX11_forgetAll 7 = .ok (.arraylength, 1) := by decide +kernel
theorem dX11_forgetAll_8 : decode cX11_forgetAll 8 = .ok (.if_icmp .ge 16, 3) := by decide +kernel
theorem dX11_forgetAll_11 : decode cX11_forgetAll 11 = .ok (.aload_n 0, 1) := by decide +kernel
theorem dX11_forgetAll_12 : decode cX11_forgetAll 12 = .ok (.getfield 15, 3) := by decide +kernel
theorem dX11_forgetAll_15 : decode cX11_forgetAll 15 = .ok (.iload_n 1, 1) := by decide +kernel
theorem dX11_forgetAll_16 : decode cX11_forgetAll 16 = .ok (.aconst_null, 1) := by decide +kernel
theorem dX11_forgetAll_17 : decode cX11_forgetAll 17 = .ok (.aastore, 1) := by decide +kernel
theorem dX11_forgetAll_18 : decode cX11_forgetAll 18 = .ok (.iinc 1 1, 3) := by decide +kernel
theorem dX11_forgetAll_21 : decode cX11_forgetAll 21 = .ok (.goto (-19), 3) := by decide +kernel
theorem dX11_forgetAll_24 : decode cX11_forgetAll 24 = .ok (.aload_n 0, 1) := by decide +kernel
theorem dX11_forgetAll_25 : decode cX11_forgetAll 25 = .ok (.iconst 0, 1) := by decide +kernel
theorem dX11_forgetAll_26 : decode cX11_forgetAll 26 = .ok (.putfield 126, 3) := by decide +kernel
theorem dX11_forgetAll_29 : decode cX11_forgetAll 29 = .ok (.aload_n 0, 1) := by decide +kernel
theorem dX11_forgetAll_30 : decode cX11_forgetAll 30 = .ok (.iconst 0, 1) := by decide +kernel
theorem dX11_forgetAll_31 : decode cX11_forgetAll 31 = .ok (.putfield 106, 3) := by decide +kernel
theorem dX11_forgetAll_34 : decode cX11_forgetAll 34 = .ok (.aload_n 0, 1) := by decide +kernel
theorem dX11_forgetAll_35 : decode cX11_forgetAll 35 = .ok (.getfield 59, 3) := by decide +kernel
theorem dX11_forgetAll_38 : decode cX11_forgetAll 38 = .ok (.iconst 4, 1) := by decide +kernel
theorem dX11_forgetAll_39 : decode cX11_forgetAll 39 = .ok (.putfield 123, 3) := by decide +kernel
theorem dX11_forgetAll_42 : decode cX11_forgetAll 42 = .ok (.aload_n 0, 1) := by decide +kernel
theorem dX11_forgetAll_43 : decode cX11_forgetAll 43 = .ok (.getfield 22, 3) := by decide +kernel
theorem dX11_forgetAll_46 : decode cX11_forgetAll 46 = .ok (.iconst 0, 1) := by decide +kernel
theorem dX11_forgetAll_47 : decode cX11_forgetAll 47 = .ok (.putfield 189, 3) := by decide +kernel
theorem dX11_forgetAll_50 : decode cX11_forgetAll 50 = .ok (.aload_n 0, 1) := by decide +kernel
theorem dX11_forgetAll_51 : decode cX11_forgetAll 51 = .ok (.getfield 29, 3) := by decide +kernel
theorem dX11_forgetAll_54 : decode cX11_forgetAll 54 = .ok (.iconst 0, 1) := by decide +kernel
theorem dX11_forgetAll_55 : decode cX11_forgetAll 55 = .ok (.putfield 224, 3) := by decide +kernel
theorem dX11_forgetAll_58 : decode cX11_forgetAll 58 = .ok (.return_, 1) := by decide +kernel
theorem dX11_hasPlain_0 : decode cX11_hasPlain 0 = .ok (.aload_n 0, 1) := by decide +kernel
theorem dX11_hasPlain_1 : decode cX11_hasPlain 1 = .ok (.getfield 59, 3) := by decide +kernel
theorem dX11_hasPlain_4 : decode cX11_hasPlain 4 = .ok (.getfield 96, 3) := by decide +kernel
theorem dX11_hasPlain_7 : decode cX11_hasPlain 7 = .ok (.ifCond .le 7, 3) := by decide +kernel
theorem dX11_hasPlain_10 : decode cX11_hasPlain 10 = .ok (.iconst 1, 1) := by decide +kernel
theorem dX11_hasPlain_11 : decode cX11_hasPlain 11 = .ok (.goto 4, 3) := by decide +kernel
theorem dX11_hasPlain_14 : decode cX11_hasPlain 14 = .ok (.iconst 0, 1) := by decide +kernel
theorem dX11_hasPlain_15 : decode cX11_hasPlain 15 = .ok (.ireturn, 1) := by decide +kernel
theorem dX11_isThere_0 : decode cX11_isThere 0 = .ok (.aload_n 0, 1) := by decide +kernel
theorem dX11_isThere_1 : decode cX11_isThere 1 = .ok (.invokevirtual 119, 3) := by decide +kernel
theorem dX11_isThere_4 : decode cX11_isThere 4 = .ok (.ifCond .eq 14, 3) := by decide +kernel
theorem dX11_isThere_7 : decode cX11_isThere 7 = .ok (.iload_n 1, 1) := by decide +kernel
theorem dX11_isThere_8 : decode cX11_isThere 8 = .ok (.invokestatic 259, 3) := by decide +kernel
theorem dX11_isThere_11 : decode cX11_isThere 11 = .ok (.ifCond .eq 7, 3) := by decide +kernel
theorem dX11_isThere_14 : decode cX11_isThere 14 = .ok (.iconst 1, 1) := by decide +kernel
theorem dX11_isThere_15 : decode cX11_isThere 15 = .ok (.goto 4, 3) := by decide +kernel
theorem dX11_isThere_18 : decode cX11_isThere 18 = .ok (.iconst 0, 1) := by decide +kernel
theorem dX11_isThere_19 : decode cX11_isThere 19 = .ok (.ireturn, 1) := by decide +kernel
theorem dX11_hullNumbered_0 : decode cX11_hullNumbered 0 = .ok (.iload_n 1, 1) := by decide +kernel
theorem dX11_hullNumbered_1 : decode cX11_hullNumbered 1 = .ok (.ifCond .lt 20, 3) := by decide +kernel
theorem dX11_hullNumbered_4 : decode cX11_hullNumbered 4 = .ok (.iload_n 1, 1) := by decide +kernel
theorem dX11_hullNumbered_5 : decode cX11_hullNumbered 5 = .ok (.aload_n 0, 1) := by decide +kernel
theorem dX11_hullNumbered_6 : decode cX11_hullNumbered 6 = .ok (.getfield 126, 3) := by decide +kernel
theorem dX11_hullNumbered_9 : decode cX11_hullNumbered 9 = .ok (.if_icmp .ge 12, 3) := by decide +kernel
theorem dX11_hullNumbered_12 : decode cX11_hullNumbered 12 = .ok (.iload_n 1, 1) := by decide +kernel
theorem dX11_hullNumbered_13 : decode cX11_hullNumbered 13 = .ok (.aload_n 0, 1) := by decide +kernel
theorem dX11_hullNumbered_14 : decode cX11_hullNumbered 14 = .ok (.getfield 15, 3) := by decide +kernel
theorem dX11_hullNumbered_17 : decode cX11_hullNumbered 17 = .ok (.arraylength, 1) := by decide +kernel
theorem dX11_hullNumbered_18 : decode cX11_hullNumbered 18 = .ok (.if_icmp .lt 5, 3) := by decide +kernel
theorem dX11_hullNumbered_21 : decode cX11_hullNumbered 21 = .ok (.aconst_null, 1) := by decide +kernel
theorem dX11_hullNumbered_22 : decode cX11_hullNumbered 22 = .ok (.areturn, 1) := by decide +kernel
theorem dX11_hullNumbered_23 : decode cX11_hullNumbered 23 = .ok (.aload_n 0, 1) := by decide +kernel
theorem dX11_hullNumbered_24 : decode cX11_hullNumbered 24 = .ok (.getfield 15, 3) := by decide +kernel
theorem dX11_hullNumbered_27 : decode cX11_hullNumbered 27 = .ok (.iload_n 1, 1) := by decide +kernel
theorem dX11_hullNumbered_28 : decode cX11_hullNumbered 28 = .ok (.aaload, 1) := by decide +kernel
theorem dX11_hullNumbered_29 : decode cX11_hullNumbered 29 = .ok (.areturn, 1) := by decide +kernel
theorem dX11_digitAt_0 : decode cX11_digitAt 0 = .ok (.iload_n 1, 1) := by decide +kernel
theorem dX11_digitAt_1 : decode cX11_digitAt 1 = .ok (.ifCond .lt 24, 3) := by decide +kernel
theorem dX11_digitAt_4 : decode cX11_digitAt 4 = .ok (.iload_n 1, 1) := by decide +kernel
theorem dX11_digitAt_5 : decode cX11_digitAt 5 = .ok (.aload_n 0, 1) := by decide +kernel
theorem dX11_digitAt_6 : decode cX11_digitAt 6 = .ok (.getfield 9, 3) := by decide +kernel
theorem dX11_digitAt_9 : decode cX11_digitAt 9 = .ok (.arraylength, 1) := by decide +kernel
theorem dX11_digitAt_10 : decode cX11_digitAt 10 = .ok (.if_icmp .ge 15, 3) := by decide +kernel
theorem dX11_digitAt_13 : decode cX11_digitAt 13 = .ok (.aload_n 0, 1) := by decide +kernel
theorem dX11_digitAt_14 : decode cX11_digitAt 14 = .ok (.getfield 9, 3) := by decide +kernel
theorem dX11_digitAt_17 : decode cX11_digitAt 17 = .ok (.iload_n 1, 1) := by decide +kernel
theorem dX11_digitAt_18 : decode cX11_digitAt 18 = .ok (.iaload, 1) := by decide +kernel
theorem dX11_digitAt_19 : decode cX11_digitAt 19 = .ok (.bipush 48, 2) := by decide +kernel
theorem dX11_digitAt_21 : decode cX11_digitAt 21 = .ok (.isub, 1) := by decide +kernel
theorem dX11_digitAt_22 : decode cX11_digitAt 22 = .ok (.goto 4, 3) := by decide +kernel
theorem dX11_digitAt_25 : decode cX11_digitAt 25 = .ok (.iconst 0, 1) := by decide +kernel
theorem dX11_digitAt_26 : decode cX11_digitAt 26 = .ok (.ireturn, 1) := by decide +kernel
theorem dX11_hullsOn_0 : decode cX11_hullsOn 0 = .ok (.iconst 0, 1) := by decide +kernel
theorem dX11_hullsOn_1 : decode cX11_hullsOn 1 = .ok (.istore_n 2, 1) := by decide +kernel
theorem dX11_hullsOn_2 : decode cX11_hullsOn 2 = .ok (.iconst 0, 1) := by decide +kernel
theorem dX11_hullsOn_3 : decode cX11_hullsOn 3 = .ok (.istore_n 3, 1) := by decide +kernel
theorem dX11_hullsOn_4 : decode cX11_hullsOn 4 = .ok (.iload_n 3, 1) := by decide +kernel
theorem dX11_hullsOn_5 : decode cX11_hullsOn 5 = .ok (.aload_n 0, 1) := by decide +kernel
theorem dX11_hullsOn_6 : decode cX11_hullsOn 6 = .ok (.getfield 15, 3) := by decide +kernel
theorem dX11_hullsOn_9 : decode cX11_hullsOn 9 = .ok (.arraylength, 1) := by decide +kernel
theorem dX11_hullsOn_10 : decode cX11_hullsOn 10 = .ok (.if_icmp .ge 34, 3) := by decide +kernel
theorem dX11_hullsOn_13 : decode cX11_hullsOn 13 = .ok (.aload_n 0, 1) := by decide +kernel
theorem dX11_hullsOn_14 : decode cX11_hullsOn 14 = .ok (.getfield 15, 3) := by decide +kernel
theorem dX11_hullsOn_17 : decode cX11_hullsOn 17 = .ok (.iload_n 3, 1) := by decide +kernel
theorem dX11_hullsOn_18 : decode cX11_hullsOn 18 = .ok (.aaload, 1) := by decide +kernel
theorem dX11_hullsOn_19 : decode cX11_hullsOn 19 = .ok (.astore 4, 2) := by decide +kernel
theorem dX11_hullsOn_21 : decode cX11_hullsOn 21 = .ok (.aload 4, 2) := by decide +kernel
theorem dX11_hullsOn_23 : decode cX11_hullsOn 23 = .ok (.ifnull 15, 3) := by decide +kernel
theorem dX11_hullsOn_26 : decode cX11_hullsOn 26 = .ok (.aload 4, 2) := by decide +kernel
theorem dX11_hullsOn_28 : decode cX11_hullsOn 28 = .ok (.getfield 143, 3) := by decide +kernel
theorem dX11_hullsOn_31 : decode cX11_hullsOn 31 = .ok (.iload_n 1, 1) := by decide +kernel
theorem dX11_hullsOn_32 : decode cX11_hullsOn 32 = .ok (.if_icmp .ne 6, 3) := by decide +kernel
theorem dX11_hullsOn_35 : decode cX11_hullsOn 35 = .ok (.iinc 2 1, 3) := by decide +kernel
theorem dX11_hullsOn_38 : decode cX11_hullsOn 38 = .ok (.iinc 3 1, 3) := by decide +kernel
theorem dX11_hullsOn_41 : decode cX11_hullsOn 41 = .ok (.goto (-37), 3) := by decide +kernel
theorem dX11_hullsOn_44 : decode cX11_hullsOn 44 = .ok (.iload_n 2, 1) := by decide +kernel
theorem dX11_hullsOn_45 : decode cX11_hullsOn 45 = .ok (.ireturn, 1) := by decide +kernel
theorem dX11_strandedHulls_0 : decode cX11_strandedHulls 0 = .ok (.iconst 0, 1) := by decide +kernel
theorem dX11_strandedHulls_1 : decode cX11_strandedHulls 1 = .ok (.istore_n 1, 1) := by decide +kernel
theorem dX11_strandedHulls_2 : decode cX11_strandedHulls 2 = .ok (.iconst 0, 1) := by decide +kernel
theorem dX11_strandedHulls_3 : decode cX11_strandedHulls 3 = .ok (.istore_n 2, 1) := by decide +kernel
theorem dX11_strandedHulls_4 : decode cX11_strandedHulls 4 = .ok (.iload_n 2, 1) := by decide +kernel
theorem dX11_strandedHulls_5 : decode cX11_strandedHulls 5 = .ok (.aload_n 0, 1) := by decide +kernel
theorem dX11_strandedHulls_6 : decode cX11_strandedHulls 6 = .ok (.getfield 15, 3) := by decide +kernel
theorem dX11_strandedHulls_9 : decode cX11_strandedHulls 9 = .ok (.arraylength, 1) := by decide +kernel
theorem dX11_strandedHulls_10 : decode cX11_strandedHulls 10 = .ok (.if_icmp .ge 42, 3) := by decide +kernel
theorem dX11_strandedHulls_13 : decode cX11_strandedHulls 13 = .ok (.aload_n 0, 1) := by decide +kernel
theorem dX11_strandedHulls_14 : decode cX11_strandedHulls 14 = .ok (.getfield 15, 3) := by decide +kernel
theorem dX11_strandedHulls_17 : decode cX11_strandedHulls 17 = .ok (.iload_n 2, 1) := by decide +kernel
theorem dX11_strandedHulls_18 : decode cX11_strandedHulls 18 = .ok (.aaload, 1) := by decide +kernel
theorem dX11_strandedHulls_19 : decode cX11_strandedHulls 19 = .ok (.astore_n 3, 1) := by decide +kernel
theorem dX11_strandedHulls_20 : decode cX11_strandedHulls 20 = .ok (.aload_n 3, 1) := by decide +kernel
theorem dX11_strandedHulls_21 : decode cX11_strandedHulls 21 = .ok (.ifnull 25, 3) := by decide +kernel
theorem dX11_strandedHulls_24 : decode cX11_strandedHulls 24 = .ok (.aload_n 0, 1) := by decide +kernel
theorem dX11_strandedHulls_25 : decode cX11_strandedHulls 25 = .ok (.getfield 59, 3) := by decide +kernel
theorem dX11_strandedHulls_28 : decode cX11_strandedHulls 28 = .ok (.aload_n 3, 1) := by decide +kernel
theorem dX11_strandedHulls_29 : decode cX11_strandedHulls 29 = .ok (.aload_n 3, 1) := by decide +kernel
theorem dX11_strandedHulls_30 : decode cX11_strandedHulls 30 = .ok (.getfield 143, 3) := by decide +kernel
theorem dX11_strandedHulls_33 : decode cX11_strandedHulls 33 = .ok (.aload_n 0, 1) := by decide +kernel
theorem dX11_strandedHulls_34 : decode cX11_strandedHulls 34 = .ok (.getfield 106, 3) := by decide +kernel
theorem dX11_strandedHulls_37 : decode cX11_strandedHulls 37 = .ok (.invokevirtual 146, 3) := by decide +kernel
theorem dX11_strandedHulls_40 : decode cX11_strandedHulls 40 = .ok (.ifCond .ne 6, 3) := by decide +kernel
theorem dX11_strandedHulls_43 : decode cX11_strandedHulls 43 = .ok (.iinc 1 1, 3) := by decide +kernel
theorem dX11_strandedHulls_46 : decode cX11_strandedHulls 46 = .ok (.iinc 2 1, 3) := by decide +kernel
theorem dX11_strandedHulls_49 : decode cX11_strandedHulls 49 = .ok (.goto (-45), 3) := by decide +kernel
theorem dX11_strandedHulls_52 : decode cX11_strandedHulls 52 = .ok (.iload_n 1, 1) := by decide +kernel
theorem dX11_strandedHulls_53 : decode cX11_strandedHulls 53 = .ok (.ireturn, 1) := by decide +kernel
theorem dX11_cutCells_0 : decode cX11_cutCells 0 = .ok (.aload_n 0, 1) := by decide +kernel
theorem dX11_cutCells_1 : decode cX11_cutCells 1 = .ok (.invokevirtual 119, 3) := by decide +kernel
theorem dX11_cutCells_4 : decode cX11_cutCells 4 = .ok (.ifCond .ne 5, 3) := by decide +kernel
theorem dX11_cutCells_7 : decode cX11_cutCells 7 = .ok (.iconst 0, 1) := by decide +kernel
theorem dX11_cutCells_8 : decode cX11_cutCells 8 = .ok (.ireturn, 1) := by decide +kernel
theorem dX11_cutCells_9 : decode cX11_cutCells 9 = .ok (.iconst 0, 1) := by decide +kernel
theorem dX11_cutCells_10 : decode cX11_cutCells 10 = .ok (.istore_n 1, 1) := by decide +kernel
theorem dX11_cutCells_11 : decode cX11_cutCells 11 = .ok (.iconst 0, 1) := by decide +kernel
theorem dX11_cutCells_12 : decode cX11_cutCells 12 = .ok (.istore_n 2, 1) := by decide +kernel
theorem dX11_cutCells_13 : decode cX11_cutCells 13 = .ok (.iload_n 2, 1) := by decide +kernel
theorem dX11_cutCells_14 : decode cX11_cutCells 14 = .ok (.bipush 12, 2) := by decide +kernel
theorem dX11_cutCells_16 : decode cX11_cutCells 16 = .ok (.if_icmp .ge 27, 3) := by decide +kernel
theorem dX11_cutCells_19 : decode cX11_cutCells 19 = .ok (.aload_n 0, 1) := by decide +kernel
theorem dX11_cutCells_20 : decode cX11_cutCells 20 = .ok (.getfield 106, 3) := by decide +kernel
theorem dX11_cutCells_23 : decode cX11_cutCells 23 = .ok (.aload_n 0, 1) := by decide +kernel
theorem dX11_cutCells_24 : decode cX11_cutCells 24 = .ok (.getfield 59, 3) := by decide +kernel
theorem dX11_cutCells_27 : decode cX11_cutCells 27 = .ok (.iload_n 2, 1) := by decide +kernel
theorem dX11_cutCells_28 : decode cX11_cutCells 28 = .ok (.invokevirtual 113, 3) := by decide +kernel
theorem dX11_cutCells_31 : decode cX11_cutCells 31 = .ok (.if_icmp .lt 6, 3) := by decide +kernel
theorem dX11_cutCells_34 : decode cX11_cutCells 34 = .ok (.iinc 1 1, 3) := by decide +kernel
theorem dX11_cutCells_37 : decode cX11_cutCells 37 = .ok (.iinc 2 1, 3) := by decide +kernel
theorem dX11_cutCells_40 : decode cX11_cutCells 40 = .ok (.goto (-27), 3) := by decide +kernel
theorem dX11_cutCells_43 : decode cX11_cutCells 43 = .ok (.iload_n 1, 1) := by decide +kernel
theorem dX11_cutCells_44 : decode cX11_cutCells 44 = .ok (.ireturn, 1) := by decide +kernel
theorem dX11_fits_0 : decode cX11_fits 0 = .ok (.iload_n 0, 1) := by decide +kernel
theorem dX11_fits_1 : decode cX11_fits 1 = .ok (.ifCond .lt 12, 3) := by decide +kernel
theorem dX11_fits_4 : decode cX11_fits 4 = .ok (.iload_n 0, 1) := by decide +kernel
theorem dX11_fits_5 : decode cX11_fits 5 = .ok (.ldc 74, 2) := by decide +kernel
theorem dX11_fits_7 : decode cX11_fits 7 = .ok (.invokevirtual 76, 3) := by decide +kernel
theorem dX11_fits_10 : decode cX11_fits 10 = .ok (.if_icmp .lt 5, 3) := by decide +kernel
theorem dX11_fits_13 : decode cX11_fits 13 = .ok (.iconst 0, 1) := by decide +kernel
theorem dX11_fits_14 : decode cX11_fits 14 = .ok (.ireturn, 1) := by decide +kernel
theorem dX11_fits_15 : decode cX11_fits 15 = .ok (.ldc 74, 2) := by decide +kernel
theorem dX11_fits_17 : decode cX11_fits 17 = .ok (.iload_n 0, 1) := by decide +kernel
theorem dX11_fits_18 : decode cX11_fits 18 = .ok (.invokevirtual 262, 3) := by decide +kernel
theorem dX11_fits_21 : decode cX11_fits 21 = .ok (.istore_n 2, 1) := by decide +kernel
theorem dX11_fits_22 : decode cX11_fits 22 = .ok (.iload_n 2, 1) := by decide +kernel
theorem dX11_fits_23 : decode cX11_fits 23 = .ok (.bipush 48, 2) := by decide +kernel
theorem dX11_fits_25 : decode cX11_fits 25 = .ok (.if_icmp .eq 9, 3) := by decide +kernel
theorem dX11_fits_28 : decode cX11_fits 28 = .ok (.iload_n 2, 1) := by decide +kernel
theorem dX11_fits_29 : decode cX11_fits 29 = .ok (.bipush 49, 2) := by decide +kernel
theorem dX11_fits_31 : decode cX11_fits 31 = .ok (.if_icmp .ne 20, 3) := by decide +kernel
theorem dX11_fits_34 : decode cX11_fits 34 = .ok (.iload_n 1, 1) := by decide +kernel
theorem dX11_fits_35 : decode cX11_fits 35 = .ok (.iload_n 2, 1) := by decide +kernel
theorem dX11_fits_36 : decode cX11_fits 36 = .ok (.if_icmp .lt 13, 3) := by decide +kernel
theorem dX11_fits_39 : decode cX11_fits 39 = .ok (.iload_n 1, 1) := by decide +kernel
theorem dX11_fits_40 : decode cX11_fits 40 = .ok (.bipush 57, 2) := by decide +kernel
theorem dX11_fits_42 : decode cX11_fits 42 = .ok (.if_icmp .gt 7, 3) := by decide +kernel
theorem dX11_fits_45 : decode cX11_fits 45 = .ok (.iconst 1, 1) := by decide +kernel
theorem dX11_fits_46 : decode cX11_fits 46 = .ok (.goto 4, 3) := by decide +kernel
theorem dX11_fits_49 : decode cX11_fits 49 = .ok (.iconst 0, 1) := by decide +kernel
theorem dX11_fits_50 : decode cX11_fits 50 = .ok (.ireturn, 1) := by decide +kernel
theorem dX11_fits_51 : decode cX11_fits 51 = .ok (.iload_n 1, 1) := by decide +kernel
theorem dX11_fits_52 : decode cX11_fits 52 = .ok (.iload_n 2, 1) := by decide +kernel
theorem dX11_fits_53 : decode cX11_fits 53 = .ok (.if_icmp .ne 7, 3) := by decide +kernel
theorem dX11_fits_56 : decode cX11_fits 56 = .ok (.iconst 1, 1) := by decide +kernel
theorem dX11_fits_57 : decode cX11_fits 57 = .ok (.goto 4, 3) := by decide +kernel
theorem dX11_fits_60 : decode cX11_fits 60 = .ok (.iconst 0, 1) := by decide +kernel
theorem dX11_fits_61 : decode cX11_fits 61 = .ok (.ireturn, 1) := by decide +kernel
theorem dX11_isCell_0 : decode cX11_isCell 0 = .ok (.iload_n 0, 1) := by decide +kernel
theorem dX11_isCell_1 : decode cX11_isCell 1 = .ok (.ifCond .lt 13, 3) := by decide +kernel
theorem dX11_isCell_4 : decode cX11_isCell 4 = .ok (.iload_n 0, 1) := by decide +kernel
theorem dX11_isCell_5 : decode cX11_isCell 5 = .ok (.bipush 12, 2) := by decide +kernel
theorem dX11_isCell_7 : decode cX11_isCell 7 = .ok (.if_icmp .ge 7, 3) := by decide +kernel
theorem dX11_isCell_10 : decode cX11_isCell 10 = .ok (.iconst 1, 1) := by decide +kernel
theorem dX11_isCell_11 : decode cX11_isCell 11 = .ok (.goto 4, 3) := by decide +kernel
theorem dX11_isCell_14 : decode cX11_isCell 14 = .ok (.iconst 0, 1) := by decide +kernel
theorem dX11_isCell_15 : decode cX11_isCell 15 = .ok (.ireturn, 1) := by decide +kernel
theorem dX11_beside_0 : decode cX11_beside 0 = .ok (.iload_n 0, 1) := by decide +kernel
theorem dX11_beside_1 : decode cX11_beside 1 = .ok (.invokestatic 259, 3) := by decide +kernel
theorem dX11_beside_4 : decode cX11_beside 4 = .ok (.ifCond .ne 5, 3) := by decide +kernel
theorem dX11_beside_7 : decode cX11_beside 7 = .ok (.iconst (-1), 1) := by decide +kernel
theorem dX11_beside_8 : decode cX11_beside 8 = .ok (.ireturn, 1) := by decide +kernel
theorem dX11_beside_9 : decode cX11_beside 9 = .ok (.iload_n 1, 1) := by decide +kernel
theorem dX11_beside_10 : decode cX11_beside 10 = .ok (.tableswitch 89 0 3 #[30, 45, 61, 75], 30) := by decide +kernel
theorem dX11_beside_40 : decode cX11_beside 40 = .ok (.iload_n 0, 1) := by decide +kernel
theorem dX11_beside_41 : decode cX11_beside 41 = .ok (.iconst 4, 1) := by decide +kernel
theorem dX11_beside_42 : decode cX11_beside 42 = .ok (.irem, 1) := by decide +kernel
theorem dX11_beside_43 : decode cX11_beside 43 = .ok (.iconst 3, 1) := by decide +kernel
theorem dX11_beside_44 : decode cX11_beside 44 = .ok (.if_icmp .ge 9, 3) := by decide +kernel
theorem dX11_beside_47 : decode cX11_beside 47 = .ok (.iload_n 0, 1) := by decide +kernel
theorem dX11_beside_48 : decode cX11_beside 48 = .ok (.iconst 1, 1) := by decide +kernel
theorem dX11_beside_49 : decode cX11_beside 49 = .ok (.iadd, 1) := by decide +kernel
theorem dX11_beside_50 : decode cX11_beside 50 = .ok (.goto 4, 3) := by decide +kernel
theorem dX11_beside_53 : decode cX11_beside 53 = .ok (.iconst (-1), 1) := by decide +kernel
theorem dX11_beside_54 : decode cX11_beside 54 = .ok (.ireturn, 1) := by decide +kernel
theorem dX11_beside_55 : decode cX11_beside 55 = .ok (.iload_n 0, 1) := by decide +kernel
theorem dX11_beside_56 : decode cX11_beside 56 = .ok (.iconst 4, 1) := by decide +kernel
theorem dX11_beside_57 : decode cX11_beside 57 = .ok (.iadd, 1) := by decide +kernel
theorem dX11_beside_58 : decode cX11_beside 58 = .ok (.bipush 12, 2) := by decide +kernel
theorem dX11_beside_60 : decode cX11_beside 60 = .ok (.if_icmp .ge 9, 3) := by decide +kernel
theorem dX11_beside_63 : decode cX11_beside 63 = .ok (.iload_n 0, 1) := by decide +kernel
theorem dX11_beside_64 : decode cX11_beside 64 = .ok (.iconst 4, 1) := by decide +kernel
theorem dX11_beside_65 : decode cX11_beside 65 = .ok (.iadd, 1) := by decide +kernel
theorem dX11_beside_66 : decode cX11_beside 66 = .ok (.goto 4, 3) := by decide +kernel
theorem dX11_beside_69 : decode cX11_beside 69 = .ok (.iconst (-1), 1) := by decide +kernel
theorem dX11_beside_70 : decode cX11_beside 70 = .ok (.ireturn, 1) := by decide +kernel
theorem dX11_beside_71 : decode cX11_beside 71 = .ok (.iload_n 0, 1) := by decide +kernel
theorem dX11_beside_72 : decode cX11_beside 72 = .ok (.iconst 4, 1) := by decide +kernel
theorem dX11_beside_73 : decode cX11_beside 73 = .ok (.irem, 1) := by decide +kernel
theorem dX11_beside_74 : decode cX11_beside 74 = .ok (.ifCond .le 9, 3) := by decide +kernel
theorem dX11_beside_77 : decode cX11_beside 77 = .ok (.iload_n 0, 1) := by decide +kernel
theorem dX11_beside_78 : decode cX11_beside 78 = .ok (.iconst 1, 1) := by decide +kernel
theorem dX11_beside_79 : decode cX11_beside 79 = .ok (.isub, 1) := by decide +kernel
theorem dX11_beside_80 : decode cX11_beside 80 = .ok (.goto 4, 3) := by decide +kernel
theorem dX11_beside_83 : decode cX11_beside 83 = .ok (.iconst (-1), 1) := by decide +kernel
theorem dX11_beside_84 : decode cX11_beside 84 = .ok (.ireturn, 1) := by decide +kernel
theorem dX11_beside_85 : decode cX11_beside 85 = .ok (.iload_n 0, 1) := by decide +kernel
theorem dX11_beside_86 : decode cX11_beside 86 = .ok (.iconst 4, 1) := by decide +kernel
theorem dX11_beside_87 : decode cX11_beside 87 = .ok (.isub, 1) := by decide +kernel
theorem dX11_beside_88 : decode cX11_beside 88 = .ok (.ifCond .lt 9, 3) := by decide +kernel
theorem dX11_beside_91 : decode cX11_beside 91 = .ok (.iload_n 0, 1) := by decide +kernel
theorem dX11_beside_92 : decode cX11_beside 92 = .ok (.iconst 4, 1) := by decide +kernel
theorem dX11_beside_93 : decode cX11_beside 93 = .ok (.isub, 1) := by decide +kernel
theorem dX11_beside_94 : decode cX11_beside 94 = .ok (.goto 4, 3) := by decide +kernel
theorem dX11_beside_97 : decode cX11_beside 97 = .ok (.iconst (-1), 1) := by decide +kernel
theorem dX11_beside_98 : decode cX11_beside 98 = .ok (.ireturn, 1) := by decide +kernel
theorem dX11_beside_99 : decode cX11_beside 99 = .ok (.iconst (-1), 1) := by decide +kernel
theorem dX11_beside_100 : decode cX11_beside 100 = .ok (.ireturn, 1) := by decide +kernel
theorem dX11_built_0 : decode cX11_built 0 = .ok (.iload_n 0, 1) := by decide +kernel
theorem dX11_built_1 : decode cX11_built 1 = .ok (.tableswitch 71 1 4 #[31, 41, 51, 61], 31) := by decide +kernel
theorem dX11_built_32 : decode cX11_built 32 = .ok (.new 266, 3) := by decide +kernel
theorem dX11_built_35 : decode cX11_built 35 = .ok (.dup, 1) := by decide +kernel
theorem dX11_built_36 : decode cX11_built 36 = .ok (.iload_n 1, 1) := by decide +kernel
theorem dX11_built_37 : decode cX11_built 37 = .ok (.iload_n 2, 1) := by decide +kernel
theorem dX11_built_38 : decode cX11_built 38 = .ok (.invokespecial 268, 3) := by decide +kernel
theorem dX11_built_41 : decode cX11_built 41 = .ok (.areturn, 1) := by decide +kernel
theorem dX11_built_42 : decode cX11_built 42 = .ok (.new 270, 3) := by decide +kernel
theorem dX11_built_45 : decode cX11_built 45 = .ok (.dup, 1) := by decide +kernel
theorem dX11_built_46 : decode cX11_built 46 = .ok (.iload_n 1, 1) := by decide +kernel
theorem dX11_built_47 : decode cX11_built 47 = .ok (.iload_n 2, 1) := by decide +kernel
theorem dX11_built_48 : decode cX11_built 48 = .ok (.invokespecial 272, 3) := by decide +kernel
theorem dX11_built_51 : decode cX11_built 51 = .ok (.areturn, 1) := by decide +kernel
theorem dX11_built_52 : decode cX11_built 52 = .ok (.new 273, 3) := by decide +kernel
theorem dX11_built_55 : decode cX11_built 55 = .ok (.dup, 1) := by decide +kernel
theorem dX11_built_56 : decode cX11_built 56 = .ok (.iload_n 1, 1) := by decide +kernel
theorem dX11_built_57 : decode cX11_built 57 = .ok (.iload_n 2, 1) := by decide +kernel
theorem dX11_built_58 : decode cX11_built 58 = .ok (.invokespecial 275, 3) := by decide +kernel
theorem dX11_built_61 : decode cX11_built 61 = .ok (.areturn, 1) := by decide +kernel
theorem dX11_built_62 : decode cX11_built 62 = .ok (.new 276, 3) := by decide +kernel
theorem dX11_built_65 : decode cX11_built 65 = .ok (.dup, 1) := by decide +kernel
theorem dX11_built_66 : decode cX11_built 66 = .ok (.iload_n 1, 1) := by decide +kernel
theorem dX11_built_67 : decode cX11_built 67 = .ok (.iload_n 2, 1) := by decide +kernel
theorem dX11_built_68 : decode cX11_built 68 = .ok (.invokespecial 278, 3) := by decide +kernel
theorem dX11_built_71 : decode cX11_built 71 = .ok (.areturn, 1) := by decide +kernel
theorem dX11_built_72 : decode cX11_built 72 = .ok (.new 13, 3) := by decide +kernel
theorem dX11_built_75 : decode cX11_built 75 = .ok (.dup, 1) := by decide +kernel
theorem dX11_built_76 : decode cX11_built 76 = .ok (.iload_n 1, 1) := by decide +kernel
theorem dX11_built_77 : decode cX11_built 77 = .ok (.iload_n 2, 1) := by decide +kernel
theorem dX11_built_78 : decode cX11_built 78 = .ok (.invokespecial 279, 3) := by decide +kernel
theorem dX11_built_81 : decode cX11_built 81 = .ok (.areturn, 1) := by decide +kernel
theorem dX11_isKind_0 : decode cX11_isKind 0 = .ok (.iload_n 1, 1) := by decide +kernel
theorem dX11_isKind_1 : decode cX11_isKind 1 = .ok (.tableswitch 65 0 4 #[35, 45, 50, 55, 60], 35) := by decide +kernel
theorem dX11_isKind_36 : decode cX11_isKind 36 = .ok (.aload_n 0, 1) := by decide +kernel
theorem dX11_isKind_37 : decode cX11_isKind 37 = .ok (.ifnull 7, 3) := by decide +kernel
theorem dX11_isKind_40 : decode cX11_isKind 40 = .ok (.iconst 1, 1) := by decide +kernel
theorem dX11_isKind_41 : decode cX11_isKind 41 = .ok (.goto 4, 3) := by decide +kernel
theorem dX11_isKind_44 : decode cX11_isKind 44 = .ok (.iconst 0, 1) := by decide +kernel
theorem dX11_isKind_45 : decode cX11_isKind 45 = .ok (.ireturn, 1) := by decide +kernel
theorem dX11_isKind_46 : decode cX11_isKind 46 = .ok (.aload_n 0, 1) := by decide +kernel
theorem dX11_isKind_47 : decode cX11_isKind 47 = .ok (.instanceof 266, 3) := by decide +kernel
theorem dX11_isKind_50 : decode cX11_isKind 50 = .ok (.ireturn, 1) := by decide +kernel
theorem dX11_isKind_51 : decode cX11_isKind 51 = .ok (.aload_n 0, 1) := by decide +kernel
theorem dX11_isKind_52 : decode cX11_isKind 52 = .ok (.instanceof 270, 3) := by decide +kernel
theorem dX11_isKind_55 : decode cX11_isKind 55 = .ok (.ireturn, 1) := by decide +kernel
theorem dX11_isKind_56 : decode cX11_isKind 56 = .ok (.aload_n 0, 1) := by decide +kernel
theorem dX11_isKind_57 : decode cX11_isKind 57 = .ok (.instanceof 273, 3) := by decide +kernel
theorem dX11_isKind_60 : decode cX11_isKind 60 = .ok (.ireturn, 1) := by decide +kernel
theorem dX11_isKind_61 : decode cX11_isKind 61 = .ok (.aload_n 0, 1) := by decide +kernel
theorem dX11_isKind_62 : decode cX11_isKind 62 = .ok (.instanceof 276, 3) := by decide +kernel
theorem dX11_isKind_65 : decode cX11_isKind 65 = .ok (.ireturn, 1) := by decide +kernel
theorem dX11_isKind_66 : decode cX11_isKind 66 = .ok (.iconst 0, 1) := by decide +kernel
theorem dX11_isKind_67 : decode cX11_isKind 67 = .ok (.ireturn, 1) := by decide +kernel
theorem dX12_init_0 : decode cX12_init 0 = .ok (.aload_n 0, 1) := by decide +kernel
theorem dX12_init_1 : decode cX12_init 1 = .ok (.invokespecial 1, 3) := by decide +kernel
theorem dX12_init_4 : decode cX12_init 4 = .ok (.aload_n 0, 1) := by decide +kernel
theorem dX12_init_5 : decode cX12_init 5 = .ok (.bipush 18, 2) := by decide +kernel
theorem dX12_init_7 : decode cX12_init 7 = .ok (.newarray .int, 2) := by decide +kernel
theorem dX12_init_9 : decode cX12_init 9 = .ok (.putfield 7, 3) := by decide +kernel
theorem dX12_init_12 : decode cX12_init 12 = .ok (.aload_n 0, 1) := by decide +kernel
theorem dX12_init_13 : decode cX12_init 13 = .ok (.bipush 12, 2) := by decide +kernel
theorem dX12_init_15 : decode cX12_init 15 = .ok (.newarray .int, 2) := by decide +kernel
theorem dX12_init_17 : decode cX12_init 17 = .ok (.putfield 13, 3) := by decide +kernel
theorem dX12_init_20 : decode cX12_init 20 = .ok (.aload_n 0, 1) := by decide +kernel
theorem dX12_init_21 : decode cX12_init 21 = .ok (.bipush 12, 2) := by decide +kernel
theorem dX12_init_23 : decode cX12_init 23 = .ok (.newarray .int, 2) := by decide +kernel
theorem dX12_init_25 : decode cX12_init 25 = .ok (.putfield 16, 3) := by decide +kernel
theorem dX12_init_28 : decode cX12_init 28 = .ok (.aload_n 0, 1) := by decide +kernel
theorem dX12_init_29 : decode cX12_init 29 = .ok (.bipush 12, 2) := by decide +kernel
theorem dX12_init_31 : decode cX12_init 31 = .ok (.newarray .int, 2) := by decide +kernel
theorem dX12_init_33 : decode cX12_init 33 = .ok (.putfield 19, 3) := by decide +kernel
theorem dX12_init_36 : decode cX12_init 36 = .ok (.aload_n 0, 1) := by decide +kernel
theorem dX12_init_37 : decode cX12_init 37 = .ok (.bipush 12, 2) := by decide +kernel
theorem dX12_init_39 : decode cX12_init 39 = .ok (.newarray .int, 2) := by decide +kernel
theorem dX12_init_41 : decode cX12_init 41 = .ok (.putfield 22, 3) := by decide +kernel
theorem dX12_init_44 : decode cX12_init 44 = .ok (.aload_n 0, 1) := by decide +kernel
theorem dX12_init_45 : decode cX12_init 45 = .ok (.iconst 3, 1) := by decide +kernel
theorem dX12_init_46 : decode cX12_init 46 = .ok (.newarray .int, 2) := by decide +kernel
theorem dX12_init_48 : decode cX12_init 48 = .ok (.putfield 25, 3) := by decide +kernel
theorem dX12_init_51 : decode cX12_init 51 = .ok (.aload_n 0, 1) := by decide +kernel
theorem dX12_init_52 : decode cX12_init 52 = .ok (.iconst 3, 1) := by decide +kernel
theorem dX12_init_53 : decode cX12_init 53 = .ok (.newarray .int, 2) := by decide +kernel
theorem dX12_init_55 : decode cX12_init 55 = .ok (.putfield 28, 3) := by decide +kernel
theorem dX12_init_58 : decode cX12_init 58 = .ok (.aload_n 0, 1) := by decide +kernel
theorem dX12_init_59 : decode cX12_init 59 = .ok (.bipush 18, 2) := by decide +kernel
theorem dX12_init_61 : decode cX12_init 61 = .ok (.newarray .int, 2) := by decide +kernel
theorem dX12_init_63 : decode cX12_init 63 = .ok (.putfield 31, 3) := by decide +kernel
theorem dX12_init_66 : decode cX12_init 66 = .ok (.aload_n 0, 1) := by decide +kernel
theorem dX12_init_67 : decode cX12_init 67 = .ok (.bipush 48, 2) := by decide +kernel
theorem dX12_init_69 : decode cX12_init 69 = .ok (.newarray .int, 2) := by decide +kernel
theorem dX12_init_71 : decode cX12_init 71 = .ok (.putfield 34, 3) := by decide +kernel
theorem dX12_init_74 : decode cX12_init 74 = .ok (.aload_n 0, 1) := by decide +kernel
theorem dX12_init_75 : decode cX12_init 75 = .ok (.bipush 12, 2) := by decide +kernel
theorem dX12_init_77 : decode cX12_init 77 = .ok (.newarray .int, 2) := by decide +kernel
theorem dX12_init_79 : decode cX12_init 79 = .ok (.putfield 37, 3) := by decide +kernel
theorem dX12_init_82 : decode cX12_init 82 = .ok (.aload_n 0, 1) := by decide +kernel
theorem dX12_init_83 : decode cX12_init 83 = .ok (.bipush 12, 2) := by decide +kernel
theorem dX12_init_85 : decode cX12_init 85 = .ok (.newarray .int, 2) := by decide +kernel
theorem dX12_init_87 : decode cX12_init 87 = .ok (.putfield 40, 3) := by decide +kernel
theorem dX12_init_90 : decode cX12_init 90 = .ok (.aload_n 0, 1) := by decide +kernel
theorem dX12_init_91 : decode cX12_init 91 = .ok (.bipush 18, 2) := by decide +kernel
theorem dX12_init_93 : decode cX12_init 93 = .ok (.newarray .int, 2) := by decide +kernel
theorem dX12_init_95 : decode cX12_init 95 = .ok (.putfield 43, 3) := by decide +kernel
theorem dX12_init_98 : decode cX12_init 98 = .ok (.aload_n 0, 1) := by decide +kernel
theorem dX12_init_99 : decode cX12_init 99 = .ok (.iconst (-1), 1) := by decide +kernel
theorem dX12_init_100 : decode cX12_init 100 = .ok (.putfield 46, 3) := by decide +kernel
theorem dX12_init_103 : decode cX12_init 103 = .ok (.aload_n 0, 1) := by decide +kernel
theorem dX12_init_104 : decode cX12_init 104 = .ok (.iconst 4, 1) := by decide +kernel
theorem dX12_init_105 : decode cX12_init 105 = .ok (.putfield 50, 3) := by decide +kernel
theorem dX12_init_108 : decode cX12_init 108 = .ok (.return_, 1) := by decide +kernel
theorem dX12_in_0 : decode cX12_in 0 = .ok (.lload_n 0, 1) := by decide +kernel
theorem dX12_in_1 : decode cX12_in 1 = .ok (.lload_n 2, 1) := by decide +kernel
theorem dX12_in_2 : decode cX12_in 2 = .ok (.lcmp, 1) := by decide +kernel
theorem dX12_in_3 : decode cX12_in 3 = .ok (.ifCond .lt 14, 3) := by decide +kernel
theorem dX12_in_6 : decode cX12_in 6 = .ok (.lload_n 0, 1) := by decide +kernel
theorem dX12_in_7 : decode cX12_in 7 = .ok (.lload 4, 2) := by decide +kernel
theorem dX12_in_9 : decode cX12_in 9 = .ok (.lcmp, 1) := by decide +kernel
theorem dX12_in_10 : decode cX12_in 10 = .ok (.ifCond .gt 7, 3) := by decide +kernel
theorem dX12_in_13 : decode cX12_in 13 = .ok (.iconst 1, 1) := by decide +kernel
theorem dX12_in_14 : decode cX12_in 14 = .ok (.goto 4, 3) := by decide +kernel
theorem dX12_in_17 : decode cX12_in 17 = .ok (.iconst 0, 1) := by decide +kernel
theorem dX12_in_18 : decode cX12_in 18 = .ok (.ireturn, 1) := by decide +kernel
theorem dX12_letter_0 : decode cX12_letter 0 = .ok (.iload_n 1, 1) := by decide +kernel
theorem dX12_letter_1 : decode cX12_letter 1 = .ok (.i2l, 1) := by decide +kernel
theorem dX12_letter_2 : decode cX12_letter 2 = .ok (.lconst 1, 1) := by decide +kernel
theorem dX12_letter_3 : decode cX12_letter 3 = .ok (.ldc2_w 53, 3) := by decide +kernel
theorem dX12_letter_6 : decode cX12_letter 6 = .ok (.invokestatic 55, 3) := by decide +kernel
theorem dX12_letter_9 : decode cX12_letter 9 = .ok (.ifCond .ne 6, 3) := by decide +kernel
theorem dX12_letter_12 : decode cX12_letter 12 = .ok (.bipush (-102), 2) := by decide +kernel
theorem dX12_letter_14 : decode cX12_letter 14 = .ok (.ireturn, 1) := by decide +kernel
theorem dX12_letter_15 : decode cX12_letter 15 = .ok (.aload_n 0, 1) := by decide +kernel
theorem dX12_letter_16 : decode cX12_letter 16 = .ok (.getfield 59, 3) := by decide +kernel
theorem dX12_letter_19 : decode cX12_letter 19 = .ok (.bipush 18, 2) := by decide +kernel
theorem dX12_letter_21 : decode cX12_letter 21 = .ok (.if_icmp .ne 6, 3) := by decide +kernel
theorem dX12_letter_24 : decode cX12_letter 24 = .ok (.bipush (-104), 2) := by decide +kernel
theorem dX12_letter_26 : decode cX12_letter 26 = .ok (.ireturn, 1) := by decide +kernel
theorem dX12_letter_27 : decode cX12_letter 27 = .ok (.aload_n 0, 1) := by decide +kernel
theorem dX12_letter_28 : decode cX12_letter 28 = .ok (.getfield 7, 3) := by decide +kernel
theorem dX12_letter_31 : decode cX12_letter 31 = .ok (.aload_n 0, 1) := by decide +kernel
theorem dX12_letter_32 : decode cX12_letter 32 = .ok (.getfield 59, 3) := by decide +kernel
theorem dX12_letter_35 : decode cX12_letter 35 = .ok (.iload_n 1, 1) := by decide +kernel
theorem dX12_letter_36 : decode cX12_letter 36 = .ok (.iastore, 1) := by decide +kernel
theorem dX12_letter_37 : decode cX12_letter 37 = .ok (.aload_n 0, 1) := by decide +kernel
theorem dX12_letter_38 : decode cX12_letter 38 = .ok (.dup, 1) := by decide +kernel
theorem dX12_letter_39 : decode cX12_letter 39 = .ok (.getfield 59, 3) := by decide +kernel
theorem dX12_letter_42 : decode cX12_letter 42 = .ok (.iconst 1, 1) := by decide +kernel
theorem dX12_letter_43 : decode cX12_letter 43 = .ok (.iadd, 1) := by decide +kernel
theorem dX12_letter_44 : decode cX12_letter 44 = .ok (.putfield 59, 3) := by decide +kernel
theorem dX12_letter_47 : decode cX12_letter 47 = .ok (.aload_n 0, 1) := by decide +kernel
theorem dX12_letter_48 : decode cX12_letter 48 = .ok (.getfield 59, 3) := by decide +kernel
theorem dX12_letter_51 : decode cX12_letter 51 = .ok (.ireturn, 1) := by decide +kernel
theorem dX12_blank_0 : decode cX12_blank 0 = .ok (.aload_n 0, 1) := by decide +kernel
theorem dX12_blank_1 : decode cX12_blank 1 = .ok (.getfield 59, 3) := by decide +kernel
theorem dX12_blank_4 : decode cX12_blank 4 = .ok (.istore_n 1, 1) := by decide +kernel
theorem dX12_blank_5 : decode cX12_blank 5 = .ok (.aload_n 0, 1) := by decide +kernel
theorem dX12_blank_6 : decode cX12_blank 6 = .ok (.iconst 0, 1) := by decide +kernel
theorem dX12_blank_7 : decode cX12_blank 7 = .ok (.putfield 59, 3) := by decide +kernel
theorem dX12_blank_10 : decode cX12_blank 10 = .ok (.iload_n 1, 1) := by decide +kernel
theorem dX12_blank_11 : decode cX12_blank 11 = .ok (.ireturn, 1) := by decide +kernel
theorem dX12_isGood_0 : decode cX12_isGood 0 = .ok (.iload_n 0, 1) := by decide +kernel
theorem dX12_isGood_1 : decode cX12_isGood 1 = .ok (.bipush 13, 2) := by decide +kernel
theorem dX12_isGood_3 : decode cX12_isGood 3 = .ok (.if_icmp .le 50, 3) := by decide +kernel
theorem dX12_isGood_6 : decode cX12_isGood 6 = .ok (.iload_n 0, 1) := by decide +kernel
theorem dX12_isGood_7 : decode cX12_isGood 7 = .ok (.bipush 14, 2) := by decide +kernel
theorem dX12_isGood_9 : decode cX12_isGood 9 = .ok (.if_icmp .ne 17, 3) := by decide +kernel
theorem dX12_isGood_12 : decode cX12_isGood 12 = .ok (.iload_n 1, 1) := by decide +kernel
theorem dX12_isGood_13 : decode cX12_isGood 13 = .ok (.bipush 59, 2) := by decide +kernel
theorem dX12_isGood_15 : decode cX12_isGood 15 = .ok (.if_icmp .ne 7, 3) := by decide +kernel
theorem dX12_isGood_18 : decode cX12_isGood 18 = .ok (.iconst 1, 1) := by decide +kernel
theorem dX12_isGood_19 : decode cX12_isGood 19 = .ok (.goto 33, 3) := by decide +kernel
theorem dX12_isGood_22 : decode cX12_isGood 22 = .ok (.iconst 0, 1) := by decide +kernel
theorem dX12_isGood_23 : decode cX12_isGood 23 = .ok (.goto 29, 3) := by decide +kernel
theorem dX12_isGood_26 : decode cX12_isGood 26 = .ok (.iload_n 0, 1) := by decide +kernel
theorem dX12_isGood_27 : decode cX12_isGood 27 = .ok (.bipush 15, 2) := by decide +kernel
theorem dX12_isGood_29 : decode cX12_isGood 29 = .ok (.if_icmp .ne 22, 3) := by decide +kernel
theorem dX12_isGood_32 : decode cX12_isGood 32 = .ok (.iload_n 1, 1) := by decide +kernel
theorem dX12_isGood_33 : decode cX12_isGood 33 = .ok (.bipush 48, 2) := by decide +kernel
theorem dX12_isGood_35 : decode cX12_isGood 35 = .ok (.isub, 1) := by decide +kernel
theorem dX12_isGood_36 : decode cX12_isGood 36 = .ok (.i2l, 1) := by decide +kernel
theorem dX12_isGood_37 : decode cX12_isGood 37 = .ok (.lconst 1, 1) := by decide +kernel
theorem dX12_isGood_38 : decode cX12_isGood 38 = .ok (.ldc2_w 62, 3) := by decide +kernel
theorem dX12_isGood_41 : decode cX12_isGood 41 = .ok (.invokestatic 55, 3) := by decide +kernel
theorem dX12_isGood_44 : decode cX12_isGood 44 = .ok (.ifCond .eq 7, 3) := by decide +kernel
theorem dX12_isGood_47 : decode cX12_isGood 47 = .ok (.iconst 1, 1) := by decide +kernel
theorem dX12_isGood_48 : decode cX12_isGood 48 = .ok (.goto 4, 3) := by decide +kernel
theorem dX12_isGood_51 : decode cX12_isGood 51 = .ok (.iconst 0, 1) := by decide +kernel
theorem dX12_isGood_52 : decode cX12_isGood 52 = .ok (.ireturn, 1) := by decide +kernel
theorem dX12_isGood_53 : decode cX12_isGood 53 = .ok (.iload_n 0, 1) := by decide +kernel
theorem dX12_isGood_54 : decode cX12_isGood 54 = .ok (.iconst 5, 1) := by decide +kernel
theorem dX12_isGood_55 : decode cX12_isGood 55 = .ok (.irem, 1) := by decide +kernel
theorem dX12_isGood_56 : decode cX12_isGood 56 = .ok (.iconst 4, 1) := by decide +kernel
theorem dX12_isGood_57 : decode cX12_isGood 57 = .ok (.if_icmp .ne 17, 3) := by decide +kernel
theorem dX12_isGood_60 : decode cX12_isGood 60 = .ok (.iload_n 1, 1) := by decide +kernel
theorem dX12_isGood_61 : decode cX12_isGood 61 = .ok (.bipush 44, 2) := by decide +kernel
theorem dX12_isGood_63 : decode cX12_isGood 63 = .ok (.if_icmp .ne 7, 3) := by decide +kernel
theorem dX12_isGood_66 : decode cX12_isGood 66 = .ok (.iconst 1, 1) := by decide +kernel
theorem dX12_isGood_67 : decode cX12_isGood 67 = .ok (.goto 19, 3) := by decide +kernel
theorem dX12_isGood_70 : decode cX12_isGood 70 = .ok (.iconst 0, 1) := by decide +kernel
theorem dX12_isGood_71 : decode cX12_isGood 71 = .ok (.goto 15, 3) := by decide +kernel
theorem dX12_isGood_74 : decode cX12_isGood 74 = .ok (.iload_n 1, 1) := by decide +kernel
theorem dX12_isGood_75 : decode cX12_isGood 75 = .ok (.bipush 48, 2) := by decide +kernel
theorem dX12_isGood_77 : decode cX12_isGood 77 = .ok (.isub, 1) := by decide +kernel
theorem dX12_isGood_78 : decode cX12_isGood 78 = .ok (.i2l, 1) := by decide +kernel
theorem dX12_isGood_79 : decode cX12_isGood 79 = .ok (.lconst 0, 1) := by decide +kernel
theorem dX12_isGood_80 : decode cX12_isGood 80 = .ok (.ldc2_w 62, 3) := by decide +kernel
theorem dX12_isGood_83 : decode cX12_isGood 83 = .ok (.invokestatic 55, 3) := by decide +kernel
theorem dX12_isGood_86 : decode cX12_isGood 86 = .ok (.ireturn, 1) := by decide +kernel
theorem dX12_faultOf_0 : decode cX12_faultOf 0 = .ok (.iconst 0, 1) := by decide +kernel
theorem dX12_faultOf_1 : decode cX12_faultOf 1 = .ok (.istore_n 1, 1) := by decide +kernel
theorem dX12_faultOf_2 : decode cX12_faultOf 2 = .ok (.iload_n 1, 1) := by decide +kernel
theorem dX12_faultOf_3 : decode cX12_faultOf 3 = .ok (.aload_n 0, 1) := by decide +kernel
theorem dX12_faultOf_4 : decode cX12_faultOf 4 = .ok (.getfield 59, 3) := by decide +kernel
theorem dX12_faultOf_7 : decode cX12_faultOf 7 = .ok (.if_icmp .ge 22, 3) := by decide +kernel
theorem dX12_faultOf_10 : decode cX12_faultOf 10 = .ok (.iload_n 1, 1) := by decide +kernel
theorem dX12_faultOf_11 : decode cX12_faultOf 11 = .ok (.aload_n 0, 1) := by decide +kernel
theorem dX12_faultOf_12 : decode cX12_faultOf 12 = .ok (.getfield 7, 3) := by decide +kernel
theorem dX12_faultOf_15 : decode cX12_faultOf 15 = .ok (.iload_n 1, 1) := by decide +kernel
theorem dX12_faultOf_16 : decode cX12_faultOf 16 = .ok (.iaload, 1) := by decide +kernel
theorem dX12_faultOf_17 : decode cX12_faultOf 17 = .ok (.invokestatic 64, 3) := by decide +kernel
theorem dX12_faultOf_20 : decode cX12_faultOf 20 = .ok (.ifCond .eq 9, 3) := by decide +kernel
theorem dX12_faultOf_23 : decode cX12_faultOf 23 = .ok (.iinc 1 1, 3) := by decide +kernel
theorem dX12_faultOf_26 : decode cX12_faultOf 26 = .ok (.goto (-24), 3) := by decide +kernel
theorem dX12_faultOf_29 : decode cX12_faultOf 29 = .ok (.iload_n 1, 1) := by decide +kernel
theorem dX12_faultOf_30 : decode cX12_faultOf 30 = .ok (.ireturn, 1) := by decide +kernel
theorem dX12_fault_0 : decode cX12_fault 0 = .ok (.aload_n 0, 1) := by decide +kernel
theorem dX12_fault_1 : decode cX12_fault 1 = .ok (.invokevirtual 68, 3) := by decide +kernel
theorem dX12_fault_4 : decode cX12_fault 4 = .ok (.ireturn, 1) := by decide +kernel
theorem dX12_plain_0 : decode cX12_plain 0 = .ok (.aload_n 0, 1) := by decide +kernel
theorem dX12_plain_1 : decode cX12_plain 1 = .ok (.getfield 59, 3) := by decide +kernel
theorem dX12_plain_4 : decode cX12_plain 4 = .ok (.bipush 16, 2) := by decide +kernel
theorem dX12_plain_6 : decode cX12_plain 6 = .ok (.if_icmp .ne 12, 3) := by decide +kernel
theorem dX12_plain_9 : decode cX12_plain 9 = .ok (.aload_n 0, 1) := by decide +kernel
theorem dX12_plain_10 : decode cX12_plain 10 = .ok (.invokevirtual 68, 3) := by decide +kernel
theorem dX12_plain_13 : decode cX12_plain 13 = .ok (.bipush 16, 2) := by decide +kernel
theorem dX12_plain_15 : decode cX12_plain 15 = .ok (.if_icmp .ge 6, 3) := by decide +kernel
theorem dX12_plain_18 : decode cX12_plain 18 = .ok (.bipush (-103), 2) := by decide +kernel
theorem dX12_plain_20 : decode cX12_plain 20 = .ok (.ireturn, 1) := by decide +kernel
theorem dX12_plain_21 : decode cX12_plain 21 = .ok (.iconst 0, 1) := by decide +kernel
theorem dX12_plain_22 : decode cX12_plain 22 = .ok (.istore_n 1, 1) := by decide +kernel
theorem dX12_plain_23 : decode cX12_plain 23 = .ok (.iconst 0, 1) := by decide +kernel
theorem dX12_plain_24 : decode cX12_plain 24 = .ok (.istore_n 2, 1) := by decide +kernel
theorem dX12_plain_25 : decode cX12_plain 25 = .ok (.iload_n 2, 1) := by decide +kernel
theorem dX12_plain_26 : decode cX12_plain 26 = .ok (.bipush 12, 2) := by decide +kernel
theorem dX12_plain_28 : decode cX12_plain 28 = .ok (.if_icmp .ge 37, 3) := by decide +kernel
theorem dX12_plain_31 : decode cX12_plain 31 = .ok (.aload_n 0, 1) := by decide +kernel
theorem dX12_plain_32 : decode cX12_plain 32 = .ok (.getfield 13, 3) := by decide +kernel
