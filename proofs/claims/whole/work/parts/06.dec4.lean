theorem dX12_fall_21 : decode cX12_fall 21 = .ok (.getfield 209, 3) := by decide +kernel
theorem dX12_fall_24 : decode cX12_fall 24 = .ok (.invokevirtual 215, 3) := by decide +kernel
theorem dX12_fall_27 : decode cX12_fall 27 = .ok (.aload_n 0, 1) := by decide +kernel
theorem dX12_fall_28 : decode cX12_fall 28 = .ok (.aload_n 0, 1) := by decide +kernel
theorem dX12_fall_29 : decode cX12_fall 29 = .ok (.getfield 187, 3) := by decide +kernel
theorem dX12_fall_32 : decode cX12_fall 32 = .ok (.invokevirtual 140, 3) := by decide +kernel
theorem dX12_fall_35 : decode cX12_fall 35 = .ok (.ireturn, 1) := by decide +kernel
theorem dX12_late_0 : decode cX12_late 0 = .ok (.aload_n 0, 1) := by decide +kernel
theorem dX12_late_1 : decode cX12_late 1 = .ok (.iconst 0, 1) := by decide +kernel
theorem dX12_late_2 : decode cX12_late 2 = .ok (.putfield 120, 3) := by decide +kernel
theorem dX12_late_5 : decode cX12_late 5 = .ok (.iload_n 1, 1) := by decide +kernel
theorem dX12_late_6 : decode cX12_late 6 = .ok (.i2l, 1) := by decide +kernel
theorem dX12_late_7 : decode cX12_late 7 = .ok (.ldc2_w 218, 3) := by decide +kernel
theorem dX12_late_10 : decode cX12_late 10 = .ok (.ldc2_w 138, 3) := by decide +kernel
theorem dX12_late_13 : decode cX12_late 13 = .ok (.invokestatic 128, 3) := by decide +kernel
theorem dX12_late_16 : decode cX12_late 16 = .ok (.ifCond .ne 11, 3) := by decide +kernel
theorem dX12_late_19 : decode cX12_late 19 = .ok (.aload_n 0, 1) := by decide +kernel
theorem dX12_late_20 : decode cX12_late 20 = .ok (.iconst (-1), 1) := by decide +kernel
theorem dX12_late_21 : decode cX12_late 21 = .ok (.putfield 123, 3) := by decide +kernel
theorem dX12_late_24 : decode cX12_late 24 = .ok (.bipush (-5), 2) := by decide +kernel
theorem dX12_late_26 : decode cX12_late 26 = .ok (.ireturn, 1) := by decide +kernel
theorem dX12_late_27 : decode cX12_late 27 = .ok (.aload_n 0, 1) := by decide +kernel
theorem dX12_late_28 : decode cX12_late 28 = .ok (.getfield 26, 3) := by decide +kernel
theorem dX12_late_31 : decode cX12_late 31 = .ok (.istore_n 2, 1) := by decide +kernel
theorem dX12_late_32 : decode cX12_late 32 = .ok (.aload_n 0, 1) := by decide +kernel
theorem dX12_late_33 : decode cX12_late 33 = .ok (.iload_n 1, 1) := by decide +kernel
theorem dX12_late_34 : decode cX12_late 34 = .ok (.putfield 26, 3) := by decide +kernel
theorem dX12_late_37 : decode cX12_late 37 = .ok (.aload_n 0, 1) := by decide +kernel
theorem dX12_late_38 : decode cX12_late 38 = .ok (.invokevirtual 220, 3) := by decide +kernel
theorem dX12_late_41 : decode cX12_late 41 = .ok (.aload_n 0, 1) := by decide +kernel
theorem dX12_late_42 : decode cX12_late 42 = .ok (.iconst 0, 1) := by decide +kernel
theorem dX12_late_43 : decode cX12_late 43 = .ok (.putfield 123, 3) := by decide +kernel
theorem dX12_late_46 : decode cX12_late 46 = .ok (.iload_n 2, 1) := by decide +kernel
theorem dX12_late_47 : decode cX12_late 47 = .ok (.ireturn, 1) := by decide +kernel
theorem dX12_four_0 : decode cX12_four 0 = .ok (.bipush 24, 2) := by decide +kernel
theorem dX12_four_2 : decode cX12_four 2 = .ok (.istore_n 2, 1) := by decide +kernel
theorem dX12_four_3 : decode cX12_four 3 = .ok (.iload_n 2, 1) := by decide +kernel
theorem dX12_four_4 : decode cX12_four 4 = .ok (.ifCond .lt 35, 3) := by decide +kernel
theorem dX12_four_7 : decode cX12_four 7 = .ok (.aload_n 0, 1) := by decide +kernel
theorem dX12_four_8 : decode cX12_four 8 = .ok (.getfield 111, 3) := by decide +kernel
theorem dX12_four_11 : decode cX12_four 11 = .ok (.aload_n 0, 1) := by decide +kernel
theorem dX12_four_12 : decode cX12_four 12 = .ok (.getfield 223, 3) := by decide +kernel
theorem dX12_four_15 : decode cX12_four 15 = .ok (.iload_n 1, 1) := by decide +kernel
theorem dX12_four_16 : decode cX12_four 16 = .ok (.iload_n 2, 1) := by decide +kernel
theorem dX12_four_17 : decode cX12_four 17 = .ok (.ishr, 1) := by decide +kernel
theorem dX12_four_18 : decode cX12_four 18 = .ok (.sipush 255, 3) := by decide +kernel
theorem dX12_four_21 : decode cX12_four 21 = .ok (.iand, 1) := by decide +kernel
theorem dX12_four_22 : decode cX12_four 22 = .ok (.iastore, 1) := by decide +kernel
theorem dX12_four_23 : decode cX12_four 23 = .ok (.aload_n 0, 1) := by decide +kernel
theorem dX12_four_24 : decode cX12_four 24 = .ok (.dup, 1) := by decide +kernel
theorem dX12_four_25 : decode cX12_four 25 = .ok (.getfield 223, 3) := by decide +kernel
theorem dX12_four_28 : decode cX12_four 28 = .ok (.iconst 1, 1) := by decide +kernel
theorem dX12_four_29 : decode cX12_four 29 = .ok (.iadd, 1) := by decide +kernel
theorem dX12_four_30 : decode cX12_four 30 = .ok (.putfield 223, 3) := by decide +kernel
theorem dX12_four_33 : decode cX12_four 33 = .ok (.iinc 2 (-8), 3) := by decide +kernel
theorem dX12_four_36 : decode cX12_four 36 = .ok (.goto (-33), 3) := by decide +kernel
theorem dX12_four_39 : decode cX12_four 39 = .ok (.return_, 1) := by decide +kernel
theorem dX12_feed_0 : decode cX12_feed 0 = .ok (.aload_n 0, 1) := by decide +kernel
theorem dX12_feed_1 : decode cX12_feed 1 = .ok (.iconst 0, 1) := by decide +kernel
theorem dX12_feed_2 : decode cX12_feed 2 = .ok (.putfield 120, 3) := by decide +kernel
theorem dX12_feed_5 : decode cX12_feed 5 = .ok (.aload_n 0, 1) := by decide +kernel
theorem dX12_feed_6 : decode cX12_feed 6 = .ok (.getfield 223, 3) := by decide +kernel
theorem dX12_feed_9 : decode cX12_feed 9 = .ok (.bipush 20, 2) := by decide +kernel
theorem dX12_feed_11 : decode cX12_feed 11 = .ok (.iadd, 1) := by decide +kernel
theorem dX12_feed_12 : decode cX12_feed 12 = .ok (.sipush 300, 3) := by decide +kernel
theorem dX12_feed_15 : decode cX12_feed 15 = .ok (.if_icmp .le 5, 3) := by decide +kernel
theorem dX12_feed_18 : decode cX12_feed 18 = .ok (.iconst (-1), 1) := by decide +kernel
theorem dX12_feed_19 : decode cX12_feed 19 = .ok (.ireturn, 1) := by decide +kernel
theorem dX12_feed_20 : decode cX12_feed 20 = .ok (.aload_n 0, 1) := by decide +kernel
theorem dX12_feed_21 : decode cX12_feed 21 = .ok (.iload_n 1, 1) := by decide +kernel
theorem dX12_feed_22 : decode cX12_feed 22 = .ok (.invokevirtual 226, 3) := by decide +kernel
theorem dX12_feed_25 : decode cX12_feed 25 = .ok (.aload_n 0, 1) := by decide +kernel
theorem dX12_feed_26 : decode cX12_feed 26 = .ok (.iload_n 2, 1) := by decide +kernel
theorem dX12_feed_27 : decode cX12_feed 27 = .ok (.invokevirtual 226, 3) := by decide +kernel
theorem dX12_feed_30 : decode cX12_feed 30 = .ok (.aload_n 0, 1) := by decide +kernel
theorem dX12_feed_31 : decode cX12_feed 31 = .ok (.iload_n 3, 1) := by decide +kernel
theorem dX12_feed_32 : decode cX12_feed 32 = .ok (.invokevirtual 226, 3) := by decide +kernel
theorem dX12_feed_35 : decode cX12_feed 35 = .ok (.aload_n 0, 1) := by decide +kernel
theorem dX12_feed_36 : decode cX12_feed 36 = .ok (.iload 4, 2) := by decide +kernel
theorem dX12_feed_38 : decode cX12_feed 38 = .ok (.invokevirtual 226, 3) := by decide +kernel
theorem dX12_feed_41 : decode cX12_feed 41 = .ok (.aload_n 0, 1) := by decide +kernel
theorem dX12_feed_42 : decode cX12_feed 42 = .ok (.iload 5, 2) := by decide +kernel
theorem dX12_feed_44 : decode cX12_feed 44 = .ok (.invokevirtual 226, 3) := by decide +kernel
theorem dX12_feed_47 : decode cX12_feed 47 = .ok (.aload_n 0, 1) := by decide +kernel
theorem dX12_feed_48 : decode cX12_feed 48 = .ok (.getfield 223, 3) := by decide +kernel
theorem dX12_feed_51 : decode cX12_feed 51 = .ok (.ireturn, 1) := by decide +kernel
theorem dX12_end_0 : decode cX12_end 0 = .ok (.aload_n 0, 1) := by decide +kernel
theorem dX12_end_1 : decode cX12_end 1 = .ok (.iconst 0, 1) := by decide +kernel
theorem dX12_end_2 : decode cX12_end 2 = .ok (.putfield 120, 3) := by decide +kernel
theorem dX12_end_5 : decode cX12_end 5 = .ok (.iload_n 1, 1) := by decide +kernel
theorem dX12_end_6 : decode cX12_end 6 = .ok (.ifCond .lt 11, 3) := by decide +kernel
theorem dX12_end_9 : decode cX12_end 9 = .ok (.iload_n 1, 1) := by decide +kernel
theorem dX12_end_10 : decode cX12_end 10 = .ok (.aload_n 0, 1) := by decide +kernel
theorem dX12_end_11 : decode cX12_end 11 = .ok (.getfield 223, 3) := by decide +kernel
theorem dX12_end_14 : decode cX12_end 14 = .ok (.if_icmp .le 5, 3) := by decide +kernel
theorem dX12_end_17 : decode cX12_end 17 = .ok (.iconst (-1), 1) := by decide +kernel
theorem dX12_end_18 : decode cX12_end 18 = .ok (.ireturn, 1) := by decide +kernel
theorem dX12_end_19 : decode cX12_end 19 = .ok (.aload_n 0, 1) := by decide +kernel
theorem dX12_end_20 : decode cX12_end 20 = .ok (.iload_n 1, 1) := by decide +kernel
theorem dX12_end_21 : decode cX12_end 21 = .ok (.putfield 223, 3) := by decide +kernel
theorem dX12_end_24 : decode cX12_end 24 = .ok (.iload_n 1, 1) := by decide +kernel
theorem dX12_end_25 : decode cX12_end 25 = .ok (.ireturn, 1) := by decide +kernel
theorem dX12_isSmall_0 : decode cX12_isSmall 0 = .ok (.iload_n 0, 1) := by decide +kernel
theorem dX12_isSmall_1 : decode cX12_isSmall 1 = .ok (.bipush 97, 2) := by decide +kernel
theorem dX12_isSmall_3 : decode cX12_isSmall 3 = .ok (.if_icmp .lt 13, 3) := by decide +kernel
theorem dX12_isSmall_6 : decode cX12_isSmall 6 = .ok (.iload_n 0, 1) := by decide +kernel
theorem dX12_isSmall_7 : decode cX12_isSmall 7 = .ok (.bipush 122, 2) := by decide +kernel
theorem dX12_isSmall_9 : decode cX12_isSmall 9 = .ok (.if_icmp .gt 7, 3) := by decide +kernel
theorem dX12_isSmall_12 : decode cX12_isSmall 12 = .ok (.iconst 1, 1) := by decide +kernel
theorem dX12_isSmall_13 : decode cX12_isSmall 13 = .ok (.goto 4, 3) := by decide +kernel
theorem dX12_isSmall_16 : decode cX12_isSmall 16 = .ok (.iconst 0, 1) := by decide +kernel
theorem dX12_isSmall_17 : decode cX12_isSmall 17 = .ok (.ireturn, 1) := by decide +kernel
theorem dX12_isDigit_0 : decode cX12_isDigit 0 = .ok (.iload_n 0, 1) := by decide +kernel
theorem dX12_isDigit_1 : decode cX12_isDigit 1 = .ok (.bipush 48, 2) := by decide +kernel
theorem dX12_isDigit_3 : decode cX12_isDigit 3 = .ok (.if_icmp .lt 13, 3) := by decide +kernel
theorem dX12_isDigit_6 : decode cX12_isDigit 6 = .ok (.iload_n 0, 1) := by decide +kernel
theorem dX12_isDigit_7 : decode cX12_isDigit 7 = .ok (.bipush 57, 2) := by decide +kernel
theorem dX12_isDigit_9 : decode cX12_isDigit 9 = .ok (.if_icmp .gt 7, 3) := by decide +kernel
theorem dX12_isDigit_12 : decode cX12_isDigit 12 = .ok (.iconst 1, 1) := by decide +kernel
theorem dX12_isDigit_13 : decode cX12_isDigit 13 = .ok (.goto 4, 3) := by decide +kernel
theorem dX12_isDigit_16 : decode cX12_isDigit 16 = .ok (.iconst 0, 1) := by decide +kernel
theorem dX12_isDigit_17 : decode cX12_isDigit 17 = .ok (.ireturn, 1) := by decide +kernel
theorem dX12_next_0 : decode cX12_next 0 = .ok (.aload_n 0, 1) := by decide +kernel
theorem dX12_next_1 : decode cX12_next 1 = .ok (.aload_n 0, 1) := by decide +kernel
theorem dX12_next_2 : decode cX12_next 2 = .ok (.getfield 229, 3) := by decide +kernel
theorem dX12_next_5 : decode cX12_next 5 = .ok (.putfield 232, 3) := by decide +kernel
theorem dX12_next_8 : decode cX12_next 8 = .ok (.aload_n 0, 1) := by decide +kernel
theorem dX12_next_9 : decode cX12_next 9 = .ok (.getfield 232, 3) := by decide +kernel
theorem dX12_next_12 : decode cX12_next 12 = .ok (.aload_n 0, 1) := by decide +kernel
theorem dX12_next_13 : decode cX12_next 13 = .ok (.getfield 223, 3) := by decide +kernel
theorem dX12_next_16 : decode cX12_next 16 = .ok (.if_icmp .ge 30, 3) := by decide +kernel
theorem dX12_next_19 : decode cX12_next 19 = .ok (.aload_n 0, 1) := by decide +kernel
theorem dX12_next_20 : decode cX12_next 20 = .ok (.getfield 111, 3) := by decide +kernel
theorem dX12_next_23 : decode cX12_next 23 = .ok (.aload_n 0, 1) := by decide +kernel
theorem dX12_next_24 : decode cX12_next 24 = .ok (.getfield 232, 3) := by decide +kernel
theorem dX12_next_27 : decode cX12_next 27 = .ok (.iaload, 1) := by decide +kernel
theorem dX12_next_28 : decode cX12_next 28 = .ok (.bipush 32, 2) := by decide +kernel
theorem dX12_next_30 : decode cX12_next 30 = .ok (.if_icmp .ne 16, 3) := by decide +kernel
theorem dX12_next_33 : decode cX12_next 33 = .ok (.aload_n 0, 1) := by decide +kernel
theorem dX12_next_34 : decode cX12_next 34 = .ok (.dup, 1) := by decide +kernel
theorem dX12_next_35 : decode cX12_next 35 = .ok (.getfield 232, 3) := by decide +kernel
theorem dX12_next_38 : decode cX12_next 38 = .ok (.iconst 1, 1) := by decide +kernel
theorem dX12_next_39 : decode cX12_next 39 = .ok (.iadd, 1) := by decide +kernel
theorem dX12_next_40 : decode cX12_next 40 = .ok (.putfield 232, 3) := by decide +kernel
theorem dX12_next_43 : decode cX12_next 43 = .ok (.goto (-35), 3) := by decide +kernel
theorem dX12_next_46 : decode cX12_next 46 = .ok (.aload_n 0, 1) := by decide +kernel
theorem dX12_next_47 : decode cX12_next 47 = .ok (.aload_n 0, 1) := by decide +kernel
theorem dX12_next_48 : decode cX12_next 48 = .ok (.getfield 232, 3) := by decide +kernel
theorem dX12_next_51 : decode cX12_next 51 = .ok (.putfield 229, 3) := by decide +kernel
theorem dX12_next_54 : decode cX12_next 54 = .ok (.aload_n 0, 1) := by decide +kernel
theorem dX12_next_55 : decode cX12_next 55 = .ok (.lconst 0, 1) := by decide +kernel
theorem dX12_next_56 : decode cX12_next 56 = .ok (.putfield 235, 3) := by decide +kernel
theorem dX12_next_59 : decode cX12_next 59 = .ok (.aload_n 0, 1) := by decide +kernel
theorem dX12_next_60 : decode cX12_next 60 = .ok (.aload_n 0, 1) := by decide +kernel
theorem dX12_next_61 : decode cX12_next 61 = .ok (.getfield 232, 3) := by decide +kernel
theorem dX12_next_64 : decode cX12_next 64 = .ok (.aload_n 0, 1) := by decide +kernel
theorem dX12_next_65 : decode cX12_next 65 = .ok (.getfield 223, 3) := by decide +kernel
theorem dX12_next_68 : decode cX12_next 68 = .ok (.if_icmp .ne 7, 3) := by decide +kernel
theorem dX12_next_71 : decode cX12_next 71 = .ok (.iconst 0, 1) := by decide +kernel
theorem dX12_next_72 : decode cX12_next 72 = .ok (.goto 42, 3) := by decide +kernel
theorem dX12_next_75 : decode cX12_next 75 = .ok (.aload_n 0, 1) := by decide +kernel
theorem dX12_next_76 : decode cX12_next 76 = .ok (.getfield 111, 3) := by decide +kernel
theorem dX12_next_79 : decode cX12_next 79 = .ok (.aload_n 0, 1) := by decide +kernel
theorem dX12_next_80 : decode cX12_next 80 = .ok (.getfield 232, 3) := by decide +kernel
theorem dX12_next_83 : decode cX12_next 83 = .ok (.iaload, 1) := by decide +kernel
theorem dX12_next_84 : decode cX12_next 84 = .ok (.invokestatic 239, 3) := by decide +kernel
theorem dX12_next_87 : decode cX12_next 87 = .ok (.ifCond .eq 7, 3) := by decide +kernel
theorem dX12_next_90 : decode cX12_next 90 = .ok (.iconst 1, 1) := by decide +kernel
theorem dX12_next_91 : decode cX12_next 91 = .ok (.goto 23, 3) := by decide +kernel
theorem dX12_next_94 : decode cX12_next 94 = .ok (.aload_n 0, 1) := by decide +kernel
theorem dX12_next_95 : decode cX12_next 95 = .ok (.getfield 111, 3) := by decide +kernel
theorem dX12_next_98 : decode cX12_next 98 = .ok (.aload_n 0, 1) := by decide +kernel
theorem dX12_next_99 : decode cX12_next 99 = .ok (.getfield 232, 3) := by decide +kernel
theorem dX12_next_102 : decode cX12_next 102 = .ok (.iaload, 1) := by decide +kernel
theorem dX12_next_103 : decode cX12_next 103 = .ok (.invokestatic 242, 3) := by decide +kernel
theorem dX12_next_106 : decode cX12_next 106 = .ok (.ifCond .eq 7, 3) := by decide +kernel
theorem dX12_next_109 : decode cX12_next 109 = .ok (.iconst 2, 1) := by decide +kernel
theorem dX12_next_110 : decode cX12_next 110 = .ok (.goto 4, 3) := by decide +kernel
theorem dX12_next_113 : decode cX12_next 113 = .ok (.iconst 3, 1) := by decide +kernel
theorem dX12_next_114 : decode cX12_next 114 = .ok (.putfield 245, 3) := by decide +kernel
theorem dX12_next_117 : decode cX12_next 117 = .ok (.aload_n 0, 1) := by decide +kernel
theorem dX12_next_118 : decode cX12_next 118 = .ok (.getfield 245, 3) := by decide +kernel
theorem dX12_next_121 : decode cX12_next 121 = .ok (.iconst 3, 1) := by decide +kernel
theorem dX12_next_122 : decode cX12_next 122 = .ok (.if_icmp .ne 27, 3) := by decide +kernel
theorem dX12_next_125 : decode cX12_next 125 = .ok (.aload_n 0, 1) := by decide +kernel
theorem dX12_next_126 : decode cX12_next 126 = .ok (.aload_n 0, 1) := by decide +kernel
theorem dX12_next_127 : decode cX12_next 127 = .ok (.getfield 111, 3) := by decide +kernel
theorem dX12_next_130 : decode cX12_next 130 = .ok (.aload_n 0, 1) := by decide +kernel
theorem dX12_next_131 : decode cX12_next 131 = .ok (.getfield 232, 3) := by decide +kernel
theorem dX12_next_134 : decode cX12_next 134 = .ok (.iaload, 1) := by decide +kernel
theorem dX12_next_135 : decode cX12_next 135 = .ok (.i2l, 1) := by decide +kernel
theorem dX12_next_136 : decode cX12_next 136 = .ok (.putfield 235, 3) := by decide +kernel
theorem dX12_next_139 : decode cX12_next 139 = .ok (.aload_n 0, 1) := by decide +kernel
theorem dX12_next_140 : decode cX12_next 140 = .ok (.dup, 1) := by decide +kernel
theorem dX12_next_141 : decode cX12_next 141 = .ok (.getfield 229, 3) := by decide +kernel
theorem dX12_next_144 : decode cX12_next 144 = .ok (.iconst 1, 1) := by decide +kernel
theorem dX12_next_145 : decode cX12_next 145 = .ok (.iadd, 1) := by decide +kernel
theorem dX12_next_146 : decode cX12_next 146 = .ok (.putfield 229, 3) := by decide +kernel
theorem dX12_next_149 : decode cX12_next 149 = .ok (.aload_n 0, 1) := by decide +kernel
theorem dX12_next_150 : decode cX12_next 150 = .ok (.getfield 245, 3) := by decide +kernel
theorem dX12_next_153 : decode cX12_next 153 = .ok (.iconst 1, 1) := by decide +kernel
theorem dX12_next_154 : decode cX12_next 154 = .ok (.if_icmp .ne 89, 3) := by decide +kernel
theorem dX12_next_157 : decode cX12_next 157 = .ok (.aload_n 0, 1) := by decide +kernel
theorem dX12_next_158 : decode cX12_next 158 = .ok (.getfield 229, 3) := by decide +kernel
theorem dX12_next_161 : decode cX12_next 161 = .ok (.aload_n 0, 1) := by decide +kernel
theorem dX12_next_162 : decode cX12_next 162 = .ok (.getfield 223, 3) := by decide +kernel
theorem dX12_next_165 : decode cX12_next 165 = .ok (.if_icmp .ge 78, 3) := by decide +kernel
theorem dX12_next_168 : decode cX12_next 168 = .ok (.aload_n 0, 1) := by decide +kernel
theorem dX12_next_169 : decode cX12_next 169 = .ok (.getfield 111, 3) := by decide +kernel
theorem dX12_next_172 : decode cX12_next 172 = .ok (.aload_n 0, 1) := by decide +kernel
theorem dX12_next_173 : decode cX12_next 173 = .ok (.getfield 229, 3) := by decide +kernel
theorem dX12_next_176 : decode cX12_next 176 = .ok (.iaload, 1) := by decide +kernel
theorem dX12_next_177 : decode cX12_next 177 = .ok (.invokestatic 239, 3) := by decide +kernel
theorem dX12_next_180 : decode cX12_next 180 = .ok (.ifCond .eq 63, 3) := by decide +kernel
theorem dX12_next_183 : decode cX12_next 183 = .ok (.aload_n 0, 1) := by decide +kernel
theorem dX12_next_184 : decode cX12_next 184 = .ok (.aload_n 0, 1) := by decide +kernel
theorem dX12_next_185 : decode cX12_next 185 = .ok (.getfield 229, 3) := by decide +kernel
theorem dX12_next_188 : decode cX12_next 188 = .ok (.aload_n 0, 1) := by decide +kernel
theorem dX12_next_189 : decode cX12_next 189 = .ok (.getfield 232, 3) := by decide +kernel
theorem dX12_next_192 : decode cX12_next 192 = .ok (.isub, 1) := by decide +kernel
theorem dX12_next_193 : decode cX12_next 193 = .ok (.bipush 7, 2) := by decide +kernel
theorem dX12_next_195 : decode cX12_next 195 = .ok (.if_icmp .ge 29, 3) := by decide +kernel
theorem dX12_next_198 : decode cX12_next 198 = .ok (.aload_n 0, 1) := by decide +kernel
theorem dX12_next_199 : decode cX12_next 199 = .ok (.getfield 235, 3) := by decide +kernel
theorem dX12_next_202 : decode cX12_next 202 = .ok (.ldc2_w 248, 3) := by decide +kernel
theorem dX12_next_205 : decode cX12_next 205 = .ok (.lmul, 1) := by decide +kernel
theorem dX12_next_206 : decode cX12_next 206 = .ok (.aload_n 0, 1) := by decide +kernel
theorem dX12_next_207 : decode cX12_next 207 = .ok (.getfield 111, 3) := by decide +kernel
theorem dX12_next_210 : decode cX12_next 210 = .ok (.aload_n 0, 1) := by decide +kernel
theorem dX12_next_211 : decode cX12_next 211 = .ok (.getfield 229, 3) := by decide +kernel
theorem dX12_next_214 : decode cX12_next 214 = .ok (.iaload, 1) := by decide +kernel
theorem dX12_next_215 : decode cX12_next 215 = .ok (.i2l, 1) := by decide +kernel
theorem dX12_next_216 : decode cX12_next 216 = .ok (.ladd, 1) := by decide +kernel
theorem dX12_next_217 : decode cX12_next 217 = .ok (.ldc2_w 250, 3) := by decide +kernel
theorem dX12_next_220 : decode cX12_next 220 = .ok (.lsub, 1) := by decide +kernel
theorem dX12_next_221 : decode cX12_next 221 = .ok (.goto 6, 3) := by decide +kernel
theorem dX12_next_224 : decode cX12_next 224 = .ok (.ldc2_w 218, 3) := by decide +kernel
theorem dX12_next_227 : decode cX12_next 227 = .ok (.putfield 235, 3) := by decide +kernel
theorem dX12_next_230 : decode cX12_next 230 = .ok (.aload_n 0, 1) := by decide +kernel
theorem dX12_next_231 : decode cX12_next 231 = .ok (.dup, 1) := by decide +kernel
theorem dX12_next_232 : decode cX12_next 232 = .ok (.getfield 229, 3) := by decide +kernel
theorem dX12_next_235 : decode cX12_next 235 = .ok (.iconst 1, 1) := by decide +kernel
theorem dX12_next_236 : decode cX12_next 236 = .ok (.iadd, 1) := by decide +kernel
theorem dX12_next_237 : decode cX12_next 237 = .ok (.putfield 229, 3) := by decide +kernel
theorem dX12_next_240 : decode cX12_next 240 = .ok (.goto (-91), 3) := by decide +kernel
theorem dX12_next_243 : decode cX12_next 243 = .ok (.aload_n 0, 1) := by decide +kernel
theorem dX12_next_244 : decode cX12_next 244 = .ok (.getfield 245, 3) := by decide +kernel
theorem dX12_next_247 : decode cX12_next 247 = .ok (.iconst 2, 1) := by decide +kernel
theorem dX12_next_248 : decode cX12_next 248 = .ok (.if_icmp .ne 87, 3) := by decide +kernel
theorem dX12_next_251 : decode cX12_next 251 = .ok (.aload_n 0, 1) := by decide +kernel
theorem dX12_next_252 : decode cX12_next 252 = .ok (.getfield 229, 3) := by decide +kernel
theorem dX12_next_255 : decode cX12_next 255 = .ok (.aload_n 0, 1) := by decide +kernel
theorem dX12_next_256 : decode cX12_next 256 = .ok (.getfield 223, 3) := by decide +kernel
theorem dX12_next_259 : decode cX12_next 259 = .ok (.if_icmp .ge 76, 3) := by decide +kernel
theorem dX12_next_262 : decode cX12_next 262 = .ok (.aload_n 0, 1) := by decide +kernel
theorem dX12_next_263 : decode cX12_next 263 = .ok (.getfield 111, 3) := by decide +kernel
theorem dX12_next_266 : decode cX12_next 266 = .ok (.aload_n 0, 1) := by decide +kernel
theorem dX12_next_267 : decode cX12_next 267 = .ok (.getfield 229, 3) := by decide +kernel
theorem dX12_next_270 : decode cX12_next 270 = .ok (.iaload, 1) := by decide +kernel
theorem dX12_next_271 : decode cX12_next 271 = .ok (.invokestatic 242, 3) := by decide +kernel
theorem dX12_next_274 : decode cX12_next 274 = .ok (.ifCond .eq 61, 3) := by decide +kernel
theorem dX12_next_277 : decode cX12_next 277 = .ok (.aload_n 0, 1) := by decide +kernel
theorem dX12_next_278 : decode cX12_next 278 = .ok (.aload_n 0, 1) := by decide +kernel
theorem dX12_next_279 : decode cX12_next 279 = .ok (.getfield 235, 3) := by decide +kernel
theorem dX12_next_282 : decode cX12_next 282 = .ok (.ldc2_w 136, 3) := by decide +kernel
theorem dX12_next_285 : decode cX12_next 285 = .ok (.lcmp, 1) := by decide +kernel
theorem dX12_next_286 : decode cX12_next 286 = .ok (.ifCond .le 10, 3) := by decide +kernel
theorem dX12_next_289 : decode cX12_next 289 = .ok (.aload_n 0, 1) := by decide +kernel
theorem dX12_next_290 : decode cX12_next 290 = .ok (.getfield 235, 3) := by decide +kernel
theorem dX12_next_293 : decode cX12_next 293 = .ok (.goto 26, 3) := by decide +kernel
theorem dX12_next_296 : decode cX12_next 296 = .ok (.aload_n 0, 1) := by decide +kernel
theorem dX12_next_297 : decode cX12_next 297 = .ok (.getfield 235, 3) := by decide +kernel
theorem dX12_next_300 : decode cX12_next 300 = .ok (.ldc2_w 252, 3) := by decide +kernel
theorem dX12_next_303 : decode cX12_next 303 = .ok (.lmul, 1) := by decide +kernel
theorem dX12_next_304 : decode cX12_next 304 = .ok (.aload_n 0, 1) := by decide +kernel
theorem dX12_next_305 : decode cX12_next 305 = .ok (.getfield 111, 3) := by decide +kernel
theorem dX12_next_308 : decode cX12_next 308 = .ok (.aload_n 0, 1) := by decide +kernel
theorem dX12_next_309 : decode cX12_next 309 = .ok (.getfield 229, 3) := by decide +kernel
theorem dX12_next_312 : decode cX12_next 312 = .ok (.iaload, 1) := by decide +kernel
theorem dX12_next_313 : decode cX12_next 313 = .ok (.i2l, 1) := by decide +kernel
theorem dX12_next_314 : decode cX12_next 314 = .ok (.ladd, 1) := by decide +kernel
theorem dX12_next_315 : decode cX12_next 315 = .ok (.ldc2_w 254, 3) := by decide +kernel
theorem dX12_next_318 : decode cX12_next 318 = .ok (.lsub, 1) := by decide +kernel
theorem dX12_next_319 : decode cX12_next 319 = .ok (.putfield 235, 3) := by decide +kernel
theorem dX12_next_322 : decode cX12_next 322 = .ok (.aload_n 0, 1) := by decide +kernel
theorem dX12_next_323 : decode cX12_next 323 = .ok (.dup, 1) := by decide +kernel
theorem dX12_next_324 : decode cX12_next 324 = .ok (.getfield 229, 3) := by decide +kernel
theorem dX12_next_327 : decode cX12_next 327 = .ok (.iconst 1, 1) := by decide +kernel
theorem dX12_next_328 : decode cX12_next 328 = .ok (.iadd, 1) := by decide +kernel
theorem dX12_next_329 : decode cX12_next 329 = .ok (.putfield 229, 3) := by decide +kernel
theorem dX12_next_332 : decode cX12_next 332 = .ok (.goto (-89), 3) := by decide +kernel
theorem dX12_next_335 : decode cX12_next 335 = .ok (.return_, 1) := by decide +kernel
theorem dX12_isWord_0 : decode cX12_isWord 0 = .ok (.iload_n 1, 1) := by decide +kernel
theorem dX12_isWord_1 : decode cX12_isWord 1 = .ok (.i2l, 1) := by decide +kernel
theorem dX12_isWord_2 : decode cX12_isWord 2 = .ok (.ldc2_w 250, 3) := by decide +kernel
theorem dX12_isWord_5 : decode cX12_isWord 5 = .ok (.lsub, 1) := by decide +kernel
theorem dX12_isWord_6 : decode cX12_isWord 6 = .ok (.ldc2_w 248, 3) := by decide +kernel
theorem dX12_isWord_9 : decode cX12_isWord 9 = .ok (.lmul, 1) := by decide +kernel
theorem dX12_isWord_10 : decode cX12_isWord 10 = .ok (.iload_n 2, 1) := by decide +kernel
theorem dX12_isWord_11 : decode cX12_isWord 11 = .ok (.i2l, 1) := by decide +kernel
theorem dX12_isWord_12 : decode cX12_isWord 12 = .ok (.ladd, 1) := by decide +kernel
theorem dX12_isWord_13 : decode cX12_isWord 13 = .ok (.ldc2_w 250, 3) := by decide +kernel
theorem dX12_isWord_16 : decode cX12_isWord 16 = .ok (.lsub, 1) := by decide +kernel
theorem dX12_isWord_17 : decode cX12_isWord 17 = .ok (.lstore 7, 2) := by decide +kernel
theorem dX12_isWord_19 : decode cX12_isWord 19 = .ok (.iload_n 3, 1) := by decide +kernel
theorem dX12_isWord_20 : decode cX12_isWord 20 = .ok (.ifCond .ne 8, 3) := by decide +kernel
theorem dX12_isWord_23 : decode cX12_isWord 23 = .ok (.lload 7, 2) := by decide +kernel
theorem dX12_isWord_25 : decode cX12_isWord 25 = .ok (.goto 16, 3) := by decide +kernel
theorem dX12_isWord_28 : decode cX12_isWord 28 = .ok (.lload 7, 2) := by decide +kernel
theorem dX12_isWord_30 : decode cX12_isWord 30 = .ok (.ldc2_w 248, 3) := by decide +kernel
theorem dX12_isWord_33 : decode cX12_isWord 33 = .ok (.lmul, 1) := by decide +kernel
theorem dX12_isWord_34 : decode cX12_isWord 34 = .ok (.iload_n 3, 1) := by decide +kernel
theorem dX12_isWord_35 : decode cX12_isWord 35 = .ok (.i2l, 1) := by decide +kernel
theorem dX12_isWord_36 : decode cX12_isWord 36 = .ok (.ladd, 1) := by decide +kernel
theorem dX12_isWord_37 : decode cX12_isWord 37 = .ok (.ldc2_w 250, 3) := by decide +kernel
theorem dX12_isWord_40 : decode cX12_isWord 40 = .ok (.lsub, 1) := by decide +kernel
theorem dX12_isWord_41 : decode cX12_isWord 41 = .ok (.lstore 7, 2) := by decide +kernel
theorem dX12_isWord_43 : decode cX12_isWord 43 = .ok (.iload 4, 2) := by decide +kernel
theorem dX12_isWord_45 : decode cX12_isWord 45 = .ok (.ifCond .ne 8, 3) := by decide +kernel
theorem dX12_isWord_48 : decode cX12_isWord 48 = .ok (.lload 7, 2) := by decide +kernel
theorem dX12_isWord_50 : decode cX12_isWord 50 = .ok (.goto 17, 3) := by decide +kernel
theorem dX12_isWord_53 : decode cX12_isWord 53 = .ok (.lload 7, 2) := by decide +kernel
theorem dX12_isWord_55 : decode cX12_isWord 55 = .ok (.ldc2_w 248, 3) := by decide +kernel
theorem dX12_isWord_58 : decode cX12_isWord 58 = .ok (.lmul, 1) := by decide +kernel
theorem dX12_isWord_59 : decode cX12_isWord 59 = .ok (.iload 4, 2) := by decide +kernel
theorem dX12_isWord_61 : decode cX12_isWord 61 = .ok (.i2l, 1) := by decide +kernel
theorem dX12_isWord_62 : decode cX12_isWord 62 = .ok (.ladd, 1) := by decide +kernel
theorem dX12_isWord_63 : decode cX12_isWord 63 = .ok (.ldc2_w 250, 3) := by decide +kernel
theorem dX12_isWord_66 : decode cX12_isWord 66 = .ok (.lsub, 1) := by decide +kernel
theorem dX12_isWord_67 : decode cX12_isWord 67 = .ok (.lstore 7, 2) := by decide +kernel
theorem dX12_isWord_69 : decode cX12_isWord 69 = .ok (.iload 5, 2) := by decide +kernel
theorem dX12_isWord_71 : decode cX12_isWord 71 = .ok (.ifCond .ne 8, 3) := by decide +kernel
theorem dX12_isWord_74 : decode cX12_isWord 74 = .ok (.lload 7, 2) := by decide +kernel
theorem dX12_isWord_76 : decode cX12_isWord 76 = .ok (.goto 17, 3) := by decide +kernel
theorem dX12_isWord_79 : decode cX12_isWord 79 = .ok (.lload 7, 2) := by decide +kernel
theorem dX12_isWord_81 : decode cX12_isWord 81 = .ok (.ldc2_w 248, 3) := by decide +kernel
theorem dX12_isWord_84 : decode cX12_isWord 84 = .ok (.lmul, 1) := by decide +kernel
theorem dX12_isWord_85 : decode cX12_isWord 85 = .ok (.iload 5, 2) := by decide +kernel
theorem dX12_isWord_87 : decode cX12_isWord 87 = .ok (.i2l, 1) := by decide +kernel
theorem dX12_isWord_88 : decode cX12_isWord 88 = .ok (.ladd, 1) := by decide +kernel
theorem dX12_isWord_89 : decode cX12_isWord 89 = .ok (.ldc2_w 250, 3) := by decide +kernel
theorem dX12_isWord_92 : decode cX12_isWord 92 = .ok (.lsub, 1) := by decide +kernel
theorem dX12_isWord_93 : decode cX12_isWord 93 = .ok (.lstore 7, 2) := by decide +kernel
theorem dX12_isWord_95 : decode cX12_isWord 95 = .ok (.iload 6, 2) := by decide +kernel
theorem dX12_isWord_97 : decode cX12_isWord 97 = .ok (.ifCond .ne 8, 3) := by decide +kernel
theorem dX12_isWord_100 : decode cX12_isWord 100 = .ok (.lload 7, 2) := by decide +kernel
theorem dX12_isWord_102 : decode cX12_isWord 102 = .ok (.goto 17, 3) := by decide +kernel
theorem dX12_isWord_105 : decode cX12_isWord 105 = .ok (.lload 7, 2) := by decide +kernel
theorem dX12_isWord_107 : decode cX12_isWord 107 = .ok (.ldc2_w 248, 3) := by decide +kernel
theorem dX12_isWord_110 : decode cX12_isWord 110 = .ok (.lmul, 1) := by decide +kernel
theorem dX12_isWord_111 : decode cX12_isWord 111 = .ok (.iload 6, 2) := by decide +kernel
theorem dX12_isWord_113 : decode cX12_isWord 113 = .ok (.i2l, 1) := by decide +kernel
theorem dX12_isWord_114 : decode cX12_isWord 114 = .ok (.ladd, 1) := by decide +kernel
theorem dX12_isWord_115 : decode cX12_isWord 115 = .ok (.ldc2_w 250, 3) := by decide +kernel
theorem dX12_isWord_118 : decode cX12_isWord 118 = .ok (.lsub, 1) := by decide +kernel
theorem dX12_isWord_119 : decode cX12_isWord 119 = .ok (.lstore 7, 2) := by decide +kernel
theorem dX12_isWord_121 : decode cX12_isWord 121 = .ok (.aload_n 0, 1) := by decide +kernel
theorem dX12_isWord_122 : decode cX12_isWord 122 = .ok (.getfield 245, 3) := by decide +kernel
theorem dX12_isWord_125 : decode cX12_isWord 125 = .ok (.iconst 1, 1) := by decide +kernel
theorem dX12_isWord_126 : decode cX12_isWord 126 = .ok (.if_icmp .ne 17, 3) := by decide +kernel
theorem dX12_isWord_129 : decode cX12_isWord 129 = .ok (.aload_n 0, 1) := by decide +kernel
theorem dX12_isWord_130 : decode cX12_isWord 130 = .ok (.getfield 235, 3) := by decide +kernel
theorem dX12_isWord_133 : decode cX12_isWord 133 = .ok (.lload 7, 2) := by decide +kernel
theorem dX12_isWord_135 : decode cX12_isWord 135 = .ok (.lcmp, 1) := by decide +kernel
theorem dX12_isWord_136 : decode cX12_isWord 136 = .ok (.ifCond .ne 7, 3) := by decide +kernel
theorem dX12_isWord_139 : decode cX12_isWord 139 = .ok (.iconst 1, 1) := by decide +kernel
theorem dX12_isWord_140 : decode cX12_isWord 140 = .ok (.goto 4, 3) := by decide +kernel
theorem dX12_isWord_143 : decode cX12_isWord 143 = .ok (.iconst 0, 1) := by decide +kernel
theorem dX12_isWord_144 : decode cX12_isWord 144 = .ok (.ireturn, 1) := by decide +kernel
theorem dX12_isSign_0 : decode cX12_isSign 0 = .ok (.aload_n 0, 1) := by decide +kernel
theorem dX12_isSign_1 : decode cX12_isSign 1 = .ok (.getfield 245, 3) := by decide +kernel
theorem dX12_isSign_4 : decode cX12_isSign 4 = .ok (.iconst 3, 1) := by decide +kernel
theorem dX12_isSign_5 : decode cX12_isSign 5 = .ok (.if_icmp .ne 17, 3) := by decide +kernel
theorem dX12_isSign_8 : decode cX12_isSign 8 = .ok (.aload_n 0, 1) := by decide +kernel
theorem dX12_isSign_9 : decode cX12_isSign 9 = .ok (.getfield 235, 3) := by decide +kernel
theorem dX12_isSign_12 : decode cX12_isSign 12 = .ok (.iload_n 1, 1) := by decide +kernel
theorem dX12_isSign_13 : decode cX12_isSign 13 = .ok (.i2l, 1) := by decide +kernel
theorem dX12_isSign_14 : decode cX12_isSign 14 = .ok (.lcmp, 1) := by decide +kernel
theorem dX12_isSign_15 : decode cX12_isSign 15 = .ok (.ifCond .ne 7, 3) := by decide +kernel
theorem dX12_isSign_18 : decode cX12_isSign 18 = .ok (.iconst 1, 1) := by decide +kernel
theorem dX12_isSign_19 : decode cX12_isSign 19 = .ok (.goto 4, 3) := by decide +kernel
theorem dX12_isSign_22 : decode cX12_isSign 22 = .ok (.iconst 0, 1) := by decide +kernel
theorem dX12_isSign_23 : decode cX12_isSign 23 = .ok (.ireturn, 1) := by decide +kernel
theorem dX12_must_0 : decode cX12_must 0 = .ok (.aload_n 0, 1) := by decide +kernel
theorem dX12_must_1 : decode cX12_must 1 = .ok (.getfield 256, 3) := by decide +kernel
theorem dX12_must_4 : decode cX12_must 4 = .ok (.ifCond .ne 20, 3) := by decide +kernel
theorem dX12_must_7 : decode cX12_must 7 = .ok (.iload_n 1, 1) := by decide +kernel
theorem dX12_must_8 : decode cX12_must 8 = .ok (.ifCond .ne 16, 3) := by decide +kernel
theorem dX12_must_11 : decode cX12_must 11 = .ok (.aload_n 0, 1) := by decide +kernel
theorem dX12_must_12 : decode cX12_must 12 = .ok (.iconst 1, 1) := by decide +kernel
theorem dX12_must_13 : decode cX12_must 13 = .ok (.putfield 256, 3) := by decide +kernel
theorem dX12_must_16 : decode cX12_must 16 = .ok (.aload_n 0, 1) := by decide +kernel
theorem dX12_must_17 : decode cX12_must 17 = .ok (.aload_n 0, 1) := by decide +kernel
theorem dX12_must_18 : decode cX12_must 18 = .ok (.getfield 232, 3) := by decide +kernel
theorem dX12_must_21 : decode cX12_must 21 = .ok (.putfield 114, 3) := by decide +kernel
theorem dX12_must_24 : decode cX12_must 24 = .ok (.aload_n 0, 1) := by decide +kernel
theorem dX12_must_25 : decode cX12_must 25 = .ok (.getfield 256, 3) := by decide +kernel
theorem dX12_must_28 : decode cX12_must 28 = .ok (.ifCond .ne 7, 3) := by decide +kernel
theorem dX12_must_31 : decode cX12_must 31 = .ok (.aload_n 0, 1) := by decide +kernel
theorem dX12_must_32 : decode cX12_must 32 = .ok (.invokevirtual 259, 3) := by decide +kernel
theorem dX12_must_35 : decode cX12_must 35 = .ok (.return_, 1) := by decide +kernel
theorem dX12_number_0 : decode cX12_number 0 = .ok (.aload_n 0, 1) := by decide +kernel
theorem dX12_number_1 : decode cX12_number 1 = .ok (.getfield 235, 3) := by decide +kernel
theorem dX12_number_4 : decode cX12_number 4 = .ok (.l2i, 1) := by decide +kernel
theorem dX12_number_5 : decode cX12_number 5 = .ok (.istore 5, 2) := by decide +kernel
theorem dX12_number_7 : decode cX12_number 7 = .ok (.aload_n 0, 1) := by decide +kernel
theorem dX12_number_8 : decode cX12_number 8 = .ok (.aload_n 0, 1) := by decide +kernel
theorem dX12_number_9 : decode cX12_number 9 = .ok (.getfield 245, 3) := by decide +kernel
theorem dX12_number_12 : decode cX12_number 12 = .ok (.iconst 2, 1) := by decide +kernel
theorem dX12_number_13 : decode cX12_number 13 = .ok (.if_icmp .ne 19, 3) := by decide +kernel
theorem dX12_number_16 : decode cX12_number 16 = .ok (.aload_n 0, 1) := by decide +kernel
theorem dX12_number_17 : decode cX12_number 17 = .ok (.getfield 235, 3) := by decide +kernel
theorem dX12_number_20 : decode cX12_number 20 = .ok (.lload_n 1, 1) := by decide +kernel
theorem dX12_number_21 : decode cX12_number 21 = .ok (.lload_n 3, 1) := by decide +kernel
theorem dX12_number_22 : decode cX12_number 22 = .ok (.invokestatic 128, 3) := by decide +kernel
theorem dX12_number_25 : decode cX12_number 25 = .ok (.ifCond .eq 7, 3) := by decide +kernel
theorem dX12_number_28 : decode cX12_number 28 = .ok (.iconst 1, 1) := by decide +kernel
theorem dX12_number_29 : decode cX12_number 29 = .ok (.goto 4, 3) := by decide +kernel
theorem dX12_number_32 : decode cX12_number 32 = .ok (.iconst 0, 1) := by decide +kernel
theorem dX12_number_33 : decode cX12_number 33 = .ok (.invokevirtual 262, 3) := by decide +kernel
theorem dX12_number_36 : decode cX12_number 36 = .ok (.iload 5, 2) := by decide +kernel
theorem dX12_number_38 : decode cX12_number 38 = .ok (.ireturn, 1) := by decide +kernel
theorem dX12_signed_0 : decode cX12_signed 0 = .ok (.aload_n 0, 1) := by decide +kernel
theorem dX12_signed_1 : decode cX12_signed 1 = .ok (.getfield 256, 3) := by decide +kernel
theorem dX12_signed_4 : decode cX12_signed 4 = .ok (.ifCond .ne 16, 3) := by decide +kernel
theorem dX12_signed_7 : decode cX12_signed 7 = .ok (.aload_n 0, 1) := by decide +kernel
theorem dX12_signed_8 : decode cX12_signed 8 = .ok (.bipush 45, 2) := by decide +kernel
theorem dX12_signed_10 : decode cX12_signed 10 = .ok (.invokevirtual 266, 3) := by decide +kernel
theorem dX12_signed_13 : decode cX12_signed 13 = .ok (.ifCond .eq 7, 3) := by decide +kernel
theorem dX12_signed_16 : decode cX12_signed 16 = .ok (.iconst 1, 1) := by decide +kernel
theorem dX12_signed_17 : decode cX12_signed 17 = .ok (.goto 4, 3) := by decide +kernel
theorem dX12_signed_20 : decode cX12_signed 20 = .ok (.iconst 0, 1) := by decide +kernel
theorem dX12_signed_21 : decode cX12_signed 21 = .ok (.istore_n 1, 1) := by decide +kernel
theorem dX12_signed_22 : decode cX12_signed 22 = .ok (.iload_n 1, 1) := by decide +kernel
theorem dX12_signed_23 : decode cX12_signed 23 = .ok (.ifCond .eq 7, 3) := by decide +kernel
theorem dX12_signed_26 : decode cX12_signed 26 = .ok (.aload_n 0, 1) := by decide +kernel
theorem dX12_signed_27 : decode cX12_signed 27 = .ok (.invokevirtual 259, 3) := by decide +kernel
theorem dX12_signed_30 : decode cX12_signed 30 = .ok (.aload_n 0, 1) := by decide +kernel
theorem dX12_signed_31 : decode cX12_signed 31 = .ok (.lconst 0, 1) := by decide +kernel
theorem dX12_signed_32 : decode cX12_signed 32 = .ok (.ldc2_w 136, 3) := by decide +kernel
theorem dX12_signed_35 : decode cX12_signed 35 = .ok (.invokevirtual 269, 3) := by decide +kernel
theorem dX12_signed_38 : decode cX12_signed 38 = .ok (.istore_n 2, 1) := by decide +kernel
theorem dX12_signed_39 : decode cX12_signed 39 = .ok (.iload_n 1, 1) := by decide +kernel
theorem dX12_signed_40 : decode cX12_signed 40 = .ok (.ifCond .eq 8, 3) := by decide +kernel
theorem dX12_signed_43 : decode cX12_signed 43 = .ok (.iload_n 2, 1) := by decide +kernel
theorem dX12_signed_44 : decode cX12_signed 44 = .ok (.ineg, 1) := by decide +kernel
theorem dX12_signed_45 : decode cX12_signed 45 = .ok (.goto 4, 3) := by decide +kernel
theorem dX12_signed_48 : decode cX12_signed 48 = .ok (.iload_n 2, 1) := by decide +kernel
theorem dX12_signed_49 : decode cX12_signed 49 = .ok (.ireturn, 1) := by decide +kernel
theorem dX12_isName_0 : decode cX12_isName 0 = .ok (.aload_n 0, 1) := by decide +kernel
theorem dX12_isName_1 : decode cX12_isName 1 = .ok (.getfield 245, 3) := by decide +kernel
theorem dX12_isName_4 : decode cX12_isName 4 = .ok (.iconst 1, 1) := by decide +kernel
theorem dX12_isName_5 : decode cX12_isName 5 = .ok (.if_icmp .ne 20, 3) := by decide +kernel
theorem dX12_isName_8 : decode cX12_isName 8 = .ok (.aload_n 0, 1) := by decide +kernel
theorem dX12_isName_9 : decode cX12_isName 9 = .ok (.getfield 229, 3) := by decide +kernel
theorem dX12_isName_12 : decode cX12_isName 12 = .ok (.aload_n 0, 1) := by decide +kernel
theorem dX12_isName_13 : decode cX12_isName 13 = .ok (.getfield 232, 3) := by decide +kernel
theorem dX12_isName_16 : decode cX12_isName 16 = .ok (.isub, 1) := by decide +kernel
theorem dX12_isName_17 : decode cX12_isName 17 = .ok (.iconst 1, 1) := by decide +kernel
theorem dX12_isName_18 : decode cX12_isName 18 = .ok (.if_icmp .ne 7, 3) := by decide +kernel
theorem dX12_isName_21 : decode cX12_isName 21 = .ok (.iconst 1, 1) := by decide +kernel
theorem dX12_isName_22 : decode cX12_isName 22 = .ok (.goto 4, 3) := by decide +kernel
theorem dX12_isName_25 : decode cX12_isName 25 = .ok (.iconst 0, 1) := by decide +kernel
theorem dX12_isName_26 : decode cX12_isName 26 = .ok (.ireturn, 1) := by decide +kernel
theorem dX12_name_0 : decode cX12_name 0 = .ok (.aload_n 0, 1) := by decide +kernel
theorem dX12_name_1 : decode cX12_name 1 = .ok (.invokevirtual 273, 3) := by decide +kernel
theorem dX12_name_4 : decode cX12_name 4 = .ok (.ifCond .eq 23, 3) := by decide +kernel
theorem dX12_name_7 : decode cX12_name 7 = .ok (.aload_n 0, 1) := by decide +kernel
theorem dX12_name_8 : decode cX12_name 8 = .ok (.getfield 108, 3) := by decide +kernel
theorem dX12_name_11 : decode cX12_name 11 = .ok (.aload_n 0, 1) := by decide +kernel
theorem dX12_name_12 : decode cX12_name 12 = .ok (.getfield 111, 3) := by decide +kernel
theorem dX12_name_15 : decode cX12_name 15 = .ok (.aload_n 0, 1) := by decide +kernel
theorem dX12_name_16 : decode cX12_name 16 = .ok (.getfield 232, 3) := by decide +kernel
theorem dX12_name_19 : decode cX12_name 19 = .ok (.iaload, 1) := by decide +kernel
theorem dX12_name_20 : decode cX12_name 20 = .ok (.bipush 97, 2) := by decide +kernel
theorem dX12_name_22 : decode cX12_name 22 = .ok (.isub, 1) := by decide +kernel
theorem dX12_name_23 : decode cX12_name 23 = .ok (.iaload, 1) := by decide +kernel
theorem dX12_name_24 : decode cX12_name 24 = .ok (.goto 4, 3) := by decide +kernel
theorem dX12_name_27 : decode cX12_name 27 = .ok (.iconst (-1), 1) := by decide +kernel
theorem dX12_name_28 : decode cX12_name 28 = .ok (.istore_n 1, 1) := by decide +kernel
theorem dX12_name_29 : decode cX12_name 29 = .ok (.aload_n 0, 1) := by decide +kernel
theorem dX12_name_30 : decode cX12_name 30 = .ok (.iload_n 1, 1) := by decide +kernel
theorem dX12_name_31 : decode cX12_name 31 = .ok (.iconst (-1), 1) := by decide +kernel
theorem dX12_name_32 : decode cX12_name 32 = .ok (.if_icmp .eq 7, 3) := by decide +kernel
theorem dX12_name_35 : decode cX12_name 35 = .ok (.iconst 1, 1) := by decide +kernel
theorem dX12_name_36 : decode cX12_name 36 = .ok (.goto 4, 3) := by decide +kernel
theorem dX12_name_39 : decode cX12_name 39 = .ok (.iconst 0, 1) := by decide +kernel
theorem dX12_name_40 : decode cX12_name 40 = .ok (.invokevirtual 262, 3) := by decide +kernel
theorem dX12_name_43 : decode cX12_name 43 = .ok (.iload_n 1, 1) := by decide +kernel
theorem dX12_name_44 : decode cX12_name 44 = .ok (.ireturn, 1) := by decide +kernel
theorem dX12_kindAt_0 : decode cX12_kindAt 0 = .ok (.aload_n 0, 1) := by decide +kernel
theorem dX12_kindAt_1 : decode cX12_kindAt 1 = .ok (.bipush 115, 2) := by decide +kernel
theorem dX12_kindAt_3 : decode cX12_kindAt 3 = .ok (.bipush 111, 2) := by decide +kernel
theorem dX12_kindAt_5 : decode cX12_kindAt 5 = .ok (.bipush 117, 2) := by decide +kernel
theorem dX12_kindAt_7 : decode cX12_kindAt 7 = .ok (.bipush 114, 2) := by decide +kernel
theorem dX12_kindAt_9 : decode cX12_kindAt 9 = .ok (.bipush 99, 2) := by decide +kernel
theorem dX12_kindAt_11 : decode cX12_kindAt 11 = .ok (.bipush 101, 2) := by decide +kernel
theorem dX12_kindAt_13 : decode cX12_kindAt 13 = .ok (.invokevirtual 276, 3) := by decide +kernel
theorem dX12_kindAt_16 : decode cX12_kindAt 16 = .ok (.ifCond .ne 38, 3) := by decide +kernel
theorem dX12_kindAt_19 : decode cX12_kindAt 19 = .ok (.aload_n 0, 1) := by decide +kernel
theorem dX12_kindAt_20 : decode cX12_kindAt 20 = .ok (.bipush 119, 2) := by decide +kernel
theorem dX12_kindAt_22 : decode cX12_kindAt 22 = .ok (.bipush 104, 2) := by decide +kernel
theorem dX12_kindAt_24 : decode cX12_kindAt 24 = .ok (.bipush 101, 2) := by decide +kernel
theorem dX12_kindAt_26 : decode cX12_kindAt 26 = .ok (.bipush 114, 2) := by decide +kernel
theorem dX12_kindAt_28 : decode cX12_kindAt 28 = .ok (.bipush 101, 2) := by decide +kernel
theorem dX12_kindAt_30 : decode cX12_kindAt 30 = .ok (.iconst 0, 1) := by decide +kernel
theorem dX12_kindAt_31 : decode cX12_kindAt 31 = .ok (.invokevirtual 276, 3) := by decide +kernel
theorem dX12_kindAt_34 : decode cX12_kindAt 34 = .ok (.ifCond .ne 20, 3) := by decide +kernel
theorem dX12_kindAt_37 : decode cX12_kindAt 37 = .ok (.aload_n 0, 1) := by decide +kernel
theorem dX12_kindAt_38 : decode cX12_kindAt 38 = .ok (.bipush 112, 2) := by decide +kernel
theorem dX12_kindAt_40 : decode cX12_kindAt 40 = .ok (.bipush 108, 2) := by decide +kernel
theorem dX12_kindAt_42 : decode cX12_kindAt 42 = .ok (.bipush 117, 2) := by decide +kernel
theorem dX12_kindAt_44 : decode cX12_kindAt 44 = .ok (.bipush 115, 2) := by decide +kernel
theorem dX12_kindAt_46 : decode cX12_kindAt 46 = .ok (.iconst 0, 1) := by decide +kernel
theorem dX12_kindAt_47 : decode cX12_kindAt 47 = .ok (.iconst 0, 1) := by decide +kernel
theorem dX12_kindAt_48 : decode cX12_kindAt 48 = .ok (.invokevirtual 276, 3) := by decide +kernel
theorem dX12_kindAt_51 : decode cX12_kindAt 51 = .ok (.ifCond .eq 50, 3) := by decide +kernel
theorem dX12_kindAt_54 : decode cX12_kindAt 54 = .ok (.aload_n 0, 1) := by decide +kernel
theorem dX12_kindAt_55 : decode cX12_kindAt 55 = .ok (.bipush 115, 2) := by decide +kernel
theorem dX12_kindAt_57 : decode cX12_kindAt 57 = .ok (.bipush 111, 2) := by decide +kernel
theorem dX12_kindAt_59 : decode cX12_kindAt 59 = .ok (.bipush 117, 2) := by decide +kernel
theorem dX12_kindAt_61 : decode cX12_kindAt 61 = .ok (.bipush 114, 2) := by decide +kernel
theorem dX12_kindAt_63 : decode cX12_kindAt 63 = .ok (.bipush 99, 2) := by decide +kernel
theorem dX12_kindAt_65 : decode cX12_kindAt 65 = .ok (.bipush 101, 2) := by decide +kernel
theorem dX12_kindAt_67 : decode cX12_kindAt 67 = .ok (.invokevirtual 276, 3) := by decide +kernel
theorem dX12_kindAt_70 : decode cX12_kindAt 70 = .ok (.ifCond .eq 7, 3) := by decide +kernel
theorem dX12_kindAt_73 : decode cX12_kindAt 73 = .ok (.iconst 0, 1) := by decide +kernel
theorem dX12_kindAt_74 : decode cX12_kindAt 74 = .ok (.goto 26, 3) := by decide +kernel
theorem dX12_kindAt_77 : decode cX12_kindAt 77 = .ok (.aload_n 0, 1) := by decide +kernel
theorem dX12_kindAt_78 : decode cX12_kindAt 78 = .ok (.bipush 119, 2) := by decide +kernel
theorem dX12_kindAt_80 : decode cX12_kindAt 80 = .ok (.bipush 104, 2) := by decide +kernel
theorem dX12_kindAt_82 : decode cX12_kindAt 82 = .ok (.bipush 101, 2) := by decide +kernel
theorem dX12_kindAt_84 : decode cX12_kindAt 84 = .ok (.bipush 114, 2) := by decide +kernel
theorem dX12_kindAt_86 : decode cX12_kindAt 86 = .ok (.bipush 101, 2) := by decide +kernel
theorem dX12_kindAt_88 : decode cX12_kindAt 88 = .ok (.iconst 0, 1) := by decide +kernel
theorem dX12_kindAt_89 : decode cX12_kindAt 89 = .ok (.invokevirtual 276, 3) := by decide +kernel
theorem dX12_kindAt_92 : decode cX12_kindAt 92 = .ok (.ifCond .eq 7, 3) := by decide +kernel
theorem dX12_kindAt_95 : decode cX12_kindAt 95 = .ok (.iconst 1, 1) := by decide +kernel
theorem dX12_kindAt_96 : decode cX12_kindAt 96 = .ok (.goto 4, 3) := by decide +kernel
theorem dX12_kindAt_99 : decode cX12_kindAt 99 = .ok (.iconst 2, 1) := by decide +kernel
theorem dX12_kindAt_100 : decode cX12_kindAt 100 = .ok (.ireturn, 1) := by decide +kernel
theorem dX12_kindAt_101 : decode cX12_kindAt 101 = .ok (.aload_n 0, 1) := by decide +kernel
theorem dX12_kindAt_102 : decode cX12_kindAt 102 = .ok (.bipush 116, 2) := by decide +kernel
theorem dX12_kindAt_104 : decode cX12_kindAt 104 = .ok (.bipush 105, 2) := by decide +kernel
theorem dX12_kindAt_106 : decode cX12_kindAt 106 = .ok (.bipush 109, 2) := by decide +kernel
theorem dX12_kindAt_108 : decode cX12_kindAt 108 = .ok (.bipush 101, 2) := by decide +kernel
theorem dX12_kindAt_110 : decode cX12_kindAt 110 = .ok (.bipush 115, 2) := by decide +kernel
theorem dX12_kindAt_112 : decode cX12_kindAt 112 = .ok (.iconst 0, 1) := by decide +kernel
theorem dX12_kindAt_113 : decode cX12_kindAt 113 = .ok (.invokevirtual 276, 3) := by decide +kernel
theorem dX12_kindAt_116 : decode cX12_kindAt 116 = .ok (.ifCond .ne 40, 3) := by decide +kernel
theorem dX12_kindAt_119 : decode cX12_kindAt 119 = .ok (.aload_n 0, 1) := by decide +kernel
theorem dX12_kindAt_120 : decode cX12_kindAt 120 = .ok (.bipush 114, 2) := by decide +kernel
theorem dX12_kindAt_122 : decode cX12_kindAt 122 = .ok (.bipush 101, 2) := by decide +kernel
theorem dX12_kindAt_124 : decode cX12_kindAt 124 = .ok (.bipush 107, 2) := by decide +kernel
theorem dX12_kindAt_126 : decode cX12_kindAt 126 = .ok (.bipush 101, 2) := by decide +kernel
theorem dX12_kindAt_128 : decode cX12_kindAt 128 = .ok (.bipush 121, 2) := by decide +kernel
theorem dX12_kindAt_130 : decode cX12_kindAt 130 = .ok (.iconst 0, 1) := by decide +kernel
theorem dX12_kindAt_131 : decode cX12_kindAt 131 = .ok (.invokevirtual 276, 3) := by decide +kernel
theorem dX12_kindAt_134 : decode cX12_kindAt 134 = .ok (.ifCond .ne 22, 3) := by decide +kernel
theorem dX12_kindAt_137 : decode cX12_kindAt 137 = .ok (.aload_n 0, 1) := by decide +kernel
theorem dX12_kindAt_138 : decode cX12_kindAt 138 = .ok (.bipush 119, 2) := by decide +kernel
theorem dX12_kindAt_140 : decode cX12_kindAt 140 = .ok (.bipush 105, 2) := by decide +kernel
theorem dX12_kindAt_142 : decode cX12_kindAt 142 = .ok (.bipush 110, 2) := by decide +kernel
theorem dX12_kindAt_144 : decode cX12_kindAt 144 = .ok (.bipush 100, 2) := by decide +kernel
theorem dX12_kindAt_146 : decode cX12_kindAt 146 = .ok (.bipush 111, 2) := by decide +kernel
theorem dX12_kindAt_148 : decode cX12_kindAt 148 = .ok (.bipush 119, 2) := by decide +kernel
theorem dX12_kindAt_150 : decode cX12_kindAt 150 = .ok (.invokevirtual 276, 3) := by decide +kernel
theorem dX12_kindAt_153 : decode cX12_kindAt 153 = .ok (.ifCond .eq 49, 3) := by decide +kernel
theorem dX12_kindAt_156 : decode cX12_kindAt 156 = .ok (.aload_n 0, 1) := by decide +kernel
theorem dX12_kindAt_157 : decode cX12_kindAt 157 = .ok (.bipush 116, 2) := by decide +kernel
theorem dX12_kindAt_159 : decode cX12_kindAt 159 = .ok (.bipush 105, 2) := by decide +kernel
theorem dX12_kindAt_161 : decode cX12_kindAt 161 = .ok (.bipush 109, 2) := by decide +kernel
theorem dX12_kindAt_163 : decode cX12_kindAt 163 = .ok (.bipush 101, 2) := by decide +kernel
theorem dX12_kindAt_165 : decode cX12_kindAt 165 = .ok (.bipush 115, 2) := by decide +kernel
theorem dX12_kindAt_167 : decode cX12_kindAt 167 = .ok (.iconst 0, 1) := by decide +kernel
theorem dX12_kindAt_168 : decode cX12_kindAt 168 = .ok (.invokevirtual 276, 3) := by decide +kernel
theorem dX12_kindAt_171 : decode cX12_kindAt 171 = .ok (.ifCond .eq 7, 3) := by decide +kernel
theorem dX12_kindAt_174 : decode cX12_kindAt 174 = .ok (.iconst 3, 1) := by decide +kernel
theorem dX12_kindAt_175 : decode cX12_kindAt 175 = .ok (.goto 26, 3) := by decide +kernel
theorem dX12_kindAt_178 : decode cX12_kindAt 178 = .ok (.aload_n 0, 1) := by decide +kernel
theorem dX12_kindAt_179 : decode cX12_kindAt 179 = .ok (.bipush 114, 2) := by decide +kernel
theorem dX12_kindAt_181 : decode cX12_kindAt 181 = .ok (.bipush 101, 2) := by decide +kernel
theorem dX12_kindAt_183 : decode cX12_kindAt 183 = .ok (.bipush 107, 2) := by decide +kernel
theorem dX12_kindAt_185 : decode cX12_kindAt 185 = .ok (.bipush 101, 2) := by decide +kernel
theorem dX12_kindAt_187 : decode cX12_kindAt 187 = .ok (.bipush 121, 2) := by decide +kernel
theorem dX12_kindAt_189 : decode cX12_kindAt 189 = .ok (.iconst 0, 1) := by decide +kernel
theorem dX12_kindAt_190 : decode cX12_kindAt 190 = .ok (.invokevirtual 276, 3) := by decide +kernel
theorem dX12_kindAt_193 : decode cX12_kindAt 193 = .ok (.ifCond .eq 7, 3) := by decide +kernel
theorem dX12_kindAt_196 : decode cX12_kindAt 196 = .ok (.iconst 4, 1) := by decide +kernel
theorem dX12_kindAt_197 : decode cX12_kindAt 197 = .ok (.goto 4, 3) := by decide +kernel
theorem dX12_kindAt_200 : decode cX12_kindAt 200 = .ok (.iconst 5, 1) := by decide +kernel
theorem dX12_kindAt_201 : decode cX12_kindAt 201 = .ok (.ireturn, 1) := by decide +kernel
theorem dX12_kindAt_202 : decode cX12_kindAt 202 = .ok (.aload_n 0, 1) := by decide +kernel
theorem dX12_kindAt_203 : decode cX12_kindAt 203 = .ok (.bipush 101, 2) := by decide +kernel
theorem dX12_kindAt_205 : decode cX12_kindAt 205 = .ok (.bipush 118, 2) := by decide +kernel
theorem dX12_kindAt_207 : decode cX12_kindAt 207 = .ok (.bipush 101, 2) := by decide +kernel
theorem dX12_kindAt_209 : decode cX12_kindAt 209 = .ok (.bipush 114, 2) := by decide +kernel
theorem dX12_kindAt_211 : decode cX12_kindAt 211 = .ok (.iconst 0, 1) := by decide +kernel
theorem dX12_kindAt_212 : decode cX12_kindAt 212 = .ok (.iconst 0, 1) := by decide +kernel
theorem dX12_kindAt_213 : decode cX12_kindAt 213 = .ok (.invokevirtual 276, 3) := by decide +kernel
theorem dX12_kindAt_216 : decode cX12_kindAt 216 = .ok (.ifCond .ne 37, 3) := by decide +kernel
theorem dX12_kindAt_219 : decode cX12_kindAt 219 = .ok (.aload_n 0, 1) := by decide +kernel
theorem dX12_kindAt_220 : decode cX12_kindAt 220 = .ok (.bipush 115, 2) := by decide +kernel
theorem dX12_kindAt_222 : decode cX12_kindAt 222 = .ok (.bipush 117, 2) := by decide +kernel
theorem dX12_kindAt_224 : decode cX12_kindAt 224 = .ok (.bipush 109, 2) := by decide +kernel
theorem dX12_kindAt_226 : decode cX12_kindAt 226 = .ok (.iconst 0, 1) := by decide +kernel
theorem dX12_kindAt_227 : decode cX12_kindAt 227 = .ok (.iconst 0, 1) := by decide +kernel
theorem dX12_kindAt_228 : decode cX12_kindAt 228 = .ok (.iconst 0, 1) := by decide +kernel
theorem dX12_kindAt_229 : decode cX12_kindAt 229 = .ok (.invokevirtual 276, 3) := by decide +kernel
theorem dX12_kindAt_232 : decode cX12_kindAt 232 = .ok (.ifCond .ne 21, 3) := by decide +kernel
theorem dX12_kindAt_235 : decode cX12_kindAt 235 = .ok (.aload_n 0, 1) := by decide +kernel
theorem dX12_kindAt_236 : decode cX12_kindAt 236 = .ok (.bipush 99, 2) := by decide +kernel
theorem dX12_kindAt_238 : decode cX12_kindAt 238 = .ok (.bipush 111, 2) := by decide +kernel
theorem dX12_kindAt_240 : decode cX12_kindAt 240 = .ok (.bipush 117, 2) := by decide +kernel
theorem dX12_kindAt_242 : decode cX12_kindAt 242 = .ok (.bipush 110, 2) := by decide +kernel
theorem dX12_kindAt_244 : decode cX12_kindAt 244 = .ok (.bipush 116, 2) := by decide +kernel
theorem dX12_kindAt_246 : decode cX12_kindAt 246 = .ok (.iconst 0, 1) := by decide +kernel
theorem dX12_kindAt_247 : decode cX12_kindAt 247 = .ok (.invokevirtual 276, 3) := by decide +kernel
theorem dX12_kindAt_250 : decode cX12_kindAt 250 = .ok (.ifCond .eq 49, 3) := by decide +kernel
theorem dX12_kindAt_253 : decode cX12_kindAt 253 = .ok (.aload_n 0, 1) := by decide +kernel
theorem dX12_kindAt_254 : decode cX12_kindAt 254 = .ok (.bipush 101, 2) := by decide +kernel
theorem dX12_kindAt_256 : decode cX12_kindAt 256 = .ok (.bipush 118, 2) := by decide +kernel
theorem dX12_kindAt_258 : decode cX12_kindAt 258 = .ok (.bipush 101, 2) := by decide +kernel
theorem dX12_kindAt_260 : decode cX12_kindAt 260 = .ok (.bipush 114, 2) := by decide +kernel
theorem dX12_kindAt_262 : decode cX12_kindAt 262 = .ok (.iconst 0, 1) := by decide +kernel
theorem dX12_kindAt_263 : decode cX12_kindAt 263 = .ok (.iconst 0, 1) := by decide +kernel
theorem dX12_kindAt_264 : decode cX12_kindAt 264 = .ok (.invokevirtual 276, 3) := by decide +kernel
theorem dX12_kindAt_267 : decode cX12_kindAt 267 = .ok (.ifCond .eq 8, 3) := by decide +kernel
theorem dX12_kindAt_270 : decode cX12_kindAt 270 = .ok (.bipush 6, 2) := by decide +kernel
theorem dX12_kindAt_272 : decode cX12_kindAt 272 = .ok (.goto 26, 3) := by decide +kernel
theorem dX12_kindAt_275 : decode cX12_kindAt 275 = .ok (.aload_n 0, 1) := by decide +kernel
theorem dX12_kindAt_276 : decode cX12_kindAt 276 = .ok (.bipush 115, 2) := by decide +kernel
theorem dX12_kindAt_278 : decode cX12_kindAt 278 = .ok (.bipush 117, 2) := by decide +kernel
theorem dX12_kindAt_280 : decode cX12_kindAt 280 = .ok (.bipush 109, 2) := by decide +kernel
theorem dX12_kindAt_282 : decode cX12_kindAt 282 = .ok (.iconst 0, 1) := by decide +kernel
theorem dX12_kindAt_283 : decode cX12_kindAt 283 = .ok (.iconst 0, 1) := by decide +kernel
theorem dX12_kindAt_284 : decode cX12_kindAt 284 = .ok (.iconst 0, 1) := by decide +kernel
theorem dX12_kindAt_285 : decode cX12_kindAt 285 = .ok (.invokevirtual 276, 3) := by decide +kernel
theorem dX12_kindAt_288 : decode cX12_kindAt 288 = .ok (.ifCond .eq 8, 3) := by decide +kernel
theorem dX12_kindAt_291 : decode cX12_kindAt 291 = .ok (.bipush 7, 2) := by decide +kernel
theorem dX12_kindAt_293 : decode cX12_kindAt 293 = .ok (.goto 5, 3) := by decide +kernel
theorem dX12_kindAt_296 : decode cX12_kindAt 296 = .ok (.bipush 8, 2) := by decide +kernel
theorem dX12_kindAt_298 : decode cX12_kindAt 298 = .ok (.ireturn, 1) := by decide +kernel
theorem dX12_kindAt_299 : decode cX12_kindAt 299 = .ok (.aload_n 0, 1) := by decide +kernel
theorem dX12_kindAt_300 : decode cX12_kindAt 300 = .ok (.bipush 109, 2) := by decide +kernel
theorem dX12_kindAt_302 : decode cX12_kindAt 302 = .ok (.bipush 97, 2) := by decide +kernel
theorem dX12_kindAt_304 : decode cX12_kindAt 304 = .ok (.bipush 120, 2) := by decide +kernel
theorem dX12_kindAt_306 : decode cX12_kindAt 306 = .ok (.iconst 0, 1) := by decide +kernel
theorem dX12_kindAt_307 : decode cX12_kindAt 307 = .ok (.iconst 0, 1) := by decide +kernel
theorem dX12_kindAt_308 : decode cX12_kindAt 308 = .ok (.iconst 0, 1) := by decide +kernel
theorem dX12_kindAt_309 : decode cX12_kindAt 309 = .ok (.invokevirtual 276, 3) := by decide +kernel
theorem dX12_kindAt_312 : decode cX12_kindAt 312 = .ok (.ifCond .ne 20, 3) := by decide +kernel
theorem dX12_kindAt_315 : decode cX12_kindAt 315 = .ok (.aload_n 0, 1) := by decide +kernel
theorem dX12_kindAt_316 : decode cX12_kindAt 316 = .ok (.bipush 108, 2) := by decide +kernel
theorem dX12_kindAt_318 : decode cX12_kindAt 318 = .ok (.bipush 97, 2) := by decide +kernel
theorem dX12_kindAt_320 : decode cX12_kindAt 320 = .ok (.bipush 115, 2) := by decide +kernel
theorem dX12_kindAt_322 : decode cX12_kindAt 322 = .ok (.bipush 116, 2) := by decide +kernel
theorem dX12_kindAt_324 : decode cX12_kindAt 324 = .ok (.iconst 0, 1) := by decide +kernel
theorem dX12_kindAt_325 : decode cX12_kindAt 325 = .ok (.iconst 0, 1) := by decide +kernel
theorem dX12_kindAt_326 : decode cX12_kindAt 326 = .ok (.invokevirtual 276, 3) := by decide +kernel
theorem dX12_kindAt_329 : decode cX12_kindAt 329 = .ok (.ifCond .eq 27, 3) := by decide +kernel
theorem dX12_kindAt_332 : decode cX12_kindAt 332 = .ok (.aload_n 0, 1) := by decide +kernel
theorem dX12_kindAt_333 : decode cX12_kindAt 333 = .ok (.bipush 109, 2) := by decide +kernel
theorem dX12_kindAt_335 : decode cX12_kindAt 335 = .ok (.bipush 97, 2) := by decide +kernel
theorem dX12_kindAt_337 : decode cX12_kindAt 337 = .ok (.bipush 120, 2) := by decide +kernel
theorem dX12_kindAt_339 : decode cX12_kindAt 339 = .ok (.iconst 0, 1) := by decide +kernel
theorem dX12_kindAt_340 : decode cX12_kindAt 340 = .ok (.iconst 0, 1) := by decide +kernel
theorem dX12_kindAt_341 : decode cX12_kindAt 341 = .ok (.iconst 0, 1) := by decide +kernel
theorem dX12_kindAt_342 : decode cX12_kindAt 342 = .ok (.invokevirtual 276, 3) := by decide +kernel
theorem dX12_kindAt_345 : decode cX12_kindAt 345 = .ok (.ifCond .eq 8, 3) := by decide +kernel
theorem dX12_kindAt_348 : decode cX12_kindAt 348 = .ok (.bipush 9, 2) := by decide +kernel
theorem dX12_kindAt_350 : decode cX12_kindAt 350 = .ok (.goto 5, 3) := by decide +kernel
theorem dX12_kindAt_353 : decode cX12_kindAt 353 = .ok (.bipush 10, 2) := by decide +kernel
theorem dX12_kindAt_355 : decode cX12_kindAt 355 = .ok (.ireturn, 1) := by decide +kernel
theorem dX12_kindAt_356 : decode cX12_kindAt 356 = .ok (.aload_n 0, 1) := by decide +kernel
theorem dX12_kindAt_357 : decode cX12_kindAt 357 = .ok (.bipush 106, 2) := by decide +kernel
theorem dX12_kindAt_359 : decode cX12_kindAt 359 = .ok (.bipush 111, 2) := by decide +kernel
theorem dX12_kindAt_361 : decode cX12_kindAt 361 = .ok (.bipush 105, 2) := by decide +kernel
theorem dX12_kindAt_363 : decode cX12_kindAt 363 = .ok (.bipush 110, 2) := by decide +kernel
theorem dX12_kindAt_365 : decode cX12_kindAt 365 = .ok (.iconst 0, 1) := by decide +kernel
theorem dX12_kindAt_366 : decode cX12_kindAt 366 = .ok (.iconst 0, 1) := by decide +kernel
theorem dX12_kindAt_367 : decode cX12_kindAt 367 = .ok (.invokevirtual 276, 3) := by decide +kernel
theorem dX12_kindAt_370 : decode cX12_kindAt 370 = .ok (.ifCond .eq 8, 3) := by decide +kernel
theorem dX12_kindAt_373 : decode cX12_kindAt 373 = .ok (.bipush 11, 2) := by decide +kernel
theorem dX12_kindAt_375 : decode cX12_kindAt 375 = .ok (.goto 26, 3) := by decide +kernel
theorem dX12_kindAt_378 : decode cX12_kindAt 378 = .ok (.aload_n 0, 1) := by decide +kernel
theorem dX12_kindAt_379 : decode cX12_kindAt 379 = .ok (.bipush 108, 2) := by decide +kernel
theorem dX12_kindAt_381 : decode cX12_kindAt 381 = .ok (.bipush 101, 2) := by decide +kernel
theorem dX12_kindAt_383 : decode cX12_kindAt 383 = .ok (.bipush 115, 2) := by decide +kernel
theorem dX12_kindAt_385 : decode cX12_kindAt 385 = .ok (.bipush 115, 2) := by decide +kernel
theorem dX12_kindAt_387 : decode cX12_kindAt 387 = .ok (.iconst 0, 1) := by decide +kernel
theorem dX12_kindAt_388 : decode cX12_kindAt 388 = .ok (.iconst 0, 1) := by decide +kernel
theorem dX12_kindAt_389 : decode cX12_kindAt 389 = .ok (.invokevirtual 276, 3) := by decide +kernel
theorem dX12_kindAt_392 : decode cX12_kindAt 392 = .ok (.ifCond .eq 8, 3) := by decide +kernel
theorem dX12_kindAt_395 : decode cX12_kindAt 395 = .ok (.bipush 12, 2) := by decide +kernel
theorem dX12_kindAt_397 : decode cX12_kindAt 397 = .ok (.goto 4, 3) := by decide +kernel
theorem dX12_kindAt_400 : decode cX12_kindAt 400 = .ok (.iconst (-1), 1) := by decide +kernel
theorem dX12_kindAt_401 : decode cX12_kindAt 401 = .ok (.ireturn, 1) := by decide +kernel
theorem dX12_readTable_0 : decode cX12_readTable 0 = .ok (.aload_n 0, 1) := by decide +kernel
theorem dX12_readTable_1 : decode cX12_readTable 1 = .ok (.invokevirtual 273, 3) := by decide +kernel
theorem dX12_readTable_4 : decode cX12_readTable 4 = .ok (.ifCond .eq 18, 3) := by decide +kernel
theorem dX12_readTable_7 : decode cX12_readTable 7 = .ok (.aload_n 0, 1) := by decide +kernel
theorem dX12_readTable_8 : decode cX12_readTable 8 = .ok (.getfield 111, 3) := by decide +kernel
theorem dX12_readTable_11 : decode cX12_readTable 11 = .ok (.aload_n 0, 1) := by decide +kernel
theorem dX12_readTable_12 : decode cX12_readTable 12 = .ok (.getfield 232, 3) := by decide +kernel
theorem dX12_readTable_15 : decode cX12_readTable 15 = .ok (.iaload, 1) := by decide +kernel
theorem dX12_readTable_16 : decode cX12_readTable 16 = .ok (.bipush 97, 2) := by decide +kernel
theorem dX12_readTable_18 : decode cX12_readTable 18 = .ok (.isub, 1) := by decide +kernel
theorem dX12_readTable_19 : decode cX12_readTable 19 = .ok (.goto 4, 3) := by decide +kernel
theorem dX12_readTable_22 : decode cX12_readTable 22 = .ok (.iconst (-1), 1) := by decide +kernel
theorem dX12_readTable_23 : decode cX12_readTable 23 = .ok (.istore_n 1, 1) := by decide +kernel
theorem dX12_readTable_24 : decode cX12_readTable 24 = .ok (.aload_n 0, 1) := by decide +kernel
theorem dX12_readTable_25 : decode cX12_readTable 25 = .ok (.iload_n 1, 1) := by decide +kernel
theorem dX12_readTable_26 : decode cX12_readTable 26 = .ok (.iconst (-1), 1) := by decide +kernel
theorem dX12_readTable_27 : decode cX12_readTable 27 = .ok (.if_icmp .eq 26, 3) := by decide +kernel
theorem dX12_readTable_30 : decode cX12_readTable 30 = .ok (.aload_n 0, 1) := by decide +kernel
theorem dX12_readTable_31 : decode cX12_readTable 31 = .ok (.getfield 108, 3) := by decide +kernel
theorem dX12_readTable_34 : decode cX12_readTable 34 = .ok (.iload_n 1, 1) := by decide +kernel
theorem dX12_readTable_35 : decode cX12_readTable 35 = .ok (.iaload, 1) := by decide +kernel
theorem dX12_readTable_36 : decode cX12_readTable 36 = .ok (.iconst (-1), 1) := by decide +kernel
theorem dX12_readTable_37 : decode cX12_readTable 37 = .ok (.if_icmp .ne 16, 3) := by decide +kernel
theorem dX12_readTable_40 : decode cX12_readTable 40 = .ok (.aload_n 0, 1) := by decide +kernel
theorem dX12_readTable_41 : decode cX12_readTable 41 = .ok (.getfield 280, 3) := by decide +kernel
theorem dX12_readTable_44 : decode cX12_readTable 44 = .ok (.bipush 12, 2) := by decide +kernel
theorem dX12_readTable_46 : decode cX12_readTable 46 = .ok (.if_icmp .ge 7, 3) := by decide +kernel
theorem dX12_readTable_49 : decode cX12_readTable 49 = .ok (.iconst 1, 1) := by decide +kernel
theorem dX12_readTable_50 : decode cX12_readTable 50 = .ok (.goto 4, 3) := by decide +kernel
theorem dX12_readTable_53 : decode cX12_readTable 53 = .ok (.iconst 0, 1) := by decide +kernel
theorem dX12_readTable_54 : decode cX12_readTable 54 = .ok (.invokevirtual 262, 3) := by decide +kernel
theorem dX12_readTable_57 : decode cX12_readTable 57 = .ok (.aload_n 0, 1) := by decide +kernel
theorem dX12_readTable_58 : decode cX12_readTable 58 = .ok (.aload_n 0, 1) := by decide +kernel
theorem dX12_readTable_59 : decode cX12_readTable 59 = .ok (.bipush 61, 2) := by decide +kernel
theorem dX12_readTable_61 : decode cX12_readTable 61 = .ok (.invokevirtual 266, 3) := by decide +kernel
theorem dX12_readTable_64 : decode cX12_readTable 64 = .ok (.invokevirtual 262, 3) := by decide +kernel
theorem dX12_readTable_67 : decode cX12_readTable 67 = .ok (.aload_n 0, 1) := by decide +kernel
theorem dX12_readTable_68 : decode cX12_readTable 68 = .ok (.invokevirtual 283, 3) := by decide +kernel
theorem dX12_readTable_71 : decode cX12_readTable 71 = .ok (.istore_n 2, 1) := by decide +kernel
theorem dX12_readTable_72 : decode cX12_readTable 72 = .ok (.aload_n 0, 1) := by decide +kernel
theorem dX12_readTable_73 : decode cX12_readTable 73 = .ok (.iload_n 2, 1) := by decide +kernel
theorem dX12_readTable_74 : decode cX12_readTable 74 = .ok (.iconst (-1), 1) := by decide +kernel
theorem dX12_readTable_75 : decode cX12_readTable 75 = .ok (.if_icmp .eq 7, 3) := by decide +kernel
theorem dX12_readTable_78 : decode cX12_readTable 78 = .ok (.iconst 1, 1) := by decide +kernel
theorem dX12_readTable_79 : decode cX12_readTable 79 = .ok (.goto 4, 3) := by decide +kernel
theorem dX12_readTable_82 : decode cX12_readTable 82 = .ok (.iconst 0, 1) := by decide +kernel
theorem dX12_readTable_83 : decode cX12_readTable 83 = .ok (.invokevirtual 262, 3) := by decide +kernel
theorem dX12_readTable_86 : decode cX12_readTable 86 = .ok (.iload_n 2, 1) := by decide +kernel
theorem dX12_readTable_87 : decode cX12_readTable 87 = .ok (.ifCond .ne 14, 3) := by decide +kernel
theorem dX12_readTable_90 : decode cX12_readTable 90 = .ok (.aload_n 0, 1) := by decide +kernel
theorem dX12_readTable_91 : decode cX12_readTable 91 = .ok (.lconst 0, 1) := by decide +kernel
theorem dX12_readTable_92 : decode cX12_readTable 92 = .ok (.ldc2_w 126, 3) := by decide +kernel
theorem dX12_readTable_95 : decode cX12_readTable 95 = .ok (.invokevirtual 269, 3) := by decide +kernel
theorem dX12_readTable_98 : decode cX12_readTable 98 = .ok (.goto 7, 3) := by decide +kernel
theorem dX12_readTable_101 : decode cX12_readTable 101 = .ok (.aload_n 0, 1) := by decide +kernel
theorem dX12_readTable_102 : decode cX12_readTable 102 = .ok (.invokevirtual 287, 3) := by decide +kernel
theorem dX12_readTable_105 : decode cX12_readTable 105 = .ok (.istore_n 3, 1) := by decide +kernel
theorem dX12_readTable_106 : decode cX12_readTable 106 = .ok (.iconst 0, 1) := by decide +kernel
theorem dX12_readTable_107 : decode cX12_readTable 107 = .ok (.istore 4, 2) := by decide +kernel
theorem dX12_readTable_109 : decode cX12_readTable 109 = .ok (.iconst 0, 1) := by decide +kernel
theorem dX12_readTable_110 : decode cX12_readTable 110 = .ok (.istore 5, 2) := by decide +kernel
theorem dX12_readTable_112 : decode cX12_readTable 112 = .ok (.iconst 0, 1) := by decide +kernel
theorem dX12_readTable_113 : decode cX12_readTable 113 = .ok (.istore 6, 2) := by decide +kernel
theorem dX12_readTable_115 : decode cX12_readTable 115 = .ok (.iload_n 2, 1) := by decide +kernel
theorem dX12_readTable_116 : decode cX12_readTable 116 = .ok (.iconst 1, 1) := by decide +kernel
theorem dX12_readTable_117 : decode cX12_readTable 117 = .ok (.if_icmp .ne 132, 3) := by decide +kernel
theorem dX12_readTable_120 : decode cX12_readTable 120 = .ok (.aload_n 0, 1) := by decide +kernel
theorem dX12_readTable_121 : decode cX12_readTable 121 = .ok (.bipush 107, 2) := by decide +kernel
theorem dX12_readTable_123 : decode cX12_readTable 123 = .ok (.bipush 101, 2) := by decide +kernel
theorem dX12_readTable_125 : decode cX12_readTable 125 = .ok (.bipush 121, 2) := by decide +kernel
theorem dX12_readTable_127 : decode cX12_readTable 127 = .ok (.iconst 0, 1) := by decide +kernel
theorem dX12_readTable_128 : decode cX12_readTable 128 = .ok (.iconst 0, 1) := by decide +kernel
theorem dX12_readTable_129 : decode cX12_readTable 129 = .ok (.iconst 0, 1) := by decide +kernel
theorem dX12_readTable_130 : decode cX12_readTable 130 = .ok (.invokevirtual 276, 3) := by decide +kernel
theorem dX12_readTable_133 : decode cX12_readTable 133 = .ok (.ifCond .eq 7, 3) := by decide +kernel
theorem dX12_readTable_136 : decode cX12_readTable 136 = .ok (.iconst 0, 1) := by decide +kernel
theorem dX12_readTable_137 : decode cX12_readTable 137 = .ok (.goto 26, 3) := by decide +kernel
theorem dX12_readTable_140 : decode cX12_readTable 140 = .ok (.aload_n 0, 1) := by decide +kernel
theorem dX12_readTable_141 : decode cX12_readTable 141 = .ok (.bipush 118, 2) := by decide +kernel
theorem dX12_readTable_143 : decode cX12_readTable 143 = .ok (.bipush 97, 2) := by decide +kernel
theorem dX12_readTable_145 : decode cX12_readTable 145 = .ok (.bipush 108, 2) := by decide +kernel
theorem dX12_readTable_147 : decode cX12_readTable 147 = .ok (.bipush 117, 2) := by decide +kernel
theorem dX12_readTable_149 : decode cX12_readTable 149 = .ok (.bipush 101, 2) := by decide +kernel
theorem dX12_readTable_151 : decode cX12_readTable 151 = .ok (.iconst 0, 1) := by decide +kernel
theorem dX12_readTable_152 : decode cX12_readTable 152 = .ok (.invokevirtual 276, 3) := by decide +kernel
theorem dX12_readTable_155 : decode cX12_readTable 155 = .ok (.ifCond .eq 7, 3) := by decide +kernel
theorem dX12_readTable_158 : decode cX12_readTable 158 = .ok (.iconst 1, 1) := by decide +kernel
theorem dX12_readTable_159 : decode cX12_readTable 159 = .ok (.goto 4, 3) := by decide +kernel
theorem dX12_readTable_162 : decode cX12_readTable 162 = .ok (.iconst 2, 1) := by decide +kernel
theorem dX12_readTable_163 : decode cX12_readTable 163 = .ok (.istore 5, 2) := by decide +kernel
theorem dX12_readTable_165 : decode cX12_readTable 165 = .ok (.aload_n 0, 1) := by decide +kernel
theorem dX12_readTable_166 : decode cX12_readTable 166 = .ok (.iload 5, 2) := by decide +kernel
theorem dX12_readTable_168 : decode cX12_readTable 168 = .ok (.iconst 2, 1) := by decide +kernel
theorem dX12_readTable_169 : decode cX12_readTable 169 = .ok (.if_icmp .lt 20, 3) := by decide +kernel
theorem dX12_readTable_172 : decode cX12_readTable 172 = .ok (.aload_n 0, 1) := by decide +kernel
theorem dX12_readTable_173 : decode cX12_readTable 173 = .ok (.bipush 116, 2) := by decide +kernel
theorem dX12_readTable_175 : decode cX12_readTable 175 = .ok (.bipush 105, 2) := by decide +kernel
theorem dX12_readTable_177 : decode cX12_readTable 177 = .ok (.bipush 109, 2) := by decide +kernel
theorem dX12_readTable_179 : decode cX12_readTable 179 = .ok (.bipush 101, 2) := by decide +kernel
theorem dX12_readTable_181 : decode cX12_readTable 181 = .ok (.iconst 0, 1) := by decide +kernel
theorem dX12_readTable_182 : decode cX12_readTable 182 = .ok (.iconst 0, 1) := by decide +kernel
theorem dX12_readTable_183 : decode cX12_readTable 183 = .ok (.invokevirtual 276, 3) := by decide +kernel
theorem dX12_readTable_186 : decode cX12_readTable 186 = .ok (.ifCond .eq 7, 3) := by decide +kernel
theorem dX12_readTable_189 : decode cX12_readTable 189 = .ok (.iconst 1, 1) := by decide +kernel
theorem dX12_readTable_190 : decode cX12_readTable 190 = .ok (.goto 4, 3) := by decide +kernel
theorem dX12_readTable_193 : decode cX12_readTable 193 = .ok (.iconst 0, 1) := by decide +kernel
theorem dX12_readTable_194 : decode cX12_readTable 194 = .ok (.invokevirtual 262, 3) := by decide +kernel
theorem dX12_readTable_197 : decode cX12_readTable 197 = .ok (.aload_n 0, 1) := by decide +kernel
theorem dX12_readTable_198 : decode cX12_readTable 198 = .ok (.getfield 235, 3) := by decide +kernel
theorem dX12_readTable_201 : decode cX12_readTable 201 = .ok (.l2i, 1) := by decide +kernel
theorem dX12_readTable_202 : decode cX12_readTable 202 = .ok (.istore 6, 2) := by decide +kernel
theorem dX12_readTable_204 : decode cX12_readTable 204 = .ok (.aload_n 0, 1) := by decide +kernel
theorem dX12_readTable_205 : decode cX12_readTable 205 = .ok (.aload_n 0, 1) := by decide +kernel
theorem dX12_readTable_206 : decode cX12_readTable 206 = .ok (.bipush 60, 2) := by decide +kernel
theorem dX12_readTable_208 : decode cX12_readTable 208 = .ok (.invokevirtual 266, 3) := by decide +kernel
theorem dX12_readTable_211 : decode cX12_readTable 211 = .ok (.ifCond .ne 21, 3) := by decide +kernel
theorem dX12_readTable_214 : decode cX12_readTable 214 = .ok (.aload_n 0, 1) := by decide +kernel
theorem dX12_readTable_215 : decode cX12_readTable 215 = .ok (.bipush 62, 2) := by decide +kernel
theorem dX12_readTable_217 : decode cX12_readTable 217 = .ok (.invokevirtual 266, 3) := by decide +kernel
theorem dX12_readTable_220 : decode cX12_readTable 220 = .ok (.ifCond .ne 12, 3) := by decide +kernel
theorem dX12_readTable_223 : decode cX12_readTable 223 = .ok (.aload_n 0, 1) := by decide +kernel
theorem dX12_readTable_224 : decode cX12_readTable 224 = .ok (.bipush 61, 2) := by decide +kernel
theorem dX12_readTable_226 : decode cX12_readTable 226 = .ok (.invokevirtual 266, 3) := by decide +kernel
theorem dX12_readTable_229 : decode cX12_readTable 229 = .ok (.ifCond .eq 7, 3) := by decide +kernel
theorem dX12_readTable_232 : decode cX12_readTable 232 = .ok (.iconst 1, 1) := by decide +kernel
theorem dX12_readTable_233 : decode cX12_readTable 233 = .ok (.goto 4, 3) := by decide +kernel
theorem dX12_readTable_236 : decode cX12_readTable 236 = .ok (.iconst 0, 1) := by decide +kernel
theorem dX12_readTable_237 : decode cX12_readTable 237 = .ok (.invokevirtual 262, 3) := by decide +kernel
theorem dX12_readTable_240 : decode cX12_readTable 240 = .ok (.aload_n 0, 1) := by decide +kernel
theorem dX12_readTable_241 : decode cX12_readTable 241 = .ok (.invokevirtual 290, 3) := by decide +kernel
theorem dX12_readTable_244 : decode cX12_readTable 244 = .ok (.istore 4, 2) := by decide +kernel
theorem dX12_readTable_246 : decode cX12_readTable 246 = .ok (.goto 79, 3) := by decide +kernel
theorem dX12_readTable_249 : decode cX12_readTable 249 = .ok (.iload_n 2, 1) := by decide +kernel
theorem dX12_readTable_250 : decode cX12_readTable 250 = .ok (.iconst 2, 1) := by decide +kernel
theorem dX12_readTable_251 : decode cX12_readTable 251 = .ok (.if_icmp .eq 8, 3) := by decide +kernel
theorem dX12_readTable_254 : decode cX12_readTable 254 = .ok (.iload_n 2, 1) := by decide +kernel
theorem dX12_readTable_255 : decode cX12_readTable 255 = .ok (.iconst 3, 1) := by decide +kernel
theorem dX12_readTable_256 : decode cX12_readTable 256 = .ok (.if_icmp .ne 12, 3) := by decide +kernel
theorem dX12_readTable_259 : decode cX12_readTable 259 = .ok (.aload_n 0, 1) := by decide +kernel
theorem dX12_readTable_260 : decode cX12_readTable 260 = .ok (.invokevirtual 290, 3) := by decide +kernel
theorem dX12_readTable_263 : decode cX12_readTable 263 = .ok (.istore 4, 2) := by decide +kernel
theorem dX12_readTable_265 : decode cX12_readTable 265 = .ok (.goto 60, 3) := by decide +kernel
theorem dX12_readTable_268 : decode cX12_readTable 268 = .ok (.iload_n 2, 1) := by decide +kernel
theorem dX12_readTable_269 : decode cX12_readTable 269 = .ok (.iconst 4, 1) := by decide +kernel
theorem dX12_readTable_270 : decode cX12_readTable 270 = .ok (.if_icmp .eq 8, 3) := by decide +kernel
theorem dX12_readTable_273 : decode cX12_readTable 273 = .ok (.iload_n 2, 1) := by decide +kernel
theorem dX12_readTable_274 : decode cX12_readTable 274 = .ok (.iconst 5, 1) := by decide +kernel
theorem dX12_readTable_275 : decode cX12_readTable 275 = .ok (.if_icmp .ne 32, 3) := by decide +kernel
theorem dX12_readTable_278 : decode cX12_readTable 278 = .ok (.iload_n 2, 1) := by decide +kernel
theorem dX12_readTable_279 : decode cX12_readTable 279 = .ok (.iconst 4, 1) := by decide +kernel
theorem dX12_readTable_280 : decode cX12_readTable 280 = .ok (.if_icmp .ne 14, 3) := by decide +kernel
theorem dX12_readTable_283 : decode cX12_readTable 283 = .ok (.aload_n 0, 1) := by decide +kernel
theorem dX12_readTable_284 : decode cX12_readTable 284 = .ok (.lconst 0, 1) := by decide +kernel
theorem dX12_readTable_285 : decode cX12_readTable 285 = .ok (.ldc2_w 132, 3) := by decide +kernel
theorem dX12_readTable_288 : decode cX12_readTable 288 = .ok (.invokevirtual 269, 3) := by decide +kernel
theorem dX12_readTable_291 : decode cX12_readTable 291 = .ok (.goto 11, 3) := by decide +kernel
theorem dX12_readTable_294 : decode cX12_readTable 294 = .ok (.aload_n 0, 1) := by decide +kernel
theorem dX12_readTable_295 : decode cX12_readTable 295 = .ok (.lconst 1, 1) := by decide +kernel
theorem dX12_readTable_296 : decode cX12_readTable 296 = .ok (.ldc2_w 136, 3) := by decide +kernel
theorem dX12_readTable_299 : decode cX12_readTable 299 = .ok (.invokevirtual 269, 3) := by decide +kernel
theorem dX12_readTable_302 : decode cX12_readTable 302 = .ok (.istore 4, 2) := by decide +kernel
theorem dX12_readTable_304 : decode cX12_readTable 304 = .ok (.goto 21, 3) := by decide +kernel
theorem dX12_readTable_307 : decode cX12_readTable 307 = .ok (.iload_n 2, 1) := by decide +kernel
theorem dX12_readTable_308 : decode cX12_readTable 308 = .ok (.bipush 11, 2) := by decide +kernel
theorem dX12_readTable_310 : decode cX12_readTable 310 = .ok (.if_icmp .eq 9, 3) := by decide +kernel
theorem dX12_readTable_313 : decode cX12_readTable 313 = .ok (.iload_n 2, 1) := by decide +kernel
theorem dX12_readTable_314 : decode cX12_readTable 314 = .ok (.bipush 12, 2) := by decide +kernel
theorem dX12_readTable_316 : decode cX12_readTable 316 = .ok (.if_icmp .ne 9, 3) := by decide +kernel
theorem dX12_readTable_319 : decode cX12_readTable 319 = .ok (.aload_n 0, 1) := by decide +kernel
theorem dX12_readTable_320 : decode cX12_readTable 320 = .ok (.invokevirtual 287, 3) := by decide +kernel
theorem dX12_readTable_323 : decode cX12_readTable 323 = .ok (.istore 4, 2) := by decide +kernel
theorem dX12_readTable_325 : decode cX12_readTable 325 = .ok (.aload_n 0, 1) := by decide +kernel
theorem dX12_readTable_326 : decode cX12_readTable 326 = .ok (.getfield 256, 3) := by decide +kernel
theorem dX12_readTable_329 : decode cX12_readTable 329 = .ok (.ifCond .eq 4, 3) := by decide +kernel
theorem dX12_readTable_332 : decode cX12_readTable 332 = .ok (.return_, 1) := by decide +kernel
theorem dX12_readTable_333 : decode cX12_readTable 333 = .ok (.aload_n 0, 1) := by decide +kernel
theorem dX12_readTable_334 : decode cX12_readTable 334 = .ok (.getfield 93, 3) := by decide +kernel
theorem dX12_readTable_337 : decode cX12_readTable 337 = .ok (.aload_n 0, 1) := by decide +kernel
theorem dX12_readTable_338 : decode cX12_readTable 338 = .ok (.getfield 280, 3) := by decide +kernel
theorem dX12_readTable_341 : decode cX12_readTable 341 = .ok (.iload_n 2, 1) := by decide +kernel
theorem dX12_readTable_342 : decode cX12_readTable 342 = .ok (.iastore, 1) := by decide +kernel
theorem dX12_readTable_343 : decode cX12_readTable 343 = .ok (.aload_n 0, 1) := by decide +kernel
theorem dX12_readTable_344 : decode cX12_readTable 344 = .ok (.getfield 96, 3) := by decide +kernel
theorem dX12_readTable_347 : decode cX12_readTable 347 = .ok (.aload_n 0, 1) := by decide +kernel
theorem dX12_readTable_348 : decode cX12_readTable 348 = .ok (.getfield 280, 3) := by decide +kernel
theorem dX12_readTable_351 : decode cX12_readTable 351 = .ok (.iload_n 3, 1) := by decide +kernel
theorem dX12_readTable_352 : decode cX12_readTable 352 = .ok (.iastore, 1) := by decide +kernel
theorem dX12_readTable_353 : decode cX12_readTable 353 = .ok (.aload_n 0, 1) := by decide +kernel
theorem dX12_readTable_354 : decode cX12_readTable 354 = .ok (.getfield 99, 3) := by decide +kernel
theorem dX12_readTable_357 : decode cX12_readTable 357 = .ok (.aload_n 0, 1) := by decide +kernel
theorem dX12_readTable_358 : decode cX12_readTable 358 = .ok (.getfield 280, 3) := by decide +kernel
theorem dX12_readTable_361 : decode cX12_readTable 361 = .ok (.iload 4, 2) := by decide +kernel
theorem dX12_readTable_363 : decode cX12_readTable 363 = .ok (.iastore, 1) := by decide +kernel
theorem dX12_readTable_364 : decode cX12_readTable 364 = .ok (.aload_n 0, 1) := by decide +kernel
theorem dX12_readTable_365 : decode cX12_readTable 365 = .ok (.getfield 102, 3) := by decide +kernel
theorem dX12_readTable_368 : decode cX12_readTable 368 = .ok (.aload_n 0, 1) := by decide +kernel
theorem dX12_readTable_369 : decode cX12_readTable 369 = .ok (.getfield 280, 3) := by decide +kernel
theorem dX12_readTable_372 : decode cX12_readTable 372 = .ok (.iload 5, 2) := by decide +kernel
theorem dX12_readTable_374 : decode cX12_readTable 374 = .ok (.iastore, 1) := by decide +kernel
theorem dX12_readTable_375 : decode cX12_readTable 375 = .ok (.aload_n 0, 1) := by decide +kernel
theorem dX12_readTable_376 : decode cX12_readTable 376 = .ok (.getfield 105, 3) := by decide +kernel
theorem dX12_readTable_379 : decode cX12_readTable 379 = .ok (.aload_n 0, 1) := by decide +kernel
theorem dX12_readTable_380 : decode cX12_readTable 380 = .ok (.getfield 280, 3) := by decide +kernel
theorem dX12_readTable_383 : decode cX12_readTable 383 = .ok (.iload 6, 2) := by decide +kernel
theorem dX12_readTable_385 : decode cX12_readTable 385 = .ok (.iastore, 1) := by decide +kernel
theorem dX12_readTable_386 : decode cX12_readTable 386 = .ok (.aload_n 0, 1) := by decide +kernel
theorem dX12_readTable_387 : decode cX12_readTable 387 = .ok (.getfield 108, 3) := by decide +kernel
theorem dX12_readTable_390 : decode cX12_readTable 390 = .ok (.iload_n 1, 1) := by decide +kernel
theorem dX12_readTable_391 : decode cX12_readTable 391 = .ok (.aload_n 0, 1) := by decide +kernel
theorem dX12_readTable_392 : decode cX12_readTable 392 = .ok (.getfield 280, 3) := by decide +kernel
theorem dX12_readTable_395 : decode cX12_readTable 395 = .ok (.iastore, 1) := by decide +kernel
theorem dX12_readTable_396 : decode cX12_readTable 396 = .ok (.aload_n 0, 1) := by decide +kernel
theorem dX12_readTable_397 : decode cX12_readTable 397 = .ok (.dup, 1) := by decide +kernel
theorem dX12_readTable_398 : decode cX12_readTable 398 = .ok (.getfield 280, 3) := by decide +kernel
theorem dX12_readTable_401 : decode cX12_readTable 401 = .ok (.iconst 1, 1) := by decide +kernel
theorem dX12_readTable_402 : decode cX12_readTable 402 = .ok (.iadd, 1) := by decide +kernel
theorem dX12_readTable_403 : decode cX12_readTable 403 = .ok (.putfield 280, 3) := by decide +kernel
theorem dX12_readTable_406 : decode cX12_readTable 406 = .ok (.return_, 1) := by decide +kernel
theorem dX12_tables_0 : decode cX12_tables 0 = .ok (.aload_n 0, 1) := by decide +kernel
theorem dX12_tables_1 : decode cX12_tables 1 = .ok (.iconst 0, 1) := by decide +kernel
theorem dX12_tables_2 : decode cX12_tables 2 = .ok (.putfield 120, 3) := by decide +kernel
theorem dX12_tables_5 : decode cX12_tables 5 = .ok (.aload_n 0, 1) := by decide +kernel
theorem dX12_tables_6 : decode cX12_tables 6 = .ok (.iconst 0, 1) := by decide +kernel
theorem dX12_tables_7 : decode cX12_tables 7 = .ok (.putfield 229, 3) := by decide +kernel
theorem dX12_tables_10 : decode cX12_tables 10 = .ok (.aload_n 0, 1) := by decide +kernel
theorem dX12_tables_11 : decode cX12_tables 11 = .ok (.iconst 0, 1) := by decide +kernel
theorem dX12_tables_12 : decode cX12_tables 12 = .ok (.putfield 256, 3) := by decide +kernel
theorem dX12_tables_15 : decode cX12_tables 15 = .ok (.aload_n 0, 1) := by decide +kernel
theorem dX12_tables_16 : decode cX12_tables 16 = .ok (.iconst (-1), 1) := by decide +kernel
theorem dX12_tables_17 : decode cX12_tables 17 = .ok (.putfield 114, 3) := by decide +kernel
theorem dX12_tables_20 : decode cX12_tables 20 = .ok (.aload_n 0, 1) := by decide +kernel
theorem dX12_tables_21 : decode cX12_tables 21 = .ok (.iconst 0, 1) := by decide +kernel
theorem dX12_tables_22 : decode cX12_tables 22 = .ok (.putfield 280, 3) := by decide +kernel
theorem dX12_tables_25 : decode cX12_tables 25 = .ok (.iconst 0, 1) := by decide +kernel
theorem dX12_tables_26 : decode cX12_tables 26 = .ok (.istore_n 1, 1) := by decide +kernel
theorem dX12_tables_27 : decode cX12_tables 27 = .ok (.iload_n 1, 1) := by decide +kernel
theorem dX12_tables_28 : decode cX12_tables 28 = .ok (.bipush 26, 2) := by decide +kernel
theorem dX12_tables_30 : decode cX12_tables 30 = .ok (.if_icmp .ge 16, 3) := by decide +kernel
theorem dX12_tables_33 : decode cX12_tables 33 = .ok (.aload_n 0, 1) := by decide +kernel
theorem dX12_tables_34 : decode cX12_tables 34 = .ok (.getfield 108, 3) := by decide +kernel
theorem dX12_tables_37 : decode cX12_tables 37 = .ok (.iload_n 1, 1) := by decide +kernel
theorem dX12_tables_38 : decode cX12_tables 38 = .ok (.iconst (-1), 1) := by decide +kernel
theorem dX12_tables_39 : decode cX12_tables 39 = .ok (.iastore, 1) := by decide +kernel
theorem dX12_tables_40 : decode cX12_tables 40 = .ok (.iinc 1 1, 3) := by decide +kernel
theorem dX12_tables_43 : decode cX12_tables 43 = .ok (.goto (-16), 3) := by decide +kernel
theorem dX12_tables_46 : decode cX12_tables 46 = .ok (.aload_n 0, 1) := by decide +kernel
theorem dX12_tables_47 : decode cX12_tables 47 = .ok (.invokevirtual 259, 3) := by decide +kernel
theorem dX12_tables_50 : decode cX12_tables 50 = .ok (.aload_n 0, 1) := by decide +kernel
theorem dX12_tables_51 : decode cX12_tables 51 = .ok (.invokevirtual 293, 3) := by decide +kernel
theorem dX12_tables_54 : decode cX12_tables 54 = .ok (.aload_n 0, 1) := by decide +kernel
theorem dX12_tables_55 : decode cX12_tables 55 = .ok (.getfield 256, 3) := by decide +kernel
theorem dX12_tables_58 : decode cX12_tables 58 = .ok (.ifCond .ne 23, 3) := by decide +kernel
theorem dX12_tables_61 : decode cX12_tables 61 = .ok (.aload_n 0, 1) := by decide +kernel
theorem dX12_tables_62 : decode cX12_tables 62 = .ok (.bipush 59, 2) := by decide +kernel
theorem dX12_tables_64 : decode cX12_tables 64 = .ok (.invokevirtual 266, 3) := by decide +kernel
theorem dX12_tables_67 : decode cX12_tables 67 = .ok (.ifCond .eq 14, 3) := by decide +kernel
theorem dX12_tables_70 : decode cX12_tables 70 = .ok (.aload_n 0, 1) := by decide +kernel
theorem dX12_tables_71 : decode cX12_tables 71 = .ok (.invokevirtual 259, 3) := by decide +kernel
theorem dX12_tables_74 : decode cX12_tables 74 = .ok (.aload_n 0, 1) := by decide +kernel
theorem dX12_tables_75 : decode cX12_tables 75 = .ok (.invokevirtual 293, 3) := by decide +kernel
theorem dX12_tables_78 : decode cX12_tables 78 = .ok (.goto (-24), 3) := by decide +kernel
theorem dX12_tables_81 : decode cX12_tables 81 = .ok (.aload_n 0, 1) := by decide +kernel
theorem dX12_tables_82 : decode cX12_tables 82 = .ok (.getfield 256, 3) := by decide +kernel
theorem dX12_tables_85 : decode cX12_tables 85 = .ok (.ifCond .ne 15, 3) := by decide +kernel
theorem dX12_tables_88 : decode cX12_tables 88 = .ok (.aload_n 0, 1) := by decide +kernel
theorem dX12_tables_89 : decode cX12_tables 89 = .ok (.getfield 245, 3) := by decide +kernel
theorem dX12_tables_92 : decode cX12_tables 92 = .ok (.ifCond .eq 8, 3) := by decide +kernel
theorem dX12_tables_95 : decode cX12_tables 95 = .ok (.aload_n 0, 1) := by decide +kernel
theorem dX12_tables_96 : decode cX12_tables 96 = .ok (.iconst 0, 1) := by decide +kernel
theorem dX12_tables_97 : decode cX12_tables 97 = .ok (.invokevirtual 262, 3) := by decide +kernel
theorem dX12_tables_100 : decode cX12_tables 100 = .ok (.aload_n 0, 1) := by decide +kernel
theorem dX12_tables_101 : decode cX12_tables 101 = .ok (.iconst 0, 1) := by decide +kernel
theorem dX12_tables_102 : decode cX12_tables 102 = .ok (.putfield 223, 3) := by decide +kernel
theorem dX12_tables_105 : decode cX12_tables 105 = .ok (.aload_n 0, 1) := by decide +kernel
theorem dX12_tables_106 : decode cX12_tables 106 = .ok (.getfield 256, 3) := by decide +kernel
theorem dX12_tables_109 : decode cX12_tables 109 = .ok (.ifCond .eq 10, 3) := by decide +kernel
theorem dX12_tables_112 : decode cX12_tables 112 = .ok (.aload_n 0, 1) := by decide +kernel
theorem dX12_tables_113 : decode cX12_tables 113 = .ok (.bipush (-6), 2) := by decide +kernel
theorem dX12_tables_115 : decode cX12_tables 115 = .ok (.invokevirtual 140, 3) := by decide +kernel
theorem dX12_tables_118 : decode cX12_tables 118 = .ok (.ireturn, 1) := by decide +kernel
theorem dX12_tables_119 : decode cX12_tables 119 = .ok (.aload_n 0, 1) := by decide +kernel
theorem dX12_tables_120 : decode cX12_tables 120 = .ok (.aload_n 0, 1) := by decide +kernel
theorem dX12_tables_121 : decode cX12_tables 121 = .ok (.getfield 280, 3) := by decide +kernel
theorem dX12_tables_124 : decode cX12_tables 124 = .ok (.putfield 173, 3) := by decide +kernel
theorem dX12_tables_127 : decode cX12_tables 127 = .ok (.iconst 0, 1) := by decide +kernel
theorem dX12_tables_128 : decode cX12_tables 128 = .ok (.istore_n 1, 1) := by decide +kernel
theorem dX12_tables_129 : decode cX12_tables 129 = .ok (.iload_n 1, 1) := by decide +kernel
theorem dX12_tables_130 : decode cX12_tables 130 = .ok (.aload_n 0, 1) := by decide +kernel
theorem dX12_tables_131 : decode cX12_tables 131 = .ok (.getfield 173, 3) := by decide +kernel
theorem dX12_tables_134 : decode cX12_tables 134 = .ok (.if_icmp .ge 69, 3) := by decide +kernel
theorem dX12_tables_137 : decode cX12_tables 137 = .ok (.aload_n 0, 1) := by decide +kernel
theorem dX12_tables_138 : decode cX12_tables 138 = .ok (.getfield 30, 3) := by decide +kernel
theorem dX12_tables_141 : decode cX12_tables 141 = .ok (.iload_n 1, 1) := by decide +kernel
theorem dX12_tables_142 : decode cX12_tables 142 = .ok (.aload_n 0, 1) := by decide +kernel
theorem dX12_tables_143 : decode cX12_tables 143 = .ok (.getfield 93, 3) := by decide +kernel
theorem dX12_tables_146 : decode cX12_tables 146 = .ok (.iload_n 1, 1) := by decide +kernel
theorem dX12_tables_147 : decode cX12_tables 147 = .ok (.iaload, 1) := by decide +kernel
theorem dX12_tables_148 : decode cX12_tables 148 = .ok (.iastore, 1) := by decide +kernel
theorem dX12_tables_149 : decode cX12_tables 149 = .ok (.aload_n 0, 1) := by decide +kernel
theorem dX12_tables_150 : decode cX12_tables 150 = .ok (.getfield 33, 3) := by decide +kernel
theorem dX12_tables_153 : decode cX12_tables 153 = .ok (.iload_n 1, 1) := by decide +kernel
theorem dX12_tables_154 : decode cX12_tables 154 = .ok (.aload_n 0, 1) := by decide +kernel
theorem dX12_tables_155 : decode cX12_tables 155 = .ok (.getfield 96, 3) := by decide +kernel
theorem dX12_tables_158 : decode cX12_tables 158 = .ok (.iload_n 1, 1) := by decide +kernel
theorem dX12_tables_159 : decode cX12_tables 159 = .ok (.iaload, 1) := by decide +kernel
theorem dX12_tables_160 : decode cX12_tables 160 = .ok (.iastore, 1) := by decide +kernel
theorem dX12_tables_161 : decode cX12_tables 161 = .ok (.aload_n 0, 1) := by decide +kernel
theorem dX12_tables_162 : decode cX12_tables 162 = .ok (.getfield 36, 3) := by decide +kernel
theorem dX12_tables_165 : decode cX12_tables 165 = .ok (.iload_n 1, 1) := by decide +kernel
theorem dX12_tables_166 : decode cX12_tables 166 = .ok (.aload_n 0, 1) := by decide +kernel
theorem dX12_tables_167 : decode cX12_tables 167 = .ok (.getfield 99, 3) := by decide +kernel
theorem dX12_tables_170 : decode cX12_tables 170 = .ok (.iload_n 1, 1) := by decide +kernel
theorem dX12_tables_171 : decode cX12_tables 171 = .ok (.iaload, 1) := by decide +kernel
theorem dX12_tables_172 : decode cX12_tables 172 = .ok (.iastore, 1) := by decide +kernel
theorem dX12_tables_173 : decode cX12_tables 173 = .ok (.aload_n 0, 1) := by decide +kernel
theorem dX12_tables_174 : decode cX12_tables 174 = .ok (.getfield 39, 3) := by decide +kernel
theorem dX12_tables_177 : decode cX12_tables 177 = .ok (.iload_n 1, 1) := by decide +kernel
theorem dX12_tables_178 : decode cX12_tables 178 = .ok (.aload_n 0, 1) := by decide +kernel
theorem dX12_tables_179 : decode cX12_tables 179 = .ok (.getfield 102, 3) := by decide +kernel
theorem dX12_tables_182 : decode cX12_tables 182 = .ok (.iload_n 1, 1) := by decide +kernel
theorem dX12_tables_183 : decode cX12_tables 183 = .ok (.iaload, 1) := by decide +kernel
theorem dX12_tables_184 : decode cX12_tables 184 = .ok (.iastore, 1) := by decide +kernel
theorem dX12_tables_185 : decode cX12_tables 185 = .ok (.aload_n 0, 1) := by decide +kernel
theorem dX12_tables_186 : decode cX12_tables 186 = .ok (.getfield 42, 3) := by decide +kernel
theorem dX12_tables_189 : decode cX12_tables 189 = .ok (.iload_n 1, 1) := by decide +kernel
theorem dX12_tables_190 : decode cX12_tables 190 = .ok (.aload_n 0, 1) := by decide +kernel
theorem dX12_tables_191 : decode cX12_tables 191 = .ok (.getfield 105, 3) := by decide +kernel
theorem dX12_tables_194 : decode cX12_tables 194 = .ok (.iload_n 1, 1) := by decide +kernel
theorem dX12_tables_195 : decode cX12_tables 195 = .ok (.iaload, 1) := by decide +kernel
theorem dX12_tables_196 : decode cX12_tables 196 = .ok (.iastore, 1) := by decide +kernel
theorem dX12_tables_197 : decode cX12_tables 197 = .ok (.iinc 1 1, 3) := by decide +kernel
theorem dX12_tables_200 : decode cX12_tables 200 = .ok (.goto (-71), 3) := by decide +kernel
theorem dX12_tables_203 : decode cX12_tables 203 = .ok (.aload_n 0, 1) := by decide +kernel
theorem dX12_tables_204 : decode cX12_tables 204 = .ok (.invokevirtual 220, 3) := by decide +kernel
theorem dX12_tables_207 : decode cX12_tables 207 = .ok (.aload_n 0, 1) := by decide +kernel
theorem dX12_tables_208 : decode cX12_tables 208 = .ok (.aload_n 0, 1) := by decide +kernel
theorem dX12_tables_209 : decode cX12_tables 209 = .ok (.getfield 173, 3) := by decide +kernel
theorem dX12_tables_212 : decode cX12_tables 212 = .ok (.invokevirtual 140, 3) := by decide +kernel
theorem dX12_tables_215 : decode cX12_tables 215 = .ok (.ireturn, 1) := by decide +kernel
theorem dX12_fault_0 : decode cX12_fault 0 = .ok (.aload_n 0, 1) := by decide +kernel
theorem dX12_fault_1 : decode cX12_fault 1 = .ok (.iconst 0, 1) := by decide +kernel
theorem dX12_fault_2 : decode cX12_fault 2 = .ok (.putfield 120, 3) := by decide +kernel
theorem dX12_fault_5 : decode cX12_fault 5 = .ok (.aload_n 0, 1) := by decide +kernel
theorem dX12_fault_6 : decode cX12_fault 6 = .ok (.getfield 114, 3) := by decide +kernel
theorem dX12_fault_9 : decode cX12_fault 9 = .ok (.ireturn, 1) := by decide +kernel
theorem dX12_isTable_0 : decode cX12_isTable 0 = .ok (.iload_n 1, 1) := by decide +kernel
theorem dX12_isTable_1 : decode cX12_isTable 1 = .ok (.i2l, 1) := by decide +kernel
theorem dX12_isTable_2 : decode cX12_isTable 2 = .ok (.lconst 0, 1) := by decide +kernel
theorem dX12_isTable_3 : decode cX12_isTable 3 = .ok (.aload_n 0, 1) := by decide +kernel
theorem dX12_isTable_4 : decode cX12_isTable 4 = .ok (.getfield 173, 3) := by decide +kernel
theorem dX12_isTable_7 : decode cX12_isTable 7 = .ok (.i2l, 1) := by decide +kernel
theorem dX12_isTable_8 : decode cX12_isTable 8 = .ok (.lconst 1, 1) := by decide +kernel
theorem dX12_isTable_9 : decode cX12_isTable 9 = .ok (.lsub, 1) := by decide +kernel
theorem dX12_isTable_10 : decode cX12_isTable 10 = .ok (.invokestatic 128, 3) := by decide +kernel
theorem dX12_isTable_13 : decode cX12_isTable 13 = .ok (.ireturn, 1) := by decide +kernel
theorem dX12_rows_0 : decode cX12_rows 0 = .ok (.aload_n 0, 1) := by decide +kernel
theorem dX12_rows_1 : decode cX12_rows 1 = .ok (.iconst 0, 1) := by decide +kernel
theorem dX12_rows_2 : decode cX12_rows 2 = .ok (.putfield 120, 3) := by decide +kernel
theorem dX12_rows_5 : decode cX12_rows 5 = .ok (.aload_n 0, 1) := by decide +kernel
theorem dX12_rows_6 : decode cX12_rows 6 = .ok (.iload_n 1, 1) := by decide +kernel
theorem dX12_rows_7 : decode cX12_rows 7 = .ok (.invokevirtual 296, 3) := by decide +kernel
theorem dX12_rows_10 : decode cX12_rows 10 = .ok (.ifCond .eq 12, 3) := by decide +kernel
theorem dX12_rows_13 : decode cX12_rows 13 = .ok (.aload_n 0, 1) := by decide +kernel
theorem dX12_rows_14 : decode cX12_rows 14 = .ok (.getfield 45, 3) := by decide +kernel
theorem dX12_rows_17 : decode cX12_rows 17 = .ok (.iload_n 1, 1) := by decide +kernel
theorem dX12_rows_18 : decode cX12_rows 18 = .ok (.iaload, 1) := by decide +kernel
theorem dX12_rows_19 : decode cX12_rows 19 = .ok (.goto 4, 3) := by decide +kernel
theorem dX12_rows_22 : decode cX12_rows 22 = .ok (.iconst (-1), 1) := by decide +kernel
theorem dX12_rows_23 : decode cX12_rows 23 = .ok (.ireturn, 1) := by decide +kernel
theorem dX12_row_0 : decode cX12_row 0 = .ok (.aload_n 0, 1) := by decide +kernel
theorem dX12_row_1 : decode cX12_row 1 = .ok (.iconst 0, 1) := by decide +kernel
theorem dX12_row_2 : decode cX12_row 2 = .ok (.putfield 120, 3) := by decide +kernel
theorem dX12_row_5 : decode cX12_row 5 = .ok (.aload_n 0, 1) := by decide +kernel
theorem dX12_row_6 : decode cX12_row 6 = .ok (.iload_n 1, 1) := by decide +kernel
theorem dX12_row_7 : decode cX12_row 7 = .ok (.invokevirtual 296, 3) := by decide +kernel
theorem dX12_row_10 : decode cX12_row 10 = .ok (.ifCond .eq 21, 3) := by decide +kernel
theorem dX12_row_13 : decode cX12_row 13 = .ok (.iload_n 2, 1) := by decide +kernel
theorem dX12_row_14 : decode cX12_row 14 = .ok (.i2l, 1) := by decide +kernel
theorem dX12_row_15 : decode cX12_row 15 = .ok (.lconst 0, 1) := by decide +kernel
theorem dX12_row_16 : decode cX12_row 16 = .ok (.aload_n 0, 1) := by decide +kernel
theorem dX12_row_17 : decode cX12_row 17 = .ok (.getfield 45, 3) := by decide +kernel
theorem dX12_row_20 : decode cX12_row 20 = .ok (.iload_n 1, 1) := by decide +kernel
theorem dX12_row_21 : decode cX12_row 21 = .ok (.iaload, 1) := by decide +kernel
theorem dX12_row_22 : decode cX12_row 22 = .ok (.i2l, 1) := by decide +kernel
theorem dX12_row_23 : decode cX12_row 23 = .ok (.lconst 1, 1) := by decide +kernel
theorem dX12_row_24 : decode cX12_row 24 = .ok (.lsub, 1) := by decide +kernel
theorem dX12_row_25 : decode cX12_row 25 = .ok (.invokestatic 128, 3) := by decide +kernel
theorem dX12_row_28 : decode cX12_row 28 = .ok (.ifCond .ne 7, 3) := by decide +kernel
theorem dX12_row_31 : decode cX12_row 31 = .ok (.ldc_w 299, 3) := by decide +kernel
theorem dX12_row_34 : decode cX12_row 34 = .ok (.ireturn, 1) := by decide +kernel
theorem dX12_row_35 : decode cX12_row 35 = .ok (.sipush 400, 3) := by decide +kernel
theorem dX12_row_38 : decode cX12_row 38 = .ok (.iload_n 1, 1) := by decide +kernel
theorem dX12_row_39 : decode cX12_row 39 = .ok (.imul, 1) := by decide +kernel
theorem dX12_row_40 : decode cX12_row 40 = .ok (.iload_n 2, 1) := by decide +kernel
theorem dX12_row_41 : decode cX12_row 41 = .ok (.iadd, 1) := by decide +kernel
theorem dX12_row_42 : decode cX12_row 42 = .ok (.istore 4, 2) := by decide +kernel
theorem dX12_row_44 : decode cX12_row 44 = .ok (.iload_n 3, 1) := by decide +kernel
theorem dX12_row_45 : decode cX12_row 45 = .ok (.ifCond .ne 13, 3) := by decide +kernel
theorem dX12_row_48 : decode cX12_row 48 = .ok (.aload_n 0, 1) := by decide +kernel
theorem dX12_row_49 : decode cX12_row 49 = .ok (.getfield 48, 3) := by decide +kernel
theorem dX12_row_52 : decode cX12_row 52 = .ok (.iload 4, 2) := by decide +kernel
theorem dX12_row_54 : decode cX12_row 54 = .ok (.iaload, 1) := by decide +kernel
theorem dX12_row_55 : decode cX12_row 55 = .ok (.goto 36, 3) := by decide +kernel
theorem dX12_row_58 : decode cX12_row 58 = .ok (.iload_n 3, 1) := by decide +kernel
theorem dX12_row_59 : decode cX12_row 59 = .ok (.iconst 1, 1) := by decide +kernel
theorem dX12_row_60 : decode cX12_row 60 = .ok (.if_icmp .ne 13, 3) := by decide +kernel
theorem dX12_row_63 : decode cX12_row 63 = .ok (.aload_n 0, 1) := by decide +kernel
theorem dX12_row_64 : decode cX12_row 64 = .ok (.getfield 51, 3) := by decide +kernel
theorem dX12_row_67 : decode cX12_row 67 = .ok (.iload 4, 2) := by decide +kernel
theorem dX12_row_69 : decode cX12_row 69 = .ok (.iaload, 1) := by decide +kernel
theorem dX12_row_70 : decode cX12_row 70 = .ok (.goto 21, 3) := by decide +kernel
theorem dX12_row_73 : decode cX12_row 73 = .ok (.iload_n 3, 1) := by decide +kernel
theorem dX12_row_74 : decode cX12_row 74 = .ok (.iconst 2, 1) := by decide +kernel
theorem dX12_row_75 : decode cX12_row 75 = .ok (.if_icmp .ne 13, 3) := by decide +kernel
theorem dX12_row_78 : decode cX12_row 78 = .ok (.aload_n 0, 1) := by decide +kernel
theorem dX12_row_79 : decode cX12_row 79 = .ok (.getfield 54, 3) := by decide +kernel
theorem dX12_row_82 : decode cX12_row 82 = .ok (.iload 4, 2) := by decide +kernel
theorem dX12_row_84 : decode cX12_row 84 = .ok (.iaload, 1) := by decide +kernel
theorem dX12_row_85 : decode cX12_row 85 = .ok (.goto 6, 3) := by decide +kernel
theorem dX12_row_88 : decode cX12_row 88 = .ok (.ldc_w 299, 3) := by decide +kernel
theorem dX12_row_91 : decode cX12_row 91 = .ok (.ireturn, 1) := by decide +kernel
theorem dX12_out_0 : decode cX12_out 0 = .ok (.aload_n 0, 1) := by decide +kernel
theorem dX12_out_1 : decode cX12_out 1 = .ok (.iconst 0, 1) := by decide +kernel
theorem dX12_out_2 : decode cX12_out 2 = .ok (.putfield 120, 3) := by decide +kernel
theorem dX12_out_5 : decode cX12_out 5 = .ok (.iload_n 1, 1) := by decide +kernel
theorem dX12_out_6 : decode cX12_out 6 = .ok (.iconst (-1), 1) := by decide +kernel
theorem dX12_out_7 : decode cX12_out 7 = .ok (.if_icmp .ne 18, 3) := by decide +kernel
theorem dX12_out_10 : decode cX12_out 10 = .ok (.iload_n 2, 1) := by decide +kernel
theorem dX12_out_11 : decode cX12_out 11 = .ok (.ifCond .ne 10, 3) := by decide +kernel
theorem dX12_out_14 : decode cX12_out 14 = .ok (.aload_n 0, 1) := by decide +kernel
theorem dX12_out_15 : decode cX12_out 15 = .ok (.getfield 212, 3) := by decide +kernel
theorem dX12_out_18 : decode cX12_out 18 = .ok (.goto 6, 3) := by decide +kernel
theorem dX12_out_21 : decode cX12_out 21 = .ok (.ldc_w 299, 3) := by decide +kernel
theorem dX12_out_24 : decode cX12_out 24 = .ok (.ireturn, 1) := by decide +kernel
theorem dX12_out_25 : decode cX12_out 25 = .ok (.iload_n 1, 1) := by decide +kernel
theorem dX12_out_26 : decode cX12_out 26 = .ok (.i2l, 1) := by decide +kernel
theorem dX12_out_27 : decode cX12_out 27 = .ok (.lconst 0, 1) := by decide +kernel
theorem dX12_out_28 : decode cX12_out 28 = .ok (.aload_n 0, 1) := by decide +kernel
theorem dX12_out_29 : decode cX12_out 29 = .ok (.getfield 212, 3) := by decide +kernel
theorem dX12_out_32 : decode cX12_out 32 = .ok (.i2l, 1) := by decide +kernel
theorem dX12_out_33 : decode cX12_out 33 = .ok (.lconst 1, 1) := by decide +kernel
theorem dX12_out_34 : decode cX12_out 34 = .ok (.lsub, 1) := by decide +kernel
theorem dX12_out_35 : decode cX12_out 35 = .ok (.invokestatic 128, 3) := by decide +kernel
theorem dX12_out_38 : decode cX12_out 38 = .ok (.ifCond .ne 7, 3) := by decide +kernel
theorem dX12_out_41 : decode cX12_out 41 = .ok (.ldc_w 299, 3) := by decide +kernel
theorem dX12_out_44 : decode cX12_out 44 = .ok (.ireturn, 1) := by decide +kernel
theorem dX12_out_45 : decode cX12_out 45 = .ok (.iload_n 2, 1) := by decide +kernel
theorem dX12_out_46 : decode cX12_out 46 = .ok (.ifCond .ne 12, 3) := by decide +kernel
theorem dX12_out_49 : decode cX12_out 49 = .ok (.aload_n 0, 1) := by decide +kernel
theorem dX12_out_50 : decode cX12_out 50 = .ok (.getfield 81, 3) := by decide +kernel
theorem dX12_out_53 : decode cX12_out 53 = .ok (.iload_n 1, 1) := by decide +kernel
theorem dX12_out_54 : decode cX12_out 54 = .ok (.iaload, 1) := by decide +kernel
theorem dX12_out_55 : decode cX12_out 55 = .ok (.goto 48, 3) := by decide +kernel
theorem dX12_out_58 : decode cX12_out 58 = .ok (.iload_n 2, 1) := by decide +kernel
theorem dX12_out_59 : decode cX12_out 59 = .ok (.iconst 1, 1) := by decide +kernel
theorem dX12_out_60 : decode cX12_out 60 = .ok (.if_icmp .ne 12, 3) := by decide +kernel
theorem dX12_out_63 : decode cX12_out 63 = .ok (.aload_n 0, 1) := by decide +kernel
theorem dX12_out_64 : decode cX12_out 64 = .ok (.getfield 84, 3) := by decide +kernel
theorem dX12_out_67 : decode cX12_out 67 = .ok (.iload_n 1, 1) := by decide +kernel
theorem dX12_out_68 : decode cX12_out 68 = .ok (.iaload, 1) := by decide +kernel
theorem dX12_out_69 : decode cX12_out 69 = .ok (.goto 34, 3) := by decide +kernel
theorem dX12_out_72 : decode cX12_out 72 = .ok (.iload_n 2, 1) := by decide +kernel
theorem dX12_out_73 : decode cX12_out 73 = .ok (.iconst 2, 1) := by decide +kernel
theorem dX12_out_74 : decode cX12_out 74 = .ok (.if_icmp .ne 12, 3) := by decide +kernel
theorem dX12_out_77 : decode cX12_out 77 = .ok (.aload_n 0, 1) := by decide +kernel
theorem dX12_out_78 : decode cX12_out 78 = .ok (.getfield 87, 3) := by decide +kernel
theorem dX12_out_81 : decode cX12_out 81 = .ok (.iload_n 1, 1) := by decide +kernel
theorem dX12_out_82 : decode cX12_out 82 = .ok (.iaload, 1) := by decide +kernel
theorem dX12_out_83 : decode cX12_out 83 = .ok (.goto 20, 3) := by decide +kernel
theorem dX12_out_86 : decode cX12_out 86 = .ok (.iload_n 2, 1) := by decide +kernel
theorem dX12_out_87 : decode cX12_out 87 = .ok (.iconst 3, 1) := by decide +kernel
theorem dX12_out_88 : decode cX12_out 88 = .ok (.if_icmp .ne 12, 3) := by decide +kernel
theorem dX12_out_91 : decode cX12_out 91 = .ok (.aload_n 0, 1) := by decide +kernel
theorem dX12_out_92 : decode cX12_out 92 = .ok (.getfield 90, 3) := by decide +kernel
theorem dX12_out_95 : decode cX12_out 95 = .ok (.iload_n 1, 1) := by decide +kernel
theorem dX12_out_96 : decode cX12_out 96 = .ok (.iaload, 1) := by decide +kernel
theorem dX12_out_97 : decode cX12_out 97 = .ok (.goto 6, 3) := by decide +kernel
theorem dX12_out_100 : decode cX12_out 100 = .ok (.ldc_w 299, 3) := by decide +kernel
theorem dX12_out_103 : decode cX12_out 103 = .ok (.ireturn, 1) := by decide +kernel
theorem dX12_ownerBy_0 : decode cX12_ownerBy 0 = .ok (.iconst (-1), 1) := by decide +kernel
theorem dX12_ownerBy_1 : decode cX12_ownerBy 1 = .ok (.istore_n 2, 1) := by decide +kernel
theorem dX12_ownerBy_2 : decode cX12_ownerBy 2 = .ok (.iconst (-1), 1) := by decide +kernel
theorem dX12_ownerBy_3 : decode cX12_ownerBy 3 = .ok (.istore_n 3, 1) := by decide +kernel
theorem dX12_ownerBy_4 : decode cX12_ownerBy 4 = .ok (.iconst 0, 1) := by decide +kernel
theorem dX12_ownerBy_5 : decode cX12_ownerBy 5 = .ok (.istore 4, 2) := by decide +kernel
theorem dX12_ownerBy_7 : decode cX12_ownerBy 7 = .ok (.iload 4, 2) := by decide +kernel
theorem dX12_ownerBy_9 : decode cX12_ownerBy 9 = .ok (.bipush 8, 2) := by decide +kernel
theorem dX12_ownerBy_11 : decode cX12_ownerBy 11 = .ok (.if_icmp .ge 46, 3) := by decide +kernel
theorem dX12_ownerBy_14 : decode cX12_ownerBy 14 = .ok (.iload_n 0, 1) := by decide +kernel
theorem dX12_ownerBy_15 : decode cX12_ownerBy 15 = .ok (.iconst 1, 1) := by decide +kernel
theorem dX12_ownerBy_16 : decode cX12_ownerBy 16 = .ok (.iadd, 1) := by decide +kernel
theorem dX12_ownerBy_17 : decode cX12_ownerBy 17 = .ok (.iconst 2, 1) := by decide +kernel
theorem dX12_ownerBy_18 : decode cX12_ownerBy 18 = .ok (.iload 4, 2) := by decide +kernel
theorem dX12_ownerBy_20 : decode cX12_ownerBy 20 = .ok (.imul, 1) := by decide +kernel
theorem dX12_ownerBy_21 : decode cX12_ownerBy 21 = .ok (.iconst 3, 1) := by decide +kernel
theorem dX12_ownerBy_22 : decode cX12_ownerBy 22 = .ok (.iadd, 1) := by decide +kernel
theorem dX12_ownerBy_23 : decode cX12_ownerBy 23 = .ok (.imul, 1) := by decide +kernel
theorem dX12_ownerBy_24 : decode cX12_ownerBy 24 = .ok (.bipush 97, 2) := by decide +kernel
theorem dX12_ownerBy_26 : decode cX12_ownerBy 26 = .ok (.irem, 1) := by decide +kernel
theorem dX12_ownerBy_27 : decode cX12_ownerBy 27 = .ok (.istore 5, 2) := by decide +kernel
theorem dX12_ownerBy_29 : decode cX12_ownerBy 29 = .ok (.iload_n 1, 1) := by decide +kernel
theorem dX12_ownerBy_30 : decode cX12_ownerBy 30 = .ok (.iload 4, 2) := by decide +kernel
theorem dX12_ownerBy_32 : decode cX12_ownerBy 32 = .ok (.ishr, 1) := by decide +kernel
theorem dX12_ownerBy_33 : decode cX12_ownerBy 33 = .ok (.iconst 1, 1) := by decide +kernel
theorem dX12_ownerBy_34 : decode cX12_ownerBy 34 = .ok (.iand, 1) := by decide +kernel
theorem dX12_ownerBy_35 : decode cX12_ownerBy 35 = .ok (.iconst 1, 1) := by decide +kernel
theorem dX12_ownerBy_36 : decode cX12_ownerBy 36 = .ok (.if_icmp .ne 15, 3) := by decide +kernel
theorem dX12_ownerBy_39 : decode cX12_ownerBy 39 = .ok (.iload 5, 2) := by decide +kernel
theorem dX12_ownerBy_41 : decode cX12_ownerBy 41 = .ok (.iload_n 3, 1) := by decide +kernel
theorem dX12_ownerBy_42 : decode cX12_ownerBy 42 = .ok (.if_icmp .le 9, 3) := by decide +kernel
theorem dX12_ownerBy_45 : decode cX12_ownerBy 45 = .ok (.iload 5, 2) := by decide +kernel
theorem dX12_ownerBy_47 : decode cX12_ownerBy 47 = .ok (.istore_n 3, 1) := by decide +kernel
theorem dX12_ownerBy_48 : decode cX12_ownerBy 48 = .ok (.iload 4, 2) := by decide +kernel
theorem dX12_ownerBy_50 : decode cX12_ownerBy 50 = .ok (.istore_n 2, 1) := by decide +kernel
theorem dX12_ownerBy_51 : decode cX12_ownerBy 51 = .ok (.iinc 4 1, 3) := by decide +kernel
theorem dX12_ownerBy_54 : decode cX12_ownerBy 54 = .ok (.goto (-47), 3) := by decide +kernel
theorem dX12_ownerBy_57 : decode cX12_ownerBy 57 = .ok (.iload_n 2, 1) := by decide +kernel
theorem dX12_ownerBy_58 : decode cX12_ownerBy 58 = .ok (.ireturn, 1) := by decide +kernel
theorem dX12_host_0 : decode cX12_host 0 = .ok (.aload_n 0, 1) := by decide +kernel
theorem dX12_host_1 : decode cX12_host 1 = .ok (.iconst 0, 1) := by decide +kernel
theorem dX12_host_2 : decode cX12_host 2 = .ok (.putfield 120, 3) := by decide +kernel
theorem dX12_host_5 : decode cX12_host 5 = .ok (.iload_n 1, 1) := by decide +kernel
theorem dX12_host_6 : decode cX12_host 6 = .ok (.i2l, 1) := by decide +kernel
theorem dX12_host_7 : decode cX12_host 7 = .ok (.lconst 0, 1) := by decide +kernel
theorem dX12_host_8 : decode cX12_host 8 = .ok (.ldc2_w 300, 3) := by decide +kernel
theorem dX12_host_11 : decode cX12_host 11 = .ok (.invokestatic 128, 3) := by decide +kernel
theorem dX12_host_14 : decode cX12_host 14 = .ok (.ifCond .ne 9, 3) := by decide +kernel
theorem dX12_host_17 : decode cX12_host 17 = .ok (.aload_n 0, 1) := by decide +kernel
theorem dX12_host_18 : decode cX12_host 18 = .ok (.iconst (-1), 1) := by decide +kernel
theorem dX12_host_19 : decode cX12_host 19 = .ok (.invokevirtual 140, 3) := by decide +kernel
theorem dX12_host_22 : decode cX12_host 22 = .ok (.ireturn, 1) := by decide +kernel
theorem dX12_host_23 : decode cX12_host 23 = .ok (.aload_n 0, 1) := by decide +kernel
theorem dX12_host_24 : decode cX12_host 24 = .ok (.getfield 117, 3) := by decide +kernel
theorem dX12_host_27 : decode cX12_host 27 = .ok (.iload_n 1, 1) := by decide +kernel
theorem dX12_host_28 : decode cX12_host 28 = .ok (.ishr, 1) := by decide +kernel
theorem dX12_host_29 : decode cX12_host 29 = .ok (.iconst 1, 1) := by decide +kernel
theorem dX12_host_30 : decode cX12_host 30 = .ok (.iand, 1) := by decide +kernel
theorem dX12_host_31 : decode cX12_host 31 = .ok (.iconst 1, 1) := by decide +kernel
theorem dX12_host_32 : decode cX12_host 32 = .ok (.if_icmp .ne 7, 3) := by decide +kernel
theorem dX12_host_35 : decode cX12_host 35 = .ok (.iconst 1, 1) := by decide +kernel
theorem dX12_host_36 : decode cX12_host 36 = .ok (.goto 4, 3) := by decide +kernel
theorem dX12_host_39 : decode cX12_host 39 = .ok (.iconst 0, 1) := by decide +kernel
theorem dX12_host_40 : decode cX12_host 40 = .ok (.iload_n 2, 1) := by decide +kernel
theorem dX12_host_41 : decode cX12_host 41 = .ok (.if_icmp .ne 10, 3) := by decide +kernel
theorem dX12_host_44 : decode cX12_host 44 = .ok (.aload_n 0, 1) := by decide +kernel
theorem dX12_host_45 : decode cX12_host 45 = .ok (.bipush (-4), 2) := by decide +kernel
theorem dX12_host_47 : decode cX12_host 47 = .ok (.invokevirtual 140, 3) := by decide +kernel
theorem dX12_host_50 : decode cX12_host 50 = .ok (.ireturn, 1) := by decide +kernel
theorem dX12_host_51 : decode cX12_host 51 = .ok (.aload_n 0, 1) := by decide +kernel
theorem dX12_host_52 : decode cX12_host 52 = .ok (.getfield 117, 3) := by decide +kernel
theorem dX12_host_55 : decode cX12_host 55 = .ok (.iconst 1, 1) := by decide +kernel
theorem dX12_host_56 : decode cX12_host 56 = .ok (.iload_n 1, 1) := by decide +kernel
theorem dX12_host_57 : decode cX12_host 57 = .ok (.ishl, 1) := by decide +kernel
theorem dX12_host_58 : decode cX12_host 58 = .ok (.if_icmp .ne 10, 3) := by decide +kernel
theorem dX12_host_61 : decode cX12_host 61 = .ok (.aload_n 0, 1) := by decide +kernel
theorem dX12_host_62 : decode cX12_host 62 = .ok (.bipush (-5), 2) := by decide +kernel
theorem dX12_host_64 : decode cX12_host 64 = .ok (.invokevirtual 140, 3) := by decide +kernel
theorem dX12_host_67 : decode cX12_host 67 = .ok (.ireturn, 1) := by decide +kernel
theorem dX12_host_68 : decode cX12_host 68 = .ok (.aload_n 0, 1) := by decide +kernel
theorem dX12_host_69 : decode cX12_host 69 = .ok (.getfield 117, 3) := by decide +kernel
theorem dX12_host_72 : decode cX12_host 72 = .ok (.istore_n 3, 1) := by decide +kernel
theorem dX12_host_73 : decode cX12_host 73 = .ok (.aload_n 0, 1) := by decide +kernel
theorem dX12_host_74 : decode cX12_host 74 = .ok (.dup, 1) := by decide +kernel
theorem dX12_host_75 : decode cX12_host 75 = .ok (.getfield 117, 3) := by decide +kernel
theorem dX12_host_78 : decode cX12_host 78 = .ok (.iconst 1, 1) := by decide +kernel
theorem dX12_host_79 : decode cX12_host 79 = .ok (.iload_n 1, 1) := by decide +kernel
theorem dX12_host_80 : decode cX12_host 80 = .ok (.ishl, 1) := by decide +kernel
theorem dX12_host_81 : decode cX12_host 81 = .ok (.ixor, 1) := by decide +kernel
theorem dX12_host_82 : decode cX12_host 82 = .ok (.putfield 117, 3) := by decide +kernel
theorem dX12_host_85 : decode cX12_host 85 = .ok (.iconst 0, 1) := by decide +kernel
theorem dX12_host_86 : decode cX12_host 86 = .ok (.istore 4, 2) := by decide +kernel
theorem dX12_host_88 : decode cX12_host 88 = .ok (.iconst 0, 1) := by decide +kernel
theorem dX12_host_89 : decode cX12_host 89 = .ok (.istore 5, 2) := by decide +kernel
theorem dX12_host_91 : decode cX12_host 91 = .ok (.iload 5, 2) := by decide +kernel
theorem dX12_host_93 : decode cX12_host 93 = .ok (.aload_n 0, 1) := by decide +kernel
theorem dX12_host_94 : decode cX12_host 94 = .ok (.getfield 173, 3) := by decide +kernel
theorem dX12_host_97 : decode cX12_host 97 = .ok (.if_icmp .ge 80, 3) := by decide +kernel
theorem dX12_host_100 : decode cX12_host 100 = .ok (.sipush 400, 3) := by decide +kernel
theorem dX12_host_103 : decode cX12_host 103 = .ok (.iload 5, 2) := by decide +kernel
theorem dX12_host_105 : decode cX12_host 105 = .ok (.imul, 1) := by decide +kernel
theorem dX12_host_106 : decode cX12_host 106 = .ok (.istore 6, 2) := by decide +kernel
theorem dX12_host_108 : decode cX12_host 108 = .ok (.iload 6, 2) := by decide +kernel
theorem dX12_host_110 : decode cX12_host 110 = .ok (.sipush 400, 3) := by decide +kernel
theorem dX12_host_113 : decode cX12_host 113 = .ok (.iload 5, 2) := by decide +kernel
theorem dX12_host_115 : decode cX12_host 115 = .ok (.imul, 1) := by decide +kernel
theorem dX12_host_116 : decode cX12_host 116 = .ok (.aload_n 0, 1) := by decide +kernel
theorem dX12_host_117 : decode cX12_host 117 = .ok (.getfield 45, 3) := by decide +kernel
theorem dX12_host_120 : decode cX12_host 120 = .ok (.iload 5, 2) := by decide +kernel
theorem dX12_host_122 : decode cX12_host 122 = .ok (.iaload, 1) := by decide +kernel
theorem dX12_host_123 : decode cX12_host 123 = .ok (.iadd, 1) := by decide +kernel
theorem dX12_host_124 : decode cX12_host 124 = .ok (.if_icmp .ge 47, 3) := by decide +kernel
theorem dX12_host_127 : decode cX12_host 127 = .ok (.iload 4, 2) := by decide +kernel
theorem dX12_host_129 : decode cX12_host 129 = .ok (.aload_n 0, 1) := by decide +kernel
theorem dX12_host_130 : decode cX12_host 130 = .ok (.getfield 48, 3) := by decide +kernel
theorem dX12_host_133 : decode cX12_host 133 = .ok (.iload 6, 2) := by decide +kernel
theorem dX12_host_135 : decode cX12_host 135 = .ok (.iaload, 1) := by decide +kernel
theorem dX12_host_136 : decode cX12_host 136 = .ok (.iload_n 3, 1) := by decide +kernel
theorem dX12_host_137 : decode cX12_host 137 = .ok (.invokestatic 302, 3) := by decide +kernel
theorem dX12_host_140 : decode cX12_host 140 = .ok (.aload_n 0, 1) := by decide +kernel
theorem dX12_host_141 : decode cX12_host 141 = .ok (.getfield 48, 3) := by decide +kernel
theorem dX12_host_144 : decode cX12_host 144 = .ok (.iload 6, 2) := by decide +kernel
theorem dX12_host_146 : decode cX12_host 146 = .ok (.iaload, 1) := by decide +kernel
theorem dX12_host_147 : decode cX12_host 147 = .ok (.aload_n 0, 1) := by decide +kernel
theorem dX12_host_148 : decode cX12_host 148 = .ok (.getfield 117, 3) := by decide +kernel
theorem dX12_host_151 : decode cX12_host 151 = .ok (.invokestatic 302, 3) := by decide +kernel
theorem dX12_host_154 : decode cX12_host 154 = .ok (.if_icmp .eq 7, 3) := by decide +kernel
theorem dX12_host_157 : decode cX12_host 157 = .ok (.iconst 1, 1) := by decide +kernel
theorem dX12_host_158 : decode cX12_host 158 = .ok (.goto 4, 3) := by decide +kernel
theorem dX12_host_161 : decode cX12_host 161 = .ok (.iconst 0, 1) := by decide +kernel
theorem dX12_host_162 : decode cX12_host 162 = .ok (.iadd, 1) := by decide +kernel
theorem dX12_host_163 : decode cX12_host 163 = .ok (.istore 4, 2) := by decide +kernel
theorem dX12_host_165 : decode cX12_host 165 = .ok (.iinc 6 1, 3) := by decide +kernel
theorem dX12_host_168 : decode cX12_host 168 = .ok (.goto (-60), 3) := by decide +kernel
theorem dX12_host_171 : decode cX12_host 171 = .ok (.iinc 5 1, 3) := by decide +kernel
theorem dX12_host_174 : decode cX12_host 174 = .ok (.goto (-83), 3) := by decide +kernel
theorem dX12_host_177 : decode cX12_host 177 = .ok (.aload_n 0, 1) := by decide +kernel
theorem dX12_host_178 : decode cX12_host 178 = .ok (.iload 4, 2) := by decide +kernel
theorem dX12_host_180 : decode cX12_host 180 = .ok (.invokevirtual 140, 3) := by decide +kernel
theorem dX12_host_183 : decode cX12_host 183 = .ok (.ireturn, 1) := by decide +kernel
theorem dX12_owner_0 : decode cX12_owner 0 = .ok (.aload_n 0, 1) := by decide +kernel
theorem dX12_owner_1 : decode cX12_owner 1 = .ok (.iconst 0, 1) := by decide +kernel
theorem dX12_owner_2 : decode cX12_owner 2 = .ok (.putfield 120, 3) := by decide +kernel
theorem dX12_owner_5 : decode cX12_owner 5 = .ok (.iload_n 1, 1) := by decide +kernel
theorem dX12_owner_6 : decode cX12_owner 6 = .ok (.i2l, 1) := by decide +kernel
theorem dX12_owner_7 : decode cX12_owner 7 = .ok (.lconst 0, 1) := by decide +kernel
theorem dX12_owner_8 : decode cX12_owner 8 = .ok (.ldc2_w 132, 3) := by decide +kernel
theorem dX12_owner_11 : decode cX12_owner 11 = .ok (.invokestatic 128, 3) := by decide +kernel
theorem dX12_owner_14 : decode cX12_owner 14 = .ok (.ifCond .eq 14, 3) := by decide +kernel
theorem dX12_owner_17 : decode cX12_owner 17 = .ok (.iload_n 1, 1) := by decide +kernel
theorem dX12_owner_18 : decode cX12_owner 18 = .ok (.aload_n 0, 1) := by decide +kernel
theorem dX12_owner_19 : decode cX12_owner 19 = .ok (.getfield 117, 3) := by decide +kernel
theorem dX12_owner_22 : decode cX12_owner 22 = .ok (.invokestatic 302, 3) := by decide +kernel
theorem dX12_owner_25 : decode cX12_owner 25 = .ok (.goto 4, 3) := by decide +kernel
theorem dX12_owner_28 : decode cX12_owner 28 = .ok (.iconst (-1), 1) := by decide +kernel
theorem dX12_owner_29 : decode cX12_owner 29 = .ok (.ireturn, 1) := by decide +kernel
theorem dX12_owns_0 : decode cX12_owns 0 = .ok (.aload_n 0, 1) := by decide +kernel
theorem dX12_owns_1 : decode cX12_owns 1 = .ok (.iconst 0, 1) := by decide +kernel
theorem dX12_owns_2 : decode cX12_owns 2 = .ok (.putfield 120, 3) := by decide +kernel
theorem dX12_owns_5 : decode cX12_owns 5 = .ok (.iload_n 1, 1) := by decide +kernel
theorem dX12_owns_6 : decode cX12_owns 6 = .ok (.i2l, 1) := by decide +kernel
theorem dX12_owns_7 : decode cX12_owns 7 = .ok (.lconst 0, 1) := by decide +kernel
theorem dX12_owns_8 : decode cX12_owns 8 = .ok (.ldc2_w 300, 3) := by decide +kernel
theorem dX12_owns_11 : decode cX12_owns 11 = .ok (.invokestatic 128, 3) := by decide +kernel
theorem dX12_owns_14 : decode cX12_owns 14 = .ok (.ifCond .eq 14, 3) := by decide +kernel
theorem dX12_owns_17 : decode cX12_owns 17 = .ok (.aload_n 0, 1) := by decide +kernel
theorem dX12_owns_18 : decode cX12_owns 18 = .ok (.getfield 117, 3) := by decide +kernel
theorem dX12_owns_21 : decode cX12_owns 21 = .ok (.iload_n 1, 1) := by decide +kernel
theorem dX12_owns_22 : decode cX12_owns 22 = .ok (.ishr, 1) := by decide +kernel
theorem dX12_owns_23 : decode cX12_owns 23 = .ok (.iconst 1, 1) := by decide +kernel
theorem dX12_owns_24 : decode cX12_owns 24 = .ok (.iand, 1) := by decide +kernel
theorem dX12_owns_25 : decode cX12_owns 25 = .ok (.ifCond .ne 5, 3) := by decide +kernel
theorem dX12_owns_28 : decode cX12_owns 28 = .ok (.iconst (-1), 1) := by decide +kernel
theorem dX12_owns_29 : decode cX12_owns 29 = .ok (.ireturn, 1) := by decide +kernel
theorem dX12_owns_30 : decode cX12_owns 30 = .ok (.iconst 0, 1) := by decide +kernel
theorem dX12_owns_31 : decode cX12_owns 31 = .ok (.istore_n 2, 1) := by decide +kernel
theorem dX12_owns_32 : decode cX12_owns 32 = .ok (.iconst 0, 1) := by decide +kernel
theorem dX12_owns_33 : decode cX12_owns 33 = .ok (.istore_n 3, 1) := by decide +kernel
theorem dX12_owns_34 : decode cX12_owns 34 = .ok (.iload_n 3, 1) := by decide +kernel
theorem dX12_owns_35 : decode cX12_owns 35 = .ok (.aload_n 0, 1) := by decide +kernel
theorem dX12_owns_36 : decode cX12_owns 36 = .ok (.getfield 173, 3) := by decide +kernel
theorem dX12_owns_39 : decode cX12_owns 39 = .ok (.if_icmp .ge 65, 3) := by decide +kernel
theorem dX12_owns_42 : decode cX12_owns 42 = .ok (.sipush 400, 3) := by decide +kernel
theorem dX12_owns_45 : decode cX12_owns 45 = .ok (.iload_n 3, 1) := by decide +kernel
theorem dX12_owns_46 : decode cX12_owns 46 = .ok (.imul, 1) := by decide +kernel
theorem dX12_owns_47 : decode cX12_owns 47 = .ok (.istore 4, 2) := by decide +kernel
theorem dX12_owns_49 : decode cX12_owns 49 = .ok (.iload 4, 2) := by decide +kernel
theorem dX12_owns_51 : decode cX12_owns 51 = .ok (.sipush 400, 3) := by decide +kernel
theorem dX12_owns_54 : decode cX12_owns 54 = .ok (.iload_n 3, 1) := by decide +kernel
theorem dX12_owns_55 : decode cX12_owns 55 = .ok (.imul, 1) := by decide +kernel
theorem dX12_owns_56 : decode cX12_owns 56 = .ok (.aload_n 0, 1) := by decide +kernel
theorem dX12_owns_57 : decode cX12_owns 57 = .ok (.getfield 45, 3) := by decide +kernel
theorem dX12_owns_60 : decode cX12_owns 60 = .ok (.iload_n 3, 1) := by decide +kernel
theorem dX12_owns_61 : decode cX12_owns 61 = .ok (.iaload, 1) := by decide +kernel
theorem dX12_owns_62 : decode cX12_owns 62 = .ok (.iadd, 1) := by decide +kernel
theorem dX12_owns_63 : decode cX12_owns 63 = .ok (.if_icmp .ge 35, 3) := by decide +kernel
theorem dX12_owns_66 : decode cX12_owns 66 = .ok (.iload_n 2, 1) := by decide +kernel
theorem dX12_owns_67 : decode cX12_owns 67 = .ok (.aload_n 0, 1) := by decide +kernel
theorem dX12_owns_68 : decode cX12_owns 68 = .ok (.getfield 48, 3) := by decide +kernel
theorem dX12_owns_71 : decode cX12_owns 71 = .ok (.iload 4, 2) := by decide +kernel
theorem dX12_owns_73 : decode cX12_owns 73 = .ok (.iaload, 1) := by decide +kernel
theorem dX12_owns_74 : decode cX12_owns 74 = .ok (.aload_n 0, 1) := by decide +kernel
theorem dX12_owns_75 : decode cX12_owns 75 = .ok (.getfield 117, 3) := by decide +kernel
theorem dX12_owns_78 : decode cX12_owns 78 = .ok (.invokestatic 302, 3) := by decide +kernel
theorem dX12_owns_81 : decode cX12_owns 81 = .ok (.iload_n 1, 1) := by decide +kernel
theorem dX12_owns_82 : decode cX12_owns 82 = .ok (.if_icmp .ne 7, 3) := by decide +kernel
theorem dX12_owns_85 : decode cX12_owns 85 = .ok (.iconst 1, 1) := by decide +kernel
theorem dX12_owns_86 : decode cX12_owns 86 = .ok (.goto 4, 3) := by decide +kernel
theorem dX12_owns_89 : decode cX12_owns 89 = .ok (.iconst 0, 1) := by decide +kernel
theorem dX12_owns_90 : decode cX12_owns 90 = .ok (.iadd, 1) := by decide +kernel
theorem dX12_owns_91 : decode cX12_owns 91 = .ok (.istore_n 2, 1) := by decide +kernel
theorem dX12_owns_92 : decode cX12_owns 92 = .ok (.iinc 4 1, 3) := by decide +kernel
theorem dX12_owns_95 : decode cX12_owns 95 = .ok (.goto (-46), 3) := by decide +kernel
theorem dX12_owns_98 : decode cX12_owns 98 = .ok (.iinc 3 1, 3) := by decide +kernel
theorem dX12_owns_101 : decode cX12_owns 101 = .ok (.goto (-67), 3) := by decide +kernel
theorem dX12_owns_104 : decode cX12_owns 104 = .ok (.iload_n 2, 1) := by decide +kernel
theorem dX12_owns_105 : decode cX12_owns 105 = .ok (.ireturn, 1) := by decide +kernel
theorem dX12_count_0 : decode cX12_count 0 = .ok (.aload_n 0, 1) := by decide +kernel
theorem dX12_count_1 : decode cX12_count 1 = .ok (.iconst 0, 1) := by decide +kernel
theorem dX12_count_2 : decode cX12_count 2 = .ok (.putfield 120, 3) := by decide +kernel
theorem dX12_count_5 : decode cX12_count 5 = .ok (.iload_n 1, 1) := by decide +kernel
theorem dX12_count_6 : decode cX12_count 6 = .ok (.tableswitch 155 0 8 #[50, 55, 60, 97, 102, 131, 136, 141, 150], 50) := by decide +kernel
theorem dX12_count_56 : decode cX12_count 56 = .ok (.aload_n 0, 1) := by decide +kernel
theorem dX12_count_57 : decode cX12_count 57 = .ok (.getfield 144, 3) := by decide +kernel
theorem dX12_count_60 : decode cX12_count 60 = .ok (.ireturn, 1) := by decide +kernel
theorem dX12_count_61 : decode cX12_count 61 = .ok (.aload_n 0, 1) := by decide +kernel
theorem dX12_count_62 : decode cX12_count 62 = .ok (.getfield 187, 3) := by decide +kernel
theorem dX12_count_65 : decode cX12_count 65 = .ok (.ireturn, 1) := by decide +kernel
theorem dX12_count_66 : decode cX12_count 66 = .ok (.iconst 0, 1) := by decide +kernel
theorem dX12_count_67 : decode cX12_count 67 = .ok (.istore_n 2, 1) := by decide +kernel
theorem dX12_count_68 : decode cX12_count 68 = .ok (.iconst 0, 1) := by decide +kernel
theorem dX12_count_69 : decode cX12_count 69 = .ok (.istore_n 3, 1) := by decide +kernel
theorem dX12_count_70 : decode cX12_count 70 = .ok (.iload_n 3, 1) := by decide +kernel
theorem dX12_count_71 : decode cX12_count 71 = .ok (.aload_n 0, 1) := by decide +kernel
theorem dX12_count_72 : decode cX12_count 72 = .ok (.getfield 187, 3) := by decide +kernel
theorem dX12_count_75 : decode cX12_count 75 = .ok (.if_icmp .ge 26, 3) := by decide +kernel
theorem dX12_count_78 : decode cX12_count 78 = .ok (.iload_n 2, 1) := by decide +kernel
theorem dX12_count_79 : decode cX12_count 79 = .ok (.aload_n 0, 1) := by decide +kernel
theorem dX12_count_80 : decode cX12_count 80 = .ok (.getfield 22, 3) := by decide +kernel
theorem dX12_count_83 : decode cX12_count 83 = .ok (.iload_n 3, 1) := by decide +kernel
theorem dX12_count_84 : decode cX12_count 84 = .ok (.baload, 1) := by decide +kernel
theorem dX12_count_85 : decode cX12_count 85 = .ok (.ifCond .eq 7, 3) := by decide +kernel
theorem dX12_count_88 : decode cX12_count 88 = .ok (.iconst 1, 1) := by decide +kernel
theorem dX12_count_89 : decode cX12_count 89 = .ok (.goto 4, 3) := by decide +kernel
theorem dX12_count_92 : decode cX12_count 92 = .ok (.iconst 0, 1) := by decide +kernel
theorem dX12_count_93 : decode cX12_count 93 = .ok (.iadd, 1) := by decide +kernel
theorem dX12_count_94 : decode cX12_count 94 = .ok (.istore_n 2, 1) := by decide +kernel
theorem dX12_count_95 : decode cX12_count 95 = .ok (.iinc 3 1, 3) := by decide +kernel
theorem dX12_count_98 : decode cX12_count 98 = .ok (.goto (-28), 3) := by decide +kernel
theorem dX12_count_101 : decode cX12_count 101 = .ok (.iload_n 2, 1) := by decide +kernel
theorem dX12_count_102 : decode cX12_count 102 = .ok (.ireturn, 1) := by decide +kernel
theorem dX12_count_103 : decode cX12_count 103 = .ok (.aload_n 0, 1) := by decide +kernel
theorem dX12_count_104 : decode cX12_count 104 = .ok (.getfield 173, 3) := by decide +kernel
theorem dX12_count_107 : decode cX12_count 107 = .ok (.ireturn, 1) := by decide +kernel
theorem dX12_count_108 : decode cX12_count 108 = .ok (.iconst 0, 1) := by decide +kernel
theorem dX12_count_109 : decode cX12_count 109 = .ok (.istore_n 2, 1) := by decide +kernel
theorem dX12_count_110 : decode cX12_count 110 = .ok (.iconst 0, 1) := by decide +kernel
theorem dX12_count_111 : decode cX12_count 111 = .ok (.istore_n 3, 1) := by decide +kernel
theorem dX12_count_112 : decode cX12_count 112 = .ok (.iload_n 3, 1) := by decide +kernel
theorem dX12_count_113 : decode cX12_count 113 = .ok (.bipush 8, 2) := by decide +kernel
theorem dX12_count_115 : decode cX12_count 115 = .ok (.if_icmp .ge 20, 3) := by decide +kernel
theorem dX12_count_118 : decode cX12_count 118 = .ok (.iload_n 2, 1) := by decide +kernel
theorem dX12_count_119 : decode cX12_count 119 = .ok (.aload_n 0, 1) := by decide +kernel
theorem dX12_count_120 : decode cX12_count 120 = .ok (.getfield 117, 3) := by decide +kernel
theorem dX12_count_123 : decode cX12_count 123 = .ok (.iload_n 3, 1) := by decide +kernel
theorem dX12_count_124 : decode cX12_count 124 = .ok (.ishr, 1) := by decide +kernel
theorem dX12_count_125 : decode cX12_count 125 = .ok (.iconst 1, 1) := by decide +kernel
theorem dX12_count_126 : decode cX12_count 126 = .ok (.iand, 1) := by decide +kernel
theorem dX12_count_127 : decode cX12_count 127 = .ok (.iadd, 1) := by decide +kernel
theorem dX12_count_128 : decode cX12_count 128 = .ok (.istore_n 2, 1) := by decide +kernel
theorem dX12_count_129 : decode cX12_count 129 = .ok (.iinc 3 1, 3) := by decide +kernel
theorem dX12_count_132 : decode cX12_count 132 = .ok (.goto (-20), 3) := by decide +kernel
theorem dX12_count_135 : decode cX12_count 135 = .ok (.iload_n 2, 1) := by decide +kernel
theorem dX12_count_136 : decode cX12_count 136 = .ok (.ireturn, 1) := by decide +kernel
theorem dX12_count_137 : decode cX12_count 137 = .ok (.aload_n 0, 1) := by decide +kernel
theorem dX12_count_138 : decode cX12_count 138 = .ok (.getfield 184, 3) := by decide +kernel
theorem dX12_count_141 : decode cX12_count 141 = .ok (.ireturn, 1) := by decide +kernel
theorem dX12_count_142 : decode cX12_count 142 = .ok (.aload_n 0, 1) := by decide +kernel
theorem dX12_count_143 : decode cX12_count 143 = .ok (.getfield 223, 3) := by decide +kernel
theorem dX12_count_146 : decode cX12_count 146 = .ok (.ireturn, 1) := by decide +kernel
theorem dX12_count_147 : decode cX12_count 147 = .ok (.aload_n 0, 1) := by decide +kernel
theorem dX12_count_148 : decode cX12_count 148 = .ok (.aload_n 0, 1) := by decide +kernel
theorem dX12_count_149 : decode cX12_count 149 = .ok (.getfield 187, 3) := by decide +kernel
theorem dX12_count_152 : decode cX12_count 152 = .ok (.invokevirtual 190, 3) := by decide +kernel
theorem dX12_count_155 : decode cX12_count 155 = .ok (.ireturn, 1) := by decide +kernel
theorem dX12_count_156 : decode cX12_count 156 = .ok (.aload_n 0, 1) := by decide +kernel
theorem dX12_count_157 : decode cX12_count 157 = .ok (.getfield 209, 3) := by decide +kernel
theorem dX12_count_160 : decode cX12_count 160 = .ok (.ireturn, 1) := by decide +kernel
theorem dX12_count_161 : decode cX12_count 161 = .ok (.iconst (-1), 1) := by decide +kernel
theorem dX12_count_162 : decode cX12_count 162 = .ok (.ireturn, 1) := by decide +kernel
theorem dX12_status_0 : decode cX12_status 0 = .ok (.aload_n 0, 1) := by decide +kernel
theorem dX12_status_1 : decode cX12_status 1 = .ok (.iconst 0, 1) := by decide +kernel
theorem dX12_status_2 : decode cX12_status 2 = .ok (.putfield 120, 3) := by decide +kernel
theorem dX12_status_5 : decode cX12_status 5 = .ok (.aload_n 0, 1) := by decide +kernel
theorem dX12_status_6 : decode cX12_status 6 = .ok (.getfield 123, 3) := by decide +kernel
theorem dX12_status_9 : decode cX12_status 9 = .ok (.ireturn, 1) := by decide +kernel
