theorem dX0_init_0 : decode cX0_init 0 = .ok (.aload_n 0, 1) := by decide +kernel
theorem dX0_init_1 : decode cX0_init 1 = .ok (.invokespecial 3, 3) := by decide +kernel
theorem dX0_init_4 : decode cX0_init 4 = .ok (.aload_n 0, 1) := by decide +kernel
theorem dX0_init_5 : decode cX0_init 5 = .ok (.sipush 4000, 3) := by decide +kernel
theorem dX0_init_8 : decode cX0_init 8 = .ok (.newarray .long, 2) := by decide +kernel
theorem dX0_init_10 : decode cX0_init 10 = .ok (.putfield 9, 3) := by decide +kernel
theorem dX0_init_13 : decode cX0_init 13 = .ok (.return_, 1) := by decide +kernel
theorem dX0_clear_0 : decode cX0_clear 0 = .ok (.aload_n 0, 1) := by decide +kernel
theorem dX0_clear_1 : decode cX0_clear 1 = .ok (.iconst 0, 1) := by decide +kernel
theorem dX0_clear_2 : decode cX0_clear 2 = .ok (.putfield 15, 3) := by decide +kernel
theorem dX0_clear_5 : decode cX0_clear 5 = .ok (.return_, 1) := by decide +kernel
theorem dX0_size_0 : decode cX0_size 0 = .ok (.aload_n 0, 1) := by decide +kernel
theorem dX0_size_1 : decode cX0_size 1 = .ok (.getfield 15, 3) := by decide +kernel
theorem dX0_size_4 : decode cX0_size 4 = .ok (.ireturn, 1) := by decide +kernel
theorem dX0_partOf_0 : decode cX0_partOf 0 = .ok (.iload_n 1, 1) := by decide +kernel
theorem dX0_partOf_1 : decode cX0_partOf 1 = .ok (.iconst 0, 1) := by decide +kernel
theorem dX0_partOf_2 : decode cX0_partOf 2 = .ok (.aload_n 0, 1) := by decide +kernel
theorem dX0_partOf_3 : decode cX0_partOf 3 = .ok (.getfield 15, 3) := by decide +kernel
theorem dX0_partOf_6 : decode cX0_partOf 6 = .ok (.iconst 1, 1) := by decide +kernel
theorem dX0_partOf_7 : decode cX0_partOf 7 = .ok (.isub, 1) := by decide +kernel
theorem dX0_partOf_8 : decode cX0_partOf 8 = .ok (.invokestatic 19, 3) := by decide +kernel
theorem dX0_partOf_11 : decode cX0_partOf 11 = .ok (.ifCond .ne 6, 3) := by decide +kernel
theorem dX0_partOf_14 : decode cX0_partOf 14 = .ok (.ldc 23, 2) := by decide +kernel
theorem dX0_partOf_16 : decode cX0_partOf 16 = .ok (.ireturn, 1) := by decide +kernel
theorem dX0_partOf_17 : decode cX0_partOf 17 = .ok (.iload_n 2, 1) := by decide +kernel
theorem dX0_partOf_18 : decode cX0_partOf 18 = .ok (.iconst 3, 1) := by decide +kernel
theorem dX0_partOf_19 : decode cX0_partOf 19 = .ok (.if_icmp .ne 22, 3) := by decide +kernel
theorem dX0_partOf_22 : decode cX0_partOf 22 = .ok (.aload_n 0, 1) := by decide +kernel
theorem dX0_partOf_23 : decode cX0_partOf 23 = .ok (.getfield 9, 3) := by decide +kernel
theorem dX0_partOf_26 : decode cX0_partOf 26 = .ok (.iload_n 1, 1) := by decide +kernel
theorem dX0_partOf_27 : decode cX0_partOf 27 = .ok (.laload, 1) := by decide +kernel
theorem dX0_partOf_28 : decode cX0_partOf 28 = .ok (.lconst 1, 1) := by decide +kernel
theorem dX0_partOf_29 : decode cX0_partOf 29 = .ok (.land, 1) := by decide +kernel
theorem dX0_partOf_30 : decode cX0_partOf 30 = .ok (.lconst 1, 1) := by decide +kernel
theorem dX0_partOf_31 : decode cX0_partOf 31 = .ok (.lcmp, 1) := by decide +kernel
theorem dX0_partOf_32 : decode cX0_partOf 32 = .ok (.ifCond .ne 7, 3) := by decide +kernel
theorem dX0_partOf_35 : decode cX0_partOf 35 = .ok (.iconst 1, 1) := by decide +kernel
theorem dX0_partOf_36 : decode cX0_partOf 36 = .ok (.goto 4, 3) := by decide +kernel
theorem dX0_partOf_39 : decode cX0_partOf 39 = .ok (.iconst (-1), 1) := by decide +kernel
theorem dX0_partOf_40 : decode cX0_partOf 40 = .ok (.ireturn, 1) := by decide +kernel
theorem dX0_partOf_41 : decode cX0_partOf 41 = .ok (.aload_n 0, 1) := by decide +kernel
theorem dX0_partOf_42 : decode cX0_partOf 42 = .ok (.getfield 9, 3) := by decide +kernel
theorem dX0_partOf_45 : decode cX0_partOf 45 = .ok (.iload_n 1, 1) := by decide +kernel
theorem dX0_partOf_46 : decode cX0_partOf 46 = .ok (.laload, 1) := by decide +kernel
theorem dX0_partOf_47 : decode cX0_partOf 47 = .ok (.iconst 1, 1) := by decide +kernel
theorem dX0_partOf_48 : decode cX0_partOf 48 = .ok (.lushr, 1) := by decide +kernel
theorem dX0_partOf_49 : decode cX0_partOf 49 = .ok (.iload_n 2, 1) := by decide +kernel
theorem dX0_partOf_50 : decode cX0_partOf 50 = .ok (.invokestatic 24, 3) := by decide +kernel
theorem dX0_partOf_53 : decode cX0_partOf 53 = .ok (.ireturn, 1) := by decide +kernel
theorem dX0_addAll_0 : decode cX0_addAll 0 = .ok (.aload_n 0, 1) := by decide +kernel
theorem dX0_addAll_1 : decode cX0_addAll 1 = .ok (.getfield 15, 3) := by decide +kernel
theorem dX0_addAll_4 : decode cX0_addAll 4 = .ok (.aload_n 1, 1) := by decide +kernel
theorem dX0_addAll_5 : decode cX0_addAll 5 = .ok (.getfield 15, 3) := by decide +kernel
theorem dX0_addAll_8 : decode cX0_addAll 8 = .ok (.iadd, 1) := by decide +kernel
theorem dX0_addAll_9 : decode cX0_addAll 9 = .ok (.sipush 4000, 3) := by decide +kernel
theorem dX0_addAll_12 : decode cX0_addAll 12 = .ok (.if_icmp .le 5, 3) := by decide +kernel
theorem dX0_addAll_15 : decode cX0_addAll 15 = .ok (.iconst 0, 1) := by decide +kernel
theorem dX0_addAll_16 : decode cX0_addAll 16 = .ok (.ireturn, 1) := by decide +kernel
theorem dX0_addAll_17 : decode cX0_addAll 17 = .ok (.aload_n 1, 1) := by decide +kernel
theorem dX0_addAll_18 : decode cX0_addAll 18 = .ok (.getfield 9, 3) := by decide +kernel
theorem dX0_addAll_21 : decode cX0_addAll 21 = .ok (.iconst 0, 1) := by decide +kernel
theorem dX0_addAll_22 : decode cX0_addAll 22 = .ok (.aload_n 0, 1) := by decide +kernel
theorem dX0_addAll_23 : decode cX0_addAll 23 = .ok (.getfield 9, 3) := by decide +kernel
theorem dX0_addAll_26 : decode cX0_addAll 26 = .ok (.aload_n 0, 1) := by decide +kernel
theorem dX0_addAll_27 : decode cX0_addAll 27 = .ok (.getfield 15, 3) := by decide +kernel
theorem dX0_addAll_30 : decode cX0_addAll 30 = .ok (.aload_n 1, 1) := by decide +kernel
theorem dX0_addAll_31 : decode cX0_addAll 31 = .ok (.getfield 15, 3) := by decide +kernel
theorem dX0_addAll_34 : decode cX0_addAll 34 = .ok (.invokestatic 30, 3) := by decide +kernel
theorem dX0_addAll_37 : decode cX0_addAll 37 = .ok (.aload_n 0, 1) := by decide +kernel
theorem dX0_addAll_38 : decode cX0_addAll 38 = .ok (.dup, 1) := by decide +kernel
theorem dX0_addAll_39 : decode cX0_addAll 39 = .ok (.getfield 15, 3) := by decide +kernel
theorem dX0_addAll_42 : decode cX0_addAll 42 = .ok (.aload_n 1, 1) := by decide +kernel
theorem dX0_addAll_43 : decode cX0_addAll 43 = .ok (.getfield 15, 3) := by decide +kernel
theorem dX0_addAll_46 : decode cX0_addAll 46 = .ok (.iadd, 1) := by decide +kernel
theorem dX0_addAll_47 : decode cX0_addAll 47 = .ok (.putfield 15, 3) := by decide +kernel
theorem dX0_addAll_50 : decode cX0_addAll 50 = .ok (.iconst 1, 1) := by decide +kernel
theorem dX0_addAll_51 : decode cX0_addAll 51 = .ok (.ireturn, 1) := by decide +kernel
theorem dX0_addDifference_0 : decode cX0_addDifference 0 = .ok (.aload_n 0, 1) := by decide +kernel
theorem dX0_addDifference_1 : decode cX0_addDifference 1 = .ok (.getfield 15, 3) := by decide +kernel
theorem dX0_addDifference_4 : decode cX0_addDifference 4 = .ok (.istore_n 3, 1) := by decide +kernel
theorem dX0_addDifference_5 : decode cX0_addDifference 5 = .ok (.aload_n 0, 1) := by decide +kernel
theorem dX0_addDifference_6 : decode cX0_addDifference 6 = .ok (.aload_n 1, 1) := by decide +kernel
theorem dX0_addDifference_7 : decode cX0_addDifference 7 = .ok (.aload_n 2, 1) := by decide +kernel
theorem dX0_addDifference_8 : decode cX0_addDifference 8 = .ok (.iconst 0, 1) := by decide +kernel
theorem dX0_addDifference_9 : decode cX0_addDifference 9 = .ok (.invokevirtual 36, 3) := by decide +kernel
theorem dX0_addDifference_12 : decode cX0_addDifference 12 = .ok (.ifCond .eq 15, 3) := by decide +kernel
theorem dX0_addDifference_15 : decode cX0_addDifference 15 = .ok (.aload_n 0, 1) := by decide +kernel
theorem dX0_addDifference_16 : decode cX0_addDifference 16 = .ok (.aload_n 2, 1) := by decide +kernel
theorem dX0_addDifference_17 : decode cX0_addDifference 17 = .ok (.aload_n 1, 1) := by decide +kernel
theorem dX0_addDifference_18 : decode cX0_addDifference 18 = .ok (.iconst 1, 1) := by decide +kernel
theorem dX0_addDifference_19 : decode cX0_addDifference 19 = .ok (.invokevirtual 36, 3) := by decide +kernel
theorem dX0_addDifference_22 : decode cX0_addDifference 22 = .ok (.ifCond .eq 5, 3) := by decide +kernel
theorem dX0_addDifference_25 : decode cX0_addDifference 25 = .ok (.iconst 1, 1) := by decide +kernel
theorem dX0_addDifference_26 : decode cX0_addDifference 26 = .ok (.ireturn, 1) := by decide +kernel
theorem dX0_addDifference_27 : decode cX0_addDifference 27 = .ok (.aload_n 0, 1) := by decide +kernel
theorem dX0_addDifference_28 : decode cX0_addDifference 28 = .ok (.iload_n 3, 1) := by decide +kernel
theorem dX0_addDifference_29 : decode cX0_addDifference 29 = .ok (.putfield 15, 3) := by decide +kernel
theorem dX0_addDifference_32 : decode cX0_addDifference 32 = .ok (.iconst 0, 1) := by decide +kernel
theorem dX0_addDifference_33 : decode cX0_addDifference 33 = .ok (.ireturn, 1) := by decide +kernel
theorem dX0_addMissing_0 : decode cX0_addMissing 0 = .ok (.iconst 0, 1) := by decide +kernel
theorem dX0_addMissing_1 : decode cX0_addMissing 1 = .ok (.istore 4, 2) := by decide +kernel
theorem dX0_addMissing_3 : decode cX0_addMissing 3 = .ok (.iconst 0, 1) := by decide +kernel
theorem dX0_addMissing_4 : decode cX0_addMissing 4 = .ok (.istore 5, 2) := by decide +kernel
theorem dX0_addMissing_6 : decode cX0_addMissing 6 = .ok (.iload 5, 2) := by decide +kernel
theorem dX0_addMissing_8 : decode cX0_addMissing 8 = .ok (.aload_n 1, 1) := by decide +kernel
theorem dX0_addMissing_9 : decode cX0_addMissing 9 = .ok (.invokevirtual 40, 3) := by decide +kernel
theorem dX0_addMissing_12 : decode cX0_addMissing 12 = .ok (.if_icmp .ge 109, 3) := by decide +kernel
theorem dX0_addMissing_15 : decode cX0_addMissing 15 = .ok (.aload_n 1, 1) := by decide +kernel
theorem dX0_addMissing_16 : decode cX0_addMissing 16 = .ok (.iload 5, 2) := by decide +kernel
theorem dX0_addMissing_18 : decode cX0_addMissing 18 = .ok (.invokevirtual 45, 3) := by decide +kernel
theorem dX0_addMissing_21 : decode cX0_addMissing 21 = .ok (.lstore 6, 2) := by decide +kernel
theorem dX0_addMissing_23 : decode cX0_addMissing 23 = .ok (.iload 4, 2) := by decide +kernel
theorem dX0_addMissing_25 : decode cX0_addMissing 25 = .ok (.aload_n 2, 1) := by decide +kernel
theorem dX0_addMissing_26 : decode cX0_addMissing 26 = .ok (.invokevirtual 40, 3) := by decide +kernel
theorem dX0_addMissing_29 : decode cX0_addMissing 29 = .ok (.if_icmp .ge 21, 3) := by decide +kernel
theorem dX0_addMissing_32 : decode cX0_addMissing 32 = .ok (.aload_n 2, 1) := by decide +kernel
theorem dX0_addMissing_33 : decode cX0_addMissing 33 = .ok (.iload 4, 2) := by decide +kernel
theorem dX0_addMissing_35 : decode cX0_addMissing 35 = .ok (.invokevirtual 45, 3) := by decide +kernel
theorem dX0_addMissing_38 : decode cX0_addMissing 38 = .ok (.lload 6, 2) := by decide +kernel
theorem dX0_addMissing_40 : decode cX0_addMissing 40 = .ok (.lcmp, 1) := by decide +kernel
theorem dX0_addMissing_41 : decode cX0_addMissing 41 = .ok (.ifCond .ge 9, 3) := by decide +kernel
theorem dX0_addMissing_44 : decode cX0_addMissing 44 = .ok (.iinc 4 1, 3) := by decide +kernel
theorem dX0_addMissing_47 : decode cX0_addMissing 47 = .ok (.goto (-24), 3) := by decide +kernel
theorem dX0_addMissing_50 : decode cX0_addMissing 50 = .ok (.iload 4, 2) := by decide +kernel
theorem dX0_addMissing_52 : decode cX0_addMissing 52 = .ok (.aload_n 2, 1) := by decide +kernel
theorem dX0_addMissing_53 : decode cX0_addMissing 53 = .ok (.invokevirtual 40, 3) := by decide +kernel
theorem dX0_addMissing_56 : decode cX0_addMissing 56 = .ok (.if_icmp .ge 21, 3) := by decide +kernel
theorem dX0_addMissing_59 : decode cX0_addMissing 59 = .ok (.aload_n 2, 1) := by decide +kernel
theorem dX0_addMissing_60 : decode cX0_addMissing 60 = .ok (.iload 4, 2) := by decide +kernel
theorem dX0_addMissing_62 : decode cX0_addMissing 62 = .ok (.invokevirtual 45, 3) := by decide +kernel
theorem dX0_addMissing_65 : decode cX0_addMissing 65 = .ok (.lload 6, 2) := by decide +kernel
theorem dX0_addMissing_67 : decode cX0_addMissing 67 = .ok (.lcmp, 1) := by decide +kernel
theorem dX0_addMissing_68 : decode cX0_addMissing 68 = .ok (.ifCond .ne 9, 3) := by decide +kernel
theorem dX0_addMissing_71 : decode cX0_addMissing 71 = .ok (.iinc 4 1, 3) := by decide +kernel
theorem dX0_addMissing_74 : decode cX0_addMissing 74 = .ok (.goto 41, 3) := by decide +kernel
theorem dX0_addMissing_77 : decode cX0_addMissing 77 = .ok (.aload_n 0, 1) := by decide +kernel
theorem dX0_addMissing_78 : decode cX0_addMissing 78 = .ok (.getfield 15, 3) := by decide +kernel
theorem dX0_addMissing_81 : decode cX0_addMissing 81 = .ok (.sipush 4000, 3) := by decide +kernel
theorem dX0_addMissing_84 : decode cX0_addMissing 84 = .ok (.if_icmp .lt 5, 3) := by decide +kernel
theorem dX0_addMissing_87 : decode cX0_addMissing 87 = .ok (.iconst 0, 1) := by decide +kernel
theorem dX0_addMissing_88 : decode cX0_addMissing 88 = .ok (.ireturn, 1) := by decide +kernel
theorem dX0_addMissing_89 : decode cX0_addMissing 89 = .ok (.aload_n 0, 1) := by decide +kernel
theorem dX0_addMissing_90 : decode cX0_addMissing 90 = .ok (.getfield 9, 3) := by decide +kernel
theorem dX0_addMissing_93 : decode cX0_addMissing 93 = .ok (.aload_n 0, 1) := by decide +kernel
theorem dX0_addMissing_94 : decode cX0_addMissing 94 = .ok (.getfield 15, 3) := by decide +kernel
theorem dX0_addMissing_97 : decode cX0_addMissing 97 = .ok (.lload 6, 2) := by decide +kernel
theorem dX0_addMissing_99 : decode cX0_addMissing 99 = .ok (.iconst 1, 1) := by decide +kernel
theorem dX0_addMissing_100 : decode cX0_addMissing 100 = .ok (.lshl, 1) := by decide +kernel
theorem dX0_addMissing_101 : decode cX0_addMissing 101 = .ok (.iload_n 3, 1) := by decide +kernel
theorem dX0_addMissing_102 : decode cX0_addMissing 102 = .ok (.i2l, 1) := by decide +kernel
theorem dX0_addMissing_103 : decode cX0_addMissing 103 = .ok (.lor, 1) := by decide +kernel
theorem dX0_addMissing_104 : decode cX0_addMissing 104 = .ok (.lastore, 1) := by decide +kernel
theorem dX0_addMissing_105 : decode cX0_addMissing 105 = .ok (.aload_n 0, 1) := by decide +kernel
theorem dX0_addMissing_106 : decode cX0_addMissing 106 = .ok (.dup, 1) := by decide +kernel
theorem dX0_addMissing_107 : decode cX0_addMissing 107 = .ok (.getfield 15, 3) := by decide +kernel
theorem dX0_addMissing_110 : decode cX0_addMissing 110 = .ok (.iconst 1, 1) := by decide +kernel
theorem dX0_addMissing_111 : decode cX0_addMissing 111 = .ok (.iadd, 1) := by decide +kernel
theorem dX0_addMissing_112 : decode cX0_addMissing 112 = .ok (.putfield 15, 3) := by decide +kernel
theorem dX0_addMissing_115 : decode cX0_addMissing 115 = .ok (.iinc 5 1, 3) := by decide +kernel
theorem dX0_addMissing_118 : decode cX0_addMissing 118 = .ok (.goto (-112), 3) := by decide +kernel
theorem dX0_addMissing_121 : decode cX0_addMissing 121 = .ok (.iconst 1, 1) := by decide +kernel
theorem dX0_addMissing_122 : decode cX0_addMissing 122 = .ok (.ireturn, 1) := by decide +kernel
theorem dX1_init_0 : decode cX1_init 0 = .ok (.aload_n 0, 1) := by decide +kernel
theorem dX1_init_1 : decode cX1_init 1 = .ok (.invokespecial 3, 3) := by decide +kernel
theorem dX1_init_4 : decode cX1_init 4 = .ok (.aload_n 0, 1) := by decide +kernel
theorem dX1_init_5 : decode cX1_init 5 = .ok (.bipush 8, 2) := by decide +kernel
theorem dX1_init_7 : decode cX1_init 7 = .ok (.newarray .boolean, 2) := by decide +kernel
theorem dX1_init_9 : decode cX1_init 9 = .ok (.putfield 9, 3) := by decide +kernel
theorem dX1_init_12 : decode cX1_init 12 = .ok (.aload_n 0, 1) := by decide +kernel
theorem dX1_init_13 : decode cX1_init 13 = .ok (.getfield 9, 3) := by decide +kernel
theorem dX1_init_16 : decode cX1_init 16 = .ok (.iconst 0, 1) := by decide +kernel
theorem dX1_init_17 : decode cX1_init 17 = .ok (.iconst 1, 1) := by decide +kernel
theorem dX1_init_18 : decode cX1_init 18 = .ok (.bastore, 1) := by decide +kernel
theorem dX1_init_19 : decode cX1_init 19 = .ok (.aload_n 0, 1) := by decide +kernel
theorem dX1_init_20 : decode cX1_init 20 = .ok (.iconst 1, 1) := by decide +kernel
theorem dX1_init_21 : decode cX1_init 21 = .ok (.putfield 15, 3) := by decide +kernel
theorem dX1_init_24 : decode cX1_init 24 = .ok (.aload_n 0, 1) := by decide +kernel
theorem dX1_init_25 : decode cX1_init 25 = .ok (.bipush 32, 2) := by decide +kernel
theorem dX1_init_27 : decode cX1_init 27 = .ok (.newarray .int, 2) := by decide +kernel
theorem dX1_init_29 : decode cX1_init 29 = .ok (.putfield 19, 3) := by decide +kernel
theorem dX1_init_32 : decode cX1_init 32 = .ok (.return_, 1) := by decide +kernel
theorem dX1_size_0 : decode cX1_size 0 = .ok (.aload_n 0, 1) := by decide +kernel
theorem dX1_size_1 : decode cX1_size 1 = .ok (.getfield 15, 3) := by decide +kernel
theorem dX1_size_4 : decode cX1_size 4 = .ok (.ireturn, 1) := by decide +kernel
theorem dX1_has_0 : decode cX1_has 0 = .ok (.iload_n 1, 1) := by decide +kernel
theorem dX1_has_1 : decode cX1_has 1 = .ok (.iconst 0, 1) := by decide +kernel
theorem dX1_has_2 : decode cX1_has 2 = .ok (.bipush 7, 2) := by decide +kernel
theorem dX1_has_4 : decode cX1_has 4 = .ok (.invokestatic 23, 3) := by decide +kernel
theorem dX1_has_7 : decode cX1_has 7 = .ok (.ifCond .eq 16, 3) := by decide +kernel
theorem dX1_has_10 : decode cX1_has 10 = .ok (.aload_n 0, 1) := by decide +kernel
theorem dX1_has_11 : decode cX1_has 11 = .ok (.getfield 9, 3) := by decide +kernel
theorem dX1_has_14 : decode cX1_has 14 = .ok (.iload_n 1, 1) := by decide +kernel
theorem dX1_has_15 : decode cX1_has 15 = .ok (.baload, 1) := by decide +kernel
theorem dX1_has_16 : decode cX1_has 16 = .ok (.ifCond .eq 7, 3) := by decide +kernel
theorem dX1_has_19 : decode cX1_has 19 = .ok (.iconst 1, 1) := by decide +kernel
theorem dX1_has_20 : decode cX1_has 20 = .ok (.goto 4, 3) := by decide +kernel
theorem dX1_has_23 : decode cX1_has 23 = .ok (.iconst 0, 1) := by decide +kernel
theorem dX1_has_24 : decode cX1_has 24 = .ok (.ireturn, 1) := by decide +kernel
theorem dX1_ownerOf_0 : decode cX1_ownerOf 0 = .ok (.iload_n 1, 1) := by decide +kernel
theorem dX1_ownerOf_1 : decode cX1_ownerOf 1 = .ok (.iconst 0, 1) := by decide +kernel
theorem dX1_ownerOf_2 : decode cX1_ownerOf 2 = .ok (.bipush 31, 2) := by decide +kernel
theorem dX1_ownerOf_4 : decode cX1_ownerOf 4 = .ok (.invokestatic 23, 3) := by decide +kernel
theorem dX1_ownerOf_7 : decode cX1_ownerOf 7 = .ok (.ifCond .eq 12, 3) := by decide +kernel
theorem dX1_ownerOf_10 : decode cX1_ownerOf 10 = .ok (.aload_n 0, 1) := by decide +kernel
theorem dX1_ownerOf_11 : decode cX1_ownerOf 11 = .ok (.getfield 19, 3) := by decide +kernel
theorem dX1_ownerOf_14 : decode cX1_ownerOf 14 = .ok (.iload_n 1, 1) := by decide +kernel
theorem dX1_ownerOf_15 : decode cX1_ownerOf 15 = .ok (.iaload, 1) := by decide +kernel
theorem dX1_ownerOf_16 : decode cX1_ownerOf 16 = .ok (.goto 4, 3) := by decide +kernel
theorem dX1_ownerOf_19 : decode cX1_ownerOf 19 = .ok (.iconst (-1), 1) := by decide +kernel
theorem dX1_ownerOf_20 : decode cX1_ownerOf 20 = .ok (.ireturn, 1) := by decide +kernel
theorem dX1_keysOf_0 : decode cX1_keysOf 0 = .ok (.iconst 0, 1) := by decide +kernel
theorem dX1_keysOf_1 : decode cX1_keysOf 1 = .ok (.istore_n 2, 1) := by decide +kernel
theorem dX1_keysOf_2 : decode cX1_keysOf 2 = .ok (.iconst 0, 1) := by decide +kernel
theorem dX1_keysOf_3 : decode cX1_keysOf 3 = .ok (.istore_n 3, 1) := by decide +kernel
theorem dX1_keysOf_4 : decode cX1_keysOf 4 = .ok (.iload_n 3, 1) := by decide +kernel
theorem dX1_keysOf_5 : decode cX1_keysOf 5 = .ok (.bipush 32, 2) := by decide +kernel
theorem dX1_keysOf_7 : decode cX1_keysOf 7 = .ok (.if_icmp .ge 25, 3) := by decide +kernel
theorem dX1_keysOf_10 : decode cX1_keysOf 10 = .ok (.aload_n 0, 1) := by decide +kernel
theorem dX1_keysOf_11 : decode cX1_keysOf 11 = .ok (.getfield 19, 3) := by decide +kernel
theorem dX1_keysOf_14 : decode cX1_keysOf 14 = .ok (.iload_n 3, 1) := by decide +kernel
theorem dX1_keysOf_15 : decode cX1_keysOf 15 = .ok (.iaload, 1) := by decide +kernel
theorem dX1_keysOf_16 : decode cX1_keysOf 16 = .ok (.iload_n 1, 1) := by decide +kernel
theorem dX1_keysOf_17 : decode cX1_keysOf 17 = .ok (.if_icmp .ne 9, 3) := by decide +kernel
theorem dX1_keysOf_20 : decode cX1_keysOf 20 = .ok (.iload_n 2, 1) := by decide +kernel
theorem dX1_keysOf_21 : decode cX1_keysOf 21 = .ok (.iconst 1, 1) := by decide +kernel
theorem dX1_keysOf_22 : decode cX1_keysOf 22 = .ok (.iload_n 3, 1) := by decide +kernel
theorem dX1_keysOf_23 : decode cX1_keysOf 23 = .ok (.ishl, 1) := by decide +kernel
theorem dX1_keysOf_24 : decode cX1_keysOf 24 = .ok (.ior, 1) := by decide +kernel
theorem dX1_keysOf_25 : decode cX1_keysOf 25 = .ok (.istore_n 2, 1) := by decide +kernel
theorem dX1_keysOf_26 : decode cX1_keysOf 26 = .ok (.iinc 3 1, 3) := by decide +kernel
theorem dX1_keysOf_29 : decode cX1_keysOf 29 = .ok (.goto (-25), 3) := by decide +kernel
theorem dX1_keysOf_32 : decode cX1_keysOf 32 = .ok (.iload_n 2, 1) := by decide +kernel
theorem dX1_keysOf_33 : decode cX1_keysOf 33 = .ok (.ireturn, 1) := by decide +kernel
theorem dX1_change_0 : decode cX1_change 0 = .ok (.iload_n 1, 1) := by decide +kernel
theorem dX1_change_1 : decode cX1_change 1 = .ok (.iconst 0, 1) := by decide +kernel
theorem dX1_change_2 : decode cX1_change 2 = .ok (.bipush 7, 2) := by decide +kernel
theorem dX1_change_4 : decode cX1_change 4 = .ok (.invokestatic 23, 3) := by decide +kernel
theorem dX1_change_7 : decode cX1_change 7 = .ok (.ifCond .eq 13, 3) := by decide +kernel
theorem dX1_change_10 : decode cX1_change 10 = .ok (.aload_n 0, 1) := by decide +kernel
theorem dX1_change_11 : decode cX1_change 11 = .ok (.getfield 9, 3) := by decide +kernel
theorem dX1_change_14 : decode cX1_change 14 = .ok (.iload_n 1, 1) := by decide +kernel
theorem dX1_change_15 : decode cX1_change 15 = .ok (.baload, 1) := by decide +kernel
theorem dX1_change_16 : decode cX1_change 16 = .ok (.iload_n 2, 1) := by decide +kernel
theorem dX1_change_17 : decode cX1_change 17 = .ok (.if_icmp .ne 5, 3) := by decide +kernel
theorem dX1_change_20 : decode cX1_change 20 = .ok (.iconst 0, 1) := by decide +kernel
theorem dX1_change_21 : decode cX1_change 21 = .ok (.ireturn, 1) := by decide +kernel
theorem dX1_change_22 : decode cX1_change 22 = .ok (.aload_n 0, 1) := by decide +kernel
theorem dX1_change_23 : decode cX1_change 23 = .ok (.getfield 9, 3) := by decide +kernel
theorem dX1_change_26 : decode cX1_change 26 = .ok (.iload_n 1, 1) := by decide +kernel
theorem dX1_change_27 : decode cX1_change 27 = .ok (.iload_n 2, 1) := by decide +kernel
theorem dX1_change_28 : decode cX1_change 28 = .ok (.bastore, 1) := by decide +kernel
theorem dX1_change_29 : decode cX1_change 29 = .ok (.aload_n 0, 1) := by decide +kernel
theorem dX1_change_30 : decode cX1_change 30 = .ok (.dup, 1) := by decide +kernel
theorem dX1_change_31 : decode cX1_change 31 = .ok (.getfield 15, 3) := by decide +kernel
theorem dX1_change_34 : decode cX1_change 34 = .ok (.iload_n 2, 1) := by decide +kernel
theorem dX1_change_35 : decode cX1_change 35 = .ok (.ifCond .eq 7, 3) := by decide +kernel
theorem dX1_change_38 : decode cX1_change 38 = .ok (.iconst 1, 1) := by decide +kernel
theorem dX1_change_39 : decode cX1_change 39 = .ok (.goto 4, 3) := by decide +kernel
theorem dX1_change_42 : decode cX1_change 42 = .ok (.iconst (-1), 1) := by decide +kernel
theorem dX1_change_43 : decode cX1_change 43 = .ok (.iadd, 1) := by decide +kernel
theorem dX1_change_44 : decode cX1_change 44 = .ok (.putfield 15, 3) := by decide +kernel
theorem dX1_change_47 : decode cX1_change 47 = .ok (.iconst 0, 1) := by decide +kernel
theorem dX1_change_48 : decode cX1_change 48 = .ok (.istore_n 3, 1) := by decide +kernel
theorem dX1_change_49 : decode cX1_change 49 = .ok (.iconst 0, 1) := by decide +kernel
theorem dX1_change_50 : decode cX1_change 50 = .ok (.istore 4, 2) := by decide +kernel
theorem dX1_change_52 : decode cX1_change 52 = .ok (.iload 4, 2) := by decide +kernel
theorem dX1_change_54 : decode cX1_change 54 = .ok (.bipush 32, 2) := by decide +kernel
theorem dX1_change_56 : decode cX1_change 56 = .ok (.if_icmp .ge 45, 3) := by decide +kernel
theorem dX1_change_59 : decode cX1_change 59 = .ok (.aload_n 0, 1) := by decide +kernel
theorem dX1_change_60 : decode cX1_change 60 = .ok (.iload 4, 2) := by decide +kernel
theorem dX1_change_62 : decode cX1_change 62 = .ok (.invokevirtual 27, 3) := by decide +kernel
theorem dX1_change_65 : decode cX1_change 65 = .ok (.istore 5, 2) := by decide +kernel
theorem dX1_change_67 : decode cX1_change 67 = .ok (.iload 5, 2) := by decide +kernel
theorem dX1_change_69 : decode cX1_change 69 = .ok (.aload_n 0, 1) := by decide +kernel
theorem dX1_change_70 : decode cX1_change 70 = .ok (.getfield 19, 3) := by decide +kernel
theorem dX1_change_73 : decode cX1_change 73 = .ok (.iload 4, 2) := by decide +kernel
theorem dX1_change_75 : decode cX1_change 75 = .ok (.iaload, 1) := by decide +kernel
theorem dX1_change_76 : decode cX1_change 76 = .ok (.if_icmp .eq 19, 3) := by decide +kernel
theorem dX1_change_79 : decode cX1_change 79 = .ok (.aload_n 0, 1) := by decide +kernel
theorem dX1_change_80 : decode cX1_change 80 = .ok (.getfield 19, 3) := by decide +kernel
theorem dX1_change_83 : decode cX1_change 83 = .ok (.iload 4, 2) := by decide +kernel
theorem dX1_change_85 : decode cX1_change 85 = .ok (.iload 5, 2) := by decide +kernel
theorem dX1_change_87 : decode cX1_change 87 = .ok (.iastore, 1) := by decide +kernel
theorem dX1_change_88 : decode cX1_change 88 = .ok (.iload_n 3, 1) := by decide +kernel
theorem dX1_change_89 : decode cX1_change 89 = .ok (.iconst 1, 1) := by decide +kernel
theorem dX1_change_90 : decode cX1_change 90 = .ok (.iload 4, 2) := by decide +kernel
theorem dX1_change_92 : decode cX1_change 92 = .ok (.ishl, 1) := by decide +kernel
theorem dX1_change_93 : decode cX1_change 93 = .ok (.ior, 1) := by decide +kernel
theorem dX1_change_94 : decode cX1_change 94 = .ok (.istore_n 3, 1) := by decide +kernel
theorem dX1_change_95 : decode cX1_change 95 = .ok (.iinc 4 1, 3) := by decide +kernel
theorem dX1_change_98 : decode cX1_change 98 = .ok (.goto (-46), 3) := by decide +kernel
theorem dX1_change_101 : decode cX1_change 101 = .ok (.iload_n 3, 1) := by decide +kernel
theorem dX1_change_102 : decode cX1_change 102 = .ok (.ireturn, 1) := by decide +kernel
theorem dX1_choose_0 : decode cX1_choose 0 = .ok (.iconst (-1), 1) := by decide +kernel
theorem dX1_choose_1 : decode cX1_choose 1 = .ok (.istore_n 2, 1) := by decide +kernel
theorem dX1_choose_2 : decode cX1_choose 2 = .ok (.iconst (-1), 1) := by decide +kernel
theorem dX1_choose_3 : decode cX1_choose 3 = .ok (.istore_n 3, 1) := by decide +kernel
theorem dX1_choose_4 : decode cX1_choose 4 = .ok (.iconst 0, 1) := by decide +kernel
theorem dX1_choose_5 : decode cX1_choose 5 = .ok (.istore 4, 2) := by decide +kernel
theorem dX1_choose_7 : decode cX1_choose 7 = .ok (.iload 4, 2) := by decide +kernel
theorem dX1_choose_9 : decode cX1_choose 9 = .ok (.bipush 8, 2) := by decide +kernel
theorem dX1_choose_11 : decode cX1_choose 11 = .ok (.if_icmp .ge 46, 3) := by decide +kernel
theorem dX1_choose_14 : decode cX1_choose 14 = .ok (.iload_n 1, 1) := by decide +kernel
theorem dX1_choose_15 : decode cX1_choose 15 = .ok (.iconst 1, 1) := by decide +kernel
theorem dX1_choose_16 : decode cX1_choose 16 = .ok (.iadd, 1) := by decide +kernel
theorem dX1_choose_17 : decode cX1_choose 17 = .ok (.iconst 2, 1) := by decide +kernel
theorem dX1_choose_18 : decode cX1_choose 18 = .ok (.iload 4, 2) := by decide +kernel
theorem dX1_choose_20 : decode cX1_choose 20 = .ok (.imul, 1) := by decide +kernel
theorem dX1_choose_21 : decode cX1_choose 21 = .ok (.iconst 3, 1) := by decide +kernel
theorem dX1_choose_22 : decode cX1_choose 22 = .ok (.iadd, 1) := by decide +kernel
theorem dX1_choose_23 : decode cX1_choose 23 = .ok (.imul, 1) := by decide +kernel
theorem dX1_choose_24 : decode cX1_choose 24 = .ok (.bipush 97, 2) := by decide +kernel
theorem dX1_choose_26 : decode cX1_choose 26 = .ok (.irem, 1) := by decide +kernel
theorem dX1_choose_27 : decode cX1_choose 27 = .ok (.istore 5, 2) := by decide +kernel
theorem dX1_choose_29 : decode cX1_choose 29 = .ok (.aload_n 0, 1) := by decide +kernel
theorem dX1_choose_30 : decode cX1_choose 30 = .ok (.getfield 9, 3) := by decide +kernel
theorem dX1_choose_33 : decode cX1_choose 33 = .ok (.iload 4, 2) := by decide +kernel
theorem dX1_choose_35 : decode cX1_choose 35 = .ok (.baload, 1) := by decide +kernel
theorem dX1_choose_36 : decode cX1_choose 36 = .ok (.ifCond .eq 15, 3) := by decide +kernel
theorem dX1_choose_39 : decode cX1_choose 39 = .ok (.iload 5, 2) := by decide +kernel
theorem dX1_choose_41 : decode cX1_choose 41 = .ok (.iload_n 3, 1) := by decide +kernel
theorem dX1_choose_42 : decode cX1_choose 42 = .ok (.if_icmp .le 9, 3) := by decide +kernel
theorem dX1_choose_45 : decode cX1_choose 45 = .ok (.iload 4, 2) := by decide +kernel
theorem dX1_choose_47 : decode cX1_choose 47 = .ok (.istore_n 2, 1) := by decide +kernel
theorem dX1_choose_48 : decode cX1_choose 48 = .ok (.iload 5, 2) := by decide +kernel
theorem dX1_choose_50 : decode cX1_choose 50 = .ok (.istore_n 3, 1) := by decide +kernel
theorem dX1_choose_51 : decode cX1_choose 51 = .ok (.iinc 4 1, 3) := by decide +kernel
theorem dX1_choose_54 : decode cX1_choose 54 = .ok (.goto (-47), 3) := by decide +kernel
theorem dX1_choose_57 : decode cX1_choose 57 = .ok (.iload_n 2, 1) := by decide +kernel
theorem dX1_choose_58 : decode cX1_choose 58 = .ok (.ireturn, 1) := by decide +kernel
theorem dX2_init_0 : decode cX2_init 0 = .ok (.aload_n 0, 1) := by decide +kernel
theorem dX2_init_1 : decode cX2_init 1 = .ok (.invokespecial 3, 3) := by decide +kernel
theorem dX2_init_4 : decode cX2_init 4 = .ok (.aload_n 0, 1) := by decide +kernel
theorem dX2_init_5 : decode cX2_init 5 = .ok (.sipush 150, 3) := by decide +kernel
theorem dX2_init_8 : decode cX2_init 8 = .ok (.newarray .int, 2) := by decide +kernel
theorem dX2_init_10 : decode cX2_init 10 = .ok (.putfield 9, 3) := by decide +kernel
theorem dX2_init_13 : decode cX2_init 13 = .ok (.aload_n 0, 1) := by decide +kernel
theorem dX2_init_14 : decode cX2_init 14 = .ok (.sipush 150, 3) := by decide +kernel
theorem dX2_init_17 : decode cX2_init 17 = .ok (.newarray .long, 2) := by decide +kernel
theorem dX2_init_19 : decode cX2_init 19 = .ok (.putfield 15, 3) := by decide +kernel
theorem dX2_init_22 : decode cX2_init 22 = .ok (.return_, 1) := by decide +kernel
theorem dX2_size_0 : decode cX2_size 0 = .ok (.aload_n 0, 1) := by decide +kernel
theorem dX2_size_1 : decode cX2_size 1 = .ok (.getfield 19, 3) := by decide +kernel
theorem dX2_size_4 : decode cX2_size 4 = .ok (.ireturn, 1) := by decide +kernel
theorem dX2_add_0 : decode cX2_add 0 = .ok (.aload_n 0, 1) := by decide +kernel
theorem dX2_add_1 : decode cX2_add 1 = .ok (.getfield 19, 3) := by decide +kernel
theorem dX2_add_4 : decode cX2_add 4 = .ok (.sipush 150, 3) := by decide +kernel
theorem dX2_add_7 : decode cX2_add 7 = .ok (.if_icmp .lt 5, 3) := by decide +kernel
theorem dX2_add_10 : decode cX2_add 10 = .ok (.iconst 0, 1) := by decide +kernel
theorem dX2_add_11 : decode cX2_add 11 = .ok (.ireturn, 1) := by decide +kernel
theorem dX2_add_12 : decode cX2_add 12 = .ok (.aload_n 0, 1) := by decide +kernel
theorem dX2_add_13 : decode cX2_add 13 = .ok (.getfield 9, 3) := by decide +kernel
theorem dX2_add_16 : decode cX2_add 16 = .ok (.aload_n 0, 1) := by decide +kernel
theorem dX2_add_17 : decode cX2_add 17 = .ok (.getfield 19, 3) := by decide +kernel
theorem dX2_add_20 : decode cX2_add 20 = .ok (.iload_n 1, 1) := by decide +kernel
theorem dX2_add_21 : decode cX2_add 21 = .ok (.iastore, 1) := by decide +kernel
theorem dX2_add_22 : decode cX2_add 22 = .ok (.aload_n 0, 1) := by decide +kernel
theorem dX2_add_23 : decode cX2_add 23 = .ok (.getfield 15, 3) := by decide +kernel
theorem dX2_add_26 : decode cX2_add 26 = .ok (.aload_n 0, 1) := by decide +kernel
theorem dX2_add_27 : decode cX2_add 27 = .ok (.getfield 19, 3) := by decide +kernel
theorem dX2_add_30 : decode cX2_add 30 = .ok (.lload_n 2, 1) := by decide +kernel
theorem dX2_add_31 : decode cX2_add 31 = .ok (.lastore, 1) := by decide +kernel
theorem dX2_add_32 : decode cX2_add 32 = .ok (.aload_n 0, 1) := by decide +kernel
theorem dX2_add_33 : decode cX2_add 33 = .ok (.dup, 1) := by decide +kernel
theorem dX2_add_34 : decode cX2_add 34 = .ok (.getfield 19, 3) := by decide +kernel
theorem dX2_add_37 : decode cX2_add 37 = .ok (.iconst 1, 1) := by decide +kernel
theorem dX2_add_38 : decode cX2_add 38 = .ok (.iadd, 1) := by decide +kernel
theorem dX2_add_39 : decode cX2_add 39 = .ok (.putfield 19, 3) := by decide +kernel
theorem dX2_add_42 : decode cX2_add 42 = .ok (.iconst 1, 1) := by decide +kernel
theorem dX2_add_43 : decode cX2_add 43 = .ok (.ireturn, 1) := by decide +kernel
theorem dX2_sourceAt_0 : decode cX2_sourceAt 0 = .ok (.iload_n 1, 1) := by decide +kernel
theorem dX2_sourceAt_1 : decode cX2_sourceAt 1 = .ok (.iconst 0, 1) := by decide +kernel
theorem dX2_sourceAt_2 : decode cX2_sourceAt 2 = .ok (.aload_n 0, 1) := by decide +kernel
theorem dX2_sourceAt_3 : decode cX2_sourceAt 3 = .ok (.getfield 19, 3) := by decide +kernel
theorem dX2_sourceAt_6 : decode cX2_sourceAt 6 = .ok (.iconst 1, 1) := by decide +kernel
theorem dX2_sourceAt_7 : decode cX2_sourceAt 7 = .ok (.isub, 1) := by decide +kernel
theorem dX2_sourceAt_8 : decode cX2_sourceAt 8 = .ok (.invokestatic 23, 3) := by decide +kernel
theorem dX2_sourceAt_11 : decode cX2_sourceAt 11 = .ok (.ifCond .eq 12, 3) := by decide +kernel
theorem dX2_sourceAt_14 : decode cX2_sourceAt 14 = .ok (.aload_n 0, 1) := by decide +kernel
theorem dX2_sourceAt_15 : decode cX2_sourceAt 15 = .ok (.getfield 9, 3) := by decide +kernel
theorem dX2_sourceAt_18 : decode cX2_sourceAt 18 = .ok (.iload_n 1, 1) := by decide +kernel
theorem dX2_sourceAt_19 : decode cX2_sourceAt 19 = .ok (.iaload, 1) := by decide +kernel
theorem dX2_sourceAt_20 : decode cX2_sourceAt 20 = .ok (.goto 4, 3) := by decide +kernel
theorem dX2_sourceAt_23 : decode cX2_sourceAt 23 = .ok (.iconst (-1), 1) := by decide +kernel
theorem dX2_sourceAt_24 : decode cX2_sourceAt 24 = .ok (.ireturn, 1) := by decide +kernel
theorem dX2_rowAt_0 : decode cX2_rowAt 0 = .ok (.iload_n 1, 1) := by decide +kernel
theorem dX2_rowAt_1 : decode cX2_rowAt 1 = .ok (.iconst 0, 1) := by decide +kernel
theorem dX2_rowAt_2 : decode cX2_rowAt 2 = .ok (.aload_n 0, 1) := by decide +kernel
theorem dX2_rowAt_3 : decode cX2_rowAt 3 = .ok (.getfield 19, 3) := by decide +kernel
theorem dX2_rowAt_6 : decode cX2_rowAt 6 = .ok (.iconst 1, 1) := by decide +kernel
theorem dX2_rowAt_7 : decode cX2_rowAt 7 = .ok (.isub, 1) := by decide +kernel
theorem dX2_rowAt_8 : decode cX2_rowAt 8 = .ok (.invokestatic 23, 3) := by decide +kernel
theorem dX2_rowAt_11 : decode cX2_rowAt 11 = .ok (.ifCond .eq 12, 3) := by decide +kernel
theorem dX2_rowAt_14 : decode cX2_rowAt 14 = .ok (.aload_n 0, 1) := by decide +kernel
theorem dX2_rowAt_15 : decode cX2_rowAt 15 = .ok (.getfield 15, 3) := by decide +kernel
theorem dX2_rowAt_18 : decode cX2_rowAt 18 = .ok (.iload_n 1, 1) := by decide +kernel
theorem dX2_rowAt_19 : decode cX2_rowAt 19 = .ok (.laload, 1) := by decide +kernel
theorem dX2_rowAt_20 : decode cX2_rowAt 20 = .ok (.goto 4, 3) := by decide +kernel
theorem dX2_rowAt_23 : decode cX2_rowAt 23 = .ok (.lconst 0, 1) := by decide +kernel
theorem dX2_rowAt_24 : decode cX2_rowAt 24 = .ok (.lreturn, 1) := by decide +kernel
theorem dX3_init_0 : decode cX3_init 0 = .ok (.aload_n 0, 1) := by decide +kernel
theorem dX3_init_1 : decode cX3_init 1 = .ok (.invokespecial 3, 3) := by decide +kernel
theorem dX3_init_4 : decode cX3_init 4 = .ok (.return_, 1) := by decide +kernel
theorem dX3_clear_0 : decode cX3_clear 0 = .ok (.aload_n 0, 1) := by decide +kernel
theorem dX3_clear_1 : decode cX3_clear 1 = .ok (.iconst 0, 1) := by decide +kernel
theorem dX3_clear_2 : decode cX3_clear 2 = .ok (.putfield 9, 3) := by decide +kernel
theorem dX3_clear_5 : decode cX3_clear 5 = .ok (.aload_n 0, 1) := by decide +kernel
theorem dX3_clear_6 : decode cX3_clear 6 = .ok (.iconst (-1), 1) := by decide +kernel
theorem dX3_clear_7 : decode cX3_clear 7 = .ok (.putfield 15, 3) := by decide +kernel
theorem dX3_clear_10 : decode cX3_clear 10 = .ok (.aload_n 0, 1) := by decide +kernel
theorem dX3_clear_11 : decode cX3_clear 11 = .ok (.iconst (-1), 1) := by decide +kernel
theorem dX3_clear_12 : decode cX3_clear 12 = .ok (.putfield 18, 3) := by decide +kernel
theorem dX3_clear_15 : decode cX3_clear 15 = .ok (.aload_n 0, 1) := by decide +kernel
theorem dX3_clear_16 : decode cX3_clear 16 = .ok (.iconst 0, 1) := by decide +kernel
theorem dX3_clear_17 : decode cX3_clear 17 = .ok (.putfield 21, 3) := by decide +kernel
theorem dX3_clear_20 : decode cX3_clear 20 = .ok (.aload_n 0, 1) := by decide +kernel
theorem dX3_clear_21 : decode cX3_clear 21 = .ok (.bipush 61, 2) := by decide +kernel
theorem dX3_clear_23 : decode cX3_clear 23 = .ok (.putfield 24, 3) := by decide +kernel
theorem dX3_clear_26 : decode cX3_clear 26 = .ok (.aload_n 0, 1) := by decide +kernel
theorem dX3_clear_27 : decode cX3_clear 27 = .ok (.iconst 0, 1) := by decide +kernel
theorem dX3_clear_28 : decode cX3_clear 28 = .ok (.putfield 28, 3) := by decide +kernel
theorem dX3_clear_31 : decode cX3_clear 31 = .ok (.return_, 1) := by decide +kernel
theorem dX3_fill_0 : decode cX3_fill 0 = .ok (.aload_n 3, 1) := by decide +kernel
theorem dX3_fill_1 : decode cX3_fill 1 = .ok (.invokevirtual 31, 3) := by decide +kernel
theorem dX3_fill_4 : decode cX3_fill 4 = .ok (.aload_n 0, 1) := by decide +kernel
theorem dX3_fill_5 : decode cX3_fill 5 = .ok (.getfield 9, 3) := by decide +kernel
theorem dX3_fill_8 : decode cX3_fill 8 = .ok (.tableswitch 81 7 12 #[40, 40, 40, 49, 58, 68], 40) := by decide +kernel
theorem dX3_fill_48 : decode cX3_fill 48 = .ok (.aload_n 0, 1) := by decide +kernel
theorem dX3_fill_49 : decode cX3_fill 49 = .ok (.aload_n 1, 1) := by decide +kernel
theorem dX3_fill_50 : decode cX3_fill 50 = .ok (.aload_n 3, 1) := by decide +kernel
theorem dX3_fill_51 : decode cX3_fill 51 = .ok (.invokevirtual 36, 3) := by decide +kernel
theorem dX3_fill_54 : decode cX3_fill 54 = .ok (.goto 64, 3) := by decide +kernel
theorem dX3_fill_57 : decode cX3_fill 57 = .ok (.aload_n 0, 1) := by decide +kernel
theorem dX3_fill_58 : decode cX3_fill 58 = .ok (.aload_n 1, 1) := by decide +kernel
theorem dX3_fill_59 : decode cX3_fill 59 = .ok (.aload_n 3, 1) := by decide +kernel
theorem dX3_fill_60 : decode cX3_fill 60 = .ok (.invokevirtual 40, 3) := by decide +kernel
theorem dX3_fill_63 : decode cX3_fill 63 = .ok (.goto 55, 3) := by decide +kernel
theorem dX3_fill_66 : decode cX3_fill 66 = .ok (.aload_n 0, 1) := by decide +kernel
theorem dX3_fill_67 : decode cX3_fill 67 = .ok (.aload_n 1, 1) := by decide +kernel
theorem dX3_fill_68 : decode cX3_fill 68 = .ok (.aload_n 2, 1) := by decide +kernel
theorem dX3_fill_69 : decode cX3_fill 69 = .ok (.aload_n 3, 1) := by decide +kernel
theorem dX3_fill_70 : decode cX3_fill 70 = .ok (.invokevirtual 43, 3) := by decide +kernel
theorem dX3_fill_73 : decode cX3_fill 73 = .ok (.goto 45, 3) := by decide +kernel
theorem dX3_fill_76 : decode cX3_fill 76 = .ok (.aload_n 0, 1) := by decide +kernel
theorem dX3_fill_77 : decode cX3_fill 77 = .ok (.aload_n 1, 1) := by decide +kernel
theorem dX3_fill_78 : decode cX3_fill 78 = .ok (.aload_n 2, 1) := by decide +kernel
theorem dX3_fill_79 : decode cX3_fill 79 = .ok (.invokevirtual 47, 3) := by decide +kernel
theorem dX3_fill_82 : decode cX3_fill 82 = .ok (.aload_n 3, 1) := by decide +kernel
theorem dX3_fill_83 : decode cX3_fill 83 = .ok (.invokevirtual 51, 3) := by decide +kernel
theorem dX3_fill_86 : decode cX3_fill 86 = .ok (.goto 32, 3) := by decide +kernel
theorem dX3_fill_89 : decode cX3_fill 89 = .ok (.iconst 0, 1) := by decide +kernel
theorem dX3_fill_90 : decode cX3_fill 90 = .ok (.istore 4, 2) := by decide +kernel
theorem dX3_fill_92 : decode cX3_fill 92 = .ok (.iload 4, 2) := by decide +kernel
theorem dX3_fill_94 : decode cX3_fill 94 = .ok (.aload_n 1, 1) := by decide +kernel
theorem dX3_fill_95 : decode cX3_fill 95 = .ok (.invokevirtual 55, 3) := by decide +kernel
theorem dX3_fill_98 : decode cX3_fill 98 = .ok (.if_icmp .ge 20, 3) := by decide +kernel
theorem dX3_fill_101 : decode cX3_fill 101 = .ok (.aload_n 0, 1) := by decide +kernel
theorem dX3_fill_102 : decode cX3_fill 102 = .ok (.aload_n 1, 1) := by decide +kernel
theorem dX3_fill_103 : decode cX3_fill 103 = .ok (.iload 4, 2) := by decide +kernel
theorem dX3_fill_105 : decode cX3_fill 105 = .ok (.invokevirtual 58, 3) := by decide +kernel
theorem dX3_fill_108 : decode cX3_fill 108 = .ok (.aload_n 3, 1) := by decide +kernel
theorem dX3_fill_109 : decode cX3_fill 109 = .ok (.invokevirtual 62, 3) := by decide +kernel
theorem dX3_fill_112 : decode cX3_fill 112 = .ok (.iinc 4 1, 3) := by decide +kernel
theorem dX3_fill_115 : decode cX3_fill 115 = .ok (.goto (-23), 3) := by decide +kernel
theorem dX3_fill_118 : decode cX3_fill 118 = .ok (.return_, 1) := by decide +kernel
theorem dX3_addOne_0 : decode cX3_addOne 0 = .ok (.lload_n 1, 1) := by decide +kernel
theorem dX3_addOne_1 : decode cX3_addOne 1 = .ok (.invokestatic 66, 3) := by decide +kernel
theorem dX3_addOne_4 : decode cX3_addOne 4 = .ok (.istore 4, 2) := by decide +kernel
theorem dX3_addOne_6 : decode cX3_addOne 6 = .ok (.lload_n 1, 1) := by decide +kernel
theorem dX3_addOne_7 : decode cX3_addOne 7 = .ok (.invokestatic 72, 3) := by decide +kernel
theorem dX3_addOne_10 : decode cX3_addOne 10 = .ok (.istore 5, 2) := by decide +kernel
theorem dX3_addOne_12 : decode cX3_addOne 12 = .ok (.lload_n 1, 1) := by decide +kernel
theorem dX3_addOne_13 : decode cX3_addOne 13 = .ok (.invokestatic 75, 3) := by decide +kernel
theorem dX3_addOne_16 : decode cX3_addOne 16 = .ok (.i2l, 1) := by decide +kernel
theorem dX3_addOne_17 : decode cX3_addOne 17 = .ok (.lstore 6, 2) := by decide +kernel
theorem dX3_addOne_19 : decode cX3_addOne 19 = .ok (.aload_n 0, 1) := by decide +kernel
theorem dX3_addOne_20 : decode cX3_addOne 20 = .ok (.getfield 9, 3) := by decide +kernel
theorem dX3_addOne_23 : decode cX3_addOne 23 = .ok (.tableswitch 164 1 6 #[37, 60, 79, 98, 119, 152], 37) := by decide +kernel
theorem dX3_addOne_60 : decode cX3_addOne 60 = .ok (.aload_n 0, 1) := by decide +kernel
theorem dX3_addOne_61 : decode cX3_addOne 61 = .ok (.lload_n 1, 1) := by decide +kernel
theorem dX3_addOne_62 : decode cX3_addOne 62 = .ok (.aload_n 0, 1) := by decide +kernel
theorem dX3_addOne_63 : decode cX3_addOne 63 = .ok (.getfield 21, 3) := by decide +kernel
theorem dX3_addOne_66 : decode cX3_addOne 66 = .ok (.invokestatic 78, 3) := by decide +kernel
theorem dX3_addOne_69 : decode cX3_addOne 69 = .ok (.invokevirtual 82, 3) := by decide +kernel
theorem dX3_addOne_72 : decode cX3_addOne 72 = .ok (.ifCond .eq 115, 3) := by decide +kernel
theorem dX3_addOne_75 : decode cX3_addOne 75 = .ok (.aload_n 3, 1) := by decide +kernel
theorem dX3_addOne_76 : decode cX3_addOne 76 = .ok (.lload_n 1, 1) := by decide +kernel
theorem dX3_addOne_77 : decode cX3_addOne 77 = .ok (.invokevirtual 86, 3) := by decide +kernel
theorem dX3_addOne_80 : decode cX3_addOne 80 = .ok (.goto 107, 3) := by decide +kernel
theorem dX3_addOne_83 : decode cX3_addOne 83 = .ok (.aload_n 3, 1) := by decide +kernel
theorem dX3_addOne_84 : decode cX3_addOne 84 = .ok (.iload 4, 2) := by decide +kernel
theorem dX3_addOne_86 : decode cX3_addOne 86 = .ok (.iload 5, 2) := by decide +kernel
theorem dX3_addOne_88 : decode cX3_addOne 88 = .ok (.lload 6, 2) := by decide +kernel
theorem dX3_addOne_90 : decode cX3_addOne 90 = .ok (.aload_n 0, 1) := by decide +kernel
theorem dX3_addOne_91 : decode cX3_addOne 91 = .ok (.getfield 28, 3) := by decide +kernel
theorem dX3_addOne_94 : decode cX3_addOne 94 = .ok (.i2l, 1) := by decide +kernel
theorem dX3_addOne_95 : decode cX3_addOne 95 = .ok (.ladd, 1) := by decide +kernel
theorem dX3_addOne_96 : decode cX3_addOne 96 = .ok (.invokevirtual 90, 3) := by decide +kernel
theorem dX3_addOne_99 : decode cX3_addOne 99 = .ok (.goto 88, 3) := by decide +kernel
theorem dX3_addOne_102 : decode cX3_addOne 102 = .ok (.aload_n 3, 1) := by decide +kernel
theorem dX3_addOne_103 : decode cX3_addOne 103 = .ok (.iload 4, 2) := by decide +kernel
theorem dX3_addOne_105 : decode cX3_addOne 105 = .ok (.iload 5, 2) := by decide +kernel
theorem dX3_addOne_107 : decode cX3_addOne 107 = .ok (.lload 6, 2) := by decide +kernel
theorem dX3_addOne_109 : decode cX3_addOne 109 = .ok (.aload_n 0, 1) := by decide +kernel
theorem dX3_addOne_110 : decode cX3_addOne 110 = .ok (.getfield 28, 3) := by decide +kernel
theorem dX3_addOne_113 : decode cX3_addOne 113 = .ok (.i2l, 1) := by decide +kernel
theorem dX3_addOne_114 : decode cX3_addOne 114 = .ok (.lmul, 1) := by decide +kernel
theorem dX3_addOne_115 : decode cX3_addOne 115 = .ok (.invokevirtual 90, 3) := by decide +kernel
theorem dX3_addOne_118 : decode cX3_addOne 118 = .ok (.goto 69, 3) := by decide +kernel
theorem dX3_addOne_121 : decode cX3_addOne 121 = .ok (.aload_n 3, 1) := by decide +kernel
theorem dX3_addOne_122 : decode cX3_addOne 122 = .ok (.iload 4, 2) := by decide +kernel
theorem dX3_addOne_124 : decode cX3_addOne 124 = .ok (.aload_n 0, 1) := by decide +kernel
theorem dX3_addOne_125 : decode cX3_addOne 125 = .ok (.getfield 28, 3) := by decide +kernel
theorem dX3_addOne_128 : decode cX3_addOne 128 = .ok (.iadd, 1) := by decide +kernel
theorem dX3_addOne_129 : decode cX3_addOne 129 = .ok (.bipush 32, 2) := by decide +kernel
theorem dX3_addOne_131 : decode cX3_addOne 131 = .ok (.irem, 1) := by decide +kernel
theorem dX3_addOne_132 : decode cX3_addOne 132 = .ok (.iload 5, 2) := by decide +kernel
theorem dX3_addOne_134 : decode cX3_addOne 134 = .ok (.lload 6, 2) := by decide +kernel
theorem dX3_addOne_136 : decode cX3_addOne 136 = .ok (.invokevirtual 90, 3) := by decide +kernel
theorem dX3_addOne_139 : decode cX3_addOne 139 = .ok (.goto 48, 3) := by decide +kernel
theorem dX3_addOne_142 : decode cX3_addOne 142 = .ok (.aload_n 3, 1) := by decide +kernel
theorem dX3_addOne_143 : decode cX3_addOne 143 = .ok (.iload 4, 2) := by decide +kernel
theorem dX3_addOne_145 : decode cX3_addOne 145 = .ok (.aload_n 0, 1) := by decide +kernel
theorem dX3_addOne_146 : decode cX3_addOne 146 = .ok (.getfield 28, 3) := by decide +kernel
theorem dX3_addOne_149 : decode cX3_addOne 149 = .ok (.ifCond .le 16, 3) := by decide +kernel
theorem dX3_addOne_152 : decode cX3_addOne 152 = .ok (.iload 5, 2) := by decide +kernel
theorem dX3_addOne_154 : decode cX3_addOne 154 = .ok (.iload 5, 2) := by decide +kernel
theorem dX3_addOne_156 : decode cX3_addOne 156 = .ok (.aload_n 0, 1) := by decide +kernel
theorem dX3_addOne_157 : decode cX3_addOne 157 = .ok (.getfield 28, 3) := by decide +kernel
theorem dX3_addOne_160 : decode cX3_addOne 160 = .ok (.irem, 1) := by decide +kernel
theorem dX3_addOne_161 : decode cX3_addOne 161 = .ok (.isub, 1) := by decide +kernel
theorem dX3_addOne_162 : decode cX3_addOne 162 = .ok (.goto 5, 3) := by decide +kernel
theorem dX3_addOne_165 : decode cX3_addOne 165 = .ok (.iload 5, 2) := by decide +kernel
theorem dX3_addOne_167 : decode cX3_addOne 167 = .ok (.lload 6, 2) := by decide +kernel
theorem dX3_addOne_169 : decode cX3_addOne 169 = .ok (.invokevirtual 90, 3) := by decide +kernel
theorem dX3_addOne_172 : decode cX3_addOne 172 = .ok (.goto 15, 3) := by decide +kernel
theorem dX3_addOne_175 : decode cX3_addOne 175 = .ok (.aload_n 3, 1) := by decide +kernel
theorem dX3_addOne_176 : decode cX3_addOne 176 = .ok (.iload 4, 2) := by decide +kernel
theorem dX3_addOne_178 : decode cX3_addOne 178 = .ok (.iconst 0, 1) := by decide +kernel
theorem dX3_addOne_179 : decode cX3_addOne 179 = .ok (.lload 6, 2) := by decide +kernel
theorem dX3_addOne_181 : decode cX3_addOne 181 = .ok (.invokevirtual 90, 3) := by decide +kernel
theorem dX3_addOne_184 : decode cX3_addOne 184 = .ok (.goto 3, 3) := by decide +kernel
theorem dX3_addOne_187 : decode cX3_addOne 187 = .ok (.return_, 1) := by decide +kernel
theorem dX3_holdsOf_0 : decode cX3_holdsOf 0 = .ok (.aload_n 0, 1) := by decide +kernel
theorem dX3_holdsOf_1 : decode cX3_holdsOf 1 = .ok (.getfield 24, 3) := by decide +kernel
theorem dX3_holdsOf_4 : decode cX3_holdsOf 4 = .ok (.bipush 60, 2) := by decide +kernel
theorem dX3_holdsOf_6 : decode cX3_holdsOf 6 = .ok (.if_icmp .ne 17, 3) := by decide +kernel
theorem dX3_holdsOf_9 : decode cX3_holdsOf 9 = .ok (.iload_n 1, 1) := by decide +kernel
theorem dX3_holdsOf_10 : decode cX3_holdsOf 10 = .ok (.aload_n 0, 1) := by decide +kernel
theorem dX3_holdsOf_11 : decode cX3_holdsOf 11 = .ok (.getfield 28, 3) := by decide +kernel
theorem dX3_holdsOf_14 : decode cX3_holdsOf 14 = .ok (.if_icmp .ge 7, 3) := by decide +kernel
theorem dX3_holdsOf_17 : decode cX3_holdsOf 17 = .ok (.iconst 1, 1) := by decide +kernel
theorem dX3_holdsOf_18 : decode cX3_holdsOf 18 = .ok (.goto 4, 3) := by decide +kernel
theorem dX3_holdsOf_21 : decode cX3_holdsOf 21 = .ok (.iconst 0, 1) := by decide +kernel
theorem dX3_holdsOf_22 : decode cX3_holdsOf 22 = .ok (.ireturn, 1) := by decide +kernel
theorem dX3_holdsOf_23 : decode cX3_holdsOf 23 = .ok (.aload_n 0, 1) := by decide +kernel
theorem dX3_holdsOf_24 : decode cX3_holdsOf 24 = .ok (.getfield 24, 3) := by decide +kernel
theorem dX3_holdsOf_27 : decode cX3_holdsOf 27 = .ok (.bipush 62, 2) := by decide +kernel
theorem dX3_holdsOf_29 : decode cX3_holdsOf 29 = .ok (.if_icmp .ne 19, 3) := by decide +kernel
theorem dX3_holdsOf_32 : decode cX3_holdsOf 32 = .ok (.iload_n 1, 1) := by decide +kernel
theorem dX3_holdsOf_33 : decode cX3_holdsOf 33 = .ok (.aload_n 0, 1) := by decide +kernel
theorem dX3_holdsOf_34 : decode cX3_holdsOf 34 = .ok (.getfield 28, 3) := by decide +kernel
theorem dX3_holdsOf_37 : decode cX3_holdsOf 37 = .ok (.if_icmp .le 7, 3) := by decide +kernel
theorem dX3_holdsOf_40 : decode cX3_holdsOf 40 = .ok (.iconst 1, 1) := by decide +kernel
theorem dX3_holdsOf_41 : decode cX3_holdsOf 41 = .ok (.goto 20, 3) := by decide +kernel
theorem dX3_holdsOf_44 : decode cX3_holdsOf 44 = .ok (.iconst 0, 1) := by decide +kernel
theorem dX3_holdsOf_45 : decode cX3_holdsOf 45 = .ok (.goto 16, 3) := by decide +kernel
theorem dX3_holdsOf_48 : decode cX3_holdsOf 48 = .ok (.iload_n 1, 1) := by decide +kernel
theorem dX3_holdsOf_49 : decode cX3_holdsOf 49 = .ok (.aload_n 0, 1) := by decide +kernel
theorem dX3_holdsOf_50 : decode cX3_holdsOf 50 = .ok (.getfield 28, 3) := by decide +kernel
theorem dX3_holdsOf_53 : decode cX3_holdsOf 53 = .ok (.if_icmp .ne 7, 3) := by decide +kernel
theorem dX3_holdsOf_56 : decode cX3_holdsOf 56 = .ok (.iconst 1, 1) := by decide +kernel
theorem dX3_holdsOf_57 : decode cX3_holdsOf 57 = .ok (.goto 4, 3) := by decide +kernel
theorem dX3_holdsOf_60 : decode cX3_holdsOf 60 = .ok (.iconst 0, 1) := by decide +kernel
theorem dX3_holdsOf_61 : decode cX3_holdsOf 61 = .ok (.ireturn, 1) := by decide +kernel
theorem dX3_fillByGroup_0 : decode cX3_fillByGroup 0 = .ok (.lconst 0, 1) := by decide +kernel
theorem dX3_fillByGroup_1 : decode cX3_fillByGroup 1 = .ok (.lstore_n 3, 1) := by decide +kernel
theorem dX3_fillByGroup_2 : decode cX3_fillByGroup 2 = .ok (.iconst 0, 1) := by decide +kernel
theorem dX3_fillByGroup_3 : decode cX3_fillByGroup 3 = .ok (.istore 5, 2) := by decide +kernel
theorem dX3_fillByGroup_5 : decode cX3_fillByGroup 5 = .ok (.iconst 0, 1) := by decide +kernel
theorem dX3_fillByGroup_6 : decode cX3_fillByGroup 6 = .ok (.istore 6, 2) := by decide +kernel
theorem dX3_fillByGroup_8 : decode cX3_fillByGroup 8 = .ok (.iload 6, 2) := by decide +kernel
theorem dX3_fillByGroup_10 : decode cX3_fillByGroup 10 = .ok (.aload_n 1, 1) := by decide +kernel
theorem dX3_fillByGroup_11 : decode cX3_fillByGroup 11 = .ok (.invokevirtual 55, 3) := by decide +kernel
theorem dX3_fillByGroup_14 : decode cX3_fillByGroup 14 = .ok (.if_icmp .ge 121, 3) := by decide +kernel
theorem dX3_fillByGroup_17 : decode cX3_fillByGroup 17 = .ok (.aload_n 1, 1) := by decide +kernel
theorem dX3_fillByGroup_18 : decode cX3_fillByGroup 18 = .ok (.iload 6, 2) := by decide +kernel
theorem dX3_fillByGroup_20 : decode cX3_fillByGroup 20 = .ok (.invokevirtual 58, 3) := by decide +kernel
theorem dX3_fillByGroup_23 : decode cX3_fillByGroup 23 = .ok (.lstore 7, 2) := by decide +kernel
theorem dX3_fillByGroup_25 : decode cX3_fillByGroup 25 = .ok (.lload 7, 2) := by decide +kernel
theorem dX3_fillByGroup_27 : decode cX3_fillByGroup 27 = .ok (.invokestatic 75, 3) := by decide +kernel
theorem dX3_fillByGroup_30 : decode cX3_fillByGroup 30 = .ok (.istore 9, 2) := by decide +kernel
theorem dX3_fillByGroup_32 : decode cX3_fillByGroup 32 = .ok (.lload_n 3, 1) := by decide +kernel
theorem dX3_fillByGroup_33 : decode cX3_fillByGroup 33 = .ok (.iload 9, 2) := by decide +kernel
theorem dX3_fillByGroup_35 : decode cX3_fillByGroup 35 = .ok (.i2l, 1) := by decide +kernel
theorem dX3_fillByGroup_36 : decode cX3_fillByGroup 36 = .ok (.ladd, 1) := by decide +kernel
theorem dX3_fillByGroup_37 : decode cX3_fillByGroup 37 = .ok (.lstore_n 3, 1) := by decide +kernel
theorem dX3_fillByGroup_38 : decode cX3_fillByGroup 38 = .ok (.iinc 5 1, 3) := by decide +kernel
theorem dX3_fillByGroup_41 : decode cX3_fillByGroup 41 = .ok (.iload 6, 2) := by decide +kernel
theorem dX3_fillByGroup_43 : decode cX3_fillByGroup 43 = .ok (.iconst 1, 1) := by decide +kernel
theorem dX3_fillByGroup_44 : decode cX3_fillByGroup 44 = .ok (.iadd, 1) := by decide +kernel
theorem dX3_fillByGroup_45 : decode cX3_fillByGroup 45 = .ok (.aload_n 1, 1) := by decide +kernel
theorem dX3_fillByGroup_46 : decode cX3_fillByGroup 46 = .ok (.invokevirtual 55, 3) := by decide +kernel
theorem dX3_fillByGroup_49 : decode cX3_fillByGroup 49 = .ok (.if_icmp .ge 26, 3) := by decide +kernel
theorem dX3_fillByGroup_52 : decode cX3_fillByGroup 52 = .ok (.aload_n 1, 1) := by decide +kernel
theorem dX3_fillByGroup_53 : decode cX3_fillByGroup 53 = .ok (.iload 6, 2) := by decide +kernel
theorem dX3_fillByGroup_55 : decode cX3_fillByGroup 55 = .ok (.iconst 1, 1) := by decide +kernel
theorem dX3_fillByGroup_56 : decode cX3_fillByGroup 56 = .ok (.iadd, 1) := by decide +kernel
theorem dX3_fillByGroup_57 : decode cX3_fillByGroup 57 = .ok (.invokevirtual 58, 3) := by decide +kernel
theorem dX3_fillByGroup_60 : decode cX3_fillByGroup 60 = .ok (.invokestatic 93, 3) := by decide +kernel
theorem dX3_fillByGroup_63 : decode cX3_fillByGroup 63 = .ok (.lload 7, 2) := by decide +kernel
theorem dX3_fillByGroup_65 : decode cX3_fillByGroup 65 = .ok (.invokestatic 93, 3) := by decide +kernel
theorem dX3_fillByGroup_68 : decode cX3_fillByGroup 68 = .ok (.lcmp, 1) := by decide +kernel
theorem dX3_fillByGroup_69 : decode cX3_fillByGroup 69 = .ok (.ifCond .ne 6, 3) := by decide +kernel
theorem dX3_fillByGroup_72 : decode cX3_fillByGroup 72 = .ok (.goto 57, 3) := by decide +kernel
theorem dX3_fillByGroup_75 : decode cX3_fillByGroup 75 = .ok (.aload_n 0, 1) := by decide +kernel
theorem dX3_fillByGroup_76 : decode cX3_fillByGroup 76 = .ok (.getfield 9, 3) := by decide +kernel
theorem dX3_fillByGroup_79 : decode cX3_fillByGroup 79 = .ok (.bipush 7, 2) := by decide +kernel
theorem dX3_fillByGroup_81 : decode cX3_fillByGroup 81 = .ok (.if_icmp .ne 7, 3) := by decide +kernel
theorem dX3_fillByGroup_84 : decode cX3_fillByGroup 84 = .ok (.lload_n 3, 1) := by decide +kernel
theorem dX3_fillByGroup_85 : decode cX3_fillByGroup 85 = .ok (.goto 21, 3) := by decide +kernel
theorem dX3_fillByGroup_88 : decode cX3_fillByGroup 88 = .ok (.aload_n 0, 1) := by decide +kernel
theorem dX3_fillByGroup_89 : decode cX3_fillByGroup 89 = .ok (.getfield 9, 3) := by decide +kernel
theorem dX3_fillByGroup_92 : decode cX3_fillByGroup 92 = .ok (.bipush 8, 2) := by decide +kernel
theorem dX3_fillByGroup_94 : decode cX3_fillByGroup 94 = .ok (.if_icmp .ne 9, 3) := by decide +kernel
theorem dX3_fillByGroup_97 : decode cX3_fillByGroup 97 = .ok (.iload 5, 2) := by decide +kernel
theorem dX3_fillByGroup_99 : decode cX3_fillByGroup 99 = .ok (.i2l, 1) := by decide +kernel
theorem dX3_fillByGroup_100 : decode cX3_fillByGroup 100 = .ok (.goto 6, 3) := by decide +kernel
theorem dX3_fillByGroup_103 : decode cX3_fillByGroup 103 = .ok (.iload 9, 2) := by decide +kernel
theorem dX3_fillByGroup_105 : decode cX3_fillByGroup 105 = .ok (.i2l, 1) := by decide +kernel
theorem dX3_fillByGroup_106 : decode cX3_fillByGroup 106 = .ok (.lstore 10, 2) := by decide +kernel
theorem dX3_fillByGroup_108 : decode cX3_fillByGroup 108 = .ok (.aload_n 2, 1) := by decide +kernel
theorem dX3_fillByGroup_109 : decode cX3_fillByGroup 109 = .ok (.lload 7, 2) := by decide +kernel
theorem dX3_fillByGroup_111 : decode cX3_fillByGroup 111 = .ok (.invokestatic 66, 3) := by decide +kernel
theorem dX3_fillByGroup_114 : decode cX3_fillByGroup 114 = .ok (.lload 7, 2) := by decide +kernel
theorem dX3_fillByGroup_116 : decode cX3_fillByGroup 116 = .ok (.invokestatic 72, 3) := by decide +kernel
theorem dX3_fillByGroup_119 : decode cX3_fillByGroup 119 = .ok (.lload 10, 2) := by decide +kernel
theorem dX3_fillByGroup_121 : decode cX3_fillByGroup 121 = .ok (.invokevirtual 90, 3) := by decide +kernel
theorem dX3_fillByGroup_124 : decode cX3_fillByGroup 124 = .ok (.lconst 0, 1) := by decide +kernel
theorem dX3_fillByGroup_125 : decode cX3_fillByGroup 125 = .ok (.lstore_n 3, 1) := by decide +kernel
theorem dX3_fillByGroup_126 : decode cX3_fillByGroup 126 = .ok (.iconst 0, 1) := by decide +kernel
theorem dX3_fillByGroup_127 : decode cX3_fillByGroup 127 = .ok (.istore 5, 2) := by decide +kernel
theorem dX3_fillByGroup_129 : decode cX3_fillByGroup 129 = .ok (.iinc 6 1, 3) := by decide +kernel
theorem dX3_fillByGroup_132 : decode cX3_fillByGroup 132 = .ok (.goto (-124), 3) := by decide +kernel
theorem dX3_fillByGroup_135 : decode cX3_fillByGroup 135 = .ok (.return_, 1) := by decide +kernel
theorem dX3_fillByKey_0 : decode cX3_fillByKey 0 = .ok (.iconst 0, 1) := by decide +kernel
theorem dX3_fillByKey_1 : decode cX3_fillByKey 1 = .ok (.istore_n 3, 1) := by decide +kernel
theorem dX3_fillByKey_2 : decode cX3_fillByKey 2 = .ok (.iload_n 3, 1) := by decide +kernel
theorem dX3_fillByKey_3 : decode cX3_fillByKey 3 = .ok (.aload_n 1, 1) := by decide +kernel
theorem dX3_fillByKey_4 : decode cX3_fillByKey 4 = .ok (.invokevirtual 55, 3) := by decide +kernel
theorem dX3_fillByKey_7 : decode cX3_fillByKey 7 = .ok (.if_icmp .ge 50, 3) := by decide +kernel
theorem dX3_fillByKey_10 : decode cX3_fillByKey 10 = .ok (.aload_n 1, 1) := by decide +kernel
theorem dX3_fillByKey_11 : decode cX3_fillByKey 11 = .ok (.iload_n 3, 1) := by decide +kernel
theorem dX3_fillByKey_12 : decode cX3_fillByKey 12 = .ok (.invokevirtual 58, 3) := by decide +kernel
theorem dX3_fillByKey_15 : decode cX3_fillByKey 15 = .ok (.lstore 4, 2) := by decide +kernel
theorem dX3_fillByKey_17 : decode cX3_fillByKey 17 = .ok (.iload_n 3, 1) := by decide +kernel
theorem dX3_fillByKey_18 : decode cX3_fillByKey 18 = .ok (.iconst 1, 1) := by decide +kernel
theorem dX3_fillByKey_19 : decode cX3_fillByKey 19 = .ok (.iadd, 1) := by decide +kernel
theorem dX3_fillByKey_20 : decode cX3_fillByKey 20 = .ok (.aload_n 1, 1) := by decide +kernel
theorem dX3_fillByKey_21 : decode cX3_fillByKey 21 = .ok (.invokevirtual 55, 3) := by decide +kernel
theorem dX3_fillByKey_24 : decode cX3_fillByKey 24 = .ok (.if_icmp .eq 21, 3) := by decide +kernel
theorem dX3_fillByKey_27 : decode cX3_fillByKey 27 = .ok (.aload_n 1, 1) := by decide +kernel
theorem dX3_fillByKey_28 : decode cX3_fillByKey 28 = .ok (.iload_n 3, 1) := by decide +kernel
theorem dX3_fillByKey_29 : decode cX3_fillByKey 29 = .ok (.iconst 1, 1) := by decide +kernel
theorem dX3_fillByKey_30 : decode cX3_fillByKey 30 = .ok (.iadd, 1) := by decide +kernel
theorem dX3_fillByKey_31 : decode cX3_fillByKey 31 = .ok (.invokevirtual 58, 3) := by decide +kernel
theorem dX3_fillByKey_34 : decode cX3_fillByKey 34 = .ok (.invokestatic 66, 3) := by decide +kernel
theorem dX3_fillByKey_37 : decode cX3_fillByKey 37 = .ok (.lload 4, 2) := by decide +kernel
theorem dX3_fillByKey_39 : decode cX3_fillByKey 39 = .ok (.invokestatic 66, 3) := by decide +kernel
theorem dX3_fillByKey_42 : decode cX3_fillByKey 42 = .ok (.if_icmp .eq 9, 3) := by decide +kernel
theorem dX3_fillByKey_45 : decode cX3_fillByKey 45 = .ok (.aload_n 2, 1) := by decide +kernel
theorem dX3_fillByKey_46 : decode cX3_fillByKey 46 = .ok (.lload 4, 2) := by decide +kernel
theorem dX3_fillByKey_48 : decode cX3_fillByKey 48 = .ok (.invokevirtual 86, 3) := by decide +kernel
theorem dX3_fillByKey_51 : decode cX3_fillByKey 51 = .ok (.iinc 3 1, 3) := by decide +kernel
theorem dX3_fillByKey_54 : decode cX3_fillByKey 54 = .ok (.goto (-52), 3) := by decide +kernel
theorem dX3_fillByKey_57 : decode cX3_fillByKey 57 = .ok (.return_, 1) := by decide +kernel
theorem dX3_fillByPairs_0 : decode cX3_fillByPairs 0 = .ok (.iconst 0, 1) := by decide +kernel
theorem dX3_fillByPairs_1 : decode cX3_fillByPairs 1 = .ok (.istore 4, 2) := by decide +kernel
theorem dX3_fillByPairs_3 : decode cX3_fillByPairs 3 = .ok (.iconst 0, 1) := by decide +kernel
theorem dX3_fillByPairs_4 : decode cX3_fillByPairs 4 = .ok (.istore 5, 2) := by decide +kernel
theorem dX3_fillByPairs_6 : decode cX3_fillByPairs 6 = .ok (.iload 5, 2) := by decide +kernel
theorem dX3_fillByPairs_8 : decode cX3_fillByPairs 8 = .ok (.aload_n 1, 1) := by decide +kernel
theorem dX3_fillByPairs_9 : decode cX3_fillByPairs 9 = .ok (.invokevirtual 55, 3) := by decide +kernel
theorem dX3_fillByPairs_12 : decode cX3_fillByPairs 12 = .ok (.if_icmp .ge 144, 3) := by decide +kernel
theorem dX3_fillByPairs_15 : decode cX3_fillByPairs 15 = .ok (.aload_n 3, 1) := by decide +kernel
theorem dX3_fillByPairs_16 : decode cX3_fillByPairs 16 = .ok (.invokevirtual 97, 3) := by decide +kernel
theorem dX3_fillByPairs_19 : decode cX3_fillByPairs 19 = .ok (.ifCond .ne 137, 3) := by decide +kernel
theorem dX3_fillByPairs_22 : decode cX3_fillByPairs 22 = .ok (.aload_n 1, 1) := by decide +kernel
theorem dX3_fillByPairs_23 : decode cX3_fillByPairs 23 = .ok (.iload 5, 2) := by decide +kernel
theorem dX3_fillByPairs_25 : decode cX3_fillByPairs 25 = .ok (.invokevirtual 58, 3) := by decide +kernel
theorem dX3_fillByPairs_28 : decode cX3_fillByPairs 28 = .ok (.lstore 6, 2) := by decide +kernel
theorem dX3_fillByPairs_30 : decode cX3_fillByPairs 30 = .ok (.lload 6, 2) := by decide +kernel
theorem dX3_fillByPairs_32 : decode cX3_fillByPairs 32 = .ok (.invokestatic 66, 3) := by decide +kernel
theorem dX3_fillByPairs_35 : decode cX3_fillByPairs 35 = .ok (.istore 8, 2) := by decide +kernel
theorem dX3_fillByPairs_37 : decode cX3_fillByPairs 37 = .ok (.iload 4, 2) := by decide +kernel
theorem dX3_fillByPairs_39 : decode cX3_fillByPairs 39 = .ok (.aload_n 2, 1) := by decide +kernel
theorem dX3_fillByPairs_40 : decode cX3_fillByPairs 40 = .ok (.invokevirtual 55, 3) := by decide +kernel
theorem dX3_fillByPairs_43 : decode cX3_fillByPairs 43 = .ok (.if_icmp .ge 23, 3) := by decide +kernel
theorem dX3_fillByPairs_46 : decode cX3_fillByPairs 46 = .ok (.aload_n 2, 1) := by decide +kernel
theorem dX3_fillByPairs_47 : decode cX3_fillByPairs 47 = .ok (.iload 4, 2) := by decide +kernel
theorem dX3_fillByPairs_49 : decode cX3_fillByPairs 49 = .ok (.invokevirtual 58, 3) := by decide +kernel
theorem dX3_fillByPairs_52 : decode cX3_fillByPairs 52 = .ok (.invokestatic 66, 3) := by decide +kernel
theorem dX3_fillByPairs_55 : decode cX3_fillByPairs 55 = .ok (.iload 8, 2) := by decide +kernel
theorem dX3_fillByPairs_57 : decode cX3_fillByPairs 57 = .ok (.if_icmp .ge 9, 3) := by decide +kernel
theorem dX3_fillByPairs_60 : decode cX3_fillByPairs 60 = .ok (.iinc 4 1, 3) := by decide +kernel
theorem dX3_fillByPairs_63 : decode cX3_fillByPairs 63 = .ok (.goto (-26), 3) := by decide +kernel
theorem dX3_fillByPairs_66 : decode cX3_fillByPairs 66 = .ok (.iload 4, 2) := by decide +kernel
theorem dX3_fillByPairs_68 : decode cX3_fillByPairs 68 = .ok (.istore 9, 2) := by decide +kernel
theorem dX3_fillByPairs_70 : decode cX3_fillByPairs 70 = .ok (.iload 9, 2) := by decide +kernel
theorem dX3_fillByPairs_72 : decode cX3_fillByPairs 72 = .ok (.aload_n 2, 1) := by decide +kernel
theorem dX3_fillByPairs_73 : decode cX3_fillByPairs 73 = .ok (.invokevirtual 55, 3) := by decide +kernel
theorem dX3_fillByPairs_76 : decode cX3_fillByPairs 76 = .ok (.if_icmp .ge 74, 3) := by decide +kernel
theorem dX3_fillByPairs_79 : decode cX3_fillByPairs 79 = .ok (.aload_n 2, 1) := by decide +kernel
theorem dX3_fillByPairs_80 : decode cX3_fillByPairs 80 = .ok (.iload 9, 2) := by decide +kernel
theorem dX3_fillByPairs_82 : decode cX3_fillByPairs 82 = .ok (.invokevirtual 58, 3) := by decide +kernel
theorem dX3_fillByPairs_85 : decode cX3_fillByPairs 85 = .ok (.invokestatic 66, 3) := by decide +kernel
theorem dX3_fillByPairs_88 : decode cX3_fillByPairs 88 = .ok (.iload 8, 2) := by decide +kernel
theorem dX3_fillByPairs_90 : decode cX3_fillByPairs 90 = .ok (.if_icmp .ne 60, 3) := by decide +kernel
theorem dX3_fillByPairs_93 : decode cX3_fillByPairs 93 = .ok (.aload_n 3, 1) := by decide +kernel
theorem dX3_fillByPairs_94 : decode cX3_fillByPairs 94 = .ok (.invokevirtual 97, 3) := by decide +kernel
theorem dX3_fillByPairs_97 : decode cX3_fillByPairs 97 = .ok (.ifCond .ne 53, 3) := by decide +kernel
theorem dX3_fillByPairs_100 : decode cX3_fillByPairs 100 = .ok (.aload_n 2, 1) := by decide +kernel
theorem dX3_fillByPairs_101 : decode cX3_fillByPairs 101 = .ok (.iload 9, 2) := by decide +kernel
theorem dX3_fillByPairs_103 : decode cX3_fillByPairs 103 = .ok (.invokevirtual 58, 3) := by decide +kernel
theorem dX3_fillByPairs_106 : decode cX3_fillByPairs 106 = .ok (.lstore 10, 2) := by decide +kernel
theorem dX3_fillByPairs_108 : decode cX3_fillByPairs 108 = .ok (.lload 6, 2) := by decide +kernel
theorem dX3_fillByPairs_110 : decode cX3_fillByPairs 110 = .ok (.invokestatic 75, 3) := by decide +kernel
theorem dX3_fillByPairs_113 : decode cX3_fillByPairs 113 = .ok (.i2l, 1) := by decide +kernel
theorem dX3_fillByPairs_114 : decode cX3_fillByPairs 114 = .ok (.lload 10, 2) := by decide +kernel
theorem dX3_fillByPairs_116 : decode cX3_fillByPairs 116 = .ok (.invokestatic 75, 3) := by decide +kernel
theorem dX3_fillByPairs_119 : decode cX3_fillByPairs 119 = .ok (.i2l, 1) := by decide +kernel
theorem dX3_fillByPairs_120 : decode cX3_fillByPairs 120 = .ok (.ladd, 1) := by decide +kernel
theorem dX3_fillByPairs_121 : decode cX3_fillByPairs 121 = .ok (.lstore 12, 2) := by decide +kernel
theorem dX3_fillByPairs_123 : decode cX3_fillByPairs 123 = .ok (.aload_n 3, 1) := by decide +kernel
theorem dX3_fillByPairs_124 : decode cX3_fillByPairs 124 = .ok (.iload 8, 2) := by decide +kernel
theorem dX3_fillByPairs_126 : decode cX3_fillByPairs 126 = .ok (.lload 6, 2) := by decide +kernel
theorem dX3_fillByPairs_128 : decode cX3_fillByPairs 128 = .ok (.invokestatic 72, 3) := by decide +kernel
theorem dX3_fillByPairs_131 : decode cX3_fillByPairs 131 = .ok (.lload 10, 2) := by decide +kernel
theorem dX3_fillByPairs_133 : decode cX3_fillByPairs 133 = .ok (.invokestatic 72, 3) := by decide +kernel
theorem dX3_fillByPairs_136 : decode cX3_fillByPairs 136 = .ok (.invokestatic 101, 3) := by decide +kernel
theorem dX3_fillByPairs_139 : decode cX3_fillByPairs 139 = .ok (.lload 12, 2) := by decide +kernel
theorem dX3_fillByPairs_141 : decode cX3_fillByPairs 141 = .ok (.invokevirtual 90, 3) := by decide +kernel
theorem dX3_fillByPairs_144 : decode cX3_fillByPairs 144 = .ok (.iinc 9 1, 3) := by decide +kernel
theorem dX3_fillByPairs_147 : decode cX3_fillByPairs 147 = .ok (.goto (-77), 3) := by decide +kernel
theorem dX3_fillByPairs_150 : decode cX3_fillByPairs 150 = .ok (.iinc 5 1, 3) := by decide +kernel
theorem dX3_fillByPairs_153 : decode cX3_fillByPairs 153 = .ok (.goto (-147), 3) := by decide +kernel
theorem dX3_fillByPairs_156 : decode cX3_fillByPairs 156 = .ok (.return_, 1) := by decide +kernel
theorem dX3_fillWithout_0 : decode cX3_fillWithout 0 = .ok (.iconst 0, 1) := by decide +kernel
theorem dX3_fillWithout_1 : decode cX3_fillWithout 1 = .ok (.istore 4, 2) := by decide +kernel
theorem dX3_fillWithout_3 : decode cX3_fillWithout 3 = .ok (.iload 4, 2) := by decide +kernel
theorem dX3_fillWithout_5 : decode cX3_fillWithout 5 = .ok (.aload_n 1, 1) := by decide +kernel
theorem dX3_fillWithout_6 : decode cX3_fillWithout 6 = .ok (.invokevirtual 55, 3) := by decide +kernel
theorem dX3_fillWithout_9 : decode cX3_fillWithout 9 = .ok (.if_icmp .ge 35, 3) := by decide +kernel
theorem dX3_fillWithout_12 : decode cX3_fillWithout 12 = .ok (.aload_n 1, 1) := by decide +kernel
theorem dX3_fillWithout_13 : decode cX3_fillWithout 13 = .ok (.iload 4, 2) := by decide +kernel
theorem dX3_fillWithout_15 : decode cX3_fillWithout 15 = .ok (.invokevirtual 58, 3) := by decide +kernel
theorem dX3_fillWithout_18 : decode cX3_fillWithout 18 = .ok (.lstore 5, 2) := by decide +kernel
theorem dX3_fillWithout_20 : decode cX3_fillWithout 20 = .ok (.iload_n 2, 1) := by decide +kernel
theorem dX3_fillWithout_21 : decode cX3_fillWithout 21 = .ok (.lload 5, 2) := by decide +kernel
theorem dX3_fillWithout_23 : decode cX3_fillWithout 23 = .ok (.invokestatic 66, 3) := by decide +kernel
theorem dX3_fillWithout_26 : decode cX3_fillWithout 26 = .ok (.iushr, 1) := by decide +kernel
theorem dX3_fillWithout_27 : decode cX3_fillWithout 27 = .ok (.iconst 1, 1) := by decide +kernel
theorem dX3_fillWithout_28 : decode cX3_fillWithout 28 = .ok (.iand, 1) := by decide +kernel
theorem dX3_fillWithout_29 : decode cX3_fillWithout 29 = .ok (.ifCond .ne 9, 3) := by decide +kernel
theorem dX3_fillWithout_32 : decode cX3_fillWithout 32 = .ok (.aload_n 3, 1) := by decide +kernel
theorem dX3_fillWithout_33 : decode cX3_fillWithout 33 = .ok (.lload 5, 2) := by decide +kernel
theorem dX3_fillWithout_35 : decode cX3_fillWithout 35 = .ok (.invokevirtual 86, 3) := by decide +kernel
theorem dX3_fillWithout_38 : decode cX3_fillWithout 38 = .ok (.iinc 4 1, 3) := by decide +kernel
theorem dX3_fillWithout_41 : decode cX3_fillWithout 41 = .ok (.goto (-38), 3) := by decide +kernel
theorem dX3_fillWithout_44 : decode cX3_fillWithout 44 = .ok (.return_, 1) := by decide +kernel
theorem dX4_init_0 : decode cX4_init 0 = .ok (.aload_n 0, 1) := by decide +kernel
theorem dX4_init_1 : decode cX4_init 1 = .ok (.invokespecial 3, 3) := by decide +kernel
theorem dX4_init_4 : decode cX4_init 4 = .ok (.aload_n 0, 1) := by decide +kernel
theorem dX4_init_5 : decode cX4_init 5 = .ok (.bipush 26, 2) := by decide +kernel
theorem dX4_init_7 : decode cX4_init 7 = .ok (.newarray .int, 2) := by decide +kernel
theorem dX4_init_9 : decode cX4_init 9 = .ok (.putfield 9, 3) := by decide +kernel
theorem dX4_init_12 : decode cX4_init 12 = .ok (.return_, 1) := by decide +kernel
theorem dX4_parse_0 : decode cX4_parse 0 = .ok (.aload_n 2, 1) := by decide +kernel
theorem dX4_parse_1 : decode cX4_parse 1 = .ok (.invokevirtual 15, 3) := by decide +kernel
theorem dX4_parse_4 : decode cX4_parse 4 = .ok (.aload_n 0, 1) := by decide +kernel
theorem dX4_parse_5 : decode cX4_parse 5 = .ok (.getfield 9, 3) := by decide +kernel
theorem dX4_parse_8 : decode cX4_parse 8 = .ok (.iconst (-1), 1) := by decide +kernel
theorem dX4_parse_9 : decode cX4_parse 9 = .ok (.invokestatic 20, 3) := by decide +kernel
theorem dX4_parse_12 : decode cX4_parse 12 = .ok (.aload_n 1, 1) := by decide +kernel
theorem dX4_parse_13 : decode cX4_parse 13 = .ok (.invokevirtual 26, 3) := by decide +kernel
theorem dX4_parse_16 : decode cX4_parse 16 = .ok (.iconst 0, 1) := by decide +kernel
theorem dX4_parse_17 : decode cX4_parse 17 = .ok (.istore_n 3, 1) := by decide +kernel
theorem dX4_parse_18 : decode cX4_parse 18 = .ok (.iload_n 3, 1) := by decide +kernel
theorem dX4_parse_19 : decode cX4_parse 19 = .ok (.bipush 12, 2) := by decide +kernel
theorem dX4_parse_21 : decode cX4_parse 21 = .ok (.if_icmp .ge 105, 3) := by decide +kernel
theorem dX4_parse_24 : decode cX4_parse 24 = .ok (.aload_n 2, 1) := by decide +kernel
theorem dX4_parse_25 : decode cX4_parse 25 = .ok (.iload_n 3, 1) := by decide +kernel
theorem dX4_parse_26 : decode cX4_parse 26 = .ok (.invokevirtual 31, 3) := by decide +kernel
theorem dX4_parse_29 : decode cX4_parse 29 = .ok (.astore 4, 2) := by decide +kernel
theorem dX4_parse_31 : decode cX4_parse 31 = .ok (.aload 4, 2) := by decide +kernel
theorem dX4_parse_33 : decode cX4_parse 33 = .ok (.invokevirtual 35, 3) := by decide +kernel
theorem dX4_parse_36 : decode cX4_parse 36 = .ok (.aload_n 0, 1) := by decide +kernel
theorem dX4_parse_37 : decode cX4_parse 37 = .ok (.aload_n 1, 1) := by decide +kernel
theorem dX4_parse_38 : decode cX4_parse 38 = .ok (.invokevirtual 38, 3) := by decide +kernel
theorem dX4_parse_41 : decode cX4_parse 41 = .ok (.istore 5, 2) := by decide +kernel
theorem dX4_parse_43 : decode cX4_parse 43 = .ok (.iload 5, 2) := by decide +kernel
theorem dX4_parse_45 : decode cX4_parse 45 = .ok (.iconst (-1), 1) := by decide +kernel
theorem dX4_parse_46 : decode cX4_parse 46 = .ok (.if_icmp .eq 33, 3) := by decide +kernel
theorem dX4_parse_49 : decode cX4_parse 49 = .ok (.aload_n 0, 1) := by decide +kernel
theorem dX4_parse_50 : decode cX4_parse 50 = .ok (.aload_n 1, 1) := by decide +kernel
theorem dX4_parse_51 : decode cX4_parse 51 = .ok (.bipush 61, 2) := by decide +kernel
theorem dX4_parse_53 : decode cX4_parse 53 = .ok (.invokevirtual 42, 3) := by decide +kernel
theorem dX4_parse_56 : decode cX4_parse 56 = .ok (.ifCond .eq 23, 3) := by decide +kernel
theorem dX4_parse_59 : decode cX4_parse 59 = .ok (.aload_n 0, 1) := by decide +kernel
theorem dX4_parse_60 : decode cX4_parse 60 = .ok (.aload_n 1, 1) := by decide +kernel
theorem dX4_parse_61 : decode cX4_parse 61 = .ok (.aload 4, 2) := by decide +kernel
theorem dX4_parse_63 : decode cX4_parse 63 = .ok (.invokevirtual 46, 3) := by decide +kernel
theorem dX4_parse_66 : decode cX4_parse 66 = .ok (.ifCond .eq 13, 3) := by decide +kernel
theorem dX4_parse_69 : decode cX4_parse 69 = .ok (.aload_n 0, 1) := by decide +kernel
theorem dX4_parse_70 : decode cX4_parse 70 = .ok (.aload_n 1, 1) := by decide +kernel
theorem dX4_parse_71 : decode cX4_parse 71 = .ok (.aload 4, 2) := by decide +kernel
theorem dX4_parse_73 : decode cX4_parse 73 = .ok (.invokevirtual 50, 3) := by decide +kernel
theorem dX4_parse_76 : decode cX4_parse 76 = .ok (.ifCond .ne 8, 3) := by decide +kernel
theorem dX4_parse_79 : decode cX4_parse 79 = .ok (.aload_n 1, 1) := by decide +kernel
theorem dX4_parse_80 : decode cX4_parse 80 = .ok (.invokevirtual 53, 3) := by decide +kernel
theorem dX4_parse_83 : decode cX4_parse 83 = .ok (.ireturn, 1) := by decide +kernel
theorem dX4_parse_84 : decode cX4_parse 84 = .ok (.aload_n 0, 1) := by decide +kernel
theorem dX4_parse_85 : decode cX4_parse 85 = .ok (.getfield 9, 3) := by decide +kernel
theorem dX4_parse_88 : decode cX4_parse 88 = .ok (.iload 5, 2) := by decide +kernel
theorem dX4_parse_90 : decode cX4_parse 90 = .ok (.iload_n 3, 1) := by decide +kernel
theorem dX4_parse_91 : decode cX4_parse 91 = .ok (.iastore, 1) := by decide +kernel
theorem dX4_parse_92 : decode cX4_parse 92 = .ok (.aload_n 2, 1) := by decide +kernel
theorem dX4_parse_93 : decode cX4_parse 93 = .ok (.invokevirtual 57, 3) := by decide +kernel
theorem dX4_parse_96 : decode cX4_parse 96 = .ok (.aload_n 1, 1) := by decide +kernel
theorem dX4_parse_97 : decode cX4_parse 97 = .ok (.invokevirtual 60, 3) := by decide +kernel
theorem dX4_parse_100 : decode cX4_parse 100 = .ok (.ifCond .eq 5, 3) := by decide +kernel
theorem dX4_parse_103 : decode cX4_parse 103 = .ok (.iconst (-1), 1) := by decide +kernel
theorem dX4_parse_104 : decode cX4_parse 104 = .ok (.ireturn, 1) := by decide +kernel
theorem dX4_parse_105 : decode cX4_parse 105 = .ok (.aload_n 0, 1) := by decide +kernel
theorem dX4_parse_106 : decode cX4_parse 106 = .ok (.aload_n 1, 1) := by decide +kernel
theorem dX4_parse_107 : decode cX4_parse 107 = .ok (.bipush 59, 2) := by decide +kernel
theorem dX4_parse_109 : decode cX4_parse 109 = .ok (.invokevirtual 42, 3) := by decide +kernel
theorem dX4_parse_112 : decode cX4_parse 112 = .ok (.ifCond .ne 8, 3) := by decide +kernel
theorem dX4_parse_115 : decode cX4_parse 115 = .ok (.aload_n 1, 1) := by decide +kernel
theorem dX4_parse_116 : decode cX4_parse 116 = .ok (.invokevirtual 53, 3) := by decide +kernel
theorem dX4_parse_119 : decode cX4_parse 119 = .ok (.ireturn, 1) := by decide +kernel
theorem dX4_parse_120 : decode cX4_parse 120 = .ok (.iinc 3 1, 3) := by decide +kernel
theorem dX4_parse_123 : decode cX4_parse 123 = .ok (.goto (-105), 3) := by decide +kernel
theorem dX4_parse_126 : decode cX4_parse 126 = .ok (.aload_n 1, 1) := by decide +kernel
theorem dX4_parse_127 : decode cX4_parse 127 = .ok (.invokevirtual 53, 3) := by decide +kernel
theorem dX4_parse_130 : decode cX4_parse 130 = .ok (.ireturn, 1) := by decide +kernel
theorem dX4_takeNewName_0 : decode cX4_takeNewName 0 = .ok (.aload_n 1, 1) := by decide +kernel
theorem dX4_takeNewName_1 : decode cX4_takeNewName 1 = .ok (.invokevirtual 64, 3) := by decide +kernel
theorem dX4_takeNewName_4 : decode cX4_takeNewName 4 = .ok (.istore_n 2, 1) := by decide +kernel
theorem dX4_takeNewName_5 : decode cX4_takeNewName 5 = .ok (.iload_n 2, 1) := by decide +kernel
theorem dX4_takeNewName_6 : decode cX4_takeNewName 6 = .ok (.iconst (-1), 1) := by decide +kernel
theorem dX4_takeNewName_7 : decode cX4_takeNewName 7 = .ok (.if_icmp .eq 13, 3) := by decide +kernel
theorem dX4_takeNewName_10 : decode cX4_takeNewName 10 = .ok (.aload_n 0, 1) := by decide +kernel
theorem dX4_takeNewName_11 : decode cX4_takeNewName 11 = .ok (.getfield 9, 3) := by decide +kernel
theorem dX4_takeNewName_14 : decode cX4_takeNewName 14 = .ok (.iload_n 2, 1) := by decide +kernel
theorem dX4_takeNewName_15 : decode cX4_takeNewName 15 = .ok (.iaload, 1) := by decide +kernel
theorem dX4_takeNewName_16 : decode cX4_takeNewName 16 = .ok (.iconst (-1), 1) := by decide +kernel
theorem dX4_takeNewName_17 : decode cX4_takeNewName 17 = .ok (.if_icmp .eq 5, 3) := by decide +kernel
theorem dX4_takeNewName_20 : decode cX4_takeNewName 20 = .ok (.iconst (-1), 1) := by decide +kernel
theorem dX4_takeNewName_21 : decode cX4_takeNewName 21 = .ok (.ireturn, 1) := by decide +kernel
theorem dX4_takeNewName_22 : decode cX4_takeNewName 22 = .ok (.aload_n 1, 1) := by decide +kernel
theorem dX4_takeNewName_23 : decode cX4_takeNewName 23 = .ok (.invokevirtual 67, 3) := by decide +kernel
theorem dX4_takeNewName_26 : decode cX4_takeNewName 26 = .ok (.iload_n 2, 1) := by decide +kernel
theorem dX4_takeNewName_27 : decode cX4_takeNewName 27 = .ok (.ireturn, 1) := by decide +kernel
theorem dX4_takeKind_0 : decode cX4_takeKind 0 = .ok (.iconst 0, 1) := by decide +kernel
theorem dX4_takeKind_1 : decode cX4_takeKind 1 = .ok (.istore_n 3, 1) := by decide +kernel
theorem dX4_takeKind_2 : decode cX4_takeKind 2 = .ok (.iload_n 3, 1) := by decide +kernel
theorem dX4_takeKind_3 : decode cX4_takeKind 3 = .ok (.bipush 13, 2) := by decide +kernel
theorem dX4_takeKind_5 : decode cX4_takeKind 5 = .ok (.if_icmp .ge 31, 3) := by decide +kernel
theorem dX4_takeKind_8 : decode cX4_takeKind 8 = .ok (.aload_n 1, 1) := by decide +kernel
theorem dX4_takeKind_9 : decode cX4_takeKind 9 = .ok (.iload_n 3, 1) := by decide +kernel
theorem dX4_takeKind_10 : decode cX4_takeKind 10 = .ok (.invokestatic 70, 3) := by decide +kernel
theorem dX4_takeKind_13 : decode cX4_takeKind 13 = .ok (.invokevirtual 74, 3) := by decide +kernel
theorem dX4_takeKind_16 : decode cX4_takeKind 16 = .ok (.ifCond .eq 14, 3) := by decide +kernel
theorem dX4_takeKind_19 : decode cX4_takeKind 19 = .ok (.aload_n 2, 1) := by decide +kernel
theorem dX4_takeKind_20 : decode cX4_takeKind 20 = .ok (.iload_n 3, 1) := by decide +kernel
theorem dX4_takeKind_21 : decode cX4_takeKind 21 = .ok (.putfield 78, 3) := by decide +kernel
theorem dX4_takeKind_24 : decode cX4_takeKind 24 = .ok (.aload_n 1, 1) := by decide +kernel
theorem dX4_takeKind_25 : decode cX4_takeKind 25 = .ok (.invokevirtual 67, 3) := by decide +kernel
theorem dX4_takeKind_28 : decode cX4_takeKind 28 = .ok (.iconst 1, 1) := by decide +kernel
theorem dX4_takeKind_29 : decode cX4_takeKind 29 = .ok (.ireturn, 1) := by decide +kernel
theorem dX4_takeKind_30 : decode cX4_takeKind 30 = .ok (.iinc 3 1, 3) := by decide +kernel
theorem dX4_takeKind_33 : decode cX4_takeKind 33 = .ok (.goto (-31), 3) := by decide +kernel
theorem dX4_takeKind_36 : decode cX4_takeKind 36 = .ok (.iconst 0, 1) := by decide +kernel
theorem dX4_takeKind_37 : decode cX4_takeKind 37 = .ok (.ireturn, 1) := by decide +kernel
theorem dX4_wordOf_0 : decode cX4_wordOf 0 = .ok (.iload_n 0, 1) := by decide +kernel
theorem dX4_wordOf_1 : decode cX4_wordOf 1 = .ok (.tableswitch 99 0 11 #[63, 66, 69, 72, 75, 78, 81, 84, 87, 90, 93, 96], 63) := by decide +kernel
theorem dX4_wordOf_64 : decode cX4_wordOf 64 = .ok (.ldc 82, 2) := by decide +kernel
theorem dX4_wordOf_66 : decode cX4_wordOf 66 = .ok (.areturn, 1) := by decide +kernel
theorem dX4_wordOf_67 : decode cX4_wordOf 67 = .ok (.ldc 84, 2) := by decide +kernel
theorem dX4_wordOf_69 : decode cX4_wordOf 69 = .ok (.areturn, 1) := by decide +kernel
theorem dX4_wordOf_70 : decode cX4_wordOf 70 = .ok (.ldc 86, 2) := by decide +kernel
theorem dX4_wordOf_72 : decode cX4_wordOf 72 = .ok (.areturn, 1) := by decide +kernel
theorem dX4_wordOf_73 : decode cX4_wordOf 73 = .ok (.ldc 88, 2) := by decide +kernel
theorem dX4_wordOf_75 : decode cX4_wordOf 75 = .ok (.areturn, 1) := by decide +kernel
theorem dX4_wordOf_76 : decode cX4_wordOf 76 = .ok (.ldc 90, 2) := by decide +kernel
theorem dX4_wordOf_78 : decode cX4_wordOf 78 = .ok (.areturn, 1) := by decide +kernel
theorem dX4_wordOf_79 : decode cX4_wordOf 79 = .ok (.ldc 92, 2) := by decide +kernel
theorem dX4_wordOf_81 : decode cX4_wordOf 81 = .ok (.areturn, 1) := by decide +kernel
theorem dX4_wordOf_82 : decode cX4_wordOf 82 = .ok (.ldc 94, 2) := by decide +kernel
theorem dX4_wordOf_84 : decode cX4_wordOf 84 = .ok (.areturn, 1) := by decide +kernel
theorem dX4_wordOf_85 : decode cX4_wordOf 85 = .ok (.ldc 96, 2) := by decide +kernel
theorem dX4_wordOf_87 : decode cX4_wordOf 87 = .ok (.areturn, 1) := by decide +kernel
theorem dX4_wordOf_88 : decode cX4_wordOf 88 = .ok (.ldc 98, 2) := by decide +kernel
theorem dX4_wordOf_90 : decode cX4_wordOf 90 = .ok (.areturn, 1) := by decide +kernel
theorem dX4_wordOf_91 : decode cX4_wordOf 91 = .ok (.ldc 100, 2) := by decide +kernel
theorem dX4_wordOf_93 : decode cX4_wordOf 93 = .ok (.areturn, 1) := by decide +kernel
theorem dX4_wordOf_94 : decode cX4_wordOf 94 = .ok (.ldc 102, 2) := by decide +kernel
theorem dX4_wordOf_96 : decode cX4_wordOf 96 = .ok (.areturn, 1) := by decide +kernel
theorem dX4_wordOf_97 : decode cX4_wordOf 97 = .ok (.ldc 104, 2) := by decide +kernel
theorem dX4_wordOf_99 : decode cX4_wordOf 99 = .ok (.areturn, 1) := by decide +kernel
theorem dX4_wordOf_100 : decode cX4_wordOf 100 = .ok (.ldc 106, 2) := by decide +kernel
theorem dX4_wordOf_102 : decode cX4_wordOf 102 = .ok (.areturn, 1) := by decide +kernel
theorem dX4_takeParts_0 : decode cX4_takeParts 0 = .ok (.aload_n 2, 1) := by decide +kernel
theorem dX4_takeParts_1 : decode cX4_takeParts 1 = .ok (.getfield 78, 3) := by decide +kernel
theorem dX4_takeParts_4 : decode cX4_takeParts 4 = .ok (.ifCond .ne 12, 3) := by decide +kernel
theorem dX4_takeParts_7 : decode cX4_takeParts 7 = .ok (.aload_n 0, 1) := by decide +kernel
theorem dX4_takeParts_8 : decode cX4_takeParts 8 = .ok (.aload_n 1, 1) := by decide +kernel
theorem dX4_takeParts_9 : decode cX4_takeParts 9 = .ok (.aload_n 2, 1) := by decide +kernel
theorem dX4_takeParts_10 : decode cX4_takeParts 10 = .ok (.iconst 0, 1) := by decide +kernel
theorem dX4_takeParts_11 : decode cX4_takeParts 11 = .ok (.iconst 2, 1) := by decide +kernel
theorem dX4_takeParts_12 : decode cX4_takeParts 12 = .ok (.invokevirtual 108, 3) := by decide +kernel
theorem dX4_takeParts_15 : decode cX4_takeParts 15 = .ok (.ireturn, 1) := by decide +kernel
theorem dX4_takeParts_16 : decode cX4_takeParts 16 = .ok (.aload_n 0, 1) := by decide +kernel
theorem dX4_takeParts_17 : decode cX4_takeParts 17 = .ok (.aload_n 1, 1) := by decide +kernel
theorem dX4_takeParts_18 : decode cX4_takeParts 18 = .ok (.aload_n 2, 1) := by decide +kernel
theorem dX4_takeParts_19 : decode cX4_takeParts 19 = .ok (.invokevirtual 112, 3) := by decide +kernel
theorem dX4_takeParts_22 : decode cX4_takeParts 22 = .ok (.ifCond .ne 5, 3) := by decide +kernel
theorem dX4_takeParts_25 : decode cX4_takeParts 25 = .ok (.iconst 0, 1) := by decide +kernel
theorem dX4_takeParts_26 : decode cX4_takeParts 26 = .ok (.ireturn, 1) := by decide +kernel
theorem dX4_takeParts_27 : decode cX4_takeParts 27 = .ok (.aload_n 2, 1) := by decide +kernel
theorem dX4_takeParts_28 : decode cX4_takeParts 28 = .ok (.getfield 78, 3) := by decide +kernel
theorem dX4_takeParts_31 : decode cX4_takeParts 31 = .ok (.tableswitch 129 1 12 #[61, 94, 94, 101, 111, 129, 129, 129, 129, 129, 122, 122], 61) := by decide +kernel
theorem dX4_takeParts_92 : decode cX4_takeParts 92 = .ok (.aload_n 0, 1) := by decide +kernel
theorem dX4_takeParts_93 : decode cX4_takeParts 93 = .ok (.aload_n 1, 1) := by decide +kernel
theorem dX4_takeParts_94 : decode cX4_takeParts 94 = .ok (.aload_n 2, 1) := by decide +kernel
theorem dX4_takeParts_95 : decode cX4_takeParts 95 = .ok (.invokevirtual 115, 3) := by decide +kernel
theorem dX4_takeParts_98 : decode cX4_takeParts 98 = .ok (.ifCond .eq 25, 3) := by decide +kernel
theorem dX4_takeParts_101 : decode cX4_takeParts 101 = .ok (.aload_n 0, 1) := by decide +kernel
theorem dX4_takeParts_102 : decode cX4_takeParts 102 = .ok (.aload_n 1, 1) := by decide +kernel
theorem dX4_takeParts_103 : decode cX4_takeParts 103 = .ok (.aload_n 2, 1) := by decide +kernel
theorem dX4_takeParts_104 : decode cX4_takeParts 104 = .ok (.invokevirtual 118, 3) := by decide +kernel
theorem dX4_takeParts_107 : decode cX4_takeParts 107 = .ok (.ifCond .eq 16, 3) := by decide +kernel
theorem dX4_takeParts_110 : decode cX4_takeParts 110 = .ok (.aload_n 0, 1) := by decide +kernel
theorem dX4_takeParts_111 : decode cX4_takeParts 111 = .ok (.aload_n 1, 1) := by decide +kernel
theorem dX4_takeParts_112 : decode cX4_takeParts 112 = .ok (.aload_n 2, 1) := by decide +kernel
theorem dX4_takeParts_113 : decode cX4_takeParts 113 = .ok (.invokevirtual 121, 3) := by decide +kernel
theorem dX4_takeParts_116 : decode cX4_takeParts 116 = .ok (.ifCond .eq 7, 3) := by decide +kernel
theorem dX4_takeParts_119 : decode cX4_takeParts 119 = .ok (.iconst 1, 1) := by decide +kernel
theorem dX4_takeParts_120 : decode cX4_takeParts 120 = .ok (.goto 4, 3) := by decide +kernel
theorem dX4_takeParts_123 : decode cX4_takeParts 123 = .ok (.iconst 0, 1) := by decide +kernel
theorem dX4_takeParts_124 : decode cX4_takeParts 124 = .ok (.ireturn, 1) := by decide +kernel
theorem dX4_takeParts_125 : decode cX4_takeParts 125 = .ok (.aload_n 0, 1) := by decide +kernel
theorem dX4_takeParts_126 : decode cX4_takeParts 126 = .ok (.aload_n 1, 1) := by decide +kernel
theorem dX4_takeParts_127 : decode cX4_takeParts 127 = .ok (.aload_n 2, 1) := by decide +kernel
theorem dX4_takeParts_128 : decode cX4_takeParts 128 = .ok (.invokevirtual 121, 3) := by decide +kernel
theorem dX4_takeParts_131 : decode cX4_takeParts 131 = .ok (.ireturn, 1) := by decide +kernel
theorem dX4_takeParts_132 : decode cX4_takeParts 132 = .ok (.aload_n 0, 1) := by decide +kernel
theorem dX4_takeParts_133 : decode cX4_takeParts 133 = .ok (.aload_n 1, 1) := by decide +kernel
theorem dX4_takeParts_134 : decode cX4_takeParts 134 = .ok (.aload_n 2, 1) := by decide +kernel
theorem dX4_takeParts_135 : decode cX4_takeParts 135 = .ok (.iconst 0, 1) := by decide +kernel
theorem dX4_takeParts_136 : decode cX4_takeParts 136 = .ok (.bipush 31, 2) := by decide +kernel
theorem dX4_takeParts_138 : decode cX4_takeParts 138 = .ok (.invokevirtual 108, 3) := by decide +kernel
theorem dX4_takeParts_141 : decode cX4_takeParts 141 = .ok (.ireturn, 1) := by decide +kernel
theorem dX4_takeParts_142 : decode cX4_takeParts 142 = .ok (.aload_n 0, 1) := by decide +kernel
theorem dX4_takeParts_143 : decode cX4_takeParts 143 = .ok (.aload_n 1, 1) := by decide +kernel
theorem dX4_takeParts_144 : decode cX4_takeParts 144 = .ok (.aload_n 2, 1) := by decide +kernel
theorem dX4_takeParts_145 : decode cX4_takeParts 145 = .ok (.iconst 1, 1) := by decide +kernel
theorem dX4_takeParts_146 : decode cX4_takeParts 146 = .ok (.sipush 1000, 3) := by decide +kernel
theorem dX4_takeParts_149 : decode cX4_takeParts 149 = .ok (.invokevirtual 108, 3) := by decide +kernel
theorem dX4_takeParts_152 : decode cX4_takeParts 152 = .ok (.ireturn, 1) := by decide +kernel
theorem dX4_takeParts_153 : decode cX4_takeParts 153 = .ok (.aload_n 0, 1) := by decide +kernel
theorem dX4_takeParts_154 : decode cX4_takeParts 154 = .ok (.aload_n 1, 1) := by decide +kernel
theorem dX4_takeParts_155 : decode cX4_takeParts 155 = .ok (.aload_n 2, 1) := by decide +kernel
theorem dX4_takeParts_156 : decode cX4_takeParts 156 = .ok (.invokevirtual 124, 3) := by decide +kernel
theorem dX4_takeParts_159 : decode cX4_takeParts 159 = .ok (.ireturn, 1) := by decide +kernel
theorem dX4_takeParts_160 : decode cX4_takeParts 160 = .ok (.iconst 1, 1) := by decide +kernel
theorem dX4_takeParts_161 : decode cX4_takeParts 161 = .ok (.ireturn, 1) := by decide +kernel
theorem dX4_takeLeft_0 : decode cX4_takeLeft 0 = .ok (.aload_n 2, 1) := by decide +kernel
theorem dX4_takeLeft_1 : decode cX4_takeLeft 1 = .ok (.aload_n 0, 1) := by decide +kernel
theorem dX4_takeLeft_2 : decode cX4_takeLeft 2 = .ok (.aload_n 1, 1) := by decide +kernel
theorem dX4_takeLeft_3 : decode cX4_takeLeft 3 = .ok (.invokevirtual 127, 3) := by decide +kernel
theorem dX4_takeLeft_6 : decode cX4_takeLeft 6 = .ok (.putfield 130, 3) := by decide +kernel
theorem dX4_takeLeft_9 : decode cX4_takeLeft 9 = .ok (.aload_n 2, 1) := by decide +kernel
theorem dX4_takeLeft_10 : decode cX4_takeLeft 10 = .ok (.getfield 130, 3) := by decide +kernel
theorem dX4_takeLeft_13 : decode cX4_takeLeft 13 = .ok (.iconst (-1), 1) := by decide +kernel
theorem dX4_takeLeft_14 : decode cX4_takeLeft 14 = .ok (.if_icmp .eq 7, 3) := by decide +kernel
theorem dX4_takeLeft_17 : decode cX4_takeLeft 17 = .ok (.iconst 1, 1) := by decide +kernel
theorem dX4_takeLeft_18 : decode cX4_takeLeft 18 = .ok (.goto 4, 3) := by decide +kernel
theorem dX4_takeLeft_21 : decode cX4_takeLeft 21 = .ok (.iconst 0, 1) := by decide +kernel
theorem dX4_takeLeft_22 : decode cX4_takeLeft 22 = .ok (.ireturn, 1) := by decide +kernel
theorem dX4_takeRight_0 : decode cX4_takeRight 0 = .ok (.aload_n 2, 1) := by decide +kernel
theorem dX4_takeRight_1 : decode cX4_takeRight 1 = .ok (.aload_n 0, 1) := by decide +kernel
theorem dX4_takeRight_2 : decode cX4_takeRight 2 = .ok (.aload_n 1, 1) := by decide +kernel
theorem dX4_takeRight_3 : decode cX4_takeRight 3 = .ok (.invokevirtual 127, 3) := by decide +kernel
theorem dX4_takeRight_6 : decode cX4_takeRight 6 = .ok (.putfield 133, 3) := by decide +kernel
theorem dX4_takeRight_9 : decode cX4_takeRight 9 = .ok (.aload_n 2, 1) := by decide +kernel
theorem dX4_takeRight_10 : decode cX4_takeRight 10 = .ok (.getfield 133, 3) := by decide +kernel
theorem dX4_takeRight_13 : decode cX4_takeRight 13 = .ok (.iconst (-1), 1) := by decide +kernel
theorem dX4_takeRight_14 : decode cX4_takeRight 14 = .ok (.if_icmp .eq 7, 3) := by decide +kernel
theorem dX4_takeRight_17 : decode cX4_takeRight 17 = .ok (.iconst 1, 1) := by decide +kernel
theorem dX4_takeRight_18 : decode cX4_takeRight 18 = .ok (.goto 4, 3) := by decide +kernel
theorem dX4_takeRight_21 : decode cX4_takeRight 21 = .ok (.iconst 0, 1) := by decide +kernel
theorem dX4_takeRight_22 : decode cX4_takeRight 22 = .ok (.ireturn, 1) := by decide +kernel
theorem dX4_takeName_0 : decode cX4_takeName 0 = .ok (.aload_n 1, 1) := by decide +kernel
theorem dX4_takeName_1 : decode cX4_takeName 1 = .ok (.invokevirtual 64, 3) := by decide +kernel
theorem dX4_takeName_4 : decode cX4_takeName 4 = .ok (.istore_n 2, 1) := by decide +kernel
theorem dX4_takeName_5 : decode cX4_takeName 5 = .ok (.iload_n 2, 1) := by decide +kernel
theorem dX4_takeName_6 : decode cX4_takeName 6 = .ok (.iconst (-1), 1) := by decide +kernel
theorem dX4_takeName_7 : decode cX4_takeName 7 = .ok (.if_icmp .ne 7, 3) := by decide +kernel
theorem dX4_takeName_10 : decode cX4_takeName 10 = .ok (.iconst (-1), 1) := by decide +kernel
theorem dX4_takeName_11 : decode cX4_takeName 11 = .ok (.goto 9, 3) := by decide +kernel
theorem dX4_takeName_14 : decode cX4_takeName 14 = .ok (.aload_n 0, 1) := by decide +kernel
theorem dX4_takeName_15 : decode cX4_takeName 15 = .ok (.getfield 9, 3) := by decide +kernel
theorem dX4_takeName_18 : decode cX4_takeName 18 = .ok (.iload_n 2, 1) := by decide +kernel
theorem dX4_takeName_19 : decode cX4_takeName 19 = .ok (.iaload, 1) := by decide +kernel
theorem dX4_takeName_20 : decode cX4_takeName 20 = .ok (.istore_n 3, 1) := by decide +kernel
theorem dX4_takeName_21 : decode cX4_takeName 21 = .ok (.iload_n 3, 1) := by decide +kernel
theorem dX4_takeName_22 : decode cX4_takeName 22 = .ok (.iconst (-1), 1) := by decide +kernel
theorem dX4_takeName_23 : decode cX4_takeName 23 = .ok (.if_icmp .eq 7, 3) := by decide +kernel
theorem dX4_takeName_26 : decode cX4_takeName 26 = .ok (.aload_n 1, 1) := by decide +kernel
theorem dX4_takeName_27 : decode cX4_takeName 27 = .ok (.invokevirtual 67, 3) := by decide +kernel
theorem dX4_takeName_30 : decode cX4_takeName 30 = .ok (.iload_n 3, 1) := by decide +kernel
theorem dX4_takeName_31 : decode cX4_takeName 31 = .ok (.ireturn, 1) := by decide +kernel
theorem dX4_takeColumn_0 : decode cX4_takeColumn 0 = .ok (.aload_n 1, 1) := by decide +kernel
theorem dX4_takeColumn_1 : decode cX4_takeColumn 1 = .ok (.ldc 136, 2) := by decide +kernel
theorem dX4_takeColumn_3 : decode cX4_takeColumn 3 = .ok (.invokevirtual 74, 3) := by decide +kernel
theorem dX4_takeColumn_6 : decode cX4_takeColumn 6 = .ok (.ifCond .eq 11, 3) := by decide +kernel
theorem dX4_takeColumn_9 : decode cX4_takeColumn 9 = .ok (.aload_n 2, 1) := by decide +kernel
theorem dX4_takeColumn_10 : decode cX4_takeColumn 10 = .ok (.iconst 0, 1) := by decide +kernel
theorem dX4_takeColumn_11 : decode cX4_takeColumn 11 = .ok (.putfield 138, 3) := by decide +kernel
theorem dX4_takeColumn_14 : decode cX4_takeColumn 14 = .ok (.goto 39, 3) := by decide +kernel
theorem dX4_takeColumn_17 : decode cX4_takeColumn 17 = .ok (.aload_n 1, 1) := by decide +kernel
theorem dX4_takeColumn_18 : decode cX4_takeColumn 18 = .ok (.ldc 141, 2) := by decide +kernel
theorem dX4_takeColumn_20 : decode cX4_takeColumn 20 = .ok (.invokevirtual 74, 3) := by decide +kernel
theorem dX4_takeColumn_23 : decode cX4_takeColumn 23 = .ok (.ifCond .eq 11, 3) := by decide +kernel
theorem dX4_takeColumn_26 : decode cX4_takeColumn 26 = .ok (.aload_n 2, 1) := by decide +kernel
theorem dX4_takeColumn_27 : decode cX4_takeColumn 27 = .ok (.iconst 1, 1) := by decide +kernel
theorem dX4_takeColumn_28 : decode cX4_takeColumn 28 = .ok (.putfield 138, 3) := by decide +kernel
theorem dX4_takeColumn_31 : decode cX4_takeColumn 31 = .ok (.goto 22, 3) := by decide +kernel
theorem dX4_takeColumn_34 : decode cX4_takeColumn 34 = .ok (.aload_n 1, 1) := by decide +kernel
theorem dX4_takeColumn_35 : decode cX4_takeColumn 35 = .ok (.ldc 143, 2) := by decide +kernel
theorem dX4_takeColumn_37 : decode cX4_takeColumn 37 = .ok (.invokevirtual 74, 3) := by decide +kernel
theorem dX4_takeColumn_40 : decode cX4_takeColumn 40 = .ok (.ifCond .eq 11, 3) := by decide +kernel
theorem dX4_takeColumn_43 : decode cX4_takeColumn 43 = .ok (.aload_n 2, 1) := by decide +kernel
theorem dX4_takeColumn_44 : decode cX4_takeColumn 44 = .ok (.iconst 2, 1) := by decide +kernel
theorem dX4_takeColumn_45 : decode cX4_takeColumn 45 = .ok (.putfield 138, 3) := by decide +kernel
theorem dX4_takeColumn_48 : decode cX4_takeColumn 48 = .ok (.goto 5, 3) := by decide +kernel
theorem dX4_takeColumn_51 : decode cX4_takeColumn 51 = .ok (.iconst 0, 1) := by decide +kernel
theorem dX4_takeColumn_52 : decode cX4_takeColumn 52 = .ok (.ireturn, 1) := by decide +kernel
theorem dX4_takeColumn_53 : decode cX4_takeColumn 53 = .ok (.aload_n 1, 1) := by decide +kernel
theorem dX4_takeColumn_54 : decode cX4_takeColumn 54 = .ok (.invokevirtual 67, 3) := by decide +kernel
theorem dX4_takeColumn_57 : decode cX4_takeColumn 57 = .ok (.iconst 1, 1) := by decide +kernel
theorem dX4_takeColumn_58 : decode cX4_takeColumn 58 = .ok (.ireturn, 1) := by decide +kernel
theorem dX4_takeRelation_0 : decode cX4_takeRelation 0 = .ok (.aload_n 0, 1) := by decide +kernel
theorem dX4_takeRelation_1 : decode cX4_takeRelation 1 = .ok (.aload_n 1, 1) := by decide +kernel
theorem dX4_takeRelation_2 : decode cX4_takeRelation 2 = .ok (.bipush 60, 2) := by decide +kernel
theorem dX4_takeRelation_4 : decode cX4_takeRelation 4 = .ok (.invokevirtual 42, 3) := by decide +kernel
theorem dX4_takeRelation_7 : decode cX4_takeRelation 7 = .ok (.ifCond .eq 12, 3) := by decide +kernel
theorem dX4_takeRelation_10 : decode cX4_takeRelation 10 = .ok (.aload_n 2, 1) := by decide +kernel
theorem dX4_takeRelation_11 : decode cX4_takeRelation 11 = .ok (.bipush 60, 2) := by decide +kernel
theorem dX4_takeRelation_13 : decode cX4_takeRelation 13 = .ok (.putfield 145, 3) := by decide +kernel
theorem dX4_takeRelation_16 : decode cX4_takeRelation 16 = .ok (.goto 36, 3) := by decide +kernel
theorem dX4_takeRelation_19 : decode cX4_takeRelation 19 = .ok (.aload_n 0, 1) := by decide +kernel
theorem dX4_takeRelation_20 : decode cX4_takeRelation 20 = .ok (.aload_n 1, 1) := by decide +kernel
theorem dX4_takeRelation_21 : decode cX4_takeRelation 21 = .ok (.bipush 62, 2) := by decide +kernel
theorem dX4_takeRelation_23 : decode cX4_takeRelation 23 = .ok (.invokevirtual 42, 3) := by decide +kernel
theorem dX4_takeRelation_26 : decode cX4_takeRelation 26 = .ok (.ifCond .eq 12, 3) := by decide +kernel
theorem dX4_takeRelation_29 : decode cX4_takeRelation 29 = .ok (.aload_n 2, 1) := by decide +kernel
theorem dX4_takeRelation_30 : decode cX4_takeRelation 30 = .ok (.bipush 62, 2) := by decide +kernel
theorem dX4_takeRelation_32 : decode cX4_takeRelation 32 = .ok (.putfield 145, 3) := by decide +kernel
theorem dX4_takeRelation_35 : decode cX4_takeRelation 35 = .ok (.goto 17, 3) := by decide +kernel
theorem dX4_takeRelation_38 : decode cX4_takeRelation 38 = .ok (.aload_n 2, 1) := by decide +kernel
theorem dX4_takeRelation_39 : decode cX4_takeRelation 39 = .ok (.bipush 61, 2) := by decide +kernel
theorem dX4_takeRelation_41 : decode cX4_takeRelation 41 = .ok (.putfield 145, 3) := by decide +kernel
theorem dX4_takeRelation_44 : decode cX4_takeRelation 44 = .ok (.aload_n 0, 1) := by decide +kernel
theorem dX4_takeRelation_45 : decode cX4_takeRelation 45 = .ok (.aload_n 1, 1) := by decide +kernel
theorem dX4_takeRelation_46 : decode cX4_takeRelation 46 = .ok (.bipush 61, 2) := by decide +kernel
theorem dX4_takeRelation_48 : decode cX4_takeRelation 48 = .ok (.invokevirtual 42, 3) := by decide +kernel
theorem dX4_takeRelation_51 : decode cX4_takeRelation 51 = .ok (.ireturn, 1) := by decide +kernel
theorem dX4_takeRelation_52 : decode cX4_takeRelation 52 = .ok (.iconst 1, 1) := by decide +kernel
theorem dX4_takeRelation_53 : decode cX4_takeRelation 53 = .ok (.ireturn, 1) := by decide +kernel
theorem dX4_takeNumber_0 : decode cX4_takeNumber 0 = .ok (.aload_n 0, 1) := by decide +kernel
theorem dX4_takeNumber_1 : decode cX4_takeNumber 1 = .ok (.aload_n 1, 1) := by decide +kernel
theorem dX4_takeNumber_2 : decode cX4_takeNumber 2 = .ok (.bipush 45, 2) := by decide +kernel
theorem dX4_takeNumber_4 : decode cX4_takeNumber 4 = .ok (.invokevirtual 42, 3) := by decide +kernel
theorem dX4_takeNumber_7 : decode cX4_takeNumber 7 = .ok (.istore_n 3, 1) := by decide +kernel
theorem dX4_takeNumber_8 : decode cX4_takeNumber 8 = .ok (.aload_n 0, 1) := by decide +kernel
theorem dX4_takeNumber_9 : decode cX4_takeNumber 9 = .ok (.aload_n 1, 1) := by decide +kernel
theorem dX4_takeNumber_10 : decode cX4_takeNumber 10 = .ok (.aload_n 2, 1) := by decide +kernel
theorem dX4_takeNumber_11 : decode cX4_takeNumber 11 = .ok (.iconst 0, 1) := by decide +kernel
theorem dX4_takeNumber_12 : decode cX4_takeNumber 12 = .ok (.sipush 1000, 3) := by decide +kernel
theorem dX4_takeNumber_15 : decode cX4_takeNumber 15 = .ok (.invokevirtual 108, 3) := by decide +kernel
theorem dX4_takeNumber_18 : decode cX4_takeNumber 18 = .ok (.ifCond .ne 5, 3) := by decide +kernel
theorem dX4_takeNumber_21 : decode cX4_takeNumber 21 = .ok (.iconst 0, 1) := by decide +kernel
theorem dX4_takeNumber_22 : decode cX4_takeNumber 22 = .ok (.ireturn, 1) := by decide +kernel
theorem dX4_takeNumber_23 : decode cX4_takeNumber 23 = .ok (.iload_n 3, 1) := by decide +kernel
theorem dX4_takeNumber_24 : decode cX4_takeNumber 24 = .ok (.ifCond .eq 12, 3) := by decide +kernel
theorem dX4_takeNumber_27 : decode cX4_takeNumber 27 = .ok (.aload_n 2, 1) := by decide +kernel
theorem dX4_takeNumber_28 : decode cX4_takeNumber 28 = .ok (.aload_n 2, 1) := by decide +kernel
theorem dX4_takeNumber_29 : decode cX4_takeNumber 29 = .ok (.getfield 149, 3) := by decide +kernel
theorem dX4_takeNumber_32 : decode cX4_takeNumber 32 = .ok (.ineg, 1) := by decide +kernel
theorem dX4_takeNumber_33 : decode cX4_takeNumber 33 = .ok (.putfield 149, 3) := by decide +kernel
theorem dX4_takeNumber_36 : decode cX4_takeNumber 36 = .ok (.iconst 1, 1) := by decide +kernel
theorem dX4_takeNumber_37 : decode cX4_takeNumber 37 = .ok (.ireturn, 1) := by decide +kernel
theorem dX4_takeDigits_0 : decode cX4_takeDigits 0 = .ok (.aload_n 1, 1) := by decide +kernel
theorem dX4_takeDigits_1 : decode cX4_takeDigits 1 = .ok (.invokevirtual 152, 3) := by decide +kernel
theorem dX4_takeDigits_4 : decode cX4_takeDigits 4 = .ok (.istore 5, 2) := by decide +kernel
theorem dX4_takeDigits_6 : decode cX4_takeDigits 6 = .ok (.iload 5, 2) := by decide +kernel
theorem dX4_takeDigits_8 : decode cX4_takeDigits 8 = .ok (.iconst (-1), 1) := by decide +kernel
theorem dX4_takeDigits_9 : decode cX4_takeDigits 9 = .ok (.if_icmp .eq 14, 3) := by decide +kernel
theorem dX4_takeDigits_12 : decode cX4_takeDigits 12 = .ok (.iload 5, 2) := by decide +kernel
theorem dX4_takeDigits_14 : decode cX4_takeDigits 14 = .ok (.iload_n 3, 1) := by decide +kernel
theorem dX4_takeDigits_15 : decode cX4_takeDigits 15 = .ok (.iload 4, 2) := by decide +kernel
theorem dX4_takeDigits_17 : decode cX4_takeDigits 17 = .ok (.invokestatic 155, 3) := by decide +kernel
theorem dX4_takeDigits_20 : decode cX4_takeDigits 20 = .ok (.ifCond .ne 5, 3) := by decide +kernel
theorem dX4_takeDigits_23 : decode cX4_takeDigits 23 = .ok (.iconst 0, 1) := by decide +kernel
theorem dX4_takeDigits_24 : decode cX4_takeDigits 24 = .ok (.ireturn, 1) := by decide +kernel
theorem dX4_takeDigits_25 : decode cX4_takeDigits 25 = .ok (.aload_n 2, 1) := by decide +kernel
theorem dX4_takeDigits_26 : decode cX4_takeDigits 26 = .ok (.iload 5, 2) := by decide +kernel
theorem dX4_takeDigits_28 : decode cX4_takeDigits 28 = .ok (.putfield 149, 3) := by decide +kernel
theorem dX4_takeDigits_31 : decode cX4_takeDigits 31 = .ok (.aload_n 1, 1) := by decide +kernel
theorem dX4_takeDigits_32 : decode cX4_takeDigits 32 = .ok (.invokevirtual 67, 3) := by decide +kernel
theorem dX4_takeDigits_35 : decode cX4_takeDigits 35 = .ok (.iconst 1, 1) := by decide +kernel
theorem dX4_takeDigits_36 : decode cX4_takeDigits 36 = .ok (.ireturn, 1) := by decide +kernel
theorem dX4_takeSign_0 : decode cX4_takeSign 0 = .ok (.aload_n 1, 1) := by decide +kernel
theorem dX4_takeSign_1 : decode cX4_takeSign 1 = .ok (.iload_n 2, 1) := by decide +kernel
theorem dX4_takeSign_2 : decode cX4_takeSign 2 = .ok (.invokevirtual 159, 3) := by decide +kernel
theorem dX4_takeSign_5 : decode cX4_takeSign 5 = .ok (.ifCond .ne 5, 3) := by decide +kernel
theorem dX4_takeSign_8 : decode cX4_takeSign 8 = .ok (.iconst 0, 1) := by decide +kernel
theorem dX4_takeSign_9 : decode cX4_takeSign 9 = .ok (.ireturn, 1) := by decide +kernel
theorem dX4_takeSign_10 : decode cX4_takeSign 10 = .ok (.aload_n 1, 1) := by decide +kernel
theorem dX4_takeSign_11 : decode cX4_takeSign 11 = .ok (.invokevirtual 67, 3) := by decide +kernel
theorem dX4_takeSign_14 : decode cX4_takeSign 14 = .ok (.iconst 1, 1) := by decide +kernel
theorem dX4_takeSign_15 : decode cX4_takeSign 15 = .ok (.ireturn, 1) := by decide +kernel
theorem dX5_init_0 : decode cX5_init 0 = .ok (.aload_n 0, 1) := by decide +kernel
theorem dX5_init_1 : decode cX5_init 1 = .ok (.invokespecial 3, 3) := by decide +kernel
theorem dX5_init_4 : decode cX5_init 4 = .ok (.aload_n 0, 1) := by decide +kernel
theorem dX5_init_5 : decode cX5_init 5 = .ok (.bipush 12, 2) := by decide +kernel
theorem dX5_init_7 : decode cX5_init 7 = .ok (.anewarray 9, 3) := by decide +kernel
theorem dX5_init_10 : decode cX5_init 10 = .ok (.putfield 11, 3) := by decide +kernel
theorem dX5_init_13 : decode cX5_init 13 = .ok (.iconst 0, 1) := by decide +kernel
theorem dX5_init_14 : decode cX5_init 14 = .ok (.istore_n 1, 1) := by decide +kernel
theorem dX5_init_15 : decode cX5_init 15 = .ok (.iload_n 1, 1) := by decide +kernel
theorem dX5_init_16 : decode cX5_init 16 = .ok (.bipush 12, 2) := by decide +kernel
theorem dX5_init_18 : decode cX5_init 18 = .ok (.if_icmp .ge 22, 3) := by decide +kernel
theorem dX5_init_21 : decode cX5_init 21 = .ok (.aload_n 0, 1) := by decide +kernel
theorem dX5_init_22 : decode cX5_init 22 = .ok (.getfield 11, 3) := by decide +kernel
theorem dX5_init_25 : decode cX5_init 25 = .ok (.iload_n 1, 1) := by decide +kernel
theorem dX5_init_26 : decode cX5_init 26 = .ok (.new 9, 3) := by decide +kernel
theorem dX5_init_29 : decode cX5_init 29 = .ok (.dup, 1) := by decide +kernel
theorem dX5_init_30 : decode cX5_init 30 = .ok (.invokespecial 17, 3) := by decide +kernel
theorem dX5_init_33 : decode cX5_init 33 = .ok (.aastore, 1) := by decide +kernel
theorem dX5_init_34 : decode cX5_init 34 = .ok (.iinc 1 1, 3) := by decide +kernel
theorem dX5_init_37 : decode cX5_init 37 = .ok (.goto (-22), 3) := by decide +kernel
theorem dX5_init_40 : decode cX5_init 40 = .ok (.return_, 1) := by decide +kernel
theorem dX5_clear_0 : decode cX5_clear 0 = .ok (.aload_n 0, 1) := by decide +kernel
theorem dX5_clear_1 : decode cX5_clear 1 = .ok (.iconst 0, 1) := by decide +kernel
theorem dX5_clear_2 : decode cX5_clear 2 = .ok (.putfield 18, 3) := by decide +kernel
theorem dX5_clear_5 : decode cX5_clear 5 = .ok (.return_, 1) := by decide +kernel
theorem dX5_size_0 : decode cX5_size 0 = .ok (.aload_n 0, 1) := by decide +kernel
theorem dX5_size_1 : decode cX5_size 1 = .ok (.getfield 18, 3) := by decide +kernel
theorem dX5_size_4 : decode cX5_size 4 = .ok (.ireturn, 1) := by decide +kernel
theorem dX5_at_0 : decode cX5_at 0 = .ok (.aload_n 0, 1) := by decide +kernel
theorem dX5_at_1 : decode cX5_at 1 = .ok (.getfield 11, 3) := by decide +kernel
theorem dX5_at_4 : decode cX5_at 4 = .ok (.iload_n 1, 1) := by decide +kernel
theorem dX5_at_5 : decode cX5_at 5 = .ok (.iconst 0, 1) := by decide +kernel
theorem dX5_at_6 : decode cX5_at 6 = .ok (.bipush 11, 2) := by decide +kernel
theorem dX5_at_8 : decode cX5_at 8 = .ok (.invokestatic 22, 3) := by decide +kernel
theorem dX5_at_11 : decode cX5_at 11 = .ok (.ifCond .eq 7, 3) := by decide +kernel
theorem dX5_at_14 : decode cX5_at 14 = .ok (.iload_n 1, 1) := by decide +kernel
theorem dX5_at_15 : decode cX5_at 15 = .ok (.goto 4, 3) := by decide +kernel
theorem dX5_at_18 : decode cX5_at 18 = .ok (.iconst 0, 1) := by decide +kernel
theorem dX5_at_19 : decode cX5_at 19 = .ok (.aaload, 1) := by decide +kernel
theorem dX5_at_20 : decode cX5_at 20 = .ok (.areturn, 1) := by decide +kernel
theorem dX5_add_0 : decode cX5_add 0 = .ok (.aload_n 0, 1) := by decide +kernel
theorem dX5_add_1 : decode cX5_add 1 = .ok (.getfield 18, 3) := by decide +kernel
theorem dX5_add_4 : decode cX5_add 4 = .ok (.bipush 12, 2) := by decide +kernel
theorem dX5_add_6 : decode cX5_add 6 = .ok (.if_icmp .ge 13, 3) := by decide +kernel
theorem dX5_add_9 : decode cX5_add 9 = .ok (.aload_n 0, 1) := by decide +kernel
theorem dX5_add_10 : decode cX5_add 10 = .ok (.dup, 1) := by decide +kernel
theorem dX5_add_11 : decode cX5_add 11 = .ok (.getfield 18, 3) := by decide +kernel
theorem dX5_add_14 : decode cX5_add 14 = .ok (.iconst 1, 1) := by decide +kernel
theorem dX5_add_15 : decode cX5_add 15 = .ok (.iadd, 1) := by decide +kernel
theorem dX5_add_16 : decode cX5_add 16 = .ok (.putfield 18, 3) := by decide +kernel
theorem dX5_add_19 : decode cX5_add 19 = .ok (.return_, 1) := by decide +kernel
theorem dX6_init_0 : decode cX6_init 0 = .ok (.aload_n 0, 1) := by decide +kernel
theorem dX6_init_1 : decode cX6_init 1 = .ok (.invokespecial 3, 3) := by decide +kernel
theorem dX6_init_4 : decode cX6_init 4 = .ok (.aload_n 0, 1) := by decide +kernel
theorem dX6_init_5 : decode cX6_init 5 = .ok (.iconst (-1), 1) := by decide +kernel
theorem dX6_init_6 : decode cX6_init 6 = .ok (.putfield 9, 3) := by decide +kernel
theorem dX6_init_9 : decode cX6_init 9 = .ok (.return_, 1) := by decide +kernel
theorem dX6_clear_0 : decode cX6_clear 0 = .ok (.aload_n 0, 1) := by decide +kernel
theorem dX6_clear_1 : decode cX6_clear 1 = .ok (.iconst 0, 1) := by decide +kernel
theorem dX6_clear_2 : decode cX6_clear 2 = .ok (.putfield 15, 3) := by decide +kernel
theorem dX6_clear_5 : decode cX6_clear 5 = .ok (.aload_n 0, 1) := by decide +kernel
theorem dX6_clear_6 : decode cX6_clear 6 = .ok (.iconst 0, 1) := by decide +kernel
theorem dX6_clear_7 : decode cX6_clear 7 = .ok (.putfield 18, 3) := by decide +kernel
theorem dX6_clear_10 : decode cX6_clear 10 = .ok (.aload_n 0, 1) := by decide +kernel
theorem dX6_clear_11 : decode cX6_clear 11 = .ok (.iconst (-1), 1) := by decide +kernel
theorem dX6_clear_12 : decode cX6_clear 12 = .ok (.putfield 9, 3) := by decide +kernel
theorem dX6_clear_15 : decode cX6_clear 15 = .ok (.return_, 1) := by decide +kernel
theorem dX6_copy_0 : decode cX6_copy 0 = .ok (.aload_n 0, 1) := by decide +kernel
theorem dX6_copy_1 : decode cX6_copy 1 = .ok (.aload_n 1, 1) := by decide +kernel
theorem dX6_copy_2 : decode cX6_copy 2 = .ok (.getfield 15, 3) := by decide +kernel
theorem dX6_copy_5 : decode cX6_copy 5 = .ok (.putfield 15, 3) := by decide +kernel
theorem dX6_copy_8 : decode cX6_copy 8 = .ok (.aload_n 0, 1) := by decide +kernel
theorem dX6_copy_9 : decode cX6_copy 9 = .ok (.aload_n 1, 1) := by decide +kernel
theorem dX6_copy_10 : decode cX6_copy 10 = .ok (.getfield 18, 3) := by decide +kernel
theorem dX6_copy_13 : decode cX6_copy 13 = .ok (.putfield 18, 3) := by decide +kernel
theorem dX6_copy_16 : decode cX6_copy 16 = .ok (.aload_n 0, 1) := by decide +kernel
theorem dX6_copy_17 : decode cX6_copy 17 = .ok (.aload_n 1, 1) := by decide +kernel
theorem dX6_copy_18 : decode cX6_copy 18 = .ok (.getfield 9, 3) := by decide +kernel
theorem dX6_copy_21 : decode cX6_copy 21 = .ok (.putfield 9, 3) := by decide +kernel
theorem dX6_copy_24 : decode cX6_copy 24 = .ok (.return_, 1) := by decide +kernel
theorem dX6_step_0 : decode cX6_step 0 = .ok (.aload_n 0, 1) := by decide +kernel
theorem dX6_step_1 : decode cX6_step 1 = .ok (.dup, 1) := by decide +kernel
theorem dX6_step_2 : decode cX6_step 2 = .ok (.getfield 15, 3) := by decide +kernel
theorem dX6_step_5 : decode cX6_step 5 = .ok (.iconst 1, 1) := by decide +kernel
theorem dX6_step_6 : decode cX6_step 6 = .ok (.iadd, 1) := by decide +kernel
theorem dX6_step_7 : decode cX6_step 7 = .ok (.putfield 15, 3) := by decide +kernel
theorem dX6_step_10 : decode cX6_step 10 = .ok (.aload_n 0, 1) := by decide +kernel
theorem dX6_step_11 : decode cX6_step 11 = .ok (.dup, 1) := by decide +kernel
theorem dX6_step_12 : decode cX6_step 12 = .ok (.getfield 18, 3) := by decide +kernel
theorem dX6_step_15 : decode cX6_step 15 = .ok (.iload_n 2, 1) := by decide +kernel
theorem dX6_step_16 : decode cX6_step 16 = .ok (.ifCond .eq 7, 3) := by decide +kernel
theorem dX6_step_19 : decode cX6_step 19 = .ok (.iconst 1, 1) := by decide +kernel
theorem dX6_step_20 : decode cX6_step 20 = .ok (.goto 4, 3) := by decide +kernel
theorem dX6_step_23 : decode cX6_step 23 = .ok (.iconst 0, 1) := by decide +kernel
theorem dX6_step_24 : decode cX6_step 24 = .ok (.iadd, 1) := by decide +kernel
theorem dX6_step_25 : decode cX6_step 25 = .ok (.putfield 18, 3) := by decide +kernel
theorem dX6_step_28 : decode cX6_step 28 = .ok (.aload_n 0, 1) := by decide +kernel
theorem dX6_step_29 : decode cX6_step 29 = .ok (.aload_n 0, 1) := by decide +kernel
theorem dX6_step_30 : decode cX6_step 30 = .ok (.getfield 9, 3) := by decide +kernel
theorem dX6_step_33 : decode cX6_step 33 = .ok (.iload_n 1, 1) := by decide +kernel
theorem dX6_step_34 : decode cX6_step 34 = .ok (.invokestatic 21, 3) := by decide +kernel
theorem dX6_step_37 : decode cX6_step 37 = .ok (.putfield 9, 3) := by decide +kernel
theorem dX6_step_40 : decode cX6_step 40 = .ok (.return_, 1) := by decide +kernel
theorem dX6_rowsRead_0 : decode cX6_rowsRead 0 = .ok (.aload_n 0, 1) := by decide +kernel
theorem dX6_rowsRead_1 : decode cX6_rowsRead 1 = .ok (.getfield 15, 3) := by decide +kernel
theorem dX6_rowsRead_4 : decode cX6_rowsRead 4 = .ok (.ireturn, 1) := by decide +kernel
theorem dX6_rowsLate_0 : decode cX6_rowsLate 0 = .ok (.aload_n 0, 1) := by decide +kernel
theorem dX6_rowsLate_1 : decode cX6_rowsLate 1 = .ok (.getfield 18, 3) := by decide +kernel
theorem dX6_rowsLate_4 : decode cX6_rowsLate 4 = .ok (.ireturn, 1) := by decide +kernel
theorem dX6_greatestTime_0 : decode cX6_greatestTime 0 = .ok (.aload_n 0, 1) := by decide +kernel
theorem dX6_greatestTime_1 : decode cX6_greatestTime 1 = .ok (.getfield 9, 3) := by decide +kernel
theorem dX6_greatestTime_4 : decode cX6_greatestTime 4 = .ok (.ireturn, 1) := by decide +kernel
theorem dX7_pack_0 : decode cX7_pack 0 = .ok (.iload_n 0, 1) := by decide +kernel
theorem dX7_pack_1 : decode cX7_pack 1 = .ok (.i2l, 1) := by decide +kernel
theorem dX7_pack_2 : decode cX7_pack 2 = .ok (.bipush 14, 2) := by decide +kernel
theorem dX7_pack_4 : decode cX7_pack 4 = .ok (.lshl, 1) := by decide +kernel
theorem dX7_pack_5 : decode cX7_pack 5 = .ok (.iload_n 1, 1) := by decide +kernel
theorem dX7_pack_6 : decode cX7_pack 6 = .ok (.i2l, 1) := by decide +kernel
theorem dX7_pack_7 : decode cX7_pack 7 = .ok (.lor, 1) := by decide +kernel
theorem dX7_pack_8 : decode cX7_pack 8 = .ok (.lstore_n 3, 1) := by decide +kernel
theorem dX7_pack_9 : decode cX7_pack 9 = .ok (.lload_n 3, 1) := by decide +kernel
theorem dX7_pack_10 : decode cX7_pack 10 = .ok (.bipush 31, 2) := by decide +kernel
theorem dX7_pack_12 : decode cX7_pack 12 = .ok (.lshl, 1) := by decide +kernel
theorem dX7_pack_13 : decode cX7_pack 13 = .ok (.iload_n 2, 1) := by decide +kernel
theorem dX7_pack_14 : decode cX7_pack 14 = .ok (.ldc 11, 2) := by decide +kernel
theorem dX7_pack_16 : decode cX7_pack 16 = .ok (.iadd, 1) := by decide +kernel
theorem dX7_pack_17 : decode cX7_pack 17 = .ok (.i2l, 1) := by decide +kernel
theorem dX7_pack_18 : decode cX7_pack 18 = .ok (.lor, 1) := by decide +kernel
theorem dX7_pack_19 : decode cX7_pack 19 = .ok (.lreturn, 1) := by decide +kernel
theorem dX7_keyOf_0 : decode cX7_keyOf 0 = .ok (.lload_n 0, 1) := by decide +kernel
theorem dX7_keyOf_1 : decode cX7_keyOf 1 = .ok (.bipush 45, 2) := by decide +kernel
theorem dX7_keyOf_3 : decode cX7_keyOf 3 = .ok (.lushr, 1) := by decide +kernel
theorem dX7_keyOf_4 : decode cX7_keyOf 4 = .ok (.l2i, 1) := by decide +kernel
theorem dX7_keyOf_5 : decode cX7_keyOf 5 = .ok (.bipush 31, 2) := by decide +kernel
theorem dX7_keyOf_7 : decode cX7_keyOf 7 = .ok (.iand, 1) := by decide +kernel
theorem dX7_keyOf_8 : decode cX7_keyOf 8 = .ok (.ireturn, 1) := by decide +kernel
theorem dX7_timeOf_0 : decode cX7_timeOf 0 = .ok (.lload_n 0, 1) := by decide +kernel
theorem dX7_timeOf_1 : decode cX7_timeOf 1 = .ok (.bipush 31, 2) := by decide +kernel
theorem dX7_timeOf_3 : decode cX7_timeOf 3 = .ok (.lushr, 1) := by decide +kernel
theorem dX7_timeOf_4 : decode cX7_timeOf 4 = .ok (.ldc2_w 12, 3) := by decide +kernel
theorem dX7_timeOf_7 : decode cX7_timeOf 7 = .ok (.land, 1) := by decide +kernel
theorem dX7_timeOf_8 : decode cX7_timeOf 8 = .ok (.l2i, 1) := by decide +kernel
theorem dX7_timeOf_9 : decode cX7_timeOf 9 = .ok (.ireturn, 1) := by decide +kernel
theorem dX7_valueOf_0 : decode cX7_valueOf 0 = .ok (.lload_n 0, 1) := by decide +kernel
theorem dX7_valueOf_1 : decode cX7_valueOf 1 = .ok (.ldc2_w 14, 3) := by decide +kernel
theorem dX7_valueOf_4 : decode cX7_valueOf 4 = .ok (.land, 1) := by decide +kernel
theorem dX7_valueOf_5 : decode cX7_valueOf 5 = .ok (.l2i, 1) := by decide +kernel
theorem dX7_valueOf_6 : decode cX7_valueOf 6 = .ok (.ldc 11, 2) := by decide +kernel
theorem dX7_valueOf_8 : decode cX7_valueOf 8 = .ok (.isub, 1) := by decide +kernel
theorem dX7_valueOf_9 : decode cX7_valueOf 9 = .ok (.ireturn, 1) := by decide +kernel
theorem dX7_groupOf_0 : decode cX7_groupOf 0 = .ok (.lload_n 0, 1) := by decide +kernel
theorem dX7_groupOf_1 : decode cX7_groupOf 1 = .ok (.bipush 31, 2) := by decide +kernel
theorem dX7_groupOf_3 : decode cX7_groupOf 3 = .ok (.lushr, 1) := by decide +kernel
theorem dX7_groupOf_4 : decode cX7_groupOf 4 = .ok (.lreturn, 1) := by decide +kernel
theorem dX7_partOf_0 : decode cX7_partOf 0 = .ok (.iload_n 2, 1) := by decide +kernel
theorem dX7_partOf_1 : decode cX7_partOf 1 = .ok (.tableswitch 42 0 2 #[27, 32, 37], 27) := by decide +kernel
theorem dX7_partOf_28 : decode cX7_partOf 28 = .ok (.lload_n 0, 1) := by decide +kernel
theorem dX7_partOf_29 : decode cX7_partOf 29 = .ok (.invokestatic 16, 3) := by decide +kernel
theorem dX7_partOf_32 : decode cX7_partOf 32 = .ok (.ireturn, 1) := by decide +kernel
theorem dX7_partOf_33 : decode cX7_partOf 33 = .ok (.lload_n 0, 1) := by decide +kernel
theorem dX7_partOf_34 : decode cX7_partOf 34 = .ok (.invokestatic 20, 3) := by decide +kernel
theorem dX7_partOf_37 : decode cX7_partOf 37 = .ok (.ireturn, 1) := by decide +kernel
theorem dX7_partOf_38 : decode cX7_partOf 38 = .ok (.lload_n 0, 1) := by decide +kernel
theorem dX7_partOf_39 : decode cX7_partOf 39 = .ok (.invokestatic 23, 3) := by decide +kernel
theorem dX7_partOf_42 : decode cX7_partOf 42 = .ok (.ireturn, 1) := by decide +kernel
theorem dX7_partOf_43 : decode cX7_partOf 43 = .ok (.ldc 26, 2) := by decide +kernel
theorem dX7_partOf_45 : decode cX7_partOf 45 = .ok (.ireturn, 1) := by decide +kernel
theorem dX8_init_0 : decode cX8_init 0 = .ok (.aload_n 0, 1) := by decide +kernel
theorem dX8_init_1 : decode cX8_init 1 = .ok (.invokespecial 3, 3) := by decide +kernel
theorem dX8_init_4 : decode cX8_init 4 = .ok (.aload_n 0, 1) := by decide +kernel
theorem dX8_init_5 : decode cX8_init 5 = .ok (.sipush 400, 3) := by decide +kernel
theorem dX8_init_8 : decode cX8_init 8 = .ok (.newarray .long, 2) := by decide +kernel
theorem dX8_init_10 : decode cX8_init 10 = .ok (.putfield 9, 3) := by decide +kernel
theorem dX8_init_13 : decode cX8_init 13 = .ok (.return_, 1) := by decide +kernel
theorem dX8_clear_0 : decode cX8_clear 0 = .ok (.aload_n 0, 1) := by decide +kernel
theorem dX8_clear_1 : decode cX8_clear 1 = .ok (.iconst 0, 1) := by decide +kernel
theorem dX8_clear_2 : decode cX8_clear 2 = .ok (.putfield 15, 3) := by decide +kernel
theorem dX8_clear_5 : decode cX8_clear 5 = .ok (.aload_n 0, 1) := by decide +kernel
theorem dX8_clear_6 : decode cX8_clear 6 = .ok (.iconst 0, 1) := by decide +kernel
theorem dX8_clear_7 : decode cX8_clear 7 = .ok (.putfield 19, 3) := by decide +kernel
theorem dX8_clear_10 : decode cX8_clear 10 = .ok (.return_, 1) := by decide +kernel
theorem dX8_size_0 : decode cX8_size 0 = .ok (.aload_n 0, 1) := by decide +kernel
theorem dX8_size_1 : decode cX8_size 1 = .ok (.getfield 15, 3) := by decide +kernel
theorem dX8_size_4 : decode cX8_size 4 = .ok (.ireturn, 1) := by decide +kernel
theorem dX8_isFull_0 : decode cX8_isFull 0 = .ok (.aload_n 0, 1) := by decide +kernel
theorem dX8_isFull_1 : decode cX8_isFull 1 = .ok (.getfield 19, 3) := by decide +kernel
theorem dX8_isFull_4 : decode cX8_isFull 4 = .ok (.ireturn, 1) := by decide +kernel
theorem dX8_at_0 : decode cX8_at 0 = .ok (.iload_n 1, 1) := by decide +kernel
theorem dX8_at_1 : decode cX8_at 1 = .ok (.iconst 0, 1) := by decide +kernel
theorem dX8_at_2 : decode cX8_at 2 = .ok (.aload_n 0, 1) := by decide +kernel
theorem dX8_at_3 : decode cX8_at 3 = .ok (.getfield 15, 3) := by decide +kernel
theorem dX8_at_6 : decode cX8_at 6 = .ok (.iconst 1, 1) := by decide +kernel
theorem dX8_at_7 : decode cX8_at 7 = .ok (.isub, 1) := by decide +kernel
theorem dX8_at_8 : decode cX8_at 8 = .ok (.invokestatic 23, 3) := by decide +kernel
theorem dX8_at_11 : decode cX8_at 11 = .ok (.ifCond .eq 12, 3) := by decide +kernel
theorem dX8_at_14 : decode cX8_at 14 = .ok (.aload_n 0, 1) := by decide +kernel
theorem dX8_at_15 : decode cX8_at 15 = .ok (.getfield 9, 3) := by decide +kernel
theorem dX8_at_18 : decode cX8_at 18 = .ok (.iload_n 1, 1) := by decide +kernel
theorem dX8_at_19 : decode cX8_at 19 = .ok (.laload, 1) := by decide +kernel
theorem dX8_at_20 : decode cX8_at 20 = .ok (.goto 4, 3) := by decide +kernel
theorem dX8_at_23 : decode cX8_at 23 = .ok (.lconst 0, 1) := by decide +kernel
theorem dX8_at_24 : decode cX8_at 24 = .ok (.lreturn, 1) := by decide +kernel
theorem dX8_add_0 : decode cX8_add 0 = .ok (.aload_n 0, 1) := by decide +kernel
theorem dX8_add_1 : decode cX8_add 1 = .ok (.getfield 15, 3) := by decide +kernel
theorem dX8_add_4 : decode cX8_add 4 = .ok (.aload_n 0, 1) := by decide +kernel
theorem dX8_add_5 : decode cX8_add 5 = .ok (.getfield 9, 3) := by decide +kernel
theorem dX8_add_8 : decode cX8_add 8 = .ok (.arraylength, 1) := by decide +kernel
theorem dX8_add_9 : decode cX8_add 9 = .ok (.if_icmp .lt 9, 3) := by decide +kernel
theorem dX8_add_12 : decode cX8_add 12 = .ok (.aload_n 0, 1) := by decide +kernel
theorem dX8_add_13 : decode cX8_add 13 = .ok (.iconst 1, 1) := by decide +kernel
theorem dX8_add_14 : decode cX8_add 14 = .ok (.putfield 19, 3) := by decide +kernel
theorem dX8_add_17 : decode cX8_add 17 = .ok (.return_, 1) := by decide +kernel
theorem dX8_add_18 : decode cX8_add 18 = .ok (.aload_n 0, 1) := by decide +kernel
theorem dX8_add_19 : decode cX8_add 19 = .ok (.getfield 9, 3) := by decide +kernel
theorem dX8_add_22 : decode cX8_add 22 = .ok (.aload_n 0, 1) := by decide +kernel
theorem dX8_add_23 : decode cX8_add 23 = .ok (.getfield 15, 3) := by decide +kernel
theorem dX8_add_26 : decode cX8_add 26 = .ok (.lload_n 1, 1) := by decide +kernel
theorem dX8_add_27 : decode cX8_add 27 = .ok (.lastore, 1) := by decide +kernel
theorem dX8_add_28 : decode cX8_add 28 = .ok (.aload_n 0, 1) := by decide +kernel
theorem dX8_add_29 : decode cX8_add 29 = .ok (.dup, 1) := by decide +kernel
theorem dX8_add_30 : decode cX8_add 30 = .ok (.getfield 15, 3) := by decide +kernel
theorem dX8_add_33 : decode cX8_add 33 = .ok (.iconst 1, 1) := by decide +kernel
theorem dX8_add_34 : decode cX8_add 34 = .ok (.iadd, 1) := by decide +kernel
theorem dX8_add_35 : decode cX8_add 35 = .ok (.putfield 15, 3) := by decide +kernel
theorem dX8_add_38 : decode cX8_add 38 = .ok (.return_, 1) := by decide +kernel
theorem dX8_add__0 : decode cX8_add_ 0 = .ok (.lload_n 3, 1) := by decide +kernel
theorem dX8_add__1 : decode cX8_add_ 1 = .ok (.ldc2_w 27, 3) := by decide +kernel
theorem dX8_add__4 : decode cX8_add_ 4 = .ok (.lcmp, 1) := by decide +kernel
theorem dX8_add__5 : decode cX8_add_ 5 = .ok (.ifCond .lt 11, 3) := by decide +kernel
theorem dX8_add__8 : decode cX8_add_ 8 = .ok (.lload_n 3, 1) := by decide +kernel
theorem dX8_add__9 : decode cX8_add_ 9 = .ok (.ldc2_w 29, 3) := by decide +kernel
theorem dX8_add__12 : decode cX8_add_ 12 = .ok (.lcmp, 1) := by decide +kernel
theorem dX8_add__13 : decode cX8_add_ 13 = .ok (.ifCond .le 9, 3) := by decide +kernel
theorem dX8_add__16 : decode cX8_add_ 16 = .ok (.aload_n 0, 1) := by decide +kernel
theorem dX8_add__17 : decode cX8_add_ 17 = .ok (.iconst 1, 1) := by decide +kernel
theorem dX8_add__18 : decode cX8_add_ 18 = .ok (.putfield 19, 3) := by decide +kernel
theorem dX8_add__21 : decode cX8_add_ 21 = .ok (.return_, 1) := by decide +kernel
theorem dX8_add__22 : decode cX8_add_ 22 = .ok (.aload_n 0, 1) := by decide +kernel
theorem dX8_add__23 : decode cX8_add_ 23 = .ok (.iload_n 1, 1) := by decide +kernel
theorem dX8_add__24 : decode cX8_add_ 24 = .ok (.iload_n 2, 1) := by decide +kernel
theorem dX8_add__25 : decode cX8_add_ 25 = .ok (.lload_n 3, 1) := by decide +kernel
theorem dX8_add__26 : decode cX8_add_ 26 = .ok (.l2i, 1) := by decide +kernel
theorem dX8_add__27 : decode cX8_add_ 27 = .ok (.invokestatic 31, 3) := by decide +kernel
theorem dX8_add__30 : decode cX8_add_ 30 = .ok (.invokevirtual 37, 3) := by decide +kernel
theorem dX8_add__33 : decode cX8_add_ 33 = .ok (.return_, 1) := by decide +kernel
theorem dX8_copy_0 : decode cX8_copy 0 = .ok (.aload_n 1, 1) := by decide +kernel
theorem dX8_copy_1 : decode cX8_copy 1 = .ok (.getfield 9, 3) := by decide +kernel
theorem dX8_copy_4 : decode cX8_copy 4 = .ok (.iconst 0, 1) := by decide +kernel
theorem dX8_copy_5 : decode cX8_copy 5 = .ok (.aload_n 0, 1) := by decide +kernel
theorem dX8_copy_6 : decode cX8_copy 6 = .ok (.getfield 9, 3) := by decide +kernel
theorem dX8_copy_9 : decode cX8_copy 9 = .ok (.iconst 0, 1) := by decide +kernel
theorem dX8_copy_10 : decode cX8_copy 10 = .ok (.aload_n 1, 1) := by decide +kernel
theorem dX8_copy_11 : decode cX8_copy 11 = .ok (.getfield 15, 3) := by decide +kernel
theorem dX8_copy_14 : decode cX8_copy 14 = .ok (.invokestatic 41, 3) := by decide +kernel
theorem dX8_copy_17 : decode cX8_copy 17 = .ok (.aload_n 0, 1) := by decide +kernel
theorem dX8_copy_18 : decode cX8_copy 18 = .ok (.aload_n 1, 1) := by decide +kernel
theorem dX8_copy_19 : decode cX8_copy 19 = .ok (.getfield 15, 3) := by decide +kernel
theorem dX8_copy_22 : decode cX8_copy 22 = .ok (.putfield 15, 3) := by decide +kernel
theorem dX8_copy_25 : decode cX8_copy 25 = .ok (.aload_n 0, 1) := by decide +kernel
theorem dX8_copy_26 : decode cX8_copy 26 = .ok (.aload_n 1, 1) := by decide +kernel
theorem dX8_copy_27 : decode cX8_copy 27 = .ok (.getfield 19, 3) := by decide +kernel
theorem dX8_copy_30 : decode cX8_copy 30 = .ok (.putfield 19, 3) := by decide +kernel
theorem dX8_copy_33 : decode cX8_copy 33 = .ok (.return_, 1) := by decide +kernel
theorem dX8_sort_0 : decode cX8_sort 0 = .ok (.iconst 1, 1) := by decide +kernel
theorem dX8_sort_1 : decode cX8_sort 1 = .ok (.istore_n 2, 1) := by decide +kernel
theorem dX8_sort_2 : decode cX8_sort 2 = .ok (.iload_n 2, 1) := by decide +kernel
theorem dX8_sort_3 : decode cX8_sort 3 = .ok (.aload_n 0, 1) := by decide +kernel
theorem dX8_sort_4 : decode cX8_sort 4 = .ok (.getfield 15, 3) := by decide +kernel
theorem dX8_sort_7 : decode cX8_sort 7 = .ok (.if_icmp .ge 52, 3) := by decide +kernel
theorem dX8_sort_10 : decode cX8_sort 10 = .ok (.iconst 0, 1) := by decide +kernel
theorem dX8_sort_11 : decode cX8_sort 11 = .ok (.istore_n 3, 1) := by decide +kernel
theorem dX8_sort_12 : decode cX8_sort 12 = .ok (.iload_n 3, 1) := by decide +kernel
theorem dX8_sort_13 : decode cX8_sort 13 = .ok (.iload_n 2, 1) := by decide +kernel
theorem dX8_sort_14 : decode cX8_sort 14 = .ok (.iadd, 1) := by decide +kernel
theorem dX8_sort_15 : decode cX8_sort 15 = .ok (.aload_n 0, 1) := by decide +kernel
theorem dX8_sort_16 : decode cX8_sort 16 = .ok (.getfield 15, 3) := by decide +kernel
theorem dX8_sort_19 : decode cX8_sort 19 = .ok (.if_icmp .ge 33, 3) := by decide +kernel
theorem dX8_sort_22 : decode cX8_sort 22 = .ok (.aload_n 0, 1) := by decide +kernel
theorem dX8_sort_23 : decode cX8_sort 23 = .ok (.iload_n 3, 1) := by decide +kernel
theorem dX8_sort_24 : decode cX8_sort 24 = .ok (.iload_n 3, 1) := by decide +kernel
theorem dX8_sort_25 : decode cX8_sort 25 = .ok (.iload_n 2, 1) := by decide +kernel
theorem dX8_sort_26 : decode cX8_sort 26 = .ok (.iadd, 1) := by decide +kernel
theorem dX8_sort_27 : decode cX8_sort 27 = .ok (.iload_n 3, 1) := by decide +kernel
theorem dX8_sort_28 : decode cX8_sort 28 = .ok (.iconst 2, 1) := by decide +kernel
theorem dX8_sort_29 : decode cX8_sort 29 = .ok (.iload_n 2, 1) := by decide +kernel
theorem dX8_sort_30 : decode cX8_sort 30 = .ok (.imul, 1) := by decide +kernel
theorem dX8_sort_31 : decode cX8_sort 31 = .ok (.iadd, 1) := by decide +kernel
theorem dX8_sort_32 : decode cX8_sort 32 = .ok (.aload_n 0, 1) := by decide +kernel
theorem dX8_sort_33 : decode cX8_sort 33 = .ok (.getfield 15, 3) := by decide +kernel
theorem dX8_sort_36 : decode cX8_sort 36 = .ok (.invokestatic 47, 3) := by decide +kernel
theorem dX8_sort_39 : decode cX8_sort 39 = .ok (.aload_n 1, 1) := by decide +kernel
theorem dX8_sort_40 : decode cX8_sort 40 = .ok (.invokevirtual 53, 3) := by decide +kernel
theorem dX8_sort_43 : decode cX8_sort 43 = .ok (.iload_n 3, 1) := by decide +kernel
theorem dX8_sort_44 : decode cX8_sort 44 = .ok (.iconst 2, 1) := by decide +kernel
theorem dX8_sort_45 : decode cX8_sort 45 = .ok (.iload_n 2, 1) := by decide +kernel
theorem dX8_sort_46 : decode cX8_sort 46 = .ok (.imul, 1) := by decide +kernel
theorem dX8_sort_47 : decode cX8_sort 47 = .ok (.iadd, 1) := by decide +kernel
theorem dX8_sort_48 : decode cX8_sort 48 = .ok (.istore_n 3, 1) := by decide +kernel
theorem dX8_sort_49 : decode cX8_sort 49 = .ok (.goto (-37), 3) := by decide +kernel
theorem dX8_sort_52 : decode cX8_sort 52 = .ok (.iload_n 2, 1) := by decide +kernel
theorem dX8_sort_53 : decode cX8_sort 53 = .ok (.iconst 2, 1) := by decide +kernel
theorem dX8_sort_54 : decode cX8_sort 54 = .ok (.imul, 1) := by decide +kernel
theorem dX8_sort_55 : decode cX8_sort 55 = .ok (.istore_n 2, 1) := by decide +kernel
theorem dX8_sort_56 : decode cX8_sort 56 = .ok (.goto (-54), 3) := by decide +kernel
theorem dX8_sort_59 : decode cX8_sort 59 = .ok (.return_, 1) := by decide +kernel
theorem dX8_merge_0 : decode cX8_merge 0 = .ok (.aload_n 0, 1) := by decide +kernel
theorem dX8_merge_1 : decode cX8_merge 1 = .ok (.getfield 9, 3) := by decide +kernel
theorem dX8_merge_4 : decode cX8_merge 4 = .ok (.iload_n 2, 1) := by decide +kernel
theorem dX8_merge_5 : decode cX8_merge 5 = .ok (.iconst 1, 1) := by decide +kernel
theorem dX8_merge_6 : decode cX8_merge 6 = .ok (.isub, 1) := by decide +kernel
theorem dX8_merge_7 : decode cX8_merge 7 = .ok (.laload, 1) := by decide +kernel
theorem dX8_merge_8 : decode cX8_merge 8 = .ok (.aload_n 0, 1) := by decide +kernel
theorem dX8_merge_9 : decode cX8_merge 9 = .ok (.getfield 9, 3) := by decide +kernel
theorem dX8_merge_12 : decode cX8_merge 12 = .ok (.iload_n 2, 1) := by decide +kernel
theorem dX8_merge_13 : decode cX8_merge 13 = .ok (.laload, 1) := by decide +kernel
theorem dX8_merge_14 : decode cX8_merge 14 = .ok (.lcmp, 1) := by decide +kernel
theorem dX8_merge_15 : decode cX8_merge 15 = .ok (.ifCond .gt 4, 3) := by decide +kernel
theorem dX8_merge_18 : decode cX8_merge 18 = .ok (.return_, 1) := by decide +kernel
theorem dX8_merge_19 : decode cX8_merge 19 = .ok (.iload_n 2, 1) := by decide +kernel
theorem dX8_merge_20 : decode cX8_merge 20 = .ok (.iload_n 1, 1) := by decide +kernel
theorem dX8_merge_21 : decode cX8_merge 21 = .ok (.isub, 1) := by decide +kernel
theorem dX8_merge_22 : decode cX8_merge 22 = .ok (.istore 5, 2) := by decide +kernel
theorem dX8_merge_24 : decode cX8_merge 24 = .ok (.aload_n 0, 1) := by decide +kernel
theorem dX8_merge_25 : decode cX8_merge 25 = .ok (.getfield 9, 3) := by decide +kernel
theorem dX8_merge_28 : decode cX8_merge 28 = .ok (.iload_n 1, 1) := by decide +kernel
theorem dX8_merge_29 : decode cX8_merge 29 = .ok (.aload 4, 2) := by decide +kernel
theorem dX8_merge_31 : decode cX8_merge 31 = .ok (.iconst 0, 1) := by decide +kernel
theorem dX8_merge_32 : decode cX8_merge 32 = .ok (.iload 5, 2) := by decide +kernel
theorem dX8_merge_34 : decode cX8_merge 34 = .ok (.invokestatic 41, 3) := by decide +kernel
theorem dX8_merge_37 : decode cX8_merge 37 = .ok (.iconst 0, 1) := by decide +kernel
theorem dX8_merge_38 : decode cX8_merge 38 = .ok (.istore 6, 2) := by decide +kernel
theorem dX8_merge_40 : decode cX8_merge 40 = .ok (.iload_n 2, 1) := by decide +kernel
theorem dX8_merge_41 : decode cX8_merge 41 = .ok (.istore 7, 2) := by decide +kernel
theorem dX8_merge_43 : decode cX8_merge 43 = .ok (.iload_n 1, 1) := by decide +kernel
theorem dX8_merge_44 : decode cX8_merge 44 = .ok (.istore 8, 2) := by decide +kernel
theorem dX8_merge_46 : decode cX8_merge 46 = .ok (.iload 8, 2) := by decide +kernel
theorem dX8_merge_48 : decode cX8_merge 48 = .ok (.iload_n 3, 1) := by decide +kernel
theorem dX8_merge_49 : decode cX8_merge 49 = .ok (.if_icmp .ge 73, 3) := by decide +kernel
theorem dX8_merge_52 : decode cX8_merge 52 = .ok (.iload 6, 2) := by decide +kernel
theorem dX8_merge_54 : decode cX8_merge 54 = .ok (.iload 5, 2) := by decide +kernel
theorem dX8_merge_56 : decode cX8_merge 56 = .ok (.if_icmp .ge 66, 3) := by decide +kernel
theorem dX8_merge_59 : decode cX8_merge 59 = .ok (.iload 7, 2) := by decide +kernel
theorem dX8_merge_61 : decode cX8_merge 61 = .ok (.iload_n 3, 1) := by decide +kernel
theorem dX8_merge_62 : decode cX8_merge 62 = .ok (.if_icmp .ge 39, 3) := by decide +kernel
theorem dX8_merge_65 : decode cX8_merge 65 = .ok (.aload_n 0, 1) := by decide +kernel
theorem dX8_merge_66 : decode cX8_merge 66 = .ok (.getfield 9, 3) := by decide +kernel
theorem dX8_merge_69 : decode cX8_merge 69 = .ok (.iload 7, 2) := by decide +kernel
theorem dX8_merge_71 : decode cX8_merge 71 = .ok (.laload, 1) := by decide +kernel
theorem dX8_merge_72 : decode cX8_merge 72 = .ok (.aload 4, 2) := by decide +kernel
theorem dX8_merge_74 : decode cX8_merge 74 = .ok (.iload 6, 2) := by decide +kernel
theorem dX8_merge_76 : decode cX8_merge 76 = .ok (.laload, 1) := by decide +kernel
theorem dX8_merge_77 : decode cX8_merge 77 = .ok (.lcmp, 1) := by decide +kernel
theorem dX8_merge_78 : decode cX8_merge 78 = .ok (.ifCond .ge 23, 3) := by decide +kernel
theorem dX8_merge_81 : decode cX8_merge 81 = .ok (.aload_n 0, 1) := by decide +kernel
theorem dX8_merge_82 : decode cX8_merge 82 = .ok (.getfield 9, 3) := by decide +kernel
theorem dX8_merge_85 : decode cX8_merge 85 = .ok (.iload 8, 2) := by decide +kernel
theorem dX8_merge_87 : decode cX8_merge 87 = .ok (.aload_n 0, 1) := by decide +kernel
theorem dX8_merge_88 : decode cX8_merge 88 = .ok (.getfield 9, 3) := by decide +kernel
theorem dX8_merge_91 : decode cX8_merge 91 = .ok (.iload 7, 2) := by decide +kernel
theorem dX8_merge_93 : decode cX8_merge 93 = .ok (.laload, 1) := by decide +kernel
theorem dX8_merge_94 : decode cX8_merge 94 = .ok (.lastore, 1) := by decide +kernel
theorem dX8_merge_95 : decode cX8_merge 95 = .ok (.iinc 7 1, 3) := by decide +kernel
theorem dX8_merge_98 : decode cX8_merge 98 = .ok (.goto 18, 3) := by decide +kernel
theorem dX8_merge_101 : decode cX8_merge 101 = .ok (.aload_n 0, 1) := by decide +kernel
theorem dX8_merge_102 : decode cX8_merge 102 = .ok (.getfield 9, 3) := by decide +kernel
theorem dX8_merge_105 : decode cX8_merge 105 = .ok (.iload 8, 2) := by decide +kernel
theorem dX8_merge_107 : decode cX8_merge 107 = .ok (.aload 4, 2) := by decide +kernel
theorem dX8_merge_109 : decode cX8_merge 109 = .ok (.iload 6, 2) := by decide +kernel
theorem dX8_merge_111 : decode cX8_merge 111 = .ok (.laload, 1) := by decide +kernel
theorem dX8_merge_112 : decode cX8_merge 112 = .ok (.lastore, 1) := by decide +kernel
theorem dX8_merge_113 : decode cX8_merge 113 = .ok (.iinc 6 1, 3) := by decide +kernel
theorem dX8_merge_116 : decode cX8_merge 116 = .ok (.iinc 8 1, 3) := by decide +kernel
theorem dX8_merge_119 : decode cX8_merge 119 = .ok (.goto (-73), 3) := by decide +kernel
theorem dX8_merge_122 : decode cX8_merge 122 = .ok (.return_, 1) := by decide +kernel
theorem dX8_keys_0 : decode cX8_keys 0 = .ok (.iconst 0, 1) := by decide +kernel
theorem dX8_keys_1 : decode cX8_keys 1 = .ok (.istore_n 1, 1) := by decide +kernel
theorem dX8_keys_2 : decode cX8_keys 2 = .ok (.iconst 0, 1) := by decide +kernel
theorem dX8_keys_3 : decode cX8_keys 3 = .ok (.istore_n 2, 1) := by decide +kernel
theorem dX8_keys_4 : decode cX8_keys 4 = .ok (.iload_n 2, 1) := by decide +kernel
theorem dX8_keys_5 : decode cX8_keys 5 = .ok (.aload_n 0, 1) := by decide +kernel
theorem dX8_keys_6 : decode cX8_keys 6 = .ok (.getfield 15, 3) := by decide +kernel
theorem dX8_keys_9 : decode cX8_keys 9 = .ok (.if_icmp .ge 23, 3) := by decide +kernel
theorem dX8_keys_12 : decode cX8_keys 12 = .ok (.iload_n 1, 1) := by decide +kernel
theorem dX8_keys_13 : decode cX8_keys 13 = .ok (.iconst 1, 1) := by decide +kernel
theorem dX8_keys_14 : decode cX8_keys 14 = .ok (.aload_n 0, 1) := by decide +kernel
theorem dX8_keys_15 : decode cX8_keys 15 = .ok (.getfield 9, 3) := by decide +kernel
theorem dX8_keys_18 : decode cX8_keys 18 = .ok (.iload_n 2, 1) := by decide +kernel
theorem dX8_keys_19 : decode cX8_keys 19 = .ok (.laload, 1) := by decide +kernel
theorem dX8_keys_20 : decode cX8_keys 20 = .ok (.invokestatic 57, 3) := by decide +kernel
theorem dX8_keys_23 : decode cX8_keys 23 = .ok (.ishl, 1) := by decide +kernel
theorem dX8_keys_24 : decode cX8_keys 24 = .ok (.ior, 1) := by decide +kernel
theorem dX8_keys_25 : decode cX8_keys 25 = .ok (.istore_n 1, 1) := by decide +kernel
theorem dX8_keys_26 : decode cX8_keys 26 = .ok (.iinc 2 1, 3) := by decide +kernel
theorem dX8_keys_29 : decode cX8_keys 29 = .ok (.goto (-25), 3) := by decide +kernel
theorem dX8_keys_32 : decode cX8_keys 32 = .ok (.iload_n 1, 1) := by decide +kernel
theorem dX8_keys_33 : decode cX8_keys 33 = .ok (.ireturn, 1) := by decide +kernel
theorem dX8_countOfKeys_0 : decode cX8_countOfKeys 0 = .ok (.iconst 0, 1) := by decide +kernel
theorem dX8_countOfKeys_1 : decode cX8_countOfKeys 1 = .ok (.istore_n 2, 1) := by decide +kernel
theorem dX8_countOfKeys_2 : decode cX8_countOfKeys 2 = .ok (.iconst 0, 1) := by decide +kernel
theorem dX8_countOfKeys_3 : decode cX8_countOfKeys 3 = .ok (.istore_n 3, 1) := by decide +kernel
theorem dX8_countOfKeys_4 : decode cX8_countOfKeys 4 = .ok (.iload_n 3, 1) := by decide +kernel
theorem dX8_countOfKeys_5 : decode cX8_countOfKeys 5 = .ok (.aload_n 0, 1) := by decide +kernel
theorem dX8_countOfKeys_6 : decode cX8_countOfKeys 6 = .ok (.getfield 15, 3) := by decide +kernel
theorem dX8_countOfKeys_9 : decode cX8_countOfKeys 9 = .ok (.if_icmp .ge 25, 3) := by decide +kernel
theorem dX8_countOfKeys_12 : decode cX8_countOfKeys 12 = .ok (.iload_n 2, 1) := by decide +kernel
theorem dX8_countOfKeys_13 : decode cX8_countOfKeys 13 = .ok (.iload_n 1, 1) := by decide +kernel
theorem dX8_countOfKeys_14 : decode cX8_countOfKeys 14 = .ok (.aload_n 0, 1) := by decide +kernel
theorem dX8_countOfKeys_15 : decode cX8_countOfKeys 15 = .ok (.getfield 9, 3) := by decide +kernel
theorem dX8_countOfKeys_18 : decode cX8_countOfKeys 18 = .ok (.iload_n 3, 1) := by decide +kernel
theorem dX8_countOfKeys_19 : decode cX8_countOfKeys 19 = .ok (.laload, 1) := by decide +kernel
theorem dX8_countOfKeys_20 : decode cX8_countOfKeys 20 = .ok (.invokestatic 57, 3) := by decide +kernel
theorem dX8_countOfKeys_23 : decode cX8_countOfKeys 23 = .ok (.iushr, 1) := by decide +kernel
theorem dX8_countOfKeys_24 : decode cX8_countOfKeys 24 = .ok (.iconst 1, 1) := by decide +kernel
theorem dX8_countOfKeys_25 : decode cX8_countOfKeys 25 = .ok (.iand, 1) := by decide +kernel
theorem dX8_countOfKeys_26 : decode cX8_countOfKeys 26 = .ok (.iadd, 1) := by decide +kernel
theorem dX8_countOfKeys_27 : decode cX8_countOfKeys 27 = .ok (.istore_n 2, 1) := by decide +kernel
theorem dX8_countOfKeys_28 : decode cX8_countOfKeys 28 = .ok (.iinc 3 1, 3) := by decide +kernel
theorem dX8_countOfKeys_31 : decode cX8_countOfKeys 31 = .ok (.goto (-27), 3) := by decide +kernel
theorem dX8_countOfKeys_34 : decode cX8_countOfKeys 34 = .ok (.iload_n 2, 1) := by decide +kernel
theorem dX8_countOfKeys_35 : decode cX8_countOfKeys 35 = .ok (.ireturn, 1) := by decide +kernel
theorem dX9_init_0 : decode cX9_init 0 = .ok (.aload_n 0, 1) := by decide +kernel
theorem dX9_init_1 : decode cX9_init 1 = .ok (.invokespecial 3, 3) := by decide +kernel
theorem dX9_init_4 : decode cX9_init 4 = .ok (.aload_n 0, 1) := by decide +kernel
theorem dX9_init_5 : decode cX9_init 5 = .ok (.bipush 12, 2) := by decide +kernel
theorem dX9_init_7 : decode cX9_init 7 = .ok (.anewarray 9, 3) := by decide +kernel
theorem dX9_init_10 : decode cX9_init 10 = .ok (.putfield 11, 3) := by decide +kernel
theorem dX9_init_13 : decode cX9_init 13 = .ok (.aload_n 0, 1) := by decide +kernel
theorem dX9_init_14 : decode cX9_init 14 = .ok (.bipush 12, 2) := by decide +kernel
theorem dX9_init_16 : decode cX9_init 16 = .ok (.anewarray 9, 3) := by decide +kernel
theorem dX9_init_19 : decode cX9_init 19 = .ok (.putfield 17, 3) := by decide +kernel
theorem dX9_init_22 : decode cX9_init 22 = .ok (.aload_n 0, 1) := by decide +kernel
theorem dX9_init_23 : decode cX9_init 23 = .ok (.bipush 12, 2) := by decide +kernel
theorem dX9_init_25 : decode cX9_init 25 = .ok (.anewarray 9, 3) := by decide +kernel
theorem dX9_init_28 : decode cX9_init 28 = .ok (.putfield 20, 3) := by decide +kernel
theorem dX9_init_31 : decode cX9_init 31 = .ok (.iconst 0, 1) := by decide +kernel
theorem dX9_init_32 : decode cX9_init 32 = .ok (.istore_n 1, 1) := by decide +kernel
theorem dX9_init_33 : decode cX9_init 33 = .ok (.iload_n 1, 1) := by decide +kernel
theorem dX9_init_34 : decode cX9_init 34 = .ok (.bipush 12, 2) := by decide +kernel
theorem dX9_init_36 : decode cX9_init 36 = .ok (.if_icmp .ge 48, 3) := by decide +kernel
theorem dX9_init_39 : decode cX9_init 39 = .ok (.aload_n 0, 1) := by decide +kernel
theorem dX9_init_40 : decode cX9_init 40 = .ok (.getfield 11, 3) := by decide +kernel
theorem dX9_init_43 : decode cX9_init 43 = .ok (.iload_n 1, 1) := by decide +kernel
theorem dX9_init_44 : decode cX9_init 44 = .ok (.new 9, 3) := by decide +kernel
theorem dX9_init_47 : decode cX9_init 47 = .ok (.dup, 1) := by decide +kernel
theorem dX9_init_48 : decode cX9_init 48 = .ok (.invokespecial 23, 3) := by decide +kernel
theorem dX9_init_51 : decode cX9_init 51 = .ok (.aastore, 1) := by decide +kernel
theorem dX9_init_52 : decode cX9_init 52 = .ok (.aload_n 0, 1) := by decide +kernel
theorem dX9_init_53 : decode cX9_init 53 = .ok (.getfield 17, 3) := by decide +kernel
theorem dX9_init_56 : decode cX9_init 56 = .ok (.iload_n 1, 1) := by decide +kernel
theorem dX9_init_57 : decode cX9_init 57 = .ok (.new 9, 3) := by decide +kernel
theorem dX9_init_60 : decode cX9_init 60 = .ok (.dup, 1) := by decide +kernel
theorem dX9_init_61 : decode cX9_init 61 = .ok (.invokespecial 23, 3) := by decide +kernel
theorem dX9_init_64 : decode cX9_init 64 = .ok (.aastore, 1) := by decide +kernel
theorem dX9_init_65 : decode cX9_init 65 = .ok (.aload_n 0, 1) := by decide +kernel
theorem dX9_init_66 : decode cX9_init 66 = .ok (.getfield 20, 3) := by decide +kernel
theorem dX9_init_69 : decode cX9_init 69 = .ok (.iload_n 1, 1) := by decide +kernel
theorem dX9_init_70 : decode cX9_init 70 = .ok (.new 9, 3) := by decide +kernel
theorem dX9_init_73 : decode cX9_init 73 = .ok (.dup, 1) := by decide +kernel
theorem dX9_init_74 : decode cX9_init 74 = .ok (.invokespecial 23, 3) := by decide +kernel
theorem dX9_init_77 : decode cX9_init 77 = .ok (.aastore, 1) := by decide +kernel
theorem dX9_init_78 : decode cX9_init 78 = .ok (.iinc 1 1, 3) := by decide +kernel
theorem dX9_init_81 : decode cX9_init 81 = .ok (.goto (-48), 3) := by decide +kernel
theorem dX9_init_84 : decode cX9_init 84 = .ok (.aload_n 0, 1) := by decide +kernel
theorem dX9_init_85 : decode cX9_init 85 = .ok (.bipush 12, 2) := by decide +kernel
theorem dX9_init_87 : decode cX9_init 87 = .ok (.newarray .boolean, 2) := by decide +kernel
theorem dX9_init_89 : decode cX9_init 89 = .ok (.putfield 24, 3) := by decide +kernel
theorem dX9_init_92 : decode cX9_init 92 = .ok (.aload_n 0, 1) := by decide +kernel
theorem dX9_init_93 : decode cX9_init 93 = .ok (.new 9, 3) := by decide +kernel
theorem dX9_init_96 : decode cX9_init 96 = .ok (.dup, 1) := by decide +kernel
theorem dX9_init_97 : decode cX9_init 97 = .ok (.invokespecial 23, 3) := by decide +kernel
theorem dX9_init_100 : decode cX9_init 100 = .ok (.putfield 28, 3) := by decide +kernel
theorem dX9_init_103 : decode cX9_init 103 = .ok (.aload_n 0, 1) := by decide +kernel
theorem dX9_init_104 : decode cX9_init 104 = .ok (.sipush 400, 3) := by decide +kernel
theorem dX9_init_107 : decode cX9_init 107 = .ok (.newarray .long, 2) := by decide +kernel
theorem dX9_init_109 : decode cX9_init 109 = .ok (.putfield 32, 3) := by decide +kernel
theorem dX9_init_112 : decode cX9_init 112 = .ok (.aload_n 0, 1) := by decide +kernel
theorem dX9_init_113 : decode cX9_init 113 = .ok (.new 36, 3) := by decide +kernel
theorem dX9_init_116 : decode cX9_init 116 = .ok (.dup, 1) := by decide +kernel
theorem dX9_init_117 : decode cX9_init 117 = .ok (.invokespecial 38, 3) := by decide +kernel
theorem dX9_init_120 : decode cX9_init 120 = .ok (.putfield 39, 3) := by decide +kernel
theorem dX9_init_123 : decode cX9_init 123 = .ok (.aload_n 0, 1) := by decide +kernel
theorem dX9_init_124 : decode cX9_init 124 = .ok (.new 36, 3) := by decide +kernel
theorem dX9_init_127 : decode cX9_init 127 = .ok (.dup, 1) := by decide +kernel
theorem dX9_init_128 : decode cX9_init 128 = .ok (.invokespecial 38, 3) := by decide +kernel
theorem dX9_init_131 : decode cX9_init 131 = .ok (.putfield 43, 3) := by decide +kernel
theorem dX9_init_134 : decode cX9_init 134 = .ok (.return_, 1) := by decide +kernel
theorem dX9_draft_0 : decode cX9_draft 0 = .ok (.aload_n 0, 1) := by decide +kernel
theorem dX9_draft_1 : decode cX9_draft 1 = .ok (.getfield 43, 3) := by decide +kernel
theorem dX9_draft_4 : decode cX9_draft 4 = .ok (.areturn, 1) := by decide +kernel
theorem dX9_takeDraft_0 : decode cX9_takeDraft 0 = .ok (.aload_n 0, 1) := by decide +kernel
theorem dX9_takeDraft_1 : decode cX9_takeDraft 1 = .ok (.getfield 39, 3) := by decide +kernel
theorem dX9_takeDraft_4 : decode cX9_takeDraft 4 = .ok (.astore_n 1, 1) := by decide +kernel
theorem dX9_takeDraft_5 : decode cX9_takeDraft 5 = .ok (.aload_n 0, 1) := by decide +kernel
theorem dX9_takeDraft_6 : decode cX9_takeDraft 6 = .ok (.aload_n 0, 1) := by decide +kernel
theorem dX9_takeDraft_7 : decode cX9_takeDraft 7 = .ok (.getfield 43, 3) := by decide +kernel
theorem dX9_takeDraft_10 : decode cX9_takeDraft 10 = .ok (.putfield 39, 3) := by decide +kernel
theorem dX9_takeDraft_13 : decode cX9_takeDraft 13 = .ok (.aload_n 0, 1) := by decide +kernel
theorem dX9_takeDraft_14 : decode cX9_takeDraft 14 = .ok (.aload_n 1, 1) := by decide +kernel
theorem dX9_takeDraft_15 : decode cX9_takeDraft 15 = .ok (.putfield 43, 3) := by decide +kernel
theorem dX9_takeDraft_18 : decode cX9_takeDraft 18 = .ok (.return_, 1) := by decide +kernel
theorem dX9_size_0 : decode cX9_size 0 = .ok (.aload_n 0, 1) := by decide +kernel
theorem dX9_size_1 : decode cX9_size 1 = .ok (.getfield 39, 3) := by decide +kernel
theorem dX9_size_4 : decode cX9_size 4 = .ok (.invokevirtual 46, 3) := by decide +kernel
theorem dX9_size_7 : decode cX9_size 7 = .ok (.ireturn, 1) := by decide +kernel
theorem dX9_has_0 : decode cX9_has 0 = .ok (.iload_n 1, 1) := by decide +kernel
theorem dX9_has_1 : decode cX9_has 1 = .ok (.iconst 0, 1) := by decide +kernel
theorem dX9_has_2 : decode cX9_has 2 = .ok (.aload_n 0, 1) := by decide +kernel
theorem dX9_has_3 : decode cX9_has 3 = .ok (.getfield 39, 3) := by decide +kernel
theorem dX9_has_6 : decode cX9_has 6 = .ok (.invokevirtual 46, 3) := by decide +kernel
theorem dX9_has_9 : decode cX9_has 9 = .ok (.iconst 1, 1) := by decide +kernel
theorem dX9_has_10 : decode cX9_has 10 = .ok (.isub, 1) := by decide +kernel
theorem dX9_has_11 : decode cX9_has 11 = .ok (.invokestatic 50, 3) := by decide +kernel
theorem dX9_has_14 : decode cX9_has 14 = .ok (.ireturn, 1) := by decide +kernel
theorem dX9_rowsOf_0 : decode cX9_rowsOf 0 = .ok (.aload_n 0, 1) := by decide +kernel
theorem dX9_rowsOf_1 : decode cX9_rowsOf 1 = .ok (.iload_n 1, 1) := by decide +kernel
theorem dX9_rowsOf_2 : decode cX9_rowsOf 2 = .ok (.invokevirtual 54, 3) := by decide +kernel
theorem dX9_rowsOf_5 : decode cX9_rowsOf 5 = .ok (.ifCond .eq 12, 3) := by decide +kernel
theorem dX9_rowsOf_8 : decode cX9_rowsOf 8 = .ok (.aload_n 0, 1) := by decide +kernel
theorem dX9_rowsOf_9 : decode cX9_rowsOf 9 = .ok (.getfield 11, 3) := by decide +kernel
theorem dX9_rowsOf_12 : decode cX9_rowsOf 12 = .ok (.iload_n 1, 1) := by decide +kernel
theorem dX9_rowsOf_13 : decode cX9_rowsOf 13 = .ok (.aaload, 1) := by decide +kernel
theorem dX9_rowsOf_14 : decode cX9_rowsOf 14 = .ok (.goto 7, 3) := by decide +kernel
theorem dX9_rowsOf_17 : decode cX9_rowsOf 17 = .ok (.aload_n 0, 1) := by decide +kernel
theorem dX9_rowsOf_18 : decode cX9_rowsOf 18 = .ok (.getfield 28, 3) := by decide +kernel
theorem dX9_rowsOf_21 : decode cX9_rowsOf 21 = .ok (.areturn, 1) := by decide +kernel
theorem dX9_answer_0 : decode cX9_answer 0 = .ok (.aload_n 0, 1) := by decide +kernel
theorem dX9_answer_1 : decode cX9_answer 1 = .ok (.aload_n 0, 1) := by decide +kernel
theorem dX9_answer_2 : decode cX9_answer 2 = .ok (.getfield 39, 3) := by decide +kernel
theorem dX9_answer_5 : decode cX9_answer 5 = .ok (.invokevirtual 46, 3) := by decide +kernel
theorem dX9_answer_8 : decode cX9_answer 8 = .ok (.iconst 1, 1) := by decide +kernel
theorem dX9_answer_9 : decode cX9_answer 9 = .ok (.isub, 1) := by decide +kernel
theorem dX9_answer_10 : decode cX9_answer 10 = .ok (.invokevirtual 58, 3) := by decide +kernel
theorem dX9_answer_13 : decode cX9_answer 13 = .ok (.areturn, 1) := by decide +kernel
theorem dX9_answerOffered_0 : decode cX9_answerOffered 0 = .ok (.aload_n 0, 1) := by decide +kernel
theorem dX9_answerOffered_1 : decode cX9_answerOffered 1 = .ok (.aload_n 0, 1) := by decide +kernel
theorem dX9_answerOffered_2 : decode cX9_answerOffered 2 = .ok (.getfield 39, 3) := by decide +kernel
theorem dX9_answerOffered_5 : decode cX9_answerOffered 5 = .ok (.invokevirtual 46, 3) := by decide +kernel
theorem dX9_answerOffered_8 : decode cX9_answerOffered 8 = .ok (.iconst 1, 1) := by decide +kernel
theorem dX9_answerOffered_9 : decode cX9_answerOffered 9 = .ok (.isub, 1) := by decide +kernel
theorem dX9_answerOffered_10 : decode cX9_answerOffered 10 = .ok (.invokevirtual 62, 3) := by decide +kernel
theorem dX9_answerOffered_13 : decode cX9_answerOffered 13 = .ok (.areturn, 1) := by decide +kernel
theorem dX9_offeredOf_0 : decode cX9_offeredOf 0 = .ok (.aload_n 0, 1) := by decide +kernel
theorem dX9_offeredOf_1 : decode cX9_offeredOf 1 = .ok (.iload_n 1, 1) := by decide +kernel
theorem dX9_offeredOf_2 : decode cX9_offeredOf 2 = .ok (.invokevirtual 65, 3) := by decide +kernel
theorem dX9_offeredOf_5 : decode cX9_offeredOf 5 = .ok (.ifCond .eq 12, 3) := by decide +kernel
theorem dX9_offeredOf_8 : decode cX9_offeredOf 8 = .ok (.aload_n 0, 1) := by decide +kernel
theorem dX9_offeredOf_9 : decode cX9_offeredOf 9 = .ok (.getfield 17, 3) := by decide +kernel
theorem dX9_offeredOf_12 : decode cX9_offeredOf 12 = .ok (.iload_n 1, 1) := by decide +kernel
theorem dX9_offeredOf_13 : decode cX9_offeredOf 13 = .ok (.aaload, 1) := by decide +kernel
theorem dX9_offeredOf_14 : decode cX9_offeredOf 14 = .ok (.goto 8, 3) := by decide +kernel
theorem dX9_offeredOf_17 : decode cX9_offeredOf 17 = .ok (.aload_n 0, 1) := by decide +kernel
theorem dX9_offeredOf_18 : decode cX9_offeredOf 18 = .ok (.iload_n 1, 1) := by decide +kernel
theorem dX9_offeredOf_19 : decode cX9_offeredOf 19 = .ok (.invokevirtual 58, 3) := by decide +kernel
theorem dX9_offeredOf_22 : decode cX9_offeredOf 22 = .ok (.areturn, 1) := by decide +kernel
theorem dX9_touches_0 : decode cX9_touches 0 = .ok (.aload_n 0, 1) := by decide +kernel
theorem dX9_touches_1 : decode cX9_touches 1 = .ok (.iload_n 1, 1) := by decide +kernel
theorem dX9_touches_2 : decode cX9_touches 2 = .ok (.invokevirtual 54, 3) := by decide +kernel
theorem dX9_touches_5 : decode cX9_touches 5 = .ok (.ifCond .eq 16, 3) := by decide +kernel
theorem dX9_touches_8 : decode cX9_touches 8 = .ok (.aload_n 0, 1) := by decide +kernel
theorem dX9_touches_9 : decode cX9_touches 9 = .ok (.getfield 24, 3) := by decide +kernel
theorem dX9_touches_12 : decode cX9_touches 12 = .ok (.iload_n 1, 1) := by decide +kernel
theorem dX9_touches_13 : decode cX9_touches 13 = .ok (.baload, 1) := by decide +kernel
theorem dX9_touches_14 : decode cX9_touches 14 = .ok (.ifCond .eq 7, 3) := by decide +kernel
theorem dX9_touches_17 : decode cX9_touches 17 = .ok (.iconst 1, 1) := by decide +kernel
theorem dX9_touches_18 : decode cX9_touches 18 = .ok (.goto 4, 3) := by decide +kernel
theorem dX9_touches_21 : decode cX9_touches 21 = .ok (.iconst 0, 1) := by decide +kernel
theorem dX9_touches_22 : decode cX9_touches 22 = .ok (.ireturn, 1) := by decide +kernel
theorem dX9_clear_0 : decode cX9_clear 0 = .ok (.iconst 0, 1) := by decide +kernel
theorem dX9_clear_1 : decode cX9_clear 1 = .ok (.istore_n 1, 1) := by decide +kernel
theorem dX9_clear_2 : decode cX9_clear 2 = .ok (.iload_n 1, 1) := by decide +kernel
theorem dX9_clear_3 : decode cX9_clear 3 = .ok (.bipush 12, 2) := by decide +kernel
theorem dX9_clear_5 : decode cX9_clear 5 = .ok (.if_icmp .ge 27, 3) := by decide +kernel
theorem dX9_clear_8 : decode cX9_clear 8 = .ok (.aload_n 0, 1) := by decide +kernel
theorem dX9_clear_9 : decode cX9_clear 9 = .ok (.getfield 11, 3) := by decide +kernel
theorem dX9_clear_12 : decode cX9_clear 12 = .ok (.iload_n 1, 1) := by decide +kernel
theorem dX9_clear_13 : decode cX9_clear 13 = .ok (.aaload, 1) := by decide +kernel
theorem dX9_clear_14 : decode cX9_clear 14 = .ok (.invokevirtual 68, 3) := by decide +kernel
theorem dX9_clear_17 : decode cX9_clear 17 = .ok (.aload_n 0, 1) := by decide +kernel
theorem dX9_clear_18 : decode cX9_clear 18 = .ok (.getfield 20, 3) := by decide +kernel
theorem dX9_clear_21 : decode cX9_clear 21 = .ok (.iload_n 1, 1) := by decide +kernel
theorem dX9_clear_22 : decode cX9_clear 22 = .ok (.aaload, 1) := by decide +kernel
theorem dX9_clear_23 : decode cX9_clear 23 = .ok (.invokevirtual 68, 3) := by decide +kernel
theorem dX9_clear_26 : decode cX9_clear 26 = .ok (.iinc 1 1, 3) := by decide +kernel
theorem dX9_clear_29 : decode cX9_clear 29 = .ok (.goto (-27), 3) := by decide +kernel
theorem dX9_clear_32 : decode cX9_clear 32 = .ok (.return_, 1) := by decide +kernel
theorem dX9_keep_0 : decode cX9_keep 0 = .ok (.iconst 0, 1) := by decide +kernel
theorem dX9_keep_1 : decode cX9_keep 1 = .ok (.istore_n 1, 1) := by decide +kernel
theorem dX9_keep_2 : decode cX9_keep 2 = .ok (.iload_n 1, 1) := by decide +kernel
theorem dX9_keep_3 : decode cX9_keep 3 = .ok (.aload_n 0, 1) := by decide +kernel
theorem dX9_keep_4 : decode cX9_keep 4 = .ok (.getfield 39, 3) := by decide +kernel
theorem dX9_keep_7 : decode cX9_keep 7 = .ok (.invokevirtual 46, 3) := by decide +kernel
theorem dX9_keep_10 : decode cX9_keep 10 = .ok (.if_icmp .ge 24, 3) := by decide +kernel
theorem dX9_keep_13 : decode cX9_keep 13 = .ok (.aload_n 0, 1) := by decide +kernel
theorem dX9_keep_14 : decode cX9_keep 14 = .ok (.getfield 20, 3) := by decide +kernel
theorem dX9_keep_17 : decode cX9_keep 17 = .ok (.iload_n 1, 1) := by decide +kernel
theorem dX9_keep_18 : decode cX9_keep 18 = .ok (.aaload, 1) := by decide +kernel
theorem dX9_keep_19 : decode cX9_keep 19 = .ok (.aload_n 0, 1) := by decide +kernel
theorem dX9_keep_20 : decode cX9_keep 20 = .ok (.getfield 11, 3) := by decide +kernel
theorem dX9_keep_23 : decode cX9_keep 23 = .ok (.iload_n 1, 1) := by decide +kernel
theorem dX9_keep_24 : decode cX9_keep 24 = .ok (.aaload, 1) := by decide +kernel
theorem dX9_keep_25 : decode cX9_keep 25 = .ok (.invokevirtual 71, 3) := by decide +kernel
theorem dX9_keep_28 : decode cX9_keep 28 = .ok (.iinc 1 1, 3) := by decide +kernel
theorem dX9_keep_31 : decode cX9_keep 31 = .ok (.goto (-29), 3) := by decide +kernel
theorem dX9_keep_34 : decode cX9_keep 34 = .ok (.return_, 1) := by decide +kernel
theorem dX9_restore_0 : decode cX9_restore 0 = .ok (.iconst 0, 1) := by decide +kernel
theorem dX9_restore_1 : decode cX9_restore 1 = .ok (.istore_n 1, 1) := by decide +kernel
theorem dX9_restore_2 : decode cX9_restore 2 = .ok (.iload_n 1, 1) := by decide +kernel
theorem dX9_restore_3 : decode cX9_restore 3 = .ok (.aload_n 0, 1) := by decide +kernel
theorem dX9_restore_4 : decode cX9_restore 4 = .ok (.getfield 39, 3) := by decide +kernel
theorem dX9_restore_7 : decode cX9_restore 7 = .ok (.invokevirtual 46, 3) := by decide +kernel
theorem dX9_restore_10 : decode cX9_restore 10 = .ok (.if_icmp .ge 24, 3) := by decide +kernel
theorem dX9_restore_13 : decode cX9_restore 13 = .ok (.aload_n 0, 1) := by decide +kernel
theorem dX9_restore_14 : decode cX9_restore 14 = .ok (.getfield 11, 3) := by decide +kernel
theorem dX9_restore_17 : decode cX9_restore 17 = .ok (.iload_n 1, 1) := by decide +kernel
theorem dX9_restore_18 : decode cX9_restore 18 = .ok (.aaload, 1) := by decide +kernel
theorem dX9_restore_19 : decode cX9_restore 19 = .ok (.aload_n 0, 1) := by decide +kernel
theorem dX9_restore_20 : decode cX9_restore 20 = .ok (.getfield 20, 3) := by decide +kernel
theorem dX9_restore_23 : decode cX9_restore 23 = .ok (.iload_n 1, 1) := by decide +kernel
theorem dX9_restore_24 : decode cX9_restore 24 = .ok (.aaload, 1) := by decide +kernel
theorem dX9_restore_25 : decode cX9_restore 25 = .ok (.invokevirtual 71, 3) := by decide +kernel
theorem dX9_restore_28 : decode cX9_restore 28 = .ok (.iinc 1 1, 3) := by decide +kernel
theorem dX9_restore_31 : decode cX9_restore 31 = .ok (.goto (-29), 3) := by decide +kernel
theorem dX9_restore_34 : decode cX9_restore 34 = .ok (.return_, 1) := by decide +kernel
theorem dX9_offer_0 : decode cX9_offer 0 = .ok (.iconst 0, 1) := by decide +kernel
theorem dX9_offer_1 : decode cX9_offer 1 = .ok (.istore 4, 2) := by decide +kernel
theorem dX9_offer_3 : decode cX9_offer 3 = .ok (.iload 4, 2) := by decide +kernel
theorem dX9_offer_5 : decode cX9_offer 5 = .ok (.aload_n 0, 1) := by decide +kernel
theorem dX9_offer_6 : decode cX9_offer 6 = .ok (.getfield 39, 3) := by decide +kernel
theorem dX9_offer_9 : decode cX9_offer 9 = .ok (.invokevirtual 46, 3) := by decide +kernel
theorem dX9_offer_12 : decode cX9_offer 12 = .ok (.if_icmp .ge 201, 3) := by decide +kernel
theorem dX9_offer_15 : decode cX9_offer 15 = .ok (.aload_n 0, 1) := by decide +kernel
theorem dX9_offer_16 : decode cX9_offer 16 = .ok (.getfield 39, 3) := by decide +kernel
theorem dX9_offer_19 : decode cX9_offer 19 = .ok (.iload 4, 2) := by decide +kernel
theorem dX9_offer_21 : decode cX9_offer 21 = .ok (.invokevirtual 75, 3) := by decide +kernel
theorem dX9_offer_24 : decode cX9_offer 24 = .ok (.astore 5, 2) := by decide +kernel
theorem dX9_offer_26 : decode cX9_offer 26 = .ok (.aload 5, 2) := by decide +kernel
theorem dX9_offer_28 : decode cX9_offer 28 = .ok (.getfield 79, 3) := by decide +kernel
theorem dX9_offer_31 : decode cX9_offer 31 = .ok (.ifCond .ne 7, 3) := by decide +kernel
theorem dX9_offer_34 : decode cX9_offer 34 = .ok (.iconst 1, 1) := by decide +kernel
theorem dX9_offer_35 : decode cX9_offer 35 = .ok (.goto 4, 3) := by decide +kernel
theorem dX9_offer_38 : decode cX9_offer 38 = .ok (.iconst 0, 1) := by decide +kernel
theorem dX9_offer_39 : decode cX9_offer 39 = .ok (.istore 6, 2) := by decide +kernel
theorem dX9_offer_41 : decode cX9_offer 41 = .ok (.aload_n 0, 1) := by decide +kernel
theorem dX9_offer_42 : decode cX9_offer 42 = .ok (.getfield 24, 3) := by decide +kernel
theorem dX9_offer_45 : decode cX9_offer 45 = .ok (.iload 4, 2) := by decide +kernel
theorem dX9_offer_47 : decode cX9_offer 47 = .ok (.iload 6, 2) := by decide +kernel
theorem dX9_offer_49 : decode cX9_offer 49 = .ok (.ifCond .eq 20, 3) := by decide +kernel
theorem dX9_offer_52 : decode cX9_offer 52 = .ok (.aload 5, 2) := by decide +kernel
theorem dX9_offer_54 : decode cX9_offer 54 = .ok (.getfield 85, 3) := by decide +kernel
theorem dX9_offer_57 : decode cX9_offer 57 = .ok (.iload_n 1, 1) := by decide +kernel
theorem dX9_offer_58 : decode cX9_offer 58 = .ok (.if_icmp .ne 7, 3) := by decide +kernel
theorem dX9_offer_61 : decode cX9_offer 61 = .ok (.iconst 1, 1) := by decide +kernel
theorem dX9_offer_62 : decode cX9_offer 62 = .ok (.goto 36, 3) := by decide +kernel
theorem dX9_offer_65 : decode cX9_offer 65 = .ok (.iconst 0, 1) := by decide +kernel
theorem dX9_offer_66 : decode cX9_offer 66 = .ok (.goto 32, 3) := by decide +kernel
theorem dX9_offer_69 : decode cX9_offer 69 = .ok (.aload_n 0, 1) := by decide +kernel
theorem dX9_offer_70 : decode cX9_offer 70 = .ok (.aload 5, 2) := by decide +kernel
theorem dX9_offer_72 : decode cX9_offer 72 = .ok (.getfield 88, 3) := by decide +kernel
theorem dX9_offer_75 : decode cX9_offer 75 = .ok (.invokevirtual 65, 3) := by decide +kernel
theorem dX9_offer_78 : decode cX9_offer 78 = .ok (.ifCond .ne 15, 3) := by decide +kernel
theorem dX9_offer_81 : decode cX9_offer 81 = .ok (.aload_n 0, 1) := by decide +kernel
theorem dX9_offer_82 : decode cX9_offer 82 = .ok (.aload 5, 2) := by decide +kernel
theorem dX9_offer_84 : decode cX9_offer 84 = .ok (.getfield 91, 3) := by decide +kernel
theorem dX9_offer_87 : decode cX9_offer 87 = .ok (.invokevirtual 65, 3) := by decide +kernel
theorem dX9_offer_90 : decode cX9_offer 90 = .ok (.ifCond .eq 7, 3) := by decide +kernel
theorem dX9_offer_93 : decode cX9_offer 93 = .ok (.iconst 1, 1) := by decide +kernel
theorem dX9_offer_94 : decode cX9_offer 94 = .ok (.goto 4, 3) := by decide +kernel
theorem dX9_offer_97 : decode cX9_offer 97 = .ok (.iconst 0, 1) := by decide +kernel
theorem dX9_offer_98 : decode cX9_offer 98 = .ok (.bastore, 1) := by decide +kernel
theorem dX9_offer_99 : decode cX9_offer 99 = .ok (.aload_n 0, 1) := by decide +kernel
theorem dX9_offer_100 : decode cX9_offer 100 = .ok (.getfield 24, 3) := by decide +kernel
theorem dX9_offer_103 : decode cX9_offer 103 = .ok (.iload 4, 2) := by decide +kernel
theorem dX9_offer_105 : decode cX9_offer 105 = .ok (.baload, 1) := by decide +kernel
theorem dX9_offer_106 : decode cX9_offer 106 = .ok (.ifCond .ne 6, 3) := by decide +kernel
theorem dX9_offer_109 : decode cX9_offer 109 = .ok (.goto 98, 3) := by decide +kernel
theorem dX9_offer_112 : decode cX9_offer 112 = .ok (.iload 6, 2) := by decide +kernel
theorem dX9_offer_114 : decode cX9_offer 114 = .ok (.ifCond .eq 34, 3) := by decide +kernel
theorem dX9_offer_117 : decode cX9_offer 117 = .ok (.aload_n 0, 1) := by decide +kernel
theorem dX9_offer_118 : decode cX9_offer 118 = .ok (.getfield 17, 3) := by decide +kernel
theorem dX9_offer_121 : decode cX9_offer 121 = .ok (.iload 4, 2) := by decide +kernel
theorem dX9_offer_123 : decode cX9_offer 123 = .ok (.aaload, 1) := by decide +kernel
theorem dX9_offer_124 : decode cX9_offer 124 = .ok (.aload_n 0, 1) := by decide +kernel
theorem dX9_offer_125 : decode cX9_offer 125 = .ok (.getfield 11, 3) := by decide +kernel
theorem dX9_offer_128 : decode cX9_offer 128 = .ok (.iload 4, 2) := by decide +kernel
theorem dX9_offer_130 : decode cX9_offer 130 = .ok (.aaload, 1) := by decide +kernel
theorem dX9_offer_131 : decode cX9_offer 131 = .ok (.invokevirtual 71, 3) := by decide +kernel
theorem dX9_offer_134 : decode cX9_offer 134 = .ok (.aload_n 0, 1) := by decide +kernel
theorem dX9_offer_135 : decode cX9_offer 135 = .ok (.getfield 17, 3) := by decide +kernel
theorem dX9_offer_138 : decode cX9_offer 138 = .ok (.iload 4, 2) := by decide +kernel
theorem dX9_offer_140 : decode cX9_offer 140 = .ok (.aaload, 1) := by decide +kernel
theorem dX9_offer_141 : decode cX9_offer 141 = .ok (.lload_n 2, 1) := by decide +kernel
theorem dX9_offer_142 : decode cX9_offer 142 = .ok (.invokevirtual 94, 3) := by decide +kernel
theorem dX9_offer_145 : decode cX9_offer 145 = .ok (.goto 33, 3) := by decide +kernel
theorem dX9_offer_148 : decode cX9_offer 148 = .ok (.aload 5, 2) := by decide +kernel
theorem dX9_offer_150 : decode cX9_offer 150 = .ok (.aload_n 0, 1) := by decide +kernel
theorem dX9_offer_151 : decode cX9_offer 151 = .ok (.aload 5, 2) := by decide +kernel
theorem dX9_offer_153 : decode cX9_offer 153 = .ok (.getfield 88, 3) := by decide +kernel
theorem dX9_offer_156 : decode cX9_offer 156 = .ok (.invokevirtual 62, 3) := by decide +kernel
theorem dX9_offer_159 : decode cX9_offer 159 = .ok (.aload_n 0, 1) := by decide +kernel
theorem dX9_offer_160 : decode cX9_offer 160 = .ok (.aload 5, 2) := by decide +kernel
theorem dX9_offer_162 : decode cX9_offer 162 = .ok (.getfield 91, 3) := by decide +kernel
theorem dX9_offer_165 : decode cX9_offer 165 = .ok (.invokevirtual 62, 3) := by decide +kernel
theorem dX9_offer_168 : decode cX9_offer 168 = .ok (.aload_n 0, 1) := by decide +kernel
theorem dX9_offer_169 : decode cX9_offer 169 = .ok (.getfield 17, 3) := by decide +kernel
theorem dX9_offer_172 : decode cX9_offer 172 = .ok (.iload 4, 2) := by decide +kernel
theorem dX9_offer_174 : decode cX9_offer 174 = .ok (.aaload, 1) := by decide +kernel
theorem dX9_offer_175 : decode cX9_offer 175 = .ok (.invokevirtual 98, 3) := by decide +kernel
theorem dX9_offer_178 : decode cX9_offer 178 = .ok (.aload_n 0, 1) := by decide +kernel
theorem dX9_offer_179 : decode cX9_offer 179 = .ok (.getfield 17, 3) := by decide +kernel
theorem dX9_offer_182 : decode cX9_offer 182 = .ok (.iload 4, 2) := by decide +kernel
theorem dX9_offer_184 : decode cX9_offer 184 = .ok (.aaload, 1) := by decide +kernel
theorem dX9_offer_185 : decode cX9_offer 185 = .ok (.invokevirtual 102, 3) := by decide +kernel
theorem dX9_offer_188 : decode cX9_offer 188 = .ok (.ifCond .eq 5, 3) := by decide +kernel
theorem dX9_offer_191 : decode cX9_offer 191 = .ok (.iconst 0, 1) := by decide +kernel
theorem dX9_offer_192 : decode cX9_offer 192 = .ok (.ireturn, 1) := by decide +kernel
theorem dX9_offer_193 : decode cX9_offer 193 = .ok (.aload_n 0, 1) := by decide +kernel
theorem dX9_offer_194 : decode cX9_offer 194 = .ok (.getfield 17, 3) := by decide +kernel
theorem dX9_offer_197 : decode cX9_offer 197 = .ok (.iload 4, 2) := by decide +kernel
theorem dX9_offer_199 : decode cX9_offer 199 = .ok (.aaload, 1) := by decide +kernel
theorem dX9_offer_200 : decode cX9_offer 200 = .ok (.aload_n 0, 1) := by decide +kernel
theorem dX9_offer_201 : decode cX9_offer 201 = .ok (.getfield 32, 3) := by decide +kernel
theorem dX9_offer_204 : decode cX9_offer 204 = .ok (.invokevirtual 106, 3) := by decide +kernel
theorem dX9_offer_207 : decode cX9_offer 207 = .ok (.iinc 4 1, 3) := by decide +kernel
theorem dX9_offer_210 : decode cX9_offer 210 = .ok (.goto (-207), 3) := by decide +kernel
theorem dX9_offer_213 : decode cX9_offer 213 = .ok (.iconst 1, 1) := by decide +kernel
theorem dX9_offer_214 : decode cX9_offer 214 = .ok (.ireturn, 1) := by decide +kernel
theorem dX9_acceptOffer_0 : decode cX9_acceptOffer 0 = .ok (.iconst 0, 1) := by decide +kernel
theorem dX9_acceptOffer_1 : decode cX9_acceptOffer 1 = .ok (.istore_n 1, 1) := by decide +kernel
theorem dX9_acceptOffer_2 : decode cX9_acceptOffer 2 = .ok (.iload_n 1, 1) := by decide +kernel
theorem dX9_acceptOffer_3 : decode cX9_acceptOffer 3 = .ok (.aload_n 0, 1) := by decide +kernel
theorem dX9_acceptOffer_4 : decode cX9_acceptOffer 4 = .ok (.getfield 39, 3) := by decide +kernel
theorem dX9_acceptOffer_7 : decode cX9_acceptOffer 7 = .ok (.invokevirtual 46, 3) := by decide +kernel
theorem dX9_acceptOffer_10 : decode cX9_acceptOffer 10 = .ok (.if_icmp .ge 44, 3) := by decide +kernel
theorem dX9_acceptOffer_13 : decode cX9_acceptOffer 13 = .ok (.aload_n 0, 1) := by decide +kernel
theorem dX9_acceptOffer_14 : decode cX9_acceptOffer 14 = .ok (.getfield 24, 3) := by decide +kernel
theorem dX9_acceptOffer_17 : decode cX9_acceptOffer 17 = .ok (.iload_n 1, 1) := by decide +kernel
theorem dX9_acceptOffer_18 : decode cX9_acceptOffer 18 = .ok (.baload, 1) := by decide +kernel
theorem dX9_acceptOffer_19 : decode cX9_acceptOffer 19 = .ok (.ifCond .eq 29, 3) := by decide +kernel
theorem dX9_acceptOffer_22 : decode cX9_acceptOffer 22 = .ok (.aload_n 0, 1) := by decide +kernel
theorem dX9_acceptOffer_23 : decode cX9_acceptOffer 23 = .ok (.getfield 11, 3) := by decide +kernel
theorem dX9_acceptOffer_26 : decode cX9_acceptOffer 26 = .ok (.iload_n 1, 1) := by decide +kernel
theorem dX9_acceptOffer_27 : decode cX9_acceptOffer 27 = .ok (.aaload, 1) := by decide +kernel
theorem dX9_acceptOffer_28 : decode cX9_acceptOffer 28 = .ok (.astore_n 2, 1) := by decide +kernel
theorem dX9_acceptOffer_29 : decode cX9_acceptOffer 29 = .ok (.aload_n 0, 1) := by decide +kernel
theorem dX9_acceptOffer_30 : decode cX9_acceptOffer 30 = .ok (.getfield 11, 3) := by decide +kernel
theorem dX9_acceptOffer_33 : decode cX9_acceptOffer 33 = .ok (.iload_n 1, 1) := by decide +kernel
theorem dX9_acceptOffer_34 : decode cX9_acceptOffer 34 = .ok (.aload_n 0, 1) := by decide +kernel
theorem dX9_acceptOffer_35 : decode cX9_acceptOffer 35 = .ok (.getfield 17, 3) := by decide +kernel
theorem dX9_acceptOffer_38 : decode cX9_acceptOffer 38 = .ok (.iload_n 1, 1) := by decide +kernel
theorem dX9_acceptOffer_39 : decode cX9_acceptOffer 39 = .ok (.aaload, 1) := by decide +kernel
theorem dX9_acceptOffer_40 : decode cX9_acceptOffer 40 = .ok (.aastore, 1) := by decide +kernel
theorem dX9_acceptOffer_41 : decode cX9_acceptOffer 41 = .ok (.aload_n 0, 1) := by decide +kernel
theorem dX9_acceptOffer_42 : decode cX9_acceptOffer 42 = .ok (.getfield 17, 3) := by decide +kernel
theorem dX9_acceptOffer_45 : decode cX9_acceptOffer 45 = .ok (.iload_n 1, 1) := by decide +kernel
theorem dX9_acceptOffer_46 : decode cX9_acceptOffer 46 = .ok (.aload_n 2, 1) := by decide +kernel
theorem dX9_acceptOffer_47 : decode cX9_acceptOffer 47 = .ok (.aastore, 1) := by decide +kernel
theorem dX9_acceptOffer_48 : decode cX9_acceptOffer 48 = .ok (.iinc 1 1, 3) := by decide +kernel
theorem dX9_acceptOffer_51 : decode cX9_acceptOffer 51 = .ok (.goto (-49), 3) := by decide +kernel
theorem dX9_acceptOffer_54 : decode cX9_acceptOffer 54 = .ok (.return_, 1) := by decide +kernel
theorem dX9_countOfKeys_0 : decode cX9_countOfKeys 0 = .ok (.iconst 0, 1) := by decide +kernel
theorem dX9_countOfKeys_1 : decode cX9_countOfKeys 1 = .ok (.istore_n 2, 1) := by decide +kernel
theorem dX9_countOfKeys_2 : decode cX9_countOfKeys 2 = .ok (.iconst 0, 1) := by decide +kernel
theorem dX9_countOfKeys_3 : decode cX9_countOfKeys 3 = .ok (.istore_n 3, 1) := by decide +kernel
theorem dX9_countOfKeys_4 : decode cX9_countOfKeys 4 = .ok (.iload_n 3, 1) := by decide +kernel
theorem dX9_countOfKeys_5 : decode cX9_countOfKeys 5 = .ok (.aload_n 0, 1) := by decide +kernel
theorem dX9_countOfKeys_6 : decode cX9_countOfKeys 6 = .ok (.getfield 39, 3) := by decide +kernel
theorem dX9_countOfKeys_9 : decode cX9_countOfKeys 9 = .ok (.invokevirtual 46, 3) := by decide +kernel
theorem dX9_countOfKeys_12 : decode cX9_countOfKeys 12 = .ok (.if_icmp .ge 22, 3) := by decide +kernel
theorem dX9_countOfKeys_15 : decode cX9_countOfKeys 15 = .ok (.iload_n 2, 1) := by decide +kernel
theorem dX9_countOfKeys_16 : decode cX9_countOfKeys 16 = .ok (.aload_n 0, 1) := by decide +kernel
theorem dX9_countOfKeys_17 : decode cX9_countOfKeys 17 = .ok (.getfield 11, 3) := by decide +kernel
theorem dX9_countOfKeys_20 : decode cX9_countOfKeys 20 = .ok (.iload_n 3, 1) := by decide +kernel
theorem dX9_countOfKeys_21 : decode cX9_countOfKeys 21 = .ok (.aaload, 1) := by decide +kernel
theorem dX9_countOfKeys_22 : decode cX9_countOfKeys 22 = .ok (.iload_n 1, 1) := by decide +kernel
theorem dX9_countOfKeys_23 : decode cX9_countOfKeys 23 = .ok (.invokevirtual 110, 3) := by decide +kernel
theorem dX9_countOfKeys_26 : decode cX9_countOfKeys 26 = .ok (.iadd, 1) := by decide +kernel
theorem dX9_countOfKeys_27 : decode cX9_countOfKeys 27 = .ok (.istore_n 2, 1) := by decide +kernel
theorem dX9_countOfKeys_28 : decode cX9_countOfKeys 28 = .ok (.iinc 3 1, 3) := by decide +kernel
theorem dX9_countOfKeys_31 : decode cX9_countOfKeys 31 = .ok (.goto (-27), 3) := by decide +kernel
theorem dX9_countOfKeys_34 : decode cX9_countOfKeys 34 = .ok (.iload_n 2, 1) := by decide +kernel
theorem dX9_countOfKeys_35 : decode cX9_countOfKeys 35 = .ok (.ireturn, 1) := by decide +kernel
theorem dX10_init_0 : decode cX10_init 0 = .ok (.aload_n 0, 1) := by decide +kernel
theorem dX10_init_1 : decode cX10_init 1 = .ok (.invokespecial 3, 3) := by decide +kernel
theorem dX10_init_4 : decode cX10_init 4 = .ok (.aload_n 0, 1) := by decide +kernel
theorem dX10_init_5 : decode cX10_init 5 = .ok (.sipush 300, 3) := by decide +kernel
theorem dX10_init_8 : decode cX10_init 8 = .ok (.newarray .char, 2) := by decide +kernel
theorem dX10_init_10 : decode cX10_init 10 = .ok (.putfield 9, 3) := by decide +kernel
theorem dX10_init_13 : decode cX10_init 13 = .ok (.return_, 1) := by decide +kernel
theorem dX10_length_0 : decode cX10_length 0 = .ok (.aload_n 0, 1) := by decide +kernel
theorem dX10_length_1 : decode cX10_length 1 = .ok (.getfield 15, 3) := by decide +kernel
theorem dX10_length_4 : decode cX10_length 4 = .ok (.ireturn, 1) := by decide +kernel
theorem dX10_hasRoomFor_0 : decode cX10_hasRoomFor 0 = .ok (.aload_n 0, 1) := by decide +kernel
theorem dX10_hasRoomFor_1 : decode cX10_hasRoomFor 1 = .ok (.getfield 15, 3) := by decide +kernel
theorem dX10_hasRoomFor_4 : decode cX10_hasRoomFor 4 = .ok (.iload_n 1, 1) := by decide +kernel
theorem dX10_hasRoomFor_5 : decode cX10_hasRoomFor 5 = .ok (.iadd, 1) := by decide +kernel
theorem dX10_hasRoomFor_6 : decode cX10_hasRoomFor 6 = .ok (.sipush 300, 3) := by decide +kernel
theorem dX10_hasRoomFor_9 : decode cX10_hasRoomFor 9 = .ok (.if_icmp .gt 7, 3) := by decide +kernel
theorem dX10_hasRoomFor_12 : decode cX10_hasRoomFor 12 = .ok (.iconst 1, 1) := by decide +kernel
theorem dX10_hasRoomFor_13 : decode cX10_hasRoomFor 13 = .ok (.goto 4, 3) := by decide +kernel
theorem dX10_hasRoomFor_16 : decode cX10_hasRoomFor 16 = .ok (.iconst 0, 1) := by decide +kernel
theorem dX10_hasRoomFor_17 : decode cX10_hasRoomFor 17 = .ok (.ireturn, 1) := by decide +kernel
theorem dX10_addNumber_0 : decode cX10_addNumber 0 = .ok (.bipush 24, 2) := by decide +kernel
theorem dX10_addNumber_2 : decode cX10_addNumber 2 = .ok (.istore_n 2, 1) := by decide +kernel
theorem dX10_addNumber_3 : decode cX10_addNumber 3 = .ok (.iload_n 2, 1) := by decide +kernel
theorem dX10_addNumber_4 : decode cX10_addNumber 4 = .ok (.ifCond .lt 46, 3) := by decide +kernel
theorem dX10_addNumber_7 : decode cX10_addNumber 7 = .ok (.aload_n 0, 1) := by decide +kernel
theorem dX10_addNumber_8 : decode cX10_addNumber 8 = .ok (.getfield 15, 3) := by decide +kernel
theorem dX10_addNumber_11 : decode cX10_addNumber 11 = .ok (.sipush 300, 3) := by decide +kernel
theorem dX10_addNumber_14 : decode cX10_addNumber 14 = .ok (.if_icmp .ge 36, 3) := by decide +kernel
theorem dX10_addNumber_17 : decode cX10_addNumber 17 = .ok (.aload_n 0, 1) := by decide +kernel
theorem dX10_addNumber_18 : decode cX10_addNumber 18 = .ok (.getfield 9, 3) := by decide +kernel
theorem dX10_addNumber_21 : decode cX10_addNumber 21 = .ok (.aload_n 0, 1) := by decide +kernel
theorem dX10_addNumber_22 : decode cX10_addNumber 22 = .ok (.getfield 15, 3) := by decide +kernel
theorem dX10_addNumber_25 : decode cX10_addNumber 25 = .ok (.iload_n 1, 1) := by decide +kernel
theorem dX10_addNumber_26 : decode cX10_addNumber 26 = .ok (.iload_n 2, 1) := by decide +kernel
theorem dX10_addNumber_27 : decode cX10_addNumber 27 = .ok (.iushr, 1) := by decide +kernel
theorem dX10_addNumber_28 : decode cX10_addNumber 28 = .ok (.sipush 255, 3) := by decide +kernel
theorem dX10_addNumber_31 : decode cX10_addNumber 31 = .ok (.iand, 1) := by decide +kernel
theorem dX10_addNumber_32 : decode cX10_addNumber 32 = .ok (.i2c, 1) := by decide +kernel
theorem dX10_addNumber_33 : decode cX10_addNumber 33 = .ok (.castore, 1) := by decide +kernel
theorem dX10_addNumber_34 : decode cX10_addNumber 34 = .ok (.aload_n 0, 1) := by decide +kernel
theorem dX10_addNumber_35 : decode cX10_addNumber 35 = .ok (.dup, 1) := by decide +kernel
theorem dX10_addNumber_36 : decode cX10_addNumber 36 = .ok (.getfield 15, 3) := by decide +kernel
theorem dX10_addNumber_39 : decode cX10_addNumber 39 = .ok (.iconst 1, 1) := by decide +kernel
theorem dX10_addNumber_40 : decode cX10_addNumber 40 = .ok (.iadd, 1) := by decide +kernel
theorem dX10_addNumber_41 : decode cX10_addNumber 41 = .ok (.putfield 15, 3) := by decide +kernel
theorem dX10_addNumber_44 : decode cX10_addNumber 44 = .ok (.iinc 2 (-8), 3) := by decide +kernel
theorem dX10_addNumber_47 : decode cX10_addNumber 47 = .ok (.goto (-44), 3) := by decide +kernel
theorem dX10_addNumber_50 : decode cX10_addNumber 50 = .ok (.return_, 1) := by decide +kernel
theorem dX10_cut_0 : decode cX10_cut 0 = .ok (.aload_n 0, 1) := by decide +kernel
theorem dX10_cut_1 : decode cX10_cut 1 = .ok (.iconst 0, 1) := by decide +kernel
theorem dX10_cut_2 : decode cX10_cut 2 = .ok (.iload_n 1, 1) := by decide +kernel
theorem dX10_cut_3 : decode cX10_cut 3 = .ok (.aload_n 0, 1) := by decide +kernel
theorem dX10_cut_4 : decode cX10_cut 4 = .ok (.getfield 15, 3) := by decide +kernel
theorem dX10_cut_7 : decode cX10_cut 7 = .ok (.invokestatic 19, 3) := by decide +kernel
theorem dX10_cut_10 : decode cX10_cut 10 = .ok (.invokestatic 25, 3) := by decide +kernel
theorem dX10_cut_13 : decode cX10_cut 13 = .ok (.putfield 15, 3) := by decide +kernel
theorem dX10_cut_16 : decode cX10_cut 16 = .ok (.return_, 1) := by decide +kernel
theorem dX10_toFirstToken_0 : decode cX10_toFirstToken 0 = .ok (.aload_n 0, 1) := by decide +kernel
theorem dX10_toFirstToken_1 : decode cX10_toFirstToken 1 = .ok (.iconst 0, 1) := by decide +kernel
theorem dX10_toFirstToken_2 : decode cX10_toFirstToken 2 = .ok (.putfield 28, 3) := by decide +kernel
theorem dX10_toFirstToken_5 : decode cX10_toFirstToken 5 = .ok (.aload_n 0, 1) := by decide +kernel
theorem dX10_toFirstToken_6 : decode cX10_toFirstToken 6 = .ok (.invokevirtual 31, 3) := by decide +kernel
theorem dX10_toFirstToken_9 : decode cX10_toFirstToken 9 = .ok (.return_, 1) := by decide +kernel
theorem dX10_toNextToken_0 : decode cX10_toNextToken 0 = .ok (.aload_n 0, 1) := by decide +kernel
theorem dX10_toNextToken_1 : decode cX10_toNextToken 1 = .ok (.aload_n 0, 1) := by decide +kernel
theorem dX10_toNextToken_2 : decode cX10_toNextToken 2 = .ok (.getfield 28, 3) := by decide +kernel
theorem dX10_toNextToken_5 : decode cX10_toNextToken 5 = .ok (.putfield 34, 3) := by decide +kernel
theorem dX10_toNextToken_8 : decode cX10_toNextToken 8 = .ok (.aload_n 0, 1) := by decide +kernel
theorem dX10_toNextToken_9 : decode cX10_toNextToken 9 = .ok (.getfield 34, 3) := by decide +kernel
theorem dX10_toNextToken_12 : decode cX10_toNextToken 12 = .ok (.aload_n 0, 1) := by decide +kernel
theorem dX10_toNextToken_13 : decode cX10_toNextToken 13 = .ok (.getfield 15, 3) := by decide +kernel
theorem dX10_toNextToken_16 : decode cX10_toNextToken 16 = .ok (.if_icmp .ge 30, 3) := by decide +kernel
theorem dX10_toNextToken_19 : decode cX10_toNextToken 19 = .ok (.aload_n 0, 1) := by decide +kernel
theorem dX10_toNextToken_20 : decode cX10_toNextToken 20 = .ok (.getfield 9, 3) := by decide +kernel
theorem dX10_toNextToken_23 : decode cX10_toNextToken 23 = .ok (.aload_n 0, 1) := by decide +kernel
theorem dX10_toNextToken_24 : decode cX10_toNextToken 24 = .ok (.getfield 34, 3) := by decide +kernel
theorem dX10_toNextToken_27 : decode cX10_toNextToken 27 = .ok (.caload, 1) := by decide +kernel
theorem dX10_toNextToken_28 : decode cX10_toNextToken 28 = .ok (.bipush 32, 2) := by decide +kernel
theorem dX10_toNextToken_30 : decode cX10_toNextToken 30 = .ok (.if_icmp .ne 16, 3) := by decide +kernel
theorem dX10_toNextToken_33 : decode cX10_toNextToken 33 = .ok (.aload_n 0, 1) := by decide +kernel
theorem dX10_toNextToken_34 : decode cX10_toNextToken 34 = .ok (.dup, 1) := by decide +kernel
theorem dX10_toNextToken_35 : decode cX10_toNextToken 35 = .ok (.getfield 34, 3) := by decide +kernel
theorem dX10_toNextToken_38 : decode cX10_toNextToken 38 = .ok (.iconst 1, 1) := by decide +kernel
theorem dX10_toNextToken_39 : decode cX10_toNextToken 39 = .ok (.iadd, 1) := by decide +kernel
theorem dX10_toNextToken_40 : decode cX10_toNextToken 40 = .ok (.putfield 34, 3) := by decide +kernel
theorem dX10_toNextToken_43 : decode cX10_toNextToken 43 = .ok (.goto (-35), 3) := by decide +kernel
theorem dX10_toNextToken_46 : decode cX10_toNextToken 46 = .ok (.aload_n 0, 1) := by decide +kernel
theorem dX10_toNextToken_47 : decode cX10_toNextToken 47 = .ok (.aload_n 0, 1) := by decide +kernel
theorem dX10_toNextToken_48 : decode cX10_toNextToken 48 = .ok (.getfield 34, 3) := by decide +kernel
theorem dX10_toNextToken_51 : decode cX10_toNextToken 51 = .ok (.iconst 1, 1) := by decide +kernel
theorem dX10_toNextToken_52 : decode cX10_toNextToken 52 = .ok (.iadd, 1) := by decide +kernel
theorem dX10_toNextToken_53 : decode cX10_toNextToken 53 = .ok (.aload_n 0, 1) := by decide +kernel
theorem dX10_toNextToken_54 : decode cX10_toNextToken 54 = .ok (.getfield 15, 3) := by decide +kernel
theorem dX10_toNextToken_57 : decode cX10_toNextToken 57 = .ok (.invokestatic 19, 3) := by decide +kernel
theorem dX10_toNextToken_60 : decode cX10_toNextToken 60 = .ok (.putfield 28, 3) := by decide +kernel
theorem dX10_toNextToken_63 : decode cX10_toNextToken 63 = .ok (.aload_n 0, 1) := by decide +kernel
theorem dX10_toNextToken_64 : decode cX10_toNextToken 64 = .ok (.aload_n 0, 1) := by decide +kernel
theorem dX10_toNextToken_65 : decode cX10_toNextToken 65 = .ok (.getfield 34, 3) := by decide +kernel
theorem dX10_toNextToken_68 : decode cX10_toNextToken 68 = .ok (.invokevirtual 37, 3) := by decide +kernel
theorem dX10_toNextToken_71 : decode cX10_toNextToken 71 = .ok (.ifCond .eq 38, 3) := by decide +kernel
theorem dX10_toNextToken_74 : decode cX10_toNextToken 74 = .ok (.aload_n 0, 1) := by decide +kernel
theorem dX10_toNextToken_75 : decode cX10_toNextToken 75 = .ok (.getfield 28, 3) := by decide +kernel
theorem dX10_toNextToken_78 : decode cX10_toNextToken 78 = .ok (.aload_n 0, 1) := by decide +kernel
theorem dX10_toNextToken_79 : decode cX10_toNextToken 79 = .ok (.getfield 15, 3) := by decide +kernel
theorem dX10_toNextToken_82 : decode cX10_toNextToken 82 = .ok (.if_icmp .ge 73, 3) := by decide +kernel
theorem dX10_toNextToken_85 : decode cX10_toNextToken 85 = .ok (.aload_n 0, 1) := by decide +kernel
theorem dX10_toNextToken_86 : decode cX10_toNextToken 86 = .ok (.aload_n 0, 1) := by decide +kernel
theorem dX10_toNextToken_87 : decode cX10_toNextToken 87 = .ok (.getfield 28, 3) := by decide +kernel
theorem dX10_toNextToken_90 : decode cX10_toNextToken 90 = .ok (.invokevirtual 37, 3) := by decide +kernel
theorem dX10_toNextToken_93 : decode cX10_toNextToken 93 = .ok (.ifCond .eq 62, 3) := by decide +kernel
theorem dX10_toNextToken_96 : decode cX10_toNextToken 96 = .ok (.aload_n 0, 1) := by decide +kernel
theorem dX10_toNextToken_97 : decode cX10_toNextToken 97 = .ok (.dup, 1) := by decide +kernel
theorem dX10_toNextToken_98 : decode cX10_toNextToken 98 = .ok (.getfield 28, 3) := by decide +kernel
theorem dX10_toNextToken_101 : decode cX10_toNextToken 101 = .ok (.iconst 1, 1) := by decide +kernel
theorem dX10_toNextToken_102 : decode cX10_toNextToken 102 = .ok (.iadd, 1) := by decide +kernel
theorem dX10_toNextToken_103 : decode cX10_toNextToken 103 = .ok (.putfield 28, 3) := by decide +kernel
theorem dX10_toNextToken_106 : decode cX10_toNextToken 106 = .ok (.goto (-32), 3) := by decide +kernel
theorem dX10_toNextToken_109 : decode cX10_toNextToken 109 = .ok (.aload_n 0, 1) := by decide +kernel
theorem dX10_toNextToken_110 : decode cX10_toNextToken 110 = .ok (.aload_n 0, 1) := by decide +kernel
theorem dX10_toNextToken_111 : decode cX10_toNextToken 111 = .ok (.getfield 34, 3) := by decide +kernel
theorem dX10_toNextToken_114 : decode cX10_toNextToken 114 = .ok (.invokevirtual 41, 3) := by decide +kernel
theorem dX10_toNextToken_117 : decode cX10_toNextToken 117 = .ok (.ifCond .eq 38, 3) := by decide +kernel
theorem dX10_toNextToken_120 : decode cX10_toNextToken 120 = .ok (.aload_n 0, 1) := by decide +kernel
theorem dX10_toNextToken_121 : decode cX10_toNextToken 121 = .ok (.getfield 28, 3) := by decide +kernel
theorem dX10_toNextToken_124 : decode cX10_toNextToken 124 = .ok (.aload_n 0, 1) := by decide +kernel
theorem dX10_toNextToken_125 : decode cX10_toNextToken 125 = .ok (.getfield 15, 3) := by decide +kernel
theorem dX10_toNextToken_128 : decode cX10_toNextToken 128 = .ok (.if_icmp .ge 27, 3) := by decide +kernel
theorem dX10_toNextToken_131 : decode cX10_toNextToken 131 = .ok (.aload_n 0, 1) := by decide +kernel
theorem dX10_toNextToken_132 : decode cX10_toNextToken 132 = .ok (.aload_n 0, 1) := by decide +kernel
theorem dX10_toNextToken_133 : decode cX10_toNextToken 133 = .ok (.getfield 28, 3) := by decide +kernel
theorem dX10_toNextToken_136 : decode cX10_toNextToken 136 = .ok (.invokevirtual 41, 3) := by decide +kernel
theorem dX10_toNextToken_139 : decode cX10_toNextToken 139 = .ok (.ifCond .eq 16, 3) := by decide +kernel
theorem dX10_toNextToken_142 : decode cX10_toNextToken 142 = .ok (.aload_n 0, 1) := by decide +kernel
theorem dX10_toNextToken_143 : decode cX10_toNextToken 143 = .ok (.dup, 1) := by decide +kernel
theorem dX10_toNextToken_144 : decode cX10_toNextToken 144 = .ok (.getfield 28, 3) := by decide +kernel
theorem dX10_toNextToken_147 : decode cX10_toNextToken 147 = .ok (.iconst 1, 1) := by decide +kernel
theorem dX10_toNextToken_148 : decode cX10_toNextToken 148 = .ok (.iadd, 1) := by decide +kernel
theorem dX10_toNextToken_149 : decode cX10_toNextToken 149 = .ok (.putfield 28, 3) := by decide +kernel
theorem dX10_toNextToken_152 : decode cX10_toNextToken 152 = .ok (.goto (-32), 3) := by decide +kernel
theorem dX10_toNextToken_155 : decode cX10_toNextToken 155 = .ok (.return_, 1) := by decide +kernel
theorem dX10_isLetter_0 : decode cX10_isLetter 0 = .ok (.iload_n 1, 1) := by decide +kernel
theorem dX10_isLetter_1 : decode cX10_isLetter 1 = .ok (.aload_n 0, 1) := by decide +kernel
theorem dX10_isLetter_2 : decode cX10_isLetter 2 = .ok (.getfield 15, 3) := by decide +kernel
theorem dX10_isLetter_5 : decode cX10_isLetter 5 = .ok (.if_icmp .ge 29, 3) := by decide +kernel
theorem dX10_isLetter_8 : decode cX10_isLetter 8 = .ok (.aload_n 0, 1) := by decide +kernel
theorem dX10_isLetter_9 : decode cX10_isLetter 9 = .ok (.getfield 9, 3) := by decide +kernel
theorem dX10_isLetter_12 : decode cX10_isLetter 12 = .ok (.iload_n 1, 1) := by decide +kernel
theorem dX10_isLetter_13 : decode cX10_isLetter 13 = .ok (.caload, 1) := by decide +kernel
theorem dX10_isLetter_14 : decode cX10_isLetter 14 = .ok (.bipush 97, 2) := by decide +kernel
theorem dX10_isLetter_16 : decode cX10_isLetter 16 = .ok (.if_icmp .lt 18, 3) := by decide +kernel
theorem dX10_isLetter_19 : decode cX10_isLetter 19 = .ok (.aload_n 0, 1) := by decide +kernel
theorem dX10_isLetter_20 : decode cX10_isLetter 20 = .ok (.getfield 9, 3) := by decide +kernel
theorem dX10_isLetter_23 : decode cX10_isLetter 23 = .ok (.iload_n 1, 1) := by decide +kernel
theorem dX10_isLetter_24 : decode cX10_isLetter 24 = .ok (.caload, 1) := by decide +kernel
theorem dX10_isLetter_25 : decode cX10_isLetter 25 = .ok (.bipush 122, 2) := by decide +kernel
theorem dX10_isLetter_27 : decode cX10_isLetter 27 = .ok (.if_icmp .gt 7, 3) := by decide +kernel
theorem dX10_isLetter_30 : decode cX10_isLetter 30 = .ok (.iconst 1, 1) := by decide +kernel
theorem dX10_isLetter_31 : decode cX10_isLetter 31 = .ok (.goto 4, 3) := by decide +kernel
theorem dX10_isLetter_34 : decode cX10_isLetter 34 = .ok (.iconst 0, 1) := by decide +kernel
theorem dX10_isLetter_35 : decode cX10_isLetter 35 = .ok (.ireturn, 1) := by decide +kernel
theorem dX10_isDigit_0 : decode cX10_isDigit 0 = .ok (.iload_n 1, 1) := by decide +kernel
theorem dX10_isDigit_1 : decode cX10_isDigit 1 = .ok (.aload_n 0, 1) := by decide +kernel
theorem dX10_isDigit_2 : decode cX10_isDigit 2 = .ok (.getfield 15, 3) := by decide +kernel
theorem dX10_isDigit_5 : decode cX10_isDigit 5 = .ok (.if_icmp .ge 29, 3) := by decide +kernel
theorem dX10_isDigit_8 : decode cX10_isDigit 8 = .ok (.aload_n 0, 1) := by decide +kernel
theorem dX10_isDigit_9 : decode cX10_isDigit 9 = .ok (.getfield 9, 3) := by decide +kernel
theorem dX10_isDigit_12 : decode cX10_isDigit 12 = .ok (.iload_n 1, 1) := by decide +kernel
theorem dX10_isDigit_13 : decode cX10_isDigit 13 = .ok (.caload, 1) := by decide +kernel
theorem dX10_isDigit_14 : decode cX10_isDigit 14 = .ok (.bipush 48, 2) := by decide +kernel
theorem dX10_isDigit_16 : decode cX10_isDigit 16 = .ok (.if_icmp .lt 18, 3) := by decide +kernel
theorem dX10_isDigit_19 : decode cX10_isDigit 19 = .ok (.aload_n 0, 1) := by decide +kernel
theorem dX10_isDigit_20 : decode cX10_isDigit 20 = .ok (.getfield 9, 3) := by decide +kernel
theorem dX10_isDigit_23 : decode cX10_isDigit 23 = .ok (.iload_n 1, 1) := by decide +kernel
theorem dX10_isDigit_24 : decode cX10_isDigit 24 = .ok (.caload, 1) := by decide +kernel
theorem dX10_isDigit_25 : decode cX10_isDigit 25 = .ok (.bipush 57, 2) := by decide +kernel
theorem dX10_isDigit_27 : decode cX10_isDigit 27 = .ok (.if_icmp .gt 7, 3) := by decide +kernel
theorem dX10_isDigit_30 : decode cX10_isDigit 30 = .ok (.iconst 1, 1) := by decide +kernel
theorem dX10_isDigit_31 : decode cX10_isDigit 31 = .ok (.goto 4, 3) := by decide +kernel
theorem dX10_isDigit_34 : decode cX10_isDigit 34 = .ok (.iconst 0, 1) := by decide +kernel
theorem dX10_isDigit_35 : decode cX10_isDigit 35 = .ok (.ireturn, 1) := by decide +kernel
theorem dX10_isAtEnd_0 : decode cX10_isAtEnd 0 = .ok (.aload_n 0, 1) := by decide +kernel
theorem dX10_isAtEnd_1 : decode cX10_isAtEnd 1 = .ok (.getfield 34, 3) := by decide +kernel
theorem dX10_isAtEnd_4 : decode cX10_isAtEnd 4 = .ok (.aload_n 0, 1) := by decide +kernel
theorem dX10_isAtEnd_5 : decode cX10_isAtEnd 5 = .ok (.getfield 15, 3) := by decide +kernel
theorem dX10_isAtEnd_8 : decode cX10_isAtEnd 8 = .ok (.if_icmp .lt 7, 3) := by decide +kernel
theorem dX10_isAtEnd_11 : decode cX10_isAtEnd 11 = .ok (.iconst 1, 1) := by decide +kernel
theorem dX10_isAtEnd_12 : decode cX10_isAtEnd 12 = .ok (.goto 4, 3) := by decide +kernel
theorem dX10_isAtEnd_15 : decode cX10_isAtEnd 15 = .ok (.iconst 0, 1) := by decide +kernel
theorem dX10_isAtEnd_16 : decode cX10_isAtEnd 16 = .ok (.ireturn, 1) := by decide +kernel
theorem dX10_place_0 : decode cX10_place 0 = .ok (.aload_n 0, 1) := by decide +kernel
theorem dX10_place_1 : decode cX10_place 1 = .ok (.getfield 34, 3) := by decide +kernel
theorem dX10_place_4 : decode cX10_place 4 = .ok (.ireturn, 1) := by decide +kernel
theorem dX10_isToken_0 : decode cX10_isToken 0 = .ok (.aload_n 0, 1) := by decide +kernel
theorem dX10_isToken_1 : decode cX10_isToken 1 = .ok (.getfield 28, 3) := by decide +kernel
theorem dX10_isToken_4 : decode cX10_isToken 4 = .ok (.aload_n 0, 1) := by decide +kernel
theorem dX10_isToken_5 : decode cX10_isToken 5 = .ok (.getfield 34, 3) := by decide +kernel
theorem dX10_isToken_8 : decode cX10_isToken 8 = .ok (.isub, 1) := by decide +kernel
theorem dX10_isToken_9 : decode cX10_isToken 9 = .ok (.iconst 1, 1) := by decide +kernel
theorem dX10_isToken_10 : decode cX10_isToken 10 = .ok (.if_icmp .ne 20, 3) := by decide +kernel
theorem dX10_isToken_13 : decode cX10_isToken 13 = .ok (.aload_n 0, 1) := by decide +kernel
theorem dX10_isToken_14 : decode cX10_isToken 14 = .ok (.getfield 9, 3) := by decide +kernel
theorem dX10_isToken_17 : decode cX10_isToken 17 = .ok (.aload_n 0, 1) := by decide +kernel
theorem dX10_isToken_18 : decode cX10_isToken 18 = .ok (.getfield 34, 3) := by decide +kernel
theorem dX10_isToken_21 : decode cX10_isToken 21 = .ok (.caload, 1) := by decide +kernel
theorem dX10_isToken_22 : decode cX10_isToken 22 = .ok (.iload_n 1, 1) := by decide +kernel
theorem dX10_isToken_23 : decode cX10_isToken 23 = .ok (.if_icmp .ne 7, 3) := by decide +kernel
theorem dX10_isToken_26 : decode cX10_isToken 26 = .ok (.iconst 1, 1) := by decide +kernel
theorem dX10_isToken_27 : decode cX10_isToken 27 = .ok (.goto 4, 3) := by decide +kernel
theorem dX10_isToken_30 : decode cX10_isToken 30 = .ok (.iconst 0, 1) := by decide +kernel
theorem dX10_isToken_31 : decode cX10_isToken 31 = .ok (.ireturn, 1) := by decide +kernel
theorem dX10_isToken__0 : decode cX10_isToken_ 0 = .ok (.aload_n 0, 1) := by decide +kernel
theorem dX10_isToken__1 : decode cX10_isToken_ 1 = .ok (.getfield 28, 3) := by decide +kernel
theorem dX10_isToken__4 : decode cX10_isToken_ 4 = .ok (.aload_n 0, 1) := by decide +kernel
theorem dX10_isToken__5 : decode cX10_isToken_ 5 = .ok (.getfield 34, 3) := by decide +kernel
theorem dX10_isToken__8 : decode cX10_isToken_ 8 = .ok (.isub, 1) := by decide +kernel
theorem dX10_isToken__9 : decode cX10_isToken_ 9 = .ok (.aload_n 1, 1) := by decide +kernel
theorem dX10_isToken__10 : decode cX10_isToken_ 10 = .ok (.invokevirtual 44, 3) := by decide +kernel
theorem dX10_isToken__13 : decode cX10_isToken_ 13 = .ok (.if_icmp .eq 5, 3) := by decide +kernel
theorem dX10_isToken__16 : decode cX10_isToken_ 16 = .ok (.iconst 0, 1) := by decide +kernel
theorem dX10_isToken__17 : decode cX10_isToken_ 17 = .ok (.ireturn, 1) := by decide +kernel
theorem dX10_isToken__18 : decode cX10_isToken_ 18 = .ok (.iconst 0, 1) := by decide +kernel
theorem dX10_isToken__19 : decode cX10_isToken_ 19 = .ok (.istore_n 2, 1) := by decide +kernel
theorem dX10_isToken__20 : decode cX10_isToken_ 20 = .ok (.iload_n 2, 1) := by decide +kernel
theorem dX10_isToken__21 : decode cX10_isToken_ 21 = .ok (.aload_n 1, 1) := by decide +kernel
theorem dX10_isToken__22 : decode cX10_isToken_ 22 = .ok (.invokevirtual 44, 3) := by decide +kernel
theorem dX10_isToken__25 : decode cX10_isToken_ 25 = .ok (.if_icmp .ge 30, 3) := by decide +kernel
theorem dX10_isToken__28 : decode cX10_isToken_ 28 = .ok (.aload_n 0, 1) := by decide +kernel
theorem dX10_isToken__29 : decode cX10_isToken_ 29 = .ok (.getfield 9, 3) := by decide +kernel
theorem dX10_isToken__32 : decode cX10_isToken_ 32 = .ok (.aload_n 0, 1) := by decide +kernel
theorem dX10_isToken__33 : decode cX10_isToken_ 33 = .ok (.getfield 34, 3) := by decide +kernel
theorem dX10_isToken__36 : decode cX10_isToken_ 36 = .ok (.iload_n 2, 1) := by decide +kernel
theorem dX10_isToken__37 : decode cX10_isToken_ 37 = .ok (.iadd, 1) := by decide +kernel
theorem dX10_isToken__38 : decode cX10_isToken_ 38 = .ok (.caload, 1) := by decide +kernel
theorem dX10_isToken__39 : decode cX10_isToken_ 39 = .ok (.aload_n 1, 1) := by decide +kernel
theorem dX10_isToken__40 : decode cX10_isToken_ 40 = .ok (.iload_n 2, 1) := by decide +kernel
theorem dX10_isToken__41 : decode cX10_isToken_ 41 = .ok (.invokevirtual 49, 3) := by decide +kernel
theorem dX10_isToken__44 : decode cX10_isToken_ 44 = .ok (.if_icmp .eq 5, 3) := by decide +kernel
theorem dX10_isToken__47 : decode cX10_isToken_ 47 = .ok (.iconst 0, 1) := by decide +kernel
theorem dX10_isToken__48 : decode cX10_isToken_ 48 = .ok (.ireturn, 1) := by decide +kernel
theorem dX10_isToken__49 : decode cX10_isToken_ 49 = .ok (.iinc 2 1, 3) := by decide +kernel
theorem dX10_isToken__52 : decode cX10_isToken_ 52 = .ok (.goto (-32), 3) := by decide +kernel
theorem dX10_isToken__55 : decode cX10_isToken_ 55 = .ok (.iconst 1, 1) := by decide +kernel
theorem dX10_isToken__56 : decode cX10_isToken_ 56 = .ok (.ireturn, 1) := by decide +kernel
theorem dX10_letter_0 : decode cX10_letter 0 = .ok (.aload_n 0, 1) := by decide +kernel
theorem dX10_letter_1 : decode cX10_letter 1 = .ok (.getfield 28, 3) := by decide +kernel
theorem dX10_letter_4 : decode cX10_letter 4 = .ok (.aload_n 0, 1) := by decide +kernel
theorem dX10_letter_5 : decode cX10_letter 5 = .ok (.getfield 34, 3) := by decide +kernel
theorem dX10_letter_8 : decode cX10_letter 8 = .ok (.isub, 1) := by decide +kernel
theorem dX10_letter_9 : decode cX10_letter 9 = .ok (.iconst 1, 1) := by decide +kernel
theorem dX10_letter_10 : decode cX10_letter 10 = .ok (.if_icmp .ne 29, 3) := by decide +kernel
theorem dX10_letter_13 : decode cX10_letter 13 = .ok (.aload_n 0, 1) := by decide +kernel
theorem dX10_letter_14 : decode cX10_letter 14 = .ok (.aload_n 0, 1) := by decide +kernel
theorem dX10_letter_15 : decode cX10_letter 15 = .ok (.getfield 34, 3) := by decide +kernel
theorem dX10_letter_18 : decode cX10_letter 18 = .ok (.invokevirtual 37, 3) := by decide +kernel
theorem dX10_letter_21 : decode cX10_letter 21 = .ok (.ifCond .eq 18, 3) := by decide +kernel
theorem dX10_letter_24 : decode cX10_letter 24 = .ok (.aload_n 0, 1) := by decide +kernel
theorem dX10_letter_25 : decode cX10_letter 25 = .ok (.getfield 9, 3) := by decide +kernel
theorem dX10_letter_28 : decode cX10_letter 28 = .ok (.aload_n 0, 1) := by decide +kernel
theorem dX10_letter_29 : decode cX10_letter 29 = .ok (.getfield 34, 3) := by decide +kernel
theorem dX10_letter_32 : decode cX10_letter 32 = .ok (.caload, 1) := by decide +kernel
theorem dX10_letter_33 : decode cX10_letter 33 = .ok (.bipush 97, 2) := by decide +kernel
theorem dX10_letter_35 : decode cX10_letter 35 = .ok (.isub, 1) := by decide +kernel
theorem dX10_letter_36 : decode cX10_letter 36 = .ok (.goto 4, 3) := by decide +kernel
theorem dX10_letter_39 : decode cX10_letter 39 = .ok (.iconst (-1), 1) := by decide +kernel
theorem dX10_letter_40 : decode cX10_letter 40 = .ok (.ireturn, 1) := by decide +kernel
theorem dX10_digits_0 : decode cX10_digits 0 = .ok (.aload_n 0, 1) := by decide +kernel
theorem dX10_digits_1 : decode cX10_digits 1 = .ok (.aload_n 0, 1) := by decide +kernel
theorem dX10_digits_2 : decode cX10_digits 2 = .ok (.getfield 34, 3) := by decide +kernel
theorem dX10_digits_5 : decode cX10_digits 5 = .ok (.invokevirtual 41, 3) := by decide +kernel
theorem dX10_digits_8 : decode cX10_digits 8 = .ok (.ifCond .ne 5, 3) := by decide +kernel
theorem dX10_digits_11 : decode cX10_digits 11 = .ok (.iconst (-1), 1) := by decide +kernel
theorem dX10_digits_12 : decode cX10_digits 12 = .ok (.ireturn, 1) := by decide +kernel
theorem dX10_digits_13 : decode cX10_digits 13 = .ok (.iconst 0, 1) := by decide +kernel
theorem dX10_digits_14 : decode cX10_digits 14 = .ok (.istore_n 1, 1) := by decide +kernel
theorem dX10_digits_15 : decode cX10_digits 15 = .ok (.aload_n 0, 1) := by decide +kernel
theorem dX10_digits_16 : decode cX10_digits 16 = .ok (.getfield 34, 3) := by decide +kernel
theorem dX10_digits_19 : decode cX10_digits 19 = .ok (.istore_n 2, 1) := by decide +kernel
theorem dX10_digits_20 : decode cX10_digits 20 = .ok (.iload_n 2, 1) := by decide +kernel
theorem dX10_digits_21 : decode cX10_digits 21 = .ok (.aload_n 0, 1) := by decide +kernel
theorem dX10_digits_22 : decode cX10_digits 22 = .ok (.getfield 28, 3) := by decide +kernel
theorem dX10_digits_25 : decode cX10_digits 25 = .ok (.if_icmp .ge 30, 3) := by decide +kernel
theorem dX10_digits_28 : decode cX10_digits 28 = .ok (.iload_n 1, 1) := by decide +kernel
theorem dX10_digits_29 : decode cX10_digits 29 = .ok (.bipush 10, 2) := by decide +kernel
theorem dX10_digits_31 : decode cX10_digits 31 = .ok (.imul, 1) := by decide +kernel
theorem dX10_digits_32 : decode cX10_digits 32 = .ok (.aload_n 0, 1) := by decide +kernel
theorem dX10_digits_33 : decode cX10_digits 33 = .ok (.getfield 9, 3) := by decide +kernel
theorem dX10_digits_36 : decode cX10_digits 36 = .ok (.iload_n 2, 1) := by decide +kernel
theorem dX10_digits_37 : decode cX10_digits 37 = .ok (.caload, 1) := by decide +kernel
theorem dX10_digits_38 : decode cX10_digits 38 = .ok (.bipush 48, 2) := by decide +kernel
theorem dX10_digits_40 : decode cX10_digits 40 = .ok (.isub, 1) := by decide +kernel
theorem dX10_digits_41 : decode cX10_digits 41 = .ok (.iadd, 1) := by decide +kernel
theorem dX10_digits_42 : decode cX10_digits 42 = .ok (.sipush 1001, 3) := by decide +kernel
theorem dX10_digits_45 : decode cX10_digits 45 = .ok (.invokestatic 19, 3) := by decide +kernel
theorem dX10_digits_48 : decode cX10_digits 48 = .ok (.istore_n 1, 1) := by decide +kernel
theorem dX10_digits_49 : decode cX10_digits 49 = .ok (.iinc 2 1, 3) := by decide +kernel
theorem dX10_digits_52 : decode cX10_digits 52 = .ok (.goto (-32), 3) := by decide +kernel
theorem dX10_digits_55 : decode cX10_digits 55 = .ok (.iload_n 1, 1) := by decide +kernel
theorem dX10_digits_56 : decode cX10_digits 56 = .ok (.ireturn, 1) := by decide +kernel
