theorem dX11_init_0 : decode cX11_init 0 = .ok (.aload_n 0, 1) := by decide +kernel
theorem dX11_init_1 : decode cX11_init 1 = .ok (.invokespecial 1, 3) := by decide +kernel
theorem dX11_init_4 : decode cX11_init 4 = .ok (.aload_n 0, 1) := by decide +kernel
theorem dX11_init_5 : decode cX11_init 5 = .ok (.new 7, 3) := by decide +kernel
theorem dX11_init_8 : decode cX11_init 8 = .ok (.dup, 1) := by decide +kernel
theorem dX11_init_9 : decode cX11_init 9 = .ok (.invokespecial 9, 3) := by decide +kernel
theorem dX11_init_12 : decode cX11_init 12 = .ok (.putfield 10, 3) := by decide +kernel
theorem dX11_init_15 : decode cX11_init 15 = .ok (.aload_n 0, 1) := by decide +kernel
theorem dX11_init_16 : decode cX11_init 16 = .ok (.new 16, 3) := by decide +kernel
theorem dX11_init_19 : decode cX11_init 19 = .ok (.dup, 1) := by decide +kernel
theorem dX11_init_20 : decode cX11_init 20 = .ok (.invokespecial 18, 3) := by decide +kernel
theorem dX11_init_23 : decode cX11_init 23 = .ok (.putfield 19, 3) := by decide +kernel
theorem dX11_init_26 : decode cX11_init 26 = .ok (.aload_n 0, 1) := by decide +kernel
theorem dX11_init_27 : decode cX11_init 27 = .ok (.new 23, 3) := by decide +kernel
theorem dX11_init_30 : decode cX11_init 30 = .ok (.dup, 1) := by decide +kernel
theorem dX11_init_31 : decode cX11_init 31 = .ok (.invokespecial 25, 3) := by decide +kernel
theorem dX11_init_34 : decode cX11_init 34 = .ok (.putfield 26, 3) := by decide +kernel
theorem dX11_init_37 : decode cX11_init 37 = .ok (.aload_n 0, 1) := by decide +kernel
theorem dX11_init_38 : decode cX11_init 38 = .ok (.new 30, 3) := by decide +kernel
theorem dX11_init_41 : decode cX11_init 41 = .ok (.dup, 1) := by decide +kernel
theorem dX11_init_42 : decode cX11_init 42 = .ok (.invokespecial 32, 3) := by decide +kernel
theorem dX11_init_45 : decode cX11_init 45 = .ok (.putfield 33, 3) := by decide +kernel
theorem dX11_init_48 : decode cX11_init 48 = .ok (.aload_n 0, 1) := by decide +kernel
theorem dX11_init_49 : decode cX11_init 49 = .ok (.new 37, 3) := by decide +kernel
theorem dX11_init_52 : decode cX11_init 52 = .ok (.dup, 1) := by decide +kernel
theorem dX11_init_53 : decode cX11_init 53 = .ok (.invokespecial 39, 3) := by decide +kernel
theorem dX11_init_56 : decode cX11_init 56 = .ok (.putfield 40, 3) := by decide +kernel
theorem dX11_init_59 : decode cX11_init 59 = .ok (.aload_n 0, 1) := by decide +kernel
theorem dX11_init_60 : decode cX11_init 60 = .ok (.new 37, 3) := by decide +kernel
theorem dX11_init_63 : decode cX11_init 63 = .ok (.dup, 1) := by decide +kernel
theorem dX11_init_64 : decode cX11_init 64 = .ok (.invokespecial 39, 3) := by decide +kernel
theorem dX11_init_67 : decode cX11_init 67 = .ok (.putfield 44, 3) := by decide +kernel
theorem dX11_init_70 : decode cX11_init 70 = .ok (.aload_n 0, 1) := by decide +kernel
theorem dX11_init_71 : decode cX11_init 71 = .ok (.new 47, 3) := by decide +kernel
theorem dX11_init_74 : decode cX11_init 74 = .ok (.dup, 1) := by decide +kernel
theorem dX11_init_75 : decode cX11_init 75 = .ok (.invokespecial 49, 3) := by decide +kernel
theorem dX11_init_78 : decode cX11_init 78 = .ok (.putfield 50, 3) := by decide +kernel
theorem dX11_init_81 : decode cX11_init 81 = .ok (.aload_n 0, 1) := by decide +kernel
theorem dX11_init_82 : decode cX11_init 82 = .ok (.new 54, 3) := by decide +kernel
theorem dX11_init_85 : decode cX11_init 85 = .ok (.dup, 1) := by decide +kernel
theorem dX11_init_86 : decode cX11_init 86 = .ok (.invokespecial 56, 3) := by decide +kernel
theorem dX11_init_89 : decode cX11_init 89 = .ok (.putfield 57, 3) := by decide +kernel
theorem dX11_init_92 : decode cX11_init 92 = .ok (.aload_n 0, 1) := by decide +kernel
theorem dX11_init_93 : decode cX11_init 93 = .ok (.new 54, 3) := by decide +kernel
theorem dX11_init_96 : decode cX11_init 96 = .ok (.dup, 1) := by decide +kernel
theorem dX11_init_97 : decode cX11_init 97 = .ok (.invokespecial 56, 3) := by decide +kernel
theorem dX11_init_100 : decode cX11_init 100 = .ok (.putfield 61, 3) := by decide +kernel
theorem dX11_init_103 : decode cX11_init 103 = .ok (.aload_n 0, 1) := by decide +kernel
theorem dX11_init_104 : decode cX11_init 104 = .ok (.iconst (-1), 1) := by decide +kernel
theorem dX11_init_105 : decode cX11_init 105 = .ok (.putfield 64, 3) := by decide +kernel
theorem dX11_init_108 : decode cX11_init 108 = .ok (.aload_n 0, 1) := by decide +kernel
theorem dX11_init_109 : decode cX11_init 109 = .ok (.iconst (-1), 1) := by decide +kernel
theorem dX11_init_110 : decode cX11_init 110 = .ok (.putfield 68, 3) := by decide +kernel
theorem dX11_init_113 : decode cX11_init 113 = .ok (.aload_n 0, 1) := by decide +kernel
theorem dX11_init_114 : decode cX11_init 114 = .ok (.iconst 0, 1) := by decide +kernel
theorem dX11_init_115 : decode cX11_init 115 = .ok (.putfield 71, 3) := by decide +kernel
theorem dX11_init_118 : decode cX11_init 118 = .ok (.return_, 1) := by decide +kernel
theorem dX11_tell_0 : decode cX11_tell 0 = .ok (.iload_n 1, 1) := by decide +kernel
theorem dX11_tell_1 : decode cX11_tell 1 = .ok (.iconst 0, 1) := by decide +kernel
theorem dX11_tell_2 : decode cX11_tell 2 = .ok (.iconst 2, 1) := by decide +kernel
theorem dX11_tell_3 : decode cX11_tell 3 = .ok (.invokestatic 74, 3) := by decide +kernel
theorem dX11_tell_6 : decode cX11_tell 6 = .ok (.ifCond .eq 38, 3) := by decide +kernel
theorem dX11_tell_9 : decode cX11_tell 9 = .ok (.iload_n 2, 1) := by decide +kernel
theorem dX11_tell_10 : decode cX11_tell 10 = .ok (.iconst 0, 1) := by decide +kernel
theorem dX11_tell_11 : decode cX11_tell 11 = .ok (.bipush 31, 2) := by decide +kernel
theorem dX11_tell_13 : decode cX11_tell 13 = .ok (.invokestatic 74, 3) := by decide +kernel
theorem dX11_tell_16 : decode cX11_tell 16 = .ok (.ifCond .eq 28, 3) := by decide +kernel
theorem dX11_tell_19 : decode cX11_tell 19 = .ok (.iload_n 3, 1) := by decide +kernel
theorem dX11_tell_20 : decode cX11_tell 20 = .ok (.sipush (-1000), 3) := by decide +kernel
theorem dX11_tell_23 : decode cX11_tell 23 = .ok (.sipush 1000, 3) := by decide +kernel
theorem dX11_tell_26 : decode cX11_tell 26 = .ok (.invokestatic 74, 3) := by decide +kernel
theorem dX11_tell_29 : decode cX11_tell 29 = .ok (.ifCond .eq 15, 3) := by decide +kernel
theorem dX11_tell_32 : decode cX11_tell 32 = .ok (.iload 4, 2) := by decide +kernel
theorem dX11_tell_34 : decode cX11_tell 34 = .ok (.iconst 0, 1) := by decide +kernel
theorem dX11_tell_35 : decode cX11_tell 35 = .ok (.sipush 10000, 3) := by decide +kernel
theorem dX11_tell_38 : decode cX11_tell 38 = .ok (.invokestatic 74, 3) := by decide +kernel
theorem dX11_tell_41 : decode cX11_tell 41 = .ok (.ifCond .ne 9, 3) := by decide +kernel
theorem dX11_tell_44 : decode cX11_tell 44 = .ok (.aload_n 0, 1) := by decide +kernel
theorem dX11_tell_45 : decode cX11_tell 45 = .ok (.iconst (-1), 1) := by decide +kernel
theorem dX11_tell_46 : decode cX11_tell 46 = .ok (.invokevirtual 78, 3) := by decide +kernel
theorem dX11_tell_49 : decode cX11_tell 49 = .ok (.ireturn, 1) := by decide +kernel
theorem dX11_tell_50 : decode cX11_tell 50 = .ok (.aload_n 0, 1) := by decide +kernel
theorem dX11_tell_51 : decode cX11_tell 51 = .ok (.getfield 10, 3) := by decide +kernel
theorem dX11_tell_54 : decode cX11_tell 54 = .ok (.iload_n 1, 1) := by decide +kernel
theorem dX11_tell_55 : decode cX11_tell 55 = .ok (.iload_n 2, 1) := by decide +kernel
theorem dX11_tell_56 : decode cX11_tell 56 = .ok (.iload 4, 2) := by decide +kernel
theorem dX11_tell_58 : decode cX11_tell 58 = .ok (.iload_n 3, 1) := by decide +kernel
theorem dX11_tell_59 : decode cX11_tell 59 = .ok (.invokestatic 82, 3) := by decide +kernel
theorem dX11_tell_62 : decode cX11_tell 62 = .ok (.invokevirtual 88, 3) := by decide +kernel
theorem dX11_tell_65 : decode cX11_tell 65 = .ok (.ifCond .ne 10, 3) := by decide +kernel
theorem dX11_tell_68 : decode cX11_tell 68 = .ok (.aload_n 0, 1) := by decide +kernel
theorem dX11_tell_69 : decode cX11_tell 69 = .ok (.bipush (-5), 2) := by decide +kernel
theorem dX11_tell_71 : decode cX11_tell 71 = .ok (.invokevirtual 78, 3) := by decide +kernel
theorem dX11_tell_74 : decode cX11_tell 74 = .ok (.ireturn, 1) := by decide +kernel
theorem dX11_tell_75 : decode cX11_tell 75 = .ok (.aload_n 0, 1) := by decide +kernel
theorem dX11_tell_76 : decode cX11_tell 76 = .ok (.aload_n 0, 1) := by decide +kernel
theorem dX11_tell_77 : decode cX11_tell 77 = .ok (.getfield 10, 3) := by decide +kernel
theorem dX11_tell_80 : decode cX11_tell 80 = .ok (.invokevirtual 92, 3) := by decide +kernel
theorem dX11_tell_83 : decode cX11_tell 83 = .ok (.invokevirtual 96, 3) := by decide +kernel
theorem dX11_tell_86 : decode cX11_tell 86 = .ok (.ireturn, 1) := by decide +kernel
theorem dX11_feed_0 : decode cX11_feed 0 = .ok (.aload_n 0, 1) := by decide +kernel
theorem dX11_feed_1 : decode cX11_feed 1 = .ok (.getfield 19, 3) := by decide +kernel
theorem dX11_feed_4 : decode cX11_feed 4 = .ok (.bipush 20, 2) := by decide +kernel
theorem dX11_feed_6 : decode cX11_feed 6 = .ok (.invokevirtual 99, 3) := by decide +kernel
theorem dX11_feed_9 : decode cX11_feed 9 = .ok (.ifCond .ne 5, 3) := by decide +kernel
theorem dX11_feed_12 : decode cX11_feed 12 = .ok (.iconst (-1), 1) := by decide +kernel
theorem dX11_feed_13 : decode cX11_feed 13 = .ok (.ireturn, 1) := by decide +kernel
theorem dX11_feed_14 : decode cX11_feed 14 = .ok (.aload_n 0, 1) := by decide +kernel
theorem dX11_feed_15 : decode cX11_feed 15 = .ok (.getfield 19, 3) := by decide +kernel
theorem dX11_feed_18 : decode cX11_feed 18 = .ok (.iload_n 1, 1) := by decide +kernel
theorem dX11_feed_19 : decode cX11_feed 19 = .ok (.invokevirtual 103, 3) := by decide +kernel
theorem dX11_feed_22 : decode cX11_feed 22 = .ok (.aload_n 0, 1) := by decide +kernel
theorem dX11_feed_23 : decode cX11_feed 23 = .ok (.getfield 19, 3) := by decide +kernel
theorem dX11_feed_26 : decode cX11_feed 26 = .ok (.iload_n 2, 1) := by decide +kernel
theorem dX11_feed_27 : decode cX11_feed 27 = .ok (.invokevirtual 103, 3) := by decide +kernel
theorem dX11_feed_30 : decode cX11_feed 30 = .ok (.aload_n 0, 1) := by decide +kernel
theorem dX11_feed_31 : decode cX11_feed 31 = .ok (.getfield 19, 3) := by decide +kernel
theorem dX11_feed_34 : decode cX11_feed 34 = .ok (.iload_n 3, 1) := by decide +kernel
theorem dX11_feed_35 : decode cX11_feed 35 = .ok (.invokevirtual 103, 3) := by decide +kernel
theorem dX11_feed_38 : decode cX11_feed 38 = .ok (.aload_n 0, 1) := by decide +kernel
theorem dX11_feed_39 : decode cX11_feed 39 = .ok (.getfield 19, 3) := by decide +kernel
theorem dX11_feed_42 : decode cX11_feed 42 = .ok (.iload 4, 2) := by decide +kernel
theorem dX11_feed_44 : decode cX11_feed 44 = .ok (.invokevirtual 103, 3) := by decide +kernel
theorem dX11_feed_47 : decode cX11_feed 47 = .ok (.aload_n 0, 1) := by decide +kernel
theorem dX11_feed_48 : decode cX11_feed 48 = .ok (.getfield 19, 3) := by decide +kernel
theorem dX11_feed_51 : decode cX11_feed 51 = .ok (.iload 5, 2) := by decide +kernel
theorem dX11_feed_53 : decode cX11_feed 53 = .ok (.invokevirtual 103, 3) := by decide +kernel
theorem dX11_feed_56 : decode cX11_feed 56 = .ok (.aload_n 0, 1) := by decide +kernel
theorem dX11_feed_57 : decode cX11_feed 57 = .ok (.getfield 19, 3) := by decide +kernel
theorem dX11_feed_60 : decode cX11_feed 60 = .ok (.invokevirtual 107, 3) := by decide +kernel
theorem dX11_feed_63 : decode cX11_feed 63 = .ok (.ireturn, 1) := by decide +kernel
theorem dX11_end_0 : decode cX11_end 0 = .ok (.iload_n 1, 1) := by decide +kernel
theorem dX11_end_1 : decode cX11_end 1 = .ok (.iconst 0, 1) := by decide +kernel
theorem dX11_end_2 : decode cX11_end 2 = .ok (.aload_n 0, 1) := by decide +kernel
theorem dX11_end_3 : decode cX11_end 3 = .ok (.getfield 19, 3) := by decide +kernel
theorem dX11_end_6 : decode cX11_end 6 = .ok (.invokevirtual 107, 3) := by decide +kernel
theorem dX11_end_9 : decode cX11_end 9 = .ok (.invokestatic 74, 3) := by decide +kernel
theorem dX11_end_12 : decode cX11_end 12 = .ok (.ifCond .ne 5, 3) := by decide +kernel
theorem dX11_end_15 : decode cX11_end 15 = .ok (.iconst (-1), 1) := by decide +kernel
theorem dX11_end_16 : decode cX11_end 16 = .ok (.ireturn, 1) := by decide +kernel
theorem dX11_end_17 : decode cX11_end 17 = .ok (.aload_n 0, 1) := by decide +kernel
theorem dX11_end_18 : decode cX11_end 18 = .ok (.getfield 19, 3) := by decide +kernel
theorem dX11_end_21 : decode cX11_end 21 = .ok (.iload_n 1, 1) := by decide +kernel
theorem dX11_end_22 : decode cX11_end 22 = .ok (.invokevirtual 110, 3) := by decide +kernel
theorem dX11_end_25 : decode cX11_end 25 = .ok (.iload_n 1, 1) := by decide +kernel
theorem dX11_end_26 : decode cX11_end 26 = .ok (.ireturn, 1) := by decide +kernel
theorem dX11_tables_0 : decode cX11_tables 0 = .ok (.aload_n 0, 1) := by decide +kernel
theorem dX11_tables_1 : decode cX11_tables 1 = .ok (.aload_n 0, 1) := by decide +kernel
theorem dX11_tables_2 : decode cX11_tables 2 = .ok (.getfield 26, 3) := by decide +kernel
theorem dX11_tables_5 : decode cX11_tables 5 = .ok (.aload_n 0, 1) := by decide +kernel
theorem dX11_tables_6 : decode cX11_tables 6 = .ok (.getfield 19, 3) := by decide +kernel
theorem dX11_tables_9 : decode cX11_tables 9 = .ok (.aload_n 0, 1) := by decide +kernel
theorem dX11_tables_10 : decode cX11_tables 10 = .ok (.getfield 33, 3) := by decide +kernel
theorem dX11_tables_13 : decode cX11_tables 13 = .ok (.invokevirtual 113, 3) := by decide +kernel
theorem dX11_tables_16 : decode cX11_tables 16 = .ok (.invokevirtual 117, 3) := by decide +kernel
theorem dX11_tables_19 : decode cX11_tables 19 = .ok (.putfield 68, 3) := by decide +kernel
theorem dX11_tables_22 : decode cX11_tables 22 = .ok (.aload_n 0, 1) := by decide +kernel
theorem dX11_tables_23 : decode cX11_tables 23 = .ok (.getfield 19, 3) := by decide +kernel
theorem dX11_tables_26 : decode cX11_tables 26 = .ok (.iconst 0, 1) := by decide +kernel
theorem dX11_tables_27 : decode cX11_tables 27 = .ok (.invokevirtual 110, 3) := by decide +kernel
theorem dX11_tables_30 : decode cX11_tables 30 = .ok (.aload_n 0, 1) := by decide +kernel
theorem dX11_tables_31 : decode cX11_tables 31 = .ok (.getfield 68, 3) := by decide +kernel
theorem dX11_tables_34 : decode cX11_tables 34 = .ok (.iconst (-1), 1) := by decide +kernel
theorem dX11_tables_35 : decode cX11_tables 35 = .ok (.if_icmp .eq 10, 3) := by decide +kernel
theorem dX11_tables_38 : decode cX11_tables 38 = .ok (.aload_n 0, 1) := by decide +kernel
theorem dX11_tables_39 : decode cX11_tables 39 = .ok (.bipush (-6), 2) := by decide +kernel
theorem dX11_tables_41 : decode cX11_tables 41 = .ok (.invokevirtual 78, 3) := by decide +kernel
theorem dX11_tables_44 : decode cX11_tables 44 = .ok (.ireturn, 1) := by decide +kernel
theorem dX11_tables_45 : decode cX11_tables 45 = .ok (.aload_n 0, 1) := by decide +kernel
theorem dX11_tables_46 : decode cX11_tables 46 = .ok (.getfield 33, 3) := by decide +kernel
theorem dX11_tables_49 : decode cX11_tables 49 = .ok (.invokevirtual 121, 3) := by decide +kernel
theorem dX11_tables_52 : decode cX11_tables 52 = .ok (.aload_n 0, 1) := by decide +kernel
theorem dX11_tables_53 : decode cX11_tables 53 = .ok (.invokevirtual 124, 3) := by decide +kernel
theorem dX11_tables_56 : decode cX11_tables 56 = .ok (.aload_n 0, 1) := by decide +kernel
theorem dX11_tables_57 : decode cX11_tables 57 = .ok (.aload_n 0, 1) := by decide +kernel
theorem dX11_tables_58 : decode cX11_tables 58 = .ok (.getfield 33, 3) := by decide +kernel
theorem dX11_tables_61 : decode cX11_tables 61 = .ok (.invokevirtual 127, 3) := by decide +kernel
theorem dX11_tables_64 : decode cX11_tables 64 = .ok (.invokevirtual 96, 3) := by decide +kernel
theorem dX11_tables_67 : decode cX11_tables 67 = .ok (.ireturn, 1) := by decide +kernel
theorem dX11_fault_0 : decode cX11_fault 0 = .ok (.aload_n 0, 1) := by decide +kernel
theorem dX11_fault_1 : decode cX11_fault 1 = .ok (.getfield 68, 3) := by decide +kernel
theorem dX11_fault_4 : decode cX11_fault 4 = .ok (.ireturn, 1) := by decide +kernel
theorem dX11_late_0 : decode cX11_late 0 = .ok (.iload_n 1, 1) := by decide +kernel
theorem dX11_late_1 : decode cX11_late 1 = .ok (.iconst (-1), 1) := by decide +kernel
theorem dX11_late_2 : decode cX11_late 2 = .ok (.sipush 10000, 3) := by decide +kernel
theorem dX11_late_5 : decode cX11_late 5 = .ok (.invokestatic 74, 3) := by decide +kernel
theorem dX11_late_8 : decode cX11_late 8 = .ok (.ifCond .ne 11, 3) := by decide +kernel
theorem dX11_late_11 : decode cX11_late 11 = .ok (.aload_n 0, 1) := by decide +kernel
theorem dX11_late_12 : decode cX11_late 12 = .ok (.iconst (-1), 1) := by decide +kernel
theorem dX11_late_13 : decode cX11_late 13 = .ok (.putfield 71, 3) := by decide +kernel
theorem dX11_late_16 : decode cX11_late 16 = .ok (.bipush (-5), 2) := by decide +kernel
theorem dX11_late_18 : decode cX11_late 18 = .ok (.ireturn, 1) := by decide +kernel
theorem dX11_late_19 : decode cX11_late 19 = .ok (.aload_n 0, 1) := by decide +kernel
theorem dX11_late_20 : decode cX11_late 20 = .ok (.getfield 64, 3) := by decide +kernel
theorem dX11_late_23 : decode cX11_late 23 = .ok (.istore_n 2, 1) := by decide +kernel
theorem dX11_late_24 : decode cX11_late 24 = .ok (.aload_n 0, 1) := by decide +kernel
theorem dX11_late_25 : decode cX11_late 25 = .ok (.iload_n 1, 1) := by decide +kernel
theorem dX11_late_26 : decode cX11_late 26 = .ok (.putfield 64, 3) := by decide +kernel
theorem dX11_late_29 : decode cX11_late 29 = .ok (.aload_n 0, 1) := by decide +kernel
theorem dX11_late_30 : decode cX11_late 30 = .ok (.invokevirtual 124, 3) := by decide +kernel
theorem dX11_late_33 : decode cX11_late 33 = .ok (.aload_n 0, 1) := by decide +kernel
theorem dX11_late_34 : decode cX11_late 34 = .ok (.iload_n 2, 1) := by decide +kernel
theorem dX11_late_35 : decode cX11_late 35 = .ok (.invokevirtual 96, 3) := by decide +kernel
theorem dX11_late_38 : decode cX11_late 38 = .ok (.ireturn, 1) := by decide +kernel
theorem dX11_read_0 : decode cX11_read 0 = .ok (.iload_n 1, 1) := by decide +kernel
theorem dX11_read_1 : decode cX11_read 1 = .ok (.iconst 0, 1) := by decide +kernel
theorem dX11_read_2 : decode cX11_read 2 = .ok (.sipush 150, 3) := by decide +kernel
theorem dX11_read_5 : decode cX11_read 5 = .ok (.invokestatic 74, 3) := by decide +kernel
theorem dX11_read_8 : decode cX11_read 8 = .ok (.ifCond .ne 9, 3) := by decide +kernel
theorem dX11_read_11 : decode cX11_read 11 = .ok (.aload_n 0, 1) := by decide +kernel
theorem dX11_read_12 : decode cX11_read 12 = .ok (.iconst (-1), 1) := by decide +kernel
theorem dX11_read_13 : decode cX11_read 13 = .ok (.invokevirtual 78, 3) := by decide +kernel
theorem dX11_read_16 : decode cX11_read 16 = .ok (.ireturn, 1) := by decide +kernel
theorem dX11_read_17 : decode cX11_read 17 = .ok (.aload_n 0, 1) := by decide +kernel
theorem dX11_read_18 : decode cX11_read 18 = .ok (.getfield 33, 3) := by decide +kernel
theorem dX11_read_21 : decode cX11_read 21 = .ok (.invokevirtual 127, 3) := by decide +kernel
theorem dX11_read_24 : decode cX11_read 24 = .ok (.ifCond .ne 10, 3) := by decide +kernel
theorem dX11_read_27 : decode cX11_read 27 = .ok (.aload_n 0, 1) := by decide +kernel
theorem dX11_read_28 : decode cX11_read 28 = .ok (.bipush (-6), 2) := by decide +kernel
theorem dX11_read_30 : decode cX11_read 30 = .ok (.invokevirtual 78, 3) := by decide +kernel
theorem dX11_read_33 : decode cX11_read 33 = .ok (.ireturn, 1) := by decide +kernel
theorem dX11_read_34 : decode cX11_read 34 = .ok (.iload_n 1, 1) := by decide +kernel
theorem dX11_read_35 : decode cX11_read 35 = .ok (.aload_n 0, 1) := by decide +kernel
theorem dX11_read_36 : decode cX11_read 36 = .ok (.getfield 10, 3) := by decide +kernel
theorem dX11_read_39 : decode cX11_read 39 = .ok (.invokevirtual 92, 3) := by decide +kernel
theorem dX11_read_42 : decode cX11_read 42 = .ok (.aload_n 0, 1) := by decide +kernel
theorem dX11_read_43 : decode cX11_read 43 = .ok (.getfield 57, 3) := by decide +kernel
theorem dX11_read_46 : decode cX11_read 46 = .ok (.invokevirtual 128, 3) := by decide +kernel
theorem dX11_read_49 : decode cX11_read 49 = .ok (.isub, 1) := by decide +kernel
theorem dX11_read_50 : decode cX11_read 50 = .ok (.invokestatic 131, 3) := by decide +kernel
theorem dX11_read_53 : decode cX11_read 53 = .ok (.istore_n 2, 1) := by decide +kernel
theorem dX11_read_54 : decode cX11_read 54 = .ok (.iconst 0, 1) := by decide +kernel
theorem dX11_read_55 : decode cX11_read 55 = .ok (.istore_n 3, 1) := by decide +kernel
theorem dX11_read_56 : decode cX11_read 56 = .ok (.iload_n 3, 1) := by decide +kernel
theorem dX11_read_57 : decode cX11_read 57 = .ok (.iload_n 2, 1) := by decide +kernel
theorem dX11_read_58 : decode cX11_read 58 = .ok (.if_icmp .ge 24, 3) := by decide +kernel
theorem dX11_read_61 : decode cX11_read 61 = .ok (.aload_n 0, 1) := by decide +kernel
theorem dX11_read_62 : decode cX11_read 62 = .ok (.invokevirtual 137, 3) := by decide +kernel
theorem dX11_read_65 : decode cX11_read 65 = .ok (.ifCond .ne 11, 3) := by decide +kernel
theorem dX11_read_68 : decode cX11_read 68 = .ok (.aload_n 0, 1) := by decide +kernel
theorem dX11_read_69 : decode cX11_read 69 = .ok (.bipush (-5), 2) := by decide +kernel
theorem dX11_read_71 : decode cX11_read 71 = .ok (.putfield 71, 3) := by decide +kernel
theorem dX11_read_74 : decode cX11_read 74 = .ok (.iload_n 3, 1) := by decide +kernel
theorem dX11_read_75 : decode cX11_read 75 = .ok (.ireturn, 1) := by decide +kernel
theorem dX11_read_76 : decode cX11_read 76 = .ok (.iinc 3 1, 3) := by decide +kernel
theorem dX11_read_79 : decode cX11_read 79 = .ok (.goto (-23), 3) := by decide +kernel
theorem dX11_read_82 : decode cX11_read 82 = .ok (.aload_n 0, 1) := by decide +kernel
theorem dX11_read_83 : decode cX11_read 83 = .ok (.iload_n 2, 1) := by decide +kernel
theorem dX11_read_84 : decode cX11_read 84 = .ok (.invokevirtual 96, 3) := by decide +kernel
theorem dX11_read_87 : decode cX11_read 87 = .ok (.ireturn, 1) := by decide +kernel
theorem dX11_mark_0 : decode cX11_mark 0 = .ok (.aload_n 0, 1) := by decide +kernel
theorem dX11_mark_1 : decode cX11_mark 1 = .ok (.getfield 33, 3) := by decide +kernel
theorem dX11_mark_4 : decode cX11_mark 4 = .ok (.invokevirtual 127, 3) := by decide +kernel
theorem dX11_mark_7 : decode cX11_mark 7 = .ok (.ifCond .ne 10, 3) := by decide +kernel
theorem dX11_mark_10 : decode cX11_mark 10 = .ok (.aload_n 0, 1) := by decide +kernel
theorem dX11_mark_11 : decode cX11_mark 11 = .ok (.bipush (-6), 2) := by decide +kernel
theorem dX11_mark_13 : decode cX11_mark 13 = .ok (.invokevirtual 78, 3) := by decide +kernel
theorem dX11_mark_16 : decode cX11_mark 16 = .ok (.ireturn, 1) := by decide +kernel
theorem dX11_mark_17 : decode cX11_mark 17 = .ok (.aload_n 0, 1) := by decide +kernel
theorem dX11_mark_18 : decode cX11_mark 18 = .ok (.getfield 44, 3) := by decide +kernel
theorem dX11_mark_21 : decode cX11_mark 21 = .ok (.aload_n 0, 1) := by decide +kernel
theorem dX11_mark_22 : decode cX11_mark 22 = .ok (.getfield 40, 3) := by decide +kernel
theorem dX11_mark_25 : decode cX11_mark 25 = .ok (.invokevirtual 141, 3) := by decide +kernel
theorem dX11_mark_28 : decode cX11_mark 28 = .ok (.ifCond .ne 10, 3) := by decide +kernel
theorem dX11_mark_31 : decode cX11_mark 31 = .ok (.aload_n 0, 1) := by decide +kernel
theorem dX11_mark_32 : decode cX11_mark 32 = .ok (.bipush (-5), 2) := by decide +kernel
theorem dX11_mark_34 : decode cX11_mark 34 = .ok (.invokevirtual 78, 3) := by decide +kernel
theorem dX11_mark_37 : decode cX11_mark 37 = .ok (.ireturn, 1) := by decide +kernel
theorem dX11_mark_38 : decode cX11_mark 38 = .ok (.aload_n 0, 1) := by decide +kernel
theorem dX11_mark_39 : decode cX11_mark 39 = .ok (.getfield 40, 3) := by decide +kernel
theorem dX11_mark_42 : decode cX11_mark 42 = .ok (.invokevirtual 145, 3) := by decide +kernel
theorem dX11_mark_45 : decode cX11_mark 45 = .ok (.aload_n 0, 1) := by decide +kernel
theorem dX11_mark_46 : decode cX11_mark 46 = .ok (.getfield 61, 3) := by decide +kernel
theorem dX11_mark_49 : decode cX11_mark 49 = .ok (.aload_n 0, 1) := by decide +kernel
theorem dX11_mark_50 : decode cX11_mark 50 = .ok (.getfield 57, 3) := by decide +kernel
theorem dX11_mark_53 : decode cX11_mark 53 = .ok (.invokevirtual 148, 3) := by decide +kernel
theorem dX11_mark_56 : decode cX11_mark 56 = .ok (.aload_n 0, 1) := by decide +kernel
theorem dX11_mark_57 : decode cX11_mark 57 = .ok (.getfield 33, 3) := by decide +kernel
theorem dX11_mark_60 : decode cX11_mark 60 = .ok (.invokevirtual 152, 3) := by decide +kernel
theorem dX11_mark_63 : decode cX11_mark 63 = .ok (.aload_n 0, 1) := by decide +kernel
theorem dX11_mark_64 : decode cX11_mark 64 = .ok (.aload_n 0, 1) := by decide +kernel
theorem dX11_mark_65 : decode cX11_mark 65 = .ok (.getfield 44, 3) := by decide +kernel
theorem dX11_mark_68 : decode cX11_mark 68 = .ok (.invokevirtual 155, 3) := by decide +kernel
theorem dX11_mark_71 : decode cX11_mark 71 = .ok (.invokevirtual 96, 3) := by decide +kernel
theorem dX11_mark_74 : decode cX11_mark 74 = .ok (.ireturn, 1) := by decide +kernel
theorem dX11_fall_0 : decode cX11_fall 0 = .ok (.aload_n 0, 1) := by decide +kernel
theorem dX11_fall_1 : decode cX11_fall 1 = .ok (.getfield 33, 3) := by decide +kernel
theorem dX11_fall_4 : decode cX11_fall 4 = .ok (.invokevirtual 127, 3) := by decide +kernel
theorem dX11_fall_7 : decode cX11_fall 7 = .ok (.ifCond .ne 10, 3) := by decide +kernel
theorem dX11_fall_10 : decode cX11_fall 10 = .ok (.aload_n 0, 1) := by decide +kernel
theorem dX11_fall_11 : decode cX11_fall 11 = .ok (.bipush (-6), 2) := by decide +kernel
theorem dX11_fall_13 : decode cX11_fall 13 = .ok (.invokevirtual 78, 3) := by decide +kernel
theorem dX11_fall_16 : decode cX11_fall 16 = .ok (.ireturn, 1) := by decide +kernel
theorem dX11_fall_17 : decode cX11_fall 17 = .ok (.aload_n 0, 1) := by decide +kernel
theorem dX11_fall_18 : decode cX11_fall 18 = .ok (.getfield 40, 3) := by decide +kernel
theorem dX11_fall_21 : decode cX11_fall 21 = .ok (.invokevirtual 145, 3) := by decide +kernel
theorem dX11_fall_24 : decode cX11_fall 24 = .ok (.aload_n 0, 1) := by decide +kernel
theorem dX11_fall_25 : decode cX11_fall 25 = .ok (.getfield 57, 3) := by decide +kernel
theorem dX11_fall_28 : decode cX11_fall 28 = .ok (.aload_n 0, 1) := by decide +kernel
theorem dX11_fall_29 : decode cX11_fall 29 = .ok (.getfield 61, 3) := by decide +kernel
theorem dX11_fall_32 : decode cX11_fall 32 = .ok (.invokevirtual 148, 3) := by decide +kernel
theorem dX11_fall_35 : decode cX11_fall 35 = .ok (.aload_n 0, 1) := by decide +kernel
theorem dX11_fall_36 : decode cX11_fall 36 = .ok (.getfield 33, 3) := by decide +kernel
theorem dX11_fall_39 : decode cX11_fall 39 = .ok (.invokevirtual 156, 3) := by decide +kernel
theorem dX11_fall_42 : decode cX11_fall 42 = .ok (.aload_n 0, 1) := by decide +kernel
theorem dX11_fall_43 : decode cX11_fall 43 = .ok (.aload_n 0, 1) := by decide +kernel
theorem dX11_fall_44 : decode cX11_fall 44 = .ok (.getfield 57, 3) := by decide +kernel
theorem dX11_fall_47 : decode cX11_fall 47 = .ok (.invokevirtual 128, 3) := by decide +kernel
theorem dX11_fall_50 : decode cX11_fall 50 = .ok (.invokevirtual 96, 3) := by decide +kernel
theorem dX11_fall_53 : decode cX11_fall 53 = .ok (.ireturn, 1) := by decide +kernel
theorem dX11_rows_0 : decode cX11_rows 0 = .ok (.aload_n 0, 1) := by decide +kernel
theorem dX11_rows_1 : decode cX11_rows 1 = .ok (.getfield 33, 3) := by decide +kernel
theorem dX11_rows_4 : decode cX11_rows 4 = .ok (.iload_n 1, 1) := by decide +kernel
theorem dX11_rows_5 : decode cX11_rows 5 = .ok (.invokevirtual 159, 3) := by decide +kernel
theorem dX11_rows_8 : decode cX11_rows 8 = .ok (.ifCond .eq 17, 3) := by decide +kernel
theorem dX11_rows_11 : decode cX11_rows 11 = .ok (.aload_n 0, 1) := by decide +kernel
theorem dX11_rows_12 : decode cX11_rows 12 = .ok (.getfield 33, 3) := by decide +kernel
theorem dX11_rows_15 : decode cX11_rows 15 = .ok (.iload_n 1, 1) := by decide +kernel
theorem dX11_rows_16 : decode cX11_rows 16 = .ok (.invokevirtual 162, 3) := by decide +kernel
theorem dX11_rows_19 : decode cX11_rows 19 = .ok (.invokevirtual 166, 3) := by decide +kernel
theorem dX11_rows_22 : decode cX11_rows 22 = .ok (.goto 4, 3) := by decide +kernel
theorem dX11_rows_25 : decode cX11_rows 25 = .ok (.iconst (-1), 1) := by decide +kernel
theorem dX11_rows_26 : decode cX11_rows 26 = .ok (.ireturn, 1) := by decide +kernel
theorem dX11_row_0 : decode cX11_row 0 = .ok (.aload_n 0, 1) := by decide +kernel
theorem dX11_row_1 : decode cX11_row 1 = .ok (.getfield 33, 3) := by decide +kernel
theorem dX11_row_4 : decode cX11_row 4 = .ok (.iload_n 1, 1) := by decide +kernel
theorem dX11_row_5 : decode cX11_row 5 = .ok (.invokevirtual 159, 3) := by decide +kernel
theorem dX11_row_8 : decode cX11_row 8 = .ok (.ifCond .eq 24, 3) := by decide +kernel
theorem dX11_row_11 : decode cX11_row 11 = .ok (.iload_n 2, 1) := by decide +kernel
theorem dX11_row_12 : decode cX11_row 12 = .ok (.iconst 0, 1) := by decide +kernel
theorem dX11_row_13 : decode cX11_row 13 = .ok (.aload_n 0, 1) := by decide +kernel
theorem dX11_row_14 : decode cX11_row 14 = .ok (.getfield 33, 3) := by decide +kernel
theorem dX11_row_17 : decode cX11_row 17 = .ok (.iload_n 1, 1) := by decide +kernel
theorem dX11_row_18 : decode cX11_row 18 = .ok (.invokevirtual 162, 3) := by decide +kernel
theorem dX11_row_21 : decode cX11_row 21 = .ok (.invokevirtual 166, 3) := by decide +kernel
theorem dX11_row_24 : decode cX11_row 24 = .ok (.iconst 1, 1) := by decide +kernel
theorem dX11_row_25 : decode cX11_row 25 = .ok (.isub, 1) := by decide +kernel
theorem dX11_row_26 : decode cX11_row 26 = .ok (.invokestatic 74, 3) := by decide +kernel
theorem dX11_row_29 : decode cX11_row 29 = .ok (.ifCond .ne 6, 3) := by decide +kernel
theorem dX11_row_32 : decode cX11_row 32 = .ok (.ldc 169, 2) := by decide +kernel
theorem dX11_row_34 : decode cX11_row 34 = .ok (.ireturn, 1) := by decide +kernel
theorem dX11_row_35 : decode cX11_row 35 = .ok (.aload_n 0, 1) := by decide +kernel
theorem dX11_row_36 : decode cX11_row 36 = .ok (.getfield 33, 3) := by decide +kernel
theorem dX11_row_39 : decode cX11_row 39 = .ok (.iload_n 1, 1) := by decide +kernel
theorem dX11_row_40 : decode cX11_row 40 = .ok (.invokevirtual 162, 3) := by decide +kernel
theorem dX11_row_43 : decode cX11_row 43 = .ok (.iload_n 2, 1) := by decide +kernel
theorem dX11_row_44 : decode cX11_row 44 = .ok (.invokevirtual 170, 3) := by decide +kernel
theorem dX11_row_47 : decode cX11_row 47 = .ok (.iload_n 3, 1) := by decide +kernel
theorem dX11_row_48 : decode cX11_row 48 = .ok (.invokestatic 174, 3) := by decide +kernel
theorem dX11_row_51 : decode cX11_row 51 = .ok (.ireturn, 1) := by decide +kernel
theorem dX11_out_0 : decode cX11_out 0 = .ok (.iload_n 1, 1) := by decide +kernel
theorem dX11_out_1 : decode cX11_out 1 = .ok (.iconst (-1), 1) := by decide +kernel
theorem dX11_out_2 : decode cX11_out 2 = .ok (.if_icmp .ne 15, 3) := by decide +kernel
theorem dX11_out_5 : decode cX11_out 5 = .ok (.iload_n 2, 1) := by decide +kernel
theorem dX11_out_6 : decode cX11_out 6 = .ok (.ifCond .ne 11, 3) := by decide +kernel
theorem dX11_out_9 : decode cX11_out 9 = .ok (.aload_n 0, 1) := by decide +kernel
theorem dX11_out_10 : decode cX11_out 10 = .ok (.getfield 44, 3) := by decide +kernel
theorem dX11_out_13 : decode cX11_out 13 = .ok (.invokevirtual 155, 3) := by decide +kernel
theorem dX11_out_16 : decode cX11_out 16 = .ok (.ireturn, 1) := by decide +kernel
theorem dX11_out_17 : decode cX11_out 17 = .ok (.aload_n 0, 1) := by decide +kernel
theorem dX11_out_18 : decode cX11_out 18 = .ok (.getfield 44, 3) := by decide +kernel
theorem dX11_out_21 : decode cX11_out 21 = .ok (.iload_n 1, 1) := by decide +kernel
theorem dX11_out_22 : decode cX11_out 22 = .ok (.iload_n 2, 1) := by decide +kernel
theorem dX11_out_23 : decode cX11_out 23 = .ok (.invokevirtual 178, 3) := by decide +kernel
theorem dX11_out_26 : decode cX11_out 26 = .ok (.ireturn, 1) := by decide +kernel
theorem dX11_host_0 : decode cX11_host 0 = .ok (.iload_n 1, 1) := by decide +kernel
theorem dX11_host_1 : decode cX11_host 1 = .ok (.iconst 0, 1) := by decide +kernel
theorem dX11_host_2 : decode cX11_host 2 = .ok (.bipush 7, 2) := by decide +kernel
theorem dX11_host_4 : decode cX11_host 4 = .ok (.invokestatic 74, 3) := by decide +kernel
theorem dX11_host_7 : decode cX11_host 7 = .ok (.ifCond .ne 9, 3) := by decide +kernel
theorem dX11_host_10 : decode cX11_host 10 = .ok (.aload_n 0, 1) := by decide +kernel
theorem dX11_host_11 : decode cX11_host 11 = .ok (.iconst (-1), 1) := by decide +kernel
theorem dX11_host_12 : decode cX11_host 12 = .ok (.invokevirtual 78, 3) := by decide +kernel
theorem dX11_host_15 : decode cX11_host 15 = .ok (.ireturn, 1) := by decide +kernel
theorem dX11_host_16 : decode cX11_host 16 = .ok (.aload_n 0, 1) := by decide +kernel
theorem dX11_host_17 : decode cX11_host 17 = .ok (.getfield 50, 3) := by decide +kernel
theorem dX11_host_20 : decode cX11_host 20 = .ok (.iload_n 1, 1) := by decide +kernel
theorem dX11_host_21 : decode cX11_host 21 = .ok (.invokevirtual 180, 3) := by decide +kernel
theorem dX11_host_24 : decode cX11_host 24 = .ok (.iload_n 2, 1) := by decide +kernel
theorem dX11_host_25 : decode cX11_host 25 = .ok (.if_icmp .ne 10, 3) := by decide +kernel
theorem dX11_host_28 : decode cX11_host 28 = .ok (.aload_n 0, 1) := by decide +kernel
theorem dX11_host_29 : decode cX11_host 29 = .ok (.bipush (-4), 2) := by decide +kernel
theorem dX11_host_31 : decode cX11_host 31 = .ok (.invokevirtual 78, 3) := by decide +kernel
theorem dX11_host_34 : decode cX11_host 34 = .ok (.ireturn, 1) := by decide +kernel
theorem dX11_host_35 : decode cX11_host 35 = .ok (.iload_n 2, 1) := by decide +kernel
theorem dX11_host_36 : decode cX11_host 36 = .ok (.ifCond .ne 21, 3) := by decide +kernel
theorem dX11_host_39 : decode cX11_host 39 = .ok (.aload_n 0, 1) := by decide +kernel
theorem dX11_host_40 : decode cX11_host 40 = .ok (.getfield 50, 3) := by decide +kernel
theorem dX11_host_43 : decode cX11_host 43 = .ok (.invokevirtual 181, 3) := by decide +kernel
theorem dX11_host_46 : decode cX11_host 46 = .ok (.iconst 1, 1) := by decide +kernel
theorem dX11_host_47 : decode cX11_host 47 = .ok (.if_icmp .ne 10, 3) := by decide +kernel
theorem dX11_host_50 : decode cX11_host 50 = .ok (.aload_n 0, 1) := by decide +kernel
theorem dX11_host_51 : decode cX11_host 51 = .ok (.bipush (-5), 2) := by decide +kernel
theorem dX11_host_53 : decode cX11_host 53 = .ok (.invokevirtual 78, 3) := by decide +kernel
theorem dX11_host_56 : decode cX11_host 56 = .ok (.ireturn, 1) := by decide +kernel
theorem dX11_host_57 : decode cX11_host 57 = .ok (.aload_n 0, 1) := by decide +kernel
theorem dX11_host_58 : decode cX11_host 58 = .ok (.aload_n 0, 1) := by decide +kernel
theorem dX11_host_59 : decode cX11_host 59 = .ok (.getfield 33, 3) := by decide +kernel
theorem dX11_host_62 : decode cX11_host 62 = .ok (.aload_n 0, 1) := by decide +kernel
theorem dX11_host_63 : decode cX11_host 63 = .ok (.getfield 50, 3) := by decide +kernel
theorem dX11_host_66 : decode cX11_host 66 = .ok (.iload_n 1, 1) := by decide +kernel
theorem dX11_host_67 : decode cX11_host 67 = .ok (.iload_n 2, 1) := by decide +kernel
theorem dX11_host_68 : decode cX11_host 68 = .ok (.invokevirtual 182, 3) := by decide +kernel
theorem dX11_host_71 : decode cX11_host 71 = .ok (.invokevirtual 186, 3) := by decide +kernel
theorem dX11_host_74 : decode cX11_host 74 = .ok (.invokevirtual 96, 3) := by decide +kernel
theorem dX11_host_77 : decode cX11_host 77 = .ok (.ireturn, 1) := by decide +kernel
theorem dX11_owner_0 : decode cX11_owner 0 = .ok (.aload_n 0, 1) := by decide +kernel
theorem dX11_owner_1 : decode cX11_owner 1 = .ok (.getfield 50, 3) := by decide +kernel
theorem dX11_owner_4 : decode cX11_owner 4 = .ok (.iload_n 1, 1) := by decide +kernel
theorem dX11_owner_5 : decode cX11_owner 5 = .ok (.invokevirtual 189, 3) := by decide +kernel
theorem dX11_owner_8 : decode cX11_owner 8 = .ok (.ireturn, 1) := by decide +kernel
theorem dX11_owns_0 : decode cX11_owns 0 = .ok (.aload_n 0, 1) := by decide +kernel
theorem dX11_owns_1 : decode cX11_owns 1 = .ok (.getfield 50, 3) := by decide +kernel
theorem dX11_owns_4 : decode cX11_owns 4 = .ok (.iload_n 1, 1) := by decide +kernel
theorem dX11_owns_5 : decode cX11_owns 5 = .ok (.invokevirtual 180, 3) := by decide +kernel
theorem dX11_owns_8 : decode cX11_owns 8 = .ok (.ifCond .eq 21, 3) := by decide +kernel
theorem dX11_owns_11 : decode cX11_owns 11 = .ok (.aload_n 0, 1) := by decide +kernel
theorem dX11_owns_12 : decode cX11_owns 12 = .ok (.getfield 33, 3) := by decide +kernel
theorem dX11_owns_15 : decode cX11_owns 15 = .ok (.aload_n 0, 1) := by decide +kernel
theorem dX11_owns_16 : decode cX11_owns 16 = .ok (.getfield 50, 3) := by decide +kernel
theorem dX11_owns_19 : decode cX11_owns 19 = .ok (.iload_n 1, 1) := by decide +kernel
theorem dX11_owns_20 : decode cX11_owns 20 = .ok (.invokevirtual 192, 3) := by decide +kernel
theorem dX11_owns_23 : decode cX11_owns 23 = .ok (.invokevirtual 186, 3) := by decide +kernel
theorem dX11_owns_26 : decode cX11_owns 26 = .ok (.goto 4, 3) := by decide +kernel
theorem dX11_owns_29 : decode cX11_owns 29 = .ok (.iconst (-1), 1) := by decide +kernel
theorem dX11_owns_30 : decode cX11_owns 30 = .ok (.ireturn, 1) := by decide +kernel
theorem dX11_count_0 : decode cX11_count 0 = .ok (.iload_n 1, 1) := by decide +kernel
theorem dX11_count_1 : decode cX11_count 1 = .ok (.tableswitch 123 0 8 #[51, 59, 67, 75, 83, 91, 99, 107, 115], 51) := by decide +kernel
theorem dX11_count_52 : decode cX11_count 52 = .ok (.aload_n 0, 1) := by decide +kernel
theorem dX11_count_53 : decode cX11_count 53 = .ok (.getfield 10, 3) := by decide +kernel
theorem dX11_count_56 : decode cX11_count 56 = .ok (.invokevirtual 92, 3) := by decide +kernel
theorem dX11_count_59 : decode cX11_count 59 = .ok (.ireturn, 1) := by decide +kernel
theorem dX11_count_60 : decode cX11_count 60 = .ok (.aload_n 0, 1) := by decide +kernel
theorem dX11_count_61 : decode cX11_count 61 = .ok (.getfield 57, 3) := by decide +kernel
theorem dX11_count_64 : decode cX11_count 64 = .ok (.invokevirtual 128, 3) := by decide +kernel
theorem dX11_count_67 : decode cX11_count 67 = .ok (.ireturn, 1) := by decide +kernel
theorem dX11_count_68 : decode cX11_count 68 = .ok (.aload_n 0, 1) := by decide +kernel
theorem dX11_count_69 : decode cX11_count 69 = .ok (.getfield 57, 3) := by decide +kernel
theorem dX11_count_72 : decode cX11_count 72 = .ok (.invokevirtual 195, 3) := by decide +kernel
theorem dX11_count_75 : decode cX11_count 75 = .ok (.ireturn, 1) := by decide +kernel
theorem dX11_count_76 : decode cX11_count 76 = .ok (.aload_n 0, 1) := by decide +kernel
theorem dX11_count_77 : decode cX11_count 77 = .ok (.getfield 33, 3) := by decide +kernel
theorem dX11_count_80 : decode cX11_count 80 = .ok (.invokevirtual 127, 3) := by decide +kernel
theorem dX11_count_83 : decode cX11_count 83 = .ok (.ireturn, 1) := by decide +kernel
theorem dX11_count_84 : decode cX11_count 84 = .ok (.aload_n 0, 1) := by decide +kernel
theorem dX11_count_85 : decode cX11_count 85 = .ok (.getfield 50, 3) := by decide +kernel
theorem dX11_count_88 : decode cX11_count 88 = .ok (.invokevirtual 181, 3) := by decide +kernel
theorem dX11_count_91 : decode cX11_count 91 = .ok (.ireturn, 1) := by decide +kernel
theorem dX11_count_92 : decode cX11_count 92 = .ok (.aload_n 0, 1) := by decide +kernel
theorem dX11_count_93 : decode cX11_count 93 = .ok (.getfield 40, 3) := by decide +kernel
theorem dX11_count_96 : decode cX11_count 96 = .ok (.invokevirtual 155, 3) := by decide +kernel
theorem dX11_count_99 : decode cX11_count 99 = .ok (.ireturn, 1) := by decide +kernel
theorem dX11_count_100 : decode cX11_count 100 = .ok (.aload_n 0, 1) := by decide +kernel
theorem dX11_count_101 : decode cX11_count 101 = .ok (.getfield 19, 3) := by decide +kernel
theorem dX11_count_104 : decode cX11_count 104 = .ok (.invokevirtual 107, 3) := by decide +kernel
theorem dX11_count_107 : decode cX11_count 107 = .ok (.ireturn, 1) := by decide +kernel
theorem dX11_count_108 : decode cX11_count 108 = .ok (.aload_n 0, 1) := by decide +kernel
theorem dX11_count_109 : decode cX11_count 109 = .ok (.getfield 57, 3) := by decide +kernel
theorem dX11_count_112 : decode cX11_count 112 = .ok (.invokevirtual 198, 3) := by decide +kernel
theorem dX11_count_115 : decode cX11_count 115 = .ok (.ireturn, 1) := by decide +kernel
theorem dX11_count_116 : decode cX11_count 116 = .ok (.aload_n 0, 1) := by decide +kernel
theorem dX11_count_117 : decode cX11_count 117 = .ok (.getfield 61, 3) := by decide +kernel
theorem dX11_count_120 : decode cX11_count 120 = .ok (.invokevirtual 128, 3) := by decide +kernel
theorem dX11_count_123 : decode cX11_count 123 = .ok (.ireturn, 1) := by decide +kernel
theorem dX11_count_124 : decode cX11_count 124 = .ok (.iconst (-1), 1) := by decide +kernel
theorem dX11_count_125 : decode cX11_count 125 = .ok (.ireturn, 1) := by decide +kernel
theorem dX11_status_0 : decode cX11_status 0 = .ok (.aload_n 0, 1) := by decide +kernel
theorem dX11_status_1 : decode cX11_status 1 = .ok (.getfield 71, 3) := by decide +kernel
theorem dX11_status_4 : decode cX11_status 4 = .ok (.ireturn, 1) := by decide +kernel
theorem dX11_refuse_0 : decode cX11_refuse 0 = .ok (.aload_n 0, 1) := by decide +kernel
theorem dX11_refuse_1 : decode cX11_refuse 1 = .ok (.iload_n 1, 1) := by decide +kernel
theorem dX11_refuse_2 : decode cX11_refuse 2 = .ok (.putfield 71, 3) := by decide +kernel
theorem dX11_refuse_5 : decode cX11_refuse 5 = .ok (.iload_n 1, 1) := by decide +kernel
theorem dX11_refuse_6 : decode cX11_refuse 6 = .ok (.ireturn, 1) := by decide +kernel
theorem dX11_grant_0 : decode cX11_grant 0 = .ok (.aload_n 0, 1) := by decide +kernel
theorem dX11_grant_1 : decode cX11_grant 1 = .ok (.iconst 0, 1) := by decide +kernel
theorem dX11_grant_2 : decode cX11_grant 2 = .ok (.putfield 71, 3) := by decide +kernel
theorem dX11_grant_5 : decode cX11_grant 5 = .ok (.iload_n 1, 1) := by decide +kernel
theorem dX11_grant_6 : decode cX11_grant 6 = .ok (.ireturn, 1) := by decide +kernel
theorem dX11_beginAnew_0 : decode cX11_beginAnew 0 = .ok (.aload_n 0, 1) := by decide +kernel
theorem dX11_beginAnew_1 : decode cX11_beginAnew 1 = .ok (.getfield 57, 3) := by decide +kernel
theorem dX11_beginAnew_4 : decode cX11_beginAnew 4 = .ok (.invokevirtual 201, 3) := by decide +kernel
theorem dX11_beginAnew_7 : decode cX11_beginAnew 7 = .ok (.aload_n 0, 1) := by decide +kernel
theorem dX11_beginAnew_8 : decode cX11_beginAnew 8 = .ok (.getfield 61, 3) := by decide +kernel
theorem dX11_beginAnew_11 : decode cX11_beginAnew 11 = .ok (.invokevirtual 201, 3) := by decide +kernel
theorem dX11_beginAnew_14 : decode cX11_beginAnew 14 = .ok (.aload_n 0, 1) := by decide +kernel
theorem dX11_beginAnew_15 : decode cX11_beginAnew 15 = .ok (.getfield 40, 3) := by decide +kernel
theorem dX11_beginAnew_18 : decode cX11_beginAnew 18 = .ok (.invokevirtual 145, 3) := by decide +kernel
theorem dX11_beginAnew_21 : decode cX11_beginAnew 21 = .ok (.aload_n 0, 1) := by decide +kernel
theorem dX11_beginAnew_22 : decode cX11_beginAnew 22 = .ok (.getfield 44, 3) := by decide +kernel
theorem dX11_beginAnew_25 : decode cX11_beginAnew 25 = .ok (.invokevirtual 145, 3) := by decide +kernel
theorem dX11_beginAnew_28 : decode cX11_beginAnew 28 = .ok (.aload_n 0, 1) := by decide +kernel
theorem dX11_beginAnew_29 : decode cX11_beginAnew 29 = .ok (.getfield 33, 3) := by decide +kernel
theorem dX11_beginAnew_32 : decode cX11_beginAnew 32 = .ok (.invokevirtual 202, 3) := by decide +kernel
theorem dX11_beginAnew_35 : decode cX11_beginAnew 35 = .ok (.return_, 1) := by decide +kernel
theorem dX11_readNext_0 : decode cX11_readNext 0 = .ok (.aload_n 0, 1) := by decide +kernel
theorem dX11_readNext_1 : decode cX11_readNext 1 = .ok (.getfield 57, 3) := by decide +kernel
theorem dX11_readNext_4 : decode cX11_readNext 4 = .ok (.invokevirtual 128, 3) := by decide +kernel
theorem dX11_readNext_7 : decode cX11_readNext 7 = .ok (.istore_n 1, 1) := by decide +kernel
theorem dX11_readNext_8 : decode cX11_readNext 8 = .ok (.aload_n 0, 1) := by decide +kernel
theorem dX11_readNext_9 : decode cX11_readNext 9 = .ok (.getfield 10, 3) := by decide +kernel
theorem dX11_readNext_12 : decode cX11_readNext 12 = .ok (.iload_n 1, 1) := by decide +kernel
theorem dX11_readNext_13 : decode cX11_readNext 13 = .ok (.invokevirtual 203, 3) := by decide +kernel
theorem dX11_readNext_16 : decode cX11_readNext 16 = .ok (.lstore_n 2, 1) := by decide +kernel
theorem dX11_readNext_17 : decode cX11_readNext 17 = .ok (.lload_n 2, 1) := by decide +kernel
theorem dX11_readNext_18 : decode cX11_readNext 18 = .ok (.invokestatic 206, 3) := by decide +kernel
theorem dX11_readNext_21 : decode cX11_readNext 21 = .ok (.istore 4, 2) := by decide +kernel
theorem dX11_readNext_23 : decode cX11_readNext 23 = .ok (.aload_n 0, 1) := by decide +kernel
theorem dX11_readNext_24 : decode cX11_readNext 24 = .ok (.getfield 64, 3) := by decide +kernel
theorem dX11_readNext_27 : decode cX11_readNext 27 = .ok (.iconst (-1), 1) := by decide +kernel
theorem dX11_readNext_28 : decode cX11_readNext 28 = .ok (.if_icmp .eq 24, 3) := by decide +kernel
theorem dX11_readNext_31 : decode cX11_readNext 31 = .ok (.iload 4, 2) := by decide +kernel
theorem dX11_readNext_33 : decode cX11_readNext 33 = .ok (.aload_n 0, 1) := by decide +kernel
theorem dX11_readNext_34 : decode cX11_readNext 34 = .ok (.getfield 57, 3) := by decide +kernel
theorem dX11_readNext_37 : decode cX11_readNext 37 = .ok (.invokevirtual 198, 3) := by decide +kernel
theorem dX11_readNext_40 : decode cX11_readNext 40 = .ok (.aload_n 0, 1) := by decide +kernel
theorem dX11_readNext_41 : decode cX11_readNext 41 = .ok (.getfield 64, 3) := by decide +kernel
theorem dX11_readNext_44 : decode cX11_readNext 44 = .ok (.isub, 1) := by decide +kernel
theorem dX11_readNext_45 : decode cX11_readNext 45 = .ok (.if_icmp .ge 7, 3) := by decide +kernel
theorem dX11_readNext_48 : decode cX11_readNext 48 = .ok (.iconst 1, 1) := by decide +kernel
theorem dX11_readNext_49 : decode cX11_readNext 49 = .ok (.goto 4, 3) := by decide +kernel
theorem dX11_readNext_52 : decode cX11_readNext 52 = .ok (.iconst 0, 1) := by decide +kernel
theorem dX11_readNext_53 : decode cX11_readNext 53 = .ok (.istore 5, 2) := by decide +kernel
theorem dX11_readNext_55 : decode cX11_readNext 55 = .ok (.iload 5, 2) := by decide +kernel
theorem dX11_readNext_57 : decode cX11_readNext 57 = .ok (.ifCond .ne 55, 3) := by decide +kernel
theorem dX11_readNext_60 : decode cX11_readNext 60 = .ok (.aload_n 0, 1) := by decide +kernel
theorem dX11_readNext_61 : decode cX11_readNext 61 = .ok (.getfield 33, 3) := by decide +kernel
theorem dX11_readNext_64 : decode cX11_readNext 64 = .ok (.aload_n 0, 1) := by decide +kernel
theorem dX11_readNext_65 : decode cX11_readNext 65 = .ok (.getfield 10, 3) := by decide +kernel
theorem dX11_readNext_68 : decode cX11_readNext 68 = .ok (.iload_n 1, 1) := by decide +kernel
theorem dX11_readNext_69 : decode cX11_readNext 69 = .ok (.invokevirtual 210, 3) := by decide +kernel
theorem dX11_readNext_72 : decode cX11_readNext 72 = .ok (.lload_n 2, 1) := by decide +kernel
theorem dX11_readNext_73 : decode cX11_readNext 73 = .ok (.invokevirtual 213, 3) := by decide +kernel
theorem dX11_readNext_76 : decode cX11_readNext 76 = .ok (.ifCond .eq 27, 3) := by decide +kernel
theorem dX11_readNext_79 : decode cX11_readNext 79 = .ok (.aload_n 0, 1) := by decide +kernel
theorem dX11_readNext_80 : decode cX11_readNext 80 = .ok (.getfield 40, 3) := by decide +kernel
theorem dX11_readNext_83 : decode cX11_readNext 83 = .ok (.aload_n 0, 1) := by decide +kernel
theorem dX11_readNext_84 : decode cX11_readNext 84 = .ok (.getfield 33, 3) := by decide +kernel
theorem dX11_readNext_87 : decode cX11_readNext 87 = .ok (.invokevirtual 216, 3) := by decide +kernel
theorem dX11_readNext_90 : decode cX11_readNext 90 = .ok (.aload_n 0, 1) := by decide +kernel
theorem dX11_readNext_91 : decode cX11_readNext 91 = .ok (.getfield 33, 3) := by decide +kernel
theorem dX11_readNext_94 : decode cX11_readNext 94 = .ok (.invokevirtual 220, 3) := by decide +kernel
theorem dX11_readNext_97 : decode cX11_readNext 97 = .ok (.invokevirtual 223, 3) := by decide +kernel
theorem dX11_readNext_100 : decode cX11_readNext 100 = .ok (.ifCond .ne 5, 3) := by decide +kernel
theorem dX11_readNext_103 : decode cX11_readNext 103 = .ok (.iconst 0, 1) := by decide +kernel
theorem dX11_readNext_104 : decode cX11_readNext 104 = .ok (.ireturn, 1) := by decide +kernel
theorem dX11_readNext_105 : decode cX11_readNext 105 = .ok (.aload_n 0, 1) := by decide +kernel
theorem dX11_readNext_106 : decode cX11_readNext 106 = .ok (.getfield 33, 3) := by decide +kernel
theorem dX11_readNext_109 : decode cX11_readNext 109 = .ok (.invokevirtual 227, 3) := by decide +kernel
theorem dX11_readNext_112 : decode cX11_readNext 112 = .ok (.aload_n 0, 1) := by decide +kernel
theorem dX11_readNext_113 : decode cX11_readNext 113 = .ok (.getfield 57, 3) := by decide +kernel
theorem dX11_readNext_116 : decode cX11_readNext 116 = .ok (.iload 4, 2) := by decide +kernel
theorem dX11_readNext_118 : decode cX11_readNext 118 = .ok (.iload 5, 2) := by decide +kernel
theorem dX11_readNext_120 : decode cX11_readNext 120 = .ok (.invokevirtual 230, 3) := by decide +kernel
theorem dX11_readNext_123 : decode cX11_readNext 123 = .ok (.iconst 1, 1) := by decide +kernel
theorem dX11_readNext_124 : decode cX11_readNext 124 = .ok (.ireturn, 1) := by decide +kernel
theorem dX11_isWithin_0 : decode cX11_isWithin 0 = .ok (.iload_n 0, 1) := by decide +kernel
theorem dX11_isWithin_1 : decode cX11_isWithin 1 = .ok (.iload_n 1, 1) := by decide +kernel
theorem dX11_isWithin_2 : decode cX11_isWithin 2 = .ok (.if_icmp .lt 12, 3) := by decide +kernel
theorem dX11_isWithin_5 : decode cX11_isWithin 5 = .ok (.iload_n 0, 1) := by decide +kernel
theorem dX11_isWithin_6 : decode cX11_isWithin 6 = .ok (.iload_n 2, 1) := by decide +kernel
theorem dX11_isWithin_7 : decode cX11_isWithin 7 = .ok (.if_icmp .gt 7, 3) := by decide +kernel
theorem dX11_isWithin_10 : decode cX11_isWithin 10 = .ok (.iconst 1, 1) := by decide +kernel
theorem dX11_isWithin_11 : decode cX11_isWithin 11 = .ok (.goto 4, 3) := by decide +kernel
theorem dX11_isWithin_14 : decode cX11_isWithin 14 = .ok (.iconst 0, 1) := by decide +kernel
theorem dX11_isWithin_15 : decode cX11_isWithin 15 = .ok (.ireturn, 1) := by decide +kernel
theorem dJ9_max_7cf53_0 : decode cJ9_max_7cf53 0 = .ok (.iload_n 0, 1) := by decide +kernel
theorem dJ9_max_7cf53_1 : decode cJ9_max_7cf53 1 = .ok (.iload_n 1, 1) := by decide +kernel
theorem dJ9_max_7cf53_2 : decode cJ9_max_7cf53 2 = .ok (.if_icmp .lt 7, 3) := by decide +kernel
theorem dJ9_max_7cf53_5 : decode cJ9_max_7cf53 5 = .ok (.iload_n 0, 1) := by decide +kernel
theorem dJ9_max_7cf53_6 : decode cJ9_max_7cf53 6 = .ok (.goto 4, 3) := by decide +kernel
theorem dJ9_max_7cf53_9 : decode cJ9_max_7cf53 9 = .ok (.iload_n 1, 1) := by decide +kernel
theorem dJ9_max_7cf53_10 : decode cJ9_max_7cf53 10 = .ok (.ireturn, 1) := by decide +kernel
theorem dJ9_min_7cf53_0 : decode cJ9_min_7cf53 0 = .ok (.iload_n 0, 1) := by decide +kernel
theorem dJ9_min_7cf53_1 : decode cJ9_min_7cf53 1 = .ok (.iload_n 1, 1) := by decide +kernel
theorem dJ9_min_7cf53_2 : decode cJ9_min_7cf53 2 = .ok (.if_icmp .gt 7, 3) := by decide +kernel
theorem dJ9_min_7cf53_5 : decode cJ9_min_7cf53 5 = .ok (.iload_n 0, 1) := by decide +kernel
theorem dJ9_min_7cf53_6 : decode cJ9_min_7cf53 6 = .ok (.goto 4, 3) := by decide +kernel
theorem dJ9_min_7cf53_9 : decode cJ9_min_7cf53 9 = .ok (.iload_n 1, 1) := by decide +kernel
theorem dJ9_min_7cf53_10 : decode cJ9_min_7cf53 10 = .ok (.ireturn, 1) := by decide +kernel
theorem dJ0_length_8abf5_0 : decode cJ0_length_8abf5 0 = .ok (.aload_n 0, 1) := by decide +kernel
theorem dJ0_length_8abf5_1 : decode cJ0_length_8abf5 1 = .ok (.getfield 9, 3) := by decide +kernel
theorem dJ0_length_8abf5_4 : decode cJ0_length_8abf5 4 = .ok (.arraylength, 1) := by decide +kernel
theorem dJ0_length_8abf5_5 : decode cJ0_length_8abf5 5 = .ok (.aload_n 0, 1) := by decide +kernel
theorem dJ0_length_8abf5_6 : decode cJ0_length_8abf5 6 = .ok (.invokevirtual 335, 3) := by decide +kernel
theorem dJ0_length_8abf5_9 : decode cJ0_length_8abf5 9 = .ok (.ishr, 1) := by decide +kernel
theorem dJ0_length_8abf5_10 : decode cJ0_length_8abf5 10 = .ok (.ireturn, 1) := by decide +kernel
theorem dJ0_charAt_5068e_0 : decode cJ0_charAt_5068e 0 = .ok (.aload_n 0, 1) := by decide +kernel
theorem dJ0_charAt_5068e_1 : decode cJ0_charAt_5068e 1 = .ok (.invokevirtual 492, 3) := by decide +kernel
theorem dJ0_charAt_5068e_4 : decode cJ0_charAt_5068e 4 = .ok (.ifCond .eq 12, 3) := by decide +kernel
theorem dJ0_charAt_5068e_7 : decode cJ0_charAt_5068e 7 = .ok (.aload_n 0, 1) := by decide +kernel
theorem dJ0_charAt_5068e_8 : decode cJ0_charAt_5068e 8 = .ok (.getfield 9, 3) := by decide +kernel
theorem dJ0_charAt_5068e_11 : decode cJ0_charAt_5068e 11 = .ok (.iload_n 1, 1) := by decide +kernel
theorem dJ0_charAt_5068e_12 : decode cJ0_charAt_5068e 12 = .ok (.invokestatic 495, 3) := by decide +kernel
theorem dJ0_charAt_5068e_15 : decode cJ0_charAt_5068e 15 = .ok (.ireturn, 1) := by decide +kernel
theorem dJ0_charAt_5068e_16 : decode cJ0_charAt_5068e 16 = .ok (.aload_n 0, 1) := by decide +kernel
theorem dJ0_charAt_5068e_17 : decode cJ0_charAt_5068e 17 = .ok (.getfield 9, 3) := by decide +kernel
theorem dJ0_charAt_5068e_20 : decode cJ0_charAt_5068e 20 = .ok (.iload_n 1, 1) := by decide +kernel
theorem dJ0_charAt_5068e_21 : decode cJ0_charAt_5068e 21 = .ok (.invokestatic 498, 3) := by decide +kernel
theorem dJ0_charAt_5068e_24 : decode cJ0_charAt_5068e 24 = .ok (.ireturn, 1) := by decide +kernel
theorem dJ0_coder_7d493_0 : decode cJ0_coder_7d493 0 = .ok (.getstatic 38, 3) := by decide +kernel
theorem dJ0_coder_7d493_3 : decode cJ0_coder_7d493 3 = .ok (.ifCond .eq 10, 3) := by decide +kernel
theorem dJ0_coder_7d493_6 : decode cJ0_coder_7d493 6 = .ok (.aload_n 0, 1) := by decide +kernel
theorem dJ0_coder_7d493_7 : decode cJ0_coder_7d493 7 = .ok (.getfield 15, 3) := by decide +kernel
theorem dJ0_coder_7d493_10 : decode cJ0_coder_7d493 10 = .ok (.goto 4, 3) := by decide +kernel
theorem dJ0_coder_7d493_13 : decode cJ0_coder_7d493 13 = .ok (.iconst 1, 1) := by decide +kernel
theorem dJ0_coder_7d493_14 : decode cJ0_coder_7d493 14 = .ok (.ireturn, 1) := by decide +kernel
theorem dJ0_isLatin1_aae02_0 : decode cJ0_isLatin1_aae02 0 = .ok (.getstatic 38, 3) := by decide +kernel
theorem dJ0_isLatin1_aae02_3 : decode cJ0_isLatin1_aae02 3 = .ok (.ifCond .eq 14, 3) := by decide +kernel
theorem dJ0_isLatin1_aae02_6 : decode cJ0_isLatin1_aae02 6 = .ok (.aload_n 0, 1) := by decide +kernel
theorem dJ0_isLatin1_aae02_7 : decode cJ0_isLatin1_aae02 7 = .ok (.getfield 15, 3) := by decide +kernel
theorem dJ0_isLatin1_aae02_10 : decode cJ0_isLatin1_aae02 10 = .ok (.ifCond .ne 7, 3) := by decide +kernel
theorem dJ0_isLatin1_aae02_13 : decode cJ0_isLatin1_aae02 13 = .ok (.iconst 1, 1) := by decide +kernel
theorem dJ0_isLatin1_aae02_14 : decode cJ0_isLatin1_aae02 14 = .ok (.goto 4, 3) := by decide +kernel
theorem dJ0_isLatin1_aae02_17 : decode cJ0_isLatin1_aae02 17 = .ok (.iconst 0, 1) := by decide +kernel
theorem dJ0_isLatin1_aae02_18 : decode cJ0_isLatin1_aae02 18 = .ok (.ireturn, 1) := by decide +kernel
theorem dJ0_checkIndex_df160_0 : decode cJ0_checkIndex_df160 0 = .ok (.iload_n 0, 1) := by decide +kernel
theorem dJ0_checkIndex_df160_1 : decode cJ0_checkIndex_df160 1 = .ok (.iload_n 1, 1) := by decide +kernel
theorem dJ0_checkIndex_df160_2 : decode cJ0_checkIndex_df160 2 = .ok (.getstatic 1053, 3) := by decide +kernel
theorem dJ0_checkIndex_df160_5 : decode cJ0_checkIndex_df160 5 = .ok (.invokestatic 1059, 3) := by decide +kernel
theorem dJ0_checkIndex_df160_8 : decode cJ0_checkIndex_df160 8 = .ok (.pop, 1) := by decide +kernel
theorem dJ0_checkIndex_df160_9 : decode cJ0_checkIndex_df160 9 = .ok (.return_, 1) := by decide +kernel
theorem dJ1_charAt_3b067_0 : decode cJ1_charAt_3b067 0 = .ok (.iload_n 1, 1) := by decide +kernel
theorem dJ1_charAt_3b067_1 : decode cJ1_charAt_3b067 1 = .ok (.aload_n 0, 1) := by decide +kernel
theorem dJ1_charAt_3b067_2 : decode cJ1_charAt_3b067 2 = .ok (.arraylength, 1) := by decide +kernel
theorem dJ1_charAt_3b067_3 : decode cJ1_charAt_3b067 3 = .ok (.invokestatic 9, 3) := by decide +kernel
theorem dJ1_charAt_3b067_6 : decode cJ1_charAt_3b067 6 = .ok (.aload_n 0, 1) := by decide +kernel
theorem dJ1_charAt_3b067_7 : decode cJ1_charAt_3b067 7 = .ok (.iload_n 1, 1) := by decide +kernel
theorem dJ1_charAt_3b067_8 : decode cJ1_charAt_3b067 8 = .ok (.baload, 1) := by decide +kernel
theorem dJ1_charAt_3b067_9 : decode cJ1_charAt_3b067 9 = .ok (.sipush 255, 3) := by decide +kernel
theorem dJ1_charAt_3b067_12 : decode cJ1_charAt_3b067 12 = .ok (.iand, 1) := by decide +kernel
theorem dJ1_charAt_3b067_13 : decode cJ1_charAt_3b067 13 = .ok (.i2c, 1) := by decide +kernel
theorem dJ1_charAt_3b067_14 : decode cJ1_charAt_3b067 14 = .ok (.ireturn, 1) := by decide +kernel
theorem dJ2_getChar_3b067_0 : decode cJ2_getChar_3b067 0 = .ok (.getstatic 44, 3) := by decide +kernel
theorem dJ2_getChar_3b067_3 : decode cJ2_getChar_3b067 3 = .ok (.ifCond .ne 25, 3) := by decide +kernel
theorem dJ2_getChar_3b067_6 : decode cJ2_getChar_3b067 6 = .ok (.iload_n 1, 1) := by decide +kernel
theorem dJ2_getChar_3b067_7 : decode cJ2_getChar_3b067 7 = .ok (.ifCond .lt 11, 3) := by decide +kernel
theorem dJ2_getChar_3b067_10 : decode cJ2_getChar_3b067 10 = .ok (.iload_n 1, 1) := by decide +kernel
theorem dJ2_getChar_3b067_11 : decode cJ2_getChar_3b067 11 = .ok (.aload_n 0, 1) := by decide +kernel
theorem dJ2_getChar_3b067_12 : decode cJ2_getChar_3b067 12 = .ok (.invokestatic 48, 3) := by decide +kernel
theorem dJ2_getChar_3b067_15 : decode cJ2_getChar_3b067 15 = .ok (.if_icmp .lt 13, 3) := by decide +kernel
theorem dJ2_getChar_3b067_18 : decode cJ2_getChar_3b067 18 = .ok (.new 52, 3) := by decide +kernel
theorem dJ2_getChar_3b067_21 : decode cJ2_getChar_3b067 21 = .ok (.dup, 1) := by decide +kernel
theorem dJ2_getChar_3b067_22 : decode cJ2_getChar_3b067 22 = .ok (.ldc 54, 2) := by decide +kernel
theorem dJ2_getChar_3b067_24 : decode cJ2_getChar_3b067 24 = .ok (.invokespecial 56, 3) := by decide +kernel
theorem dJ2_getChar_3b067_27 : decode cJ2_getChar_3b067 27 = .ok (.athrow, 1) := by decide +kernel
theorem dJ2_getChar_3b067_28 : decode cJ2_getChar_3b067 28 = .ok (.iload_n 1, 1) := by decide +kernel
theorem dJ2_getChar_3b067_29 : decode cJ2_getChar_3b067 29 = .ok (.iconst 1, 1) := by decide +kernel
theorem dJ2_getChar_3b067_30 : decode cJ2_getChar_3b067 30 = .ok (.ishl, 1) := by decide +kernel
theorem dJ2_getChar_3b067_31 : decode cJ2_getChar_3b067 31 = .ok (.istore_n 1, 1) := by decide +kernel
theorem dJ2_getChar_3b067_32 : decode cJ2_getChar_3b067 32 = .ok (.aload_n 0, 1) := by decide +kernel
theorem dJ2_getChar_3b067_33 : decode cJ2_getChar_3b067 33 = .ok (.iload_n 1, 1) := by decide +kernel
theorem dJ2_getChar_3b067_34 : decode cJ2_getChar_3b067 34 = .ok (.iinc 1 1, 3) := by decide +kernel
theorem dJ2_getChar_3b067_37 : decode cJ2_getChar_3b067 37 = .ok (.baload, 1) := by decide +kernel
theorem dJ2_getChar_3b067_38 : decode cJ2_getChar_3b067 38 = .ok (.sipush 255, 3) := by decide +kernel
theorem dJ2_getChar_3b067_41 : decode cJ2_getChar_3b067 41 = .ok (.iand, 1) := by decide +kernel
theorem dJ2_getChar_3b067_42 : decode cJ2_getChar_3b067 42 = .ok (.getstatic 59, 3) := by decide +kernel
theorem dJ2_getChar_3b067_45 : decode cJ2_getChar_3b067 45 = .ok (.ishl, 1) := by decide +kernel
theorem dJ2_getChar_3b067_46 : decode cJ2_getChar_3b067 46 = .ok (.aload_n 0, 1) := by decide +kernel
theorem dJ2_getChar_3b067_47 : decode cJ2_getChar_3b067 47 = .ok (.iload_n 1, 1) := by decide +kernel
theorem dJ2_getChar_3b067_48 : decode cJ2_getChar_3b067 48 = .ok (.baload, 1) := by decide +kernel
theorem dJ2_getChar_3b067_49 : decode cJ2_getChar_3b067 49 = .ok (.sipush 255, 3) := by decide +kernel
theorem dJ2_getChar_3b067_52 : decode cJ2_getChar_3b067 52 = .ok (.iand, 1) := by decide +kernel
theorem dJ2_getChar_3b067_53 : decode cJ2_getChar_3b067 53 = .ok (.getstatic 63, 3) := by decide +kernel
theorem dJ2_getChar_3b067_56 : decode cJ2_getChar_3b067 56 = .ok (.ishl, 1) := by decide +kernel
theorem dJ2_getChar_3b067_57 : decode cJ2_getChar_3b067 57 = .ok (.ior, 1) := by decide +kernel
theorem dJ2_getChar_3b067_58 : decode cJ2_getChar_3b067 58 = .ok (.i2c, 1) := by decide +kernel
theorem dJ2_getChar_3b067_59 : decode cJ2_getChar_3b067 59 = .ok (.ireturn, 1) := by decide +kernel
theorem dJ2_length_9d52b_0 : decode cJ2_length_9d52b 0 = .ok (.aload_n 0, 1) := by decide +kernel
theorem dJ2_length_9d52b_1 : decode cJ2_length_9d52b 1 = .ok (.arraylength, 1) := by decide +kernel
theorem dJ2_length_9d52b_2 : decode cJ2_length_9d52b 2 = .ok (.iconst 1, 1) := by decide +kernel
theorem dJ2_length_9d52b_3 : decode cJ2_length_9d52b 3 = .ok (.ishr, 1) := by decide +kernel
theorem dJ2_length_9d52b_4 : decode cJ2_length_9d52b 4 = .ok (.ireturn, 1) := by decide +kernel
theorem dJ2_charAt_3b067_0 : decode cJ2_charAt_3b067 0 = .ok (.iload_n 1, 1) := by decide +kernel
theorem dJ2_charAt_3b067_1 : decode cJ2_charAt_3b067 1 = .ok (.aload_n 0, 1) := by decide +kernel
theorem dJ2_charAt_3b067_2 : decode cJ2_charAt_3b067 2 = .ok (.invokestatic 67, 3) := by decide +kernel
theorem dJ2_charAt_3b067_5 : decode cJ2_charAt_3b067 5 = .ok (.aload_n 0, 1) := by decide +kernel
theorem dJ2_charAt_3b067_6 : decode cJ2_charAt_3b067 6 = .ok (.iload_n 1, 1) := by decide +kernel
theorem dJ2_charAt_3b067_7 : decode cJ2_charAt_3b067 7 = .ok (.invokestatic 71, 3) := by decide +kernel
theorem dJ2_charAt_3b067_10 : decode cJ2_charAt_3b067 10 = .ok (.ireturn, 1) := by decide +kernel
theorem dJ2_checkIndex_2214a_0 : decode cJ2_checkIndex_2214a 0 = .ok (.iload_n 0, 1) := by decide +kernel
theorem dJ2_checkIndex_2214a_1 : decode cJ2_checkIndex_2214a 1 = .ok (.aload_n 1, 1) := by decide +kernel
theorem dJ2_checkIndex_2214a_2 : decode cJ2_checkIndex_2214a 2 = .ok (.invokestatic 48, 3) := by decide +kernel
theorem dJ2_checkIndex_2214a_5 : decode cJ2_checkIndex_2214a 5 = .ok (.invokestatic 414, 3) := by decide +kernel
theorem dJ2_checkIndex_2214a_8 : decode cJ2_checkIndex_2214a 8 = .ok (.return_, 1) := by decide +kernel
theorem dJ7_fill_53178_0 : decode cJ7_fill_53178 0 = .ok (.iconst 0, 1) := by decide +kernel
theorem dJ7_fill_53178_1 : decode cJ7_fill_53178 1 = .ok (.istore_n 2, 1) := by decide +kernel
theorem dJ7_fill_53178_2 : decode cJ7_fill_53178 2 = .ok (.aload_n 0, 1) := by decide +kernel
theorem dJ7_fill_53178_3 : decode cJ7_fill_53178 3 = .ok (.arraylength, 1) := by decide +kernel
theorem dJ7_fill_53178_4 : decode cJ7_fill_53178 4 = .ok (.istore_n 3, 1) := by decide +kernel
theorem dJ7_fill_53178_5 : decode cJ7_fill_53178 5 = .ok (.iload_n 2, 1) := by decide +kernel
theorem dJ7_fill_53178_6 : decode cJ7_fill_53178 6 = .ok (.iload_n 3, 1) := by decide +kernel
theorem dJ7_fill_53178_7 : decode cJ7_fill_53178 7 = .ok (.if_icmp .ge 13, 3) := by decide +kernel
theorem dJ7_fill_53178_10 : decode cJ7_fill_53178 10 = .ok (.aload_n 0, 1) := by decide +kernel
theorem dJ7_fill_53178_11 : decode cJ7_fill_53178 11 = .ok (.iload_n 2, 1) := by decide +kernel
theorem dJ7_fill_53178_12 : decode cJ7_fill_53178 12 = .ok (.iload_n 1, 1) := by decide +kernel
theorem dJ7_fill_53178_13 : decode cJ7_fill_53178 13 = .ok (.iastore, 1) := by decide +kernel
theorem dJ7_fill_53178_14 : decode cJ7_fill_53178 14 = .ok (.iinc 2 1, 3) := by decide +kernel
theorem dJ7_fill_53178_17 : decode cJ7_fill_53178 17 = .ok (.goto (-12), 3) := by decide +kernel
theorem dJ7_fill_53178_20 : decode cJ7_fill_53178 20 = .ok (.return_, 1) := by decide +kernel
theorem dJ3_checkIndex_8e157_0 : decode cJ3_checkIndex_8e157 0 = .ok (.iload_n 0, 1) := by decide +kernel
theorem dJ3_checkIndex_8e157_1 : decode cJ3_checkIndex_8e157 1 = .ok (.ifCond .lt 8, 3) := by decide +kernel
theorem dJ3_checkIndex_8e157_4 : decode cJ3_checkIndex_8e157 4 = .ok (.iload_n 0, 1) := by decide +kernel
theorem dJ3_checkIndex_8e157_5 : decode cJ3_checkIndex_8e157 5 = .ok (.iload_n 1, 1) := by decide +kernel
theorem dJ3_checkIndex_8e157_6 : decode cJ3_checkIndex_8e157 6 = .ok (.if_icmp .lt 10, 3) := by decide +kernel
theorem dJ3_checkIndex_8e157_9 : decode cJ3_checkIndex_8e157 9 = .ok (.aload_n 2, 1) := by decide +kernel
theorem dJ3_checkIndex_8e157_10 : decode cJ3_checkIndex_8e157 10 = .ok (.iload_n 0, 1) := by decide +kernel
theorem dJ3_checkIndex_8e157_11 : decode cJ3_checkIndex_8e157 11 = .ok (.iload_n 1, 1) := by decide +kernel
theorem dJ3_checkIndex_8e157_12 : decode cJ3_checkIndex_8e157 12 = .ok (.invokestatic 95, 3) := by decide +kernel
theorem dJ3_checkIndex_8e157_15 : decode cJ3_checkIndex_8e157 15 = .ok (.athrow, 1) := by decide +kernel
theorem dJ3_checkIndex_8e157_16 : decode cJ3_checkIndex_8e157 16 = .ok (.iload_n 0, 1) := by decide +kernel
theorem dJ3_checkIndex_8e157_17 : decode cJ3_checkIndex_8e157 17 = .ok (.ireturn, 1) := by decide +kernel
theorem dL_law_0 : decode cL_law 0 = .ok (.new 7, 3) := by decide +kernel
theorem dL_law_3 : decode cL_law 3 = .ok (.dup, 1) := by decide +kernel
theorem dL_law_4 : decode cL_law 4 = .ok (.invokespecial 9, 3) := by decide +kernel
theorem dL_law_7 : decode cL_law 7 = .ok (.astore_n 1, 1) := by decide +kernel
theorem dL_law_8 : decode cL_law 8 = .ok (.new 10, 3) := by decide +kernel
theorem dL_law_11 : decode cL_law 11 = .ok (.dup, 1) := by decide +kernel
theorem dL_law_12 : decode cL_law 12 = .ok (.invokespecial 12, 3) := by decide +kernel
theorem dL_law_15 : decode cL_law 15 = .ok (.astore_n 2, 1) := by decide +kernel
theorem dL_law_16 : decode cL_law 16 = .ok (.iconst 0, 1) := by decide +kernel
theorem dL_law_17 : decode cL_law 17 = .ok (.istore_n 3, 1) := by decide +kernel
theorem dL_law_18 : decode cL_law 18 = .ok (.iload_n 3, 1) := by decide +kernel
theorem dL_law_19 : decode cL_law 19 = .ok (.aload_n 0, 1) := by decide +kernel
theorem dL_law_20 : decode cL_law 20 = .ok (.arraylength, 1) := by decide +kernel
theorem dL_law_21 : decode cL_law 21 = .ok (.bipush 6, 2) := by decide +kernel
theorem dL_law_23 : decode cL_law 23 = .ok (.isub, 1) := by decide +kernel
theorem dL_law_24 : decode cL_law 24 = .ok (.if_icmp .gt 565, 3) := by decide +kernel
theorem dL_law_27 : decode cL_law 27 = .ok (.aload_n 0, 1) := by decide +kernel
theorem dL_law_28 : decode cL_law 28 = .ok (.iload_n 3, 1) := by decide +kernel
theorem dL_law_29 : decode cL_law 29 = .ok (.iaload, 1) := by decide +kernel
theorem dL_law_30 : decode cL_law 30 = .ok (.bipush 31, 2) := by decide +kernel
theorem dL_law_32 : decode cL_law 32 = .ok (.iand, 1) := by decide +kernel
theorem dL_law_33 : decode cL_law 33 = .ok (.tableswitch 550 0 16 #[83, 136, 199, 222, 235, 248, 271, 294, 307, 320, 343, 386, 419, 468, 491, 514, 537], 83) := by decide +kernel
theorem dL_law_116 : decode cL_law 116 = .ok (.aload_n 1, 1) := by decide +kernel
theorem dL_law_117 : decode cL_law 117 = .ok (.aload_n 0, 1) := by decide +kernel
theorem dL_law_118 : decode cL_law 118 = .ok (.iload_n 3, 1) := by decide +kernel
theorem dL_law_119 : decode cL_law 119 = .ok (.iconst 1, 1) := by decide +kernel
theorem dL_law_120 : decode cL_law 120 = .ok (.iadd, 1) := by decide +kernel
theorem dL_law_121 : decode cL_law 121 = .ok (.iaload, 1) := by decide +kernel
theorem dL_law_122 : decode cL_law 122 = .ok (.aload_n 0, 1) := by decide +kernel
theorem dL_law_123 : decode cL_law 123 = .ok (.iload_n 3, 1) := by decide +kernel
theorem dL_law_124 : decode cL_law 124 = .ok (.iconst 2, 1) := by decide +kernel
theorem dL_law_125 : decode cL_law 125 = .ok (.iadd, 1) := by decide +kernel
theorem dL_law_126 : decode cL_law 126 = .ok (.iaload, 1) := by decide +kernel
theorem dL_law_127 : decode cL_law 127 = .ok (.aload_n 0, 1) := by decide +kernel
theorem dL_law_128 : decode cL_law 128 = .ok (.iload_n 3, 1) := by decide +kernel
theorem dL_law_129 : decode cL_law 129 = .ok (.iconst 3, 1) := by decide +kernel
theorem dL_law_130 : decode cL_law 130 = .ok (.iadd, 1) := by decide +kernel
theorem dL_law_131 : decode cL_law 131 = .ok (.iaload, 1) := by decide +kernel
theorem dL_law_132 : decode cL_law 132 = .ok (.aload_n 0, 1) := by decide +kernel
theorem dL_law_133 : decode cL_law 133 = .ok (.iload_n 3, 1) := by decide +kernel
theorem dL_law_134 : decode cL_law 134 = .ok (.iconst 4, 1) := by decide +kernel
theorem dL_law_135 : decode cL_law 135 = .ok (.iadd, 1) := by decide +kernel
theorem dL_law_136 : decode cL_law 136 = .ok (.iaload, 1) := by decide +kernel
theorem dL_law_137 : decode cL_law 137 = .ok (.invokevirtual 13, 3) := by decide +kernel
theorem dL_law_140 : decode cL_law 140 = .ok (.aload_n 2, 1) := by decide +kernel
theorem dL_law_141 : decode cL_law 141 = .ok (.aload_n 0, 1) := by decide +kernel
theorem dL_law_142 : decode cL_law 142 = .ok (.iload_n 3, 1) := by decide +kernel
theorem dL_law_143 : decode cL_law 143 = .ok (.iconst 1, 1) := by decide +kernel
theorem dL_law_144 : decode cL_law 144 = .ok (.iadd, 1) := by decide +kernel
theorem dL_law_145 : decode cL_law 145 = .ok (.iaload, 1) := by decide +kernel
theorem dL_law_146 : decode cL_law 146 = .ok (.aload_n 0, 1) := by decide +kernel
theorem dL_law_147 : decode cL_law 147 = .ok (.iload_n 3, 1) := by decide +kernel
theorem dL_law_148 : decode cL_law 148 = .ok (.iconst 2, 1) := by decide +kernel
theorem dL_law_149 : decode cL_law 149 = .ok (.iadd, 1) := by decide +kernel
theorem dL_law_150 : decode cL_law 150 = .ok (.iaload, 1) := by decide +kernel
theorem dL_law_151 : decode cL_law 151 = .ok (.aload_n 0, 1) := by decide +kernel
theorem dL_law_152 : decode cL_law 152 = .ok (.iload_n 3, 1) := by decide +kernel
theorem dL_law_153 : decode cL_law 153 = .ok (.iconst 3, 1) := by decide +kernel
theorem dL_law_154 : decode cL_law 154 = .ok (.iadd, 1) := by decide +kernel
theorem dL_law_155 : decode cL_law 155 = .ok (.iaload, 1) := by decide +kernel
theorem dL_law_156 : decode cL_law 156 = .ok (.aload_n 0, 1) := by decide +kernel
theorem dL_law_157 : decode cL_law 157 = .ok (.iload_n 3, 1) := by decide +kernel
theorem dL_law_158 : decode cL_law 158 = .ok (.iconst 4, 1) := by decide +kernel
theorem dL_law_159 : decode cL_law 159 = .ok (.iadd, 1) := by decide +kernel
theorem dL_law_160 : decode cL_law 160 = .ok (.iaload, 1) := by decide +kernel
theorem dL_law_161 : decode cL_law 161 = .ok (.invokevirtual 17, 3) := by decide +kernel
theorem dL_law_164 : decode cL_law 164 = .ok (.if_icmp .eq 419, 3) := by decide +kernel
theorem dL_law_167 : decode cL_law 167 = .ok (.iconst 0, 1) := by decide +kernel
theorem dL_law_168 : decode cL_law 168 = .ok (.ireturn, 1) := by decide +kernel
theorem dL_law_169 : decode cL_law 169 = .ok (.aload_n 1, 1) := by decide +kernel
theorem dL_law_170 : decode cL_law 170 = .ok (.aload_n 0, 1) := by decide +kernel
theorem dL_law_171 : decode cL_law 171 = .ok (.iload_n 3, 1) := by decide +kernel
theorem dL_law_172 : decode cL_law 172 = .ok (.iconst 1, 1) := by decide +kernel
theorem dL_law_173 : decode cL_law 173 = .ok (.iadd, 1) := by decide +kernel
theorem dL_law_174 : decode cL_law 174 = .ok (.iaload, 1) := by decide +kernel
theorem dL_law_175 : decode cL_law 175 = .ok (.aload_n 0, 1) := by decide +kernel
theorem dL_law_176 : decode cL_law 176 = .ok (.iload_n 3, 1) := by decide +kernel
theorem dL_law_177 : decode cL_law 177 = .ok (.iconst 2, 1) := by decide +kernel
theorem dL_law_178 : decode cL_law 178 = .ok (.iadd, 1) := by decide +kernel
theorem dL_law_179 : decode cL_law 179 = .ok (.iaload, 1) := by decide +kernel
theorem dL_law_180 : decode cL_law 180 = .ok (.aload_n 0, 1) := by decide +kernel
theorem dL_law_181 : decode cL_law 181 = .ok (.iload_n 3, 1) := by decide +kernel
theorem dL_law_182 : decode cL_law 182 = .ok (.iconst 3, 1) := by decide +kernel
theorem dL_law_183 : decode cL_law 183 = .ok (.iadd, 1) := by decide +kernel
theorem dL_law_184 : decode cL_law 184 = .ok (.iaload, 1) := by decide +kernel
theorem dL_law_185 : decode cL_law 185 = .ok (.aload_n 0, 1) := by decide +kernel
theorem dL_law_186 : decode cL_law 186 = .ok (.iload_n 3, 1) := by decide +kernel
theorem dL_law_187 : decode cL_law 187 = .ok (.iconst 4, 1) := by decide +kernel
theorem dL_law_188 : decode cL_law 188 = .ok (.iadd, 1) := by decide +kernel
theorem dL_law_189 : decode cL_law 189 = .ok (.iaload, 1) := by decide +kernel
theorem dL_law_190 : decode cL_law 190 = .ok (.aload_n 0, 1) := by decide +kernel
theorem dL_law_191 : decode cL_law 191 = .ok (.iload_n 3, 1) := by decide +kernel
theorem dL_law_192 : decode cL_law 192 = .ok (.iconst 5, 1) := by decide +kernel
theorem dL_law_193 : decode cL_law 193 = .ok (.iadd, 1) := by decide +kernel
theorem dL_law_194 : decode cL_law 194 = .ok (.iaload, 1) := by decide +kernel
theorem dL_law_195 : decode cL_law 195 = .ok (.invokevirtual 18, 3) := by decide +kernel
theorem dL_law_198 : decode cL_law 198 = .ok (.aload_n 2, 1) := by decide +kernel
theorem dL_law_199 : decode cL_law 199 = .ok (.aload_n 0, 1) := by decide +kernel
theorem dL_law_200 : decode cL_law 200 = .ok (.iload_n 3, 1) := by decide +kernel
theorem dL_law_201 : decode cL_law 201 = .ok (.iconst 1, 1) := by decide +kernel
theorem dL_law_202 : decode cL_law 202 = .ok (.iadd, 1) := by decide +kernel
theorem dL_law_203 : decode cL_law 203 = .ok (.iaload, 1) := by decide +kernel
theorem dL_law_204 : decode cL_law 204 = .ok (.aload_n 0, 1) := by decide +kernel
theorem dL_law_205 : decode cL_law 205 = .ok (.iload_n 3, 1) := by decide +kernel
theorem dL_law_206 : decode cL_law 206 = .ok (.iconst 2, 1) := by decide +kernel
theorem dL_law_207 : decode cL_law 207 = .ok (.iadd, 1) := by decide +kernel
theorem dL_law_208 : decode cL_law 208 = .ok (.iaload, 1) := by decide +kernel
theorem dL_law_209 : decode cL_law 209 = .ok (.aload_n 0, 1) := by decide +kernel
theorem dL_law_210 : decode cL_law 210 = .ok (.iload_n 3, 1) := by decide +kernel
theorem dL_law_211 : decode cL_law 211 = .ok (.iconst 3, 1) := by decide +kernel
theorem dL_law_212 : decode cL_law 212 = .ok (.iadd, 1) := by decide +kernel
theorem dL_law_213 : decode cL_law 213 = .ok (.iaload, 1) := by decide +kernel
theorem dL_law_214 : decode cL_law 214 = .ok (.aload_n 0, 1) := by decide +kernel
theorem dL_law_215 : decode cL_law 215 = .ok (.iload_n 3, 1) := by decide +kernel
theorem dL_law_216 : decode cL_law 216 = .ok (.iconst 4, 1) := by decide +kernel
theorem dL_law_217 : decode cL_law 217 = .ok (.iadd, 1) := by decide +kernel
theorem dL_law_218 : decode cL_law 218 = .ok (.iaload, 1) := by decide +kernel
theorem dL_law_219 : decode cL_law 219 = .ok (.aload_n 0, 1) := by decide +kernel
theorem dL_law_220 : decode cL_law 220 = .ok (.iload_n 3, 1) := by decide +kernel
theorem dL_law_221 : decode cL_law 221 = .ok (.iconst 5, 1) := by decide +kernel
theorem dL_law_222 : decode cL_law 222 = .ok (.iadd, 1) := by decide +kernel
theorem dL_law_223 : decode cL_law 223 = .ok (.iaload, 1) := by decide +kernel
theorem dL_law_224 : decode cL_law 224 = .ok (.invokevirtual 22, 3) := by decide +kernel
theorem dL_law_227 : decode cL_law 227 = .ok (.if_icmp .eq 356, 3) := by decide +kernel
theorem dL_law_230 : decode cL_law 230 = .ok (.iconst 0, 1) := by decide +kernel
theorem dL_law_231 : decode cL_law 231 = .ok (.ireturn, 1) := by decide +kernel
theorem dL_law_232 : decode cL_law 232 = .ok (.aload_n 1, 1) := by decide +kernel
theorem dL_law_233 : decode cL_law 233 = .ok (.aload_n 0, 1) := by decide +kernel
theorem dL_law_234 : decode cL_law 234 = .ok (.iload_n 3, 1) := by decide +kernel
theorem dL_law_235 : decode cL_law 235 = .ok (.iconst 1, 1) := by decide +kernel
theorem dL_law_236 : decode cL_law 236 = .ok (.iadd, 1) := by decide +kernel
theorem dL_law_237 : decode cL_law 237 = .ok (.iaload, 1) := by decide +kernel
theorem dL_law_238 : decode cL_law 238 = .ok (.invokevirtual 23, 3) := by decide +kernel
theorem dL_law_241 : decode cL_law 241 = .ok (.aload_n 2, 1) := by decide +kernel
theorem dL_law_242 : decode cL_law 242 = .ok (.aload_n 0, 1) := by decide +kernel
theorem dL_law_243 : decode cL_law 243 = .ok (.iload_n 3, 1) := by decide +kernel
theorem dL_law_244 : decode cL_law 244 = .ok (.iconst 1, 1) := by decide +kernel
theorem dL_law_245 : decode cL_law 245 = .ok (.iadd, 1) := by decide +kernel
theorem dL_law_246 : decode cL_law 246 = .ok (.iaload, 1) := by decide +kernel
theorem dL_law_247 : decode cL_law 247 = .ok (.invokevirtual 27, 3) := by decide +kernel
theorem dL_law_250 : decode cL_law 250 = .ok (.if_icmp .eq 333, 3) := by decide +kernel
theorem dL_law_253 : decode cL_law 253 = .ok (.iconst 0, 1) := by decide +kernel
theorem dL_law_254 : decode cL_law 254 = .ok (.ireturn, 1) := by decide +kernel
theorem dL_law_255 : decode cL_law 255 = .ok (.aload_n 1, 1) := by decide +kernel
theorem dL_law_256 : decode cL_law 256 = .ok (.invokevirtual 28, 3) := by decide +kernel
theorem dL_law_259 : decode cL_law 259 = .ok (.aload_n 2, 1) := by decide +kernel
theorem dL_law_260 : decode cL_law 260 = .ok (.invokevirtual 32, 3) := by decide +kernel
theorem dL_law_263 : decode cL_law 263 = .ok (.if_icmp .eq 320, 3) := by decide +kernel
theorem dL_law_266 : decode cL_law 266 = .ok (.iconst 0, 1) := by decide +kernel
theorem dL_law_267 : decode cL_law 267 = .ok (.ireturn, 1) := by decide +kernel
theorem dL_law_268 : decode cL_law 268 = .ok (.aload_n 1, 1) := by decide +kernel
theorem dL_law_269 : decode cL_law 269 = .ok (.invokevirtual 33, 3) := by decide +kernel
theorem dL_law_272 : decode cL_law 272 = .ok (.aload_n 2, 1) := by decide +kernel
theorem dL_law_273 : decode cL_law 273 = .ok (.invokevirtual 36, 3) := by decide +kernel
theorem dL_law_276 : decode cL_law 276 = .ok (.if_icmp .eq 307, 3) := by decide +kernel
theorem dL_law_279 : decode cL_law 279 = .ok (.iconst 0, 1) := by decide +kernel
theorem dL_law_280 : decode cL_law 280 = .ok (.ireturn, 1) := by decide +kernel
theorem dL_law_281 : decode cL_law 281 = .ok (.aload_n 1, 1) := by decide +kernel
theorem dL_law_282 : decode cL_law 282 = .ok (.aload_n 0, 1) := by decide +kernel
theorem dL_law_283 : decode cL_law 283 = .ok (.iload_n 3, 1) := by decide +kernel
theorem dL_law_284 : decode cL_law 284 = .ok (.iconst 1, 1) := by decide +kernel
theorem dL_law_285 : decode cL_law 285 = .ok (.iadd, 1) := by decide +kernel
theorem dL_law_286 : decode cL_law 286 = .ok (.iaload, 1) := by decide +kernel
theorem dL_law_287 : decode cL_law 287 = .ok (.invokevirtual 37, 3) := by decide +kernel
theorem dL_law_290 : decode cL_law 290 = .ok (.aload_n 2, 1) := by decide +kernel
theorem dL_law_291 : decode cL_law 291 = .ok (.aload_n 0, 1) := by decide +kernel
theorem dL_law_292 : decode cL_law 292 = .ok (.iload_n 3, 1) := by decide +kernel
theorem dL_law_293 : decode cL_law 293 = .ok (.iconst 1, 1) := by decide +kernel
theorem dL_law_294 : decode cL_law 294 = .ok (.iadd, 1) := by decide +kernel
theorem dL_law_295 : decode cL_law 295 = .ok (.iaload, 1) := by decide +kernel
theorem dL_law_296 : decode cL_law 296 = .ok (.invokevirtual 40, 3) := by decide +kernel
theorem dL_law_299 : decode cL_law 299 = .ok (.if_icmp .eq 284, 3) := by decide +kernel
theorem dL_law_302 : decode cL_law 302 = .ok (.iconst 0, 1) := by decide +kernel
theorem dL_law_303 : decode cL_law 303 = .ok (.ireturn, 1) := by decide +kernel
theorem dL_law_304 : decode cL_law 304 = .ok (.aload_n 1, 1) := by decide +kernel
theorem dL_law_305 : decode cL_law 305 = .ok (.aload_n 0, 1) := by decide +kernel
theorem dL_law_306 : decode cL_law 306 = .ok (.iload_n 3, 1) := by decide +kernel
theorem dL_law_307 : decode cL_law 307 = .ok (.iconst 1, 1) := by decide +kernel
theorem dL_law_308 : decode cL_law 308 = .ok (.iadd, 1) := by decide +kernel
theorem dL_law_309 : decode cL_law 309 = .ok (.iaload, 1) := by decide +kernel
theorem dL_law_310 : decode cL_law 310 = .ok (.invokevirtual 41, 3) := by decide +kernel
theorem dL_law_313 : decode cL_law 313 = .ok (.aload_n 2, 1) := by decide +kernel
theorem dL_law_314 : decode cL_law 314 = .ok (.aload_n 0, 1) := by decide +kernel
theorem dL_law_315 : decode cL_law 315 = .ok (.iload_n 3, 1) := by decide +kernel
theorem dL_law_316 : decode cL_law 316 = .ok (.iconst 1, 1) := by decide +kernel
theorem dL_law_317 : decode cL_law 317 = .ok (.iadd, 1) := by decide +kernel
theorem dL_law_318 : decode cL_law 318 = .ok (.iaload, 1) := by decide +kernel
theorem dL_law_319 : decode cL_law 319 = .ok (.invokevirtual 44, 3) := by decide +kernel
theorem dL_law_322 : decode cL_law 322 = .ok (.if_icmp .eq 261, 3) := by decide +kernel
theorem dL_law_325 : decode cL_law 325 = .ok (.iconst 0, 1) := by decide +kernel
theorem dL_law_326 : decode cL_law 326 = .ok (.ireturn, 1) := by decide +kernel
theorem dL_law_327 : decode cL_law 327 = .ok (.aload_n 1, 1) := by decide +kernel
theorem dL_law_328 : decode cL_law 328 = .ok (.invokevirtual 45, 3) := by decide +kernel
theorem dL_law_331 : decode cL_law 331 = .ok (.aload_n 2, 1) := by decide +kernel
theorem dL_law_332 : decode cL_law 332 = .ok (.invokevirtual 48, 3) := by decide +kernel
theorem dL_law_335 : decode cL_law 335 = .ok (.if_icmp .eq 248, 3) := by decide +kernel
theorem dL_law_338 : decode cL_law 338 = .ok (.iconst 0, 1) := by decide +kernel
theorem dL_law_339 : decode cL_law 339 = .ok (.ireturn, 1) := by decide +kernel
theorem dL_law_340 : decode cL_law 340 = .ok (.aload_n 1, 1) := by decide +kernel
theorem dL_law_341 : decode cL_law 341 = .ok (.invokevirtual 49, 3) := by decide +kernel
theorem dL_law_344 : decode cL_law 344 = .ok (.aload_n 2, 1) := by decide +kernel
theorem dL_law_345 : decode cL_law 345 = .ok (.invokevirtual 52, 3) := by decide +kernel
theorem dL_law_348 : decode cL_law 348 = .ok (.if_icmp .eq 235, 3) := by decide +kernel
theorem dL_law_351 : decode cL_law 351 = .ok (.iconst 0, 1) := by decide +kernel
theorem dL_law_352 : decode cL_law 352 = .ok (.ireturn, 1) := by decide +kernel
theorem dL_law_353 : decode cL_law 353 = .ok (.aload_n 1, 1) := by decide +kernel
theorem dL_law_354 : decode cL_law 354 = .ok (.aload_n 0, 1) := by decide +kernel
theorem dL_law_355 : decode cL_law 355 = .ok (.iload_n 3, 1) := by decide +kernel
theorem dL_law_356 : decode cL_law 356 = .ok (.iconst 1, 1) := by decide +kernel
theorem dL_law_357 : decode cL_law 357 = .ok (.iadd, 1) := by decide +kernel
theorem dL_law_358 : decode cL_law 358 = .ok (.iaload, 1) := by decide +kernel
theorem dL_law_359 : decode cL_law 359 = .ok (.invokevirtual 53, 3) := by decide +kernel
theorem dL_law_362 : decode cL_law 362 = .ok (.aload_n 2, 1) := by decide +kernel
theorem dL_law_363 : decode cL_law 363 = .ok (.aload_n 0, 1) := by decide +kernel
theorem dL_law_364 : decode cL_law 364 = .ok (.iload_n 3, 1) := by decide +kernel
theorem dL_law_365 : decode cL_law 365 = .ok (.iconst 1, 1) := by decide +kernel
theorem dL_law_366 : decode cL_law 366 = .ok (.iadd, 1) := by decide +kernel
theorem dL_law_367 : decode cL_law 367 = .ok (.iaload, 1) := by decide +kernel
theorem dL_law_368 : decode cL_law 368 = .ok (.invokevirtual 56, 3) := by decide +kernel
theorem dL_law_371 : decode cL_law 371 = .ok (.if_icmp .eq 212, 3) := by decide +kernel
theorem dL_law_374 : decode cL_law 374 = .ok (.iconst 0, 1) := by decide +kernel
theorem dL_law_375 : decode cL_law 375 = .ok (.ireturn, 1) := by decide +kernel
theorem dL_law_376 : decode cL_law 376 = .ok (.aload_n 1, 1) := by decide +kernel
theorem dL_law_377 : decode cL_law 377 = .ok (.aload_n 0, 1) := by decide +kernel
theorem dL_law_378 : decode cL_law 378 = .ok (.iload_n 3, 1) := by decide +kernel
theorem dL_law_379 : decode cL_law 379 = .ok (.iconst 1, 1) := by decide +kernel
theorem dL_law_380 : decode cL_law 380 = .ok (.iadd, 1) := by decide +kernel
theorem dL_law_381 : decode cL_law 381 = .ok (.iaload, 1) := by decide +kernel
theorem dL_law_382 : decode cL_law 382 = .ok (.aload_n 0, 1) := by decide +kernel
theorem dL_law_383 : decode cL_law 383 = .ok (.iload_n 3, 1) := by decide +kernel
theorem dL_law_384 : decode cL_law 384 = .ok (.iconst 2, 1) := by decide +kernel
theorem dL_law_385 : decode cL_law 385 = .ok (.iadd, 1) := by decide +kernel
theorem dL_law_386 : decode cL_law 386 = .ok (.iaload, 1) := by decide +kernel
theorem dL_law_387 : decode cL_law 387 = .ok (.aload_n 0, 1) := by decide +kernel
theorem dL_law_388 : decode cL_law 388 = .ok (.iload_n 3, 1) := by decide +kernel
theorem dL_law_389 : decode cL_law 389 = .ok (.iconst 3, 1) := by decide +kernel
theorem dL_law_390 : decode cL_law 390 = .ok (.iadd, 1) := by decide +kernel
theorem dL_law_391 : decode cL_law 391 = .ok (.iaload, 1) := by decide +kernel
theorem dL_law_392 : decode cL_law 392 = .ok (.invokevirtual 57, 3) := by decide +kernel
theorem dL_law_395 : decode cL_law 395 = .ok (.aload_n 2, 1) := by decide +kernel
theorem dL_law_396 : decode cL_law 396 = .ok (.aload_n 0, 1) := by decide +kernel
theorem dL_law_397 : decode cL_law 397 = .ok (.iload_n 3, 1) := by decide +kernel
theorem dL_law_398 : decode cL_law 398 = .ok (.iconst 1, 1) := by decide +kernel
theorem dL_law_399 : decode cL_law 399 = .ok (.iadd, 1) := by decide +kernel
theorem dL_law_400 : decode cL_law 400 = .ok (.iaload, 1) := by decide +kernel
theorem dL_law_401 : decode cL_law 401 = .ok (.aload_n 0, 1) := by decide +kernel
theorem dL_law_402 : decode cL_law 402 = .ok (.iload_n 3, 1) := by decide +kernel
theorem dL_law_403 : decode cL_law 403 = .ok (.iconst 2, 1) := by decide +kernel
theorem dL_law_404 : decode cL_law 404 = .ok (.iadd, 1) := by decide +kernel
theorem dL_law_405 : decode cL_law 405 = .ok (.iaload, 1) := by decide +kernel
theorem dL_law_406 : decode cL_law 406 = .ok (.aload_n 0, 1) := by decide +kernel
theorem dL_law_407 : decode cL_law 407 = .ok (.iload_n 3, 1) := by decide +kernel
theorem dL_law_408 : decode cL_law 408 = .ok (.iconst 3, 1) := by decide +kernel
theorem dL_law_409 : decode cL_law 409 = .ok (.iadd, 1) := by decide +kernel
theorem dL_law_410 : decode cL_law 410 = .ok (.iaload, 1) := by decide +kernel
theorem dL_law_411 : decode cL_law 411 = .ok (.invokevirtual 61, 3) := by decide +kernel
theorem dL_law_414 : decode cL_law 414 = .ok (.if_icmp .eq 169, 3) := by decide +kernel
theorem dL_law_417 : decode cL_law 417 = .ok (.iconst 0, 1) := by decide +kernel
theorem dL_law_418 : decode cL_law 418 = .ok (.ireturn, 1) := by decide +kernel
theorem dL_law_419 : decode cL_law 419 = .ok (.aload_n 1, 1) := by decide +kernel
theorem dL_law_420 : decode cL_law 420 = .ok (.aload_n 0, 1) := by decide +kernel
theorem dL_law_421 : decode cL_law 421 = .ok (.iload_n 3, 1) := by decide +kernel
theorem dL_law_422 : decode cL_law 422 = .ok (.iconst 1, 1) := by decide +kernel
theorem dL_law_423 : decode cL_law 423 = .ok (.iadd, 1) := by decide +kernel
theorem dL_law_424 : decode cL_law 424 = .ok (.iaload, 1) := by decide +kernel
theorem dL_law_425 : decode cL_law 425 = .ok (.aload_n 0, 1) := by decide +kernel
theorem dL_law_426 : decode cL_law 426 = .ok (.iload_n 3, 1) := by decide +kernel
theorem dL_law_427 : decode cL_law 427 = .ok (.iconst 2, 1) := by decide +kernel
theorem dL_law_428 : decode cL_law 428 = .ok (.iadd, 1) := by decide +kernel
theorem dL_law_429 : decode cL_law 429 = .ok (.iaload, 1) := by decide +kernel
theorem dL_law_430 : decode cL_law 430 = .ok (.invokevirtual 62, 3) := by decide +kernel
theorem dL_law_433 : decode cL_law 433 = .ok (.aload_n 2, 1) := by decide +kernel
theorem dL_law_434 : decode cL_law 434 = .ok (.aload_n 0, 1) := by decide +kernel
theorem dL_law_435 : decode cL_law 435 = .ok (.iload_n 3, 1) := by decide +kernel
theorem dL_law_436 : decode cL_law 436 = .ok (.iconst 1, 1) := by decide +kernel
theorem dL_law_437 : decode cL_law 437 = .ok (.iadd, 1) := by decide +kernel
theorem dL_law_438 : decode cL_law 438 = .ok (.iaload, 1) := by decide +kernel
theorem dL_law_439 : decode cL_law 439 = .ok (.aload_n 0, 1) := by decide +kernel
theorem dL_law_440 : decode cL_law 440 = .ok (.iload_n 3, 1) := by decide +kernel
theorem dL_law_441 : decode cL_law 441 = .ok (.iconst 2, 1) := by decide +kernel
theorem dL_law_442 : decode cL_law 442 = .ok (.iadd, 1) := by decide +kernel
theorem dL_law_443 : decode cL_law 443 = .ok (.iaload, 1) := by decide +kernel
theorem dL_law_444 : decode cL_law 444 = .ok (.invokevirtual 66, 3) := by decide +kernel
theorem dL_law_447 : decode cL_law 447 = .ok (.if_icmp .eq 136, 3) := by decide +kernel
theorem dL_law_450 : decode cL_law 450 = .ok (.iconst 0, 1) := by decide +kernel
theorem dL_law_451 : decode cL_law 451 = .ok (.ireturn, 1) := by decide +kernel
theorem dL_law_452 : decode cL_law 452 = .ok (.aload_n 1, 1) := by decide +kernel
theorem dL_law_453 : decode cL_law 453 = .ok (.aload_n 0, 1) := by decide +kernel
theorem dL_law_454 : decode cL_law 454 = .ok (.iload_n 3, 1) := by decide +kernel
theorem dL_law_455 : decode cL_law 455 = .ok (.iconst 1, 1) := by decide +kernel
theorem dL_law_456 : decode cL_law 456 = .ok (.iadd, 1) := by decide +kernel
theorem dL_law_457 : decode cL_law 457 = .ok (.iaload, 1) := by decide +kernel
theorem dL_law_458 : decode cL_law 458 = .ok (.aload_n 0, 1) := by decide +kernel
theorem dL_law_459 : decode cL_law 459 = .ok (.iload_n 3, 1) := by decide +kernel
theorem dL_law_460 : decode cL_law 460 = .ok (.iconst 2, 1) := by decide +kernel
theorem dL_law_461 : decode cL_law 461 = .ok (.iadd, 1) := by decide +kernel
theorem dL_law_462 : decode cL_law 462 = .ok (.iaload, 1) := by decide +kernel
theorem dL_law_463 : decode cL_law 463 = .ok (.ifCond .eq 7, 3) := by decide +kernel
theorem dL_law_466 : decode cL_law 466 = .ok (.iconst 1, 1) := by decide +kernel
theorem dL_law_467 : decode cL_law 467 = .ok (.goto 4, 3) := by decide +kernel
theorem dL_law_470 : decode cL_law 470 = .ok (.iconst 0, 1) := by decide +kernel
theorem dL_law_471 : decode cL_law 471 = .ok (.invokevirtual 67, 3) := by decide +kernel
theorem dL_law_474 : decode cL_law 474 = .ok (.aload_n 2, 1) := by decide +kernel
theorem dL_law_475 : decode cL_law 475 = .ok (.aload_n 0, 1) := by decide +kernel
theorem dL_law_476 : decode cL_law 476 = .ok (.iload_n 3, 1) := by decide +kernel
theorem dL_law_477 : decode cL_law 477 = .ok (.iconst 1, 1) := by decide +kernel
theorem dL_law_478 : decode cL_law 478 = .ok (.iadd, 1) := by decide +kernel
theorem dL_law_479 : decode cL_law 479 = .ok (.iaload, 1) := by decide +kernel
theorem dL_law_480 : decode cL_law 480 = .ok (.aload_n 0, 1) := by decide +kernel
theorem dL_law_481 : decode cL_law 481 = .ok (.iload_n 3, 1) := by decide +kernel
theorem dL_law_482 : decode cL_law 482 = .ok (.iconst 2, 1) := by decide +kernel
theorem dL_law_483 : decode cL_law 483 = .ok (.iadd, 1) := by decide +kernel
theorem dL_law_484 : decode cL_law 484 = .ok (.iaload, 1) := by decide +kernel
theorem dL_law_485 : decode cL_law 485 = .ok (.ifCond .eq 7, 3) := by decide +kernel
theorem dL_law_488 : decode cL_law 488 = .ok (.iconst 1, 1) := by decide +kernel
theorem dL_law_489 : decode cL_law 489 = .ok (.goto 4, 3) := by decide +kernel
theorem dL_law_492 : decode cL_law 492 = .ok (.iconst 0, 1) := by decide +kernel
theorem dL_law_493 : decode cL_law 493 = .ok (.invokevirtual 71, 3) := by decide +kernel
theorem dL_law_496 : decode cL_law 496 = .ok (.if_icmp .eq 87, 3) := by decide +kernel
theorem dL_law_499 : decode cL_law 499 = .ok (.iconst 0, 1) := by decide +kernel
theorem dL_law_500 : decode cL_law 500 = .ok (.ireturn, 1) := by decide +kernel
theorem dL_law_501 : decode cL_law 501 = .ok (.aload_n 1, 1) := by decide +kernel
theorem dL_law_502 : decode cL_law 502 = .ok (.aload_n 0, 1) := by decide +kernel
theorem dL_law_503 : decode cL_law 503 = .ok (.iload_n 3, 1) := by decide +kernel
theorem dL_law_504 : decode cL_law 504 = .ok (.iconst 1, 1) := by decide +kernel
theorem dL_law_505 : decode cL_law 505 = .ok (.iadd, 1) := by decide +kernel
theorem dL_law_506 : decode cL_law 506 = .ok (.iaload, 1) := by decide +kernel
theorem dL_law_507 : decode cL_law 507 = .ok (.invokevirtual 72, 3) := by decide +kernel
theorem dL_law_510 : decode cL_law 510 = .ok (.aload_n 2, 1) := by decide +kernel
theorem dL_law_511 : decode cL_law 511 = .ok (.aload_n 0, 1) := by decide +kernel
theorem dL_law_512 : decode cL_law 512 = .ok (.iload_n 3, 1) := by decide +kernel
theorem dL_law_513 : decode cL_law 513 = .ok (.iconst 1, 1) := by decide +kernel
theorem dL_law_514 : decode cL_law 514 = .ok (.iadd, 1) := by decide +kernel
theorem dL_law_515 : decode cL_law 515 = .ok (.iaload, 1) := by decide +kernel
theorem dL_law_516 : decode cL_law 516 = .ok (.invokevirtual 75, 3) := by decide +kernel
theorem dL_law_519 : decode cL_law 519 = .ok (.if_icmp .eq 64, 3) := by decide +kernel
theorem dL_law_522 : decode cL_law 522 = .ok (.iconst 0, 1) := by decide +kernel
theorem dL_law_523 : decode cL_law 523 = .ok (.ireturn, 1) := by decide +kernel
theorem dL_law_524 : decode cL_law 524 = .ok (.aload_n 1, 1) := by decide +kernel
theorem dL_law_525 : decode cL_law 525 = .ok (.aload_n 0, 1) := by decide +kernel
theorem dL_law_526 : decode cL_law 526 = .ok (.iload_n 3, 1) := by decide +kernel
theorem dL_law_527 : decode cL_law 527 = .ok (.iconst 1, 1) := by decide +kernel
theorem dL_law_528 : decode cL_law 528 = .ok (.iadd, 1) := by decide +kernel
theorem dL_law_529 : decode cL_law 529 = .ok (.iaload, 1) := by decide +kernel
theorem dL_law_530 : decode cL_law 530 = .ok (.invokevirtual 76, 3) := by decide +kernel
theorem dL_law_533 : decode cL_law 533 = .ok (.aload_n 2, 1) := by decide +kernel
theorem dL_law_534 : decode cL_law 534 = .ok (.aload_n 0, 1) := by decide +kernel
theorem dL_law_535 : decode cL_law 535 = .ok (.iload_n 3, 1) := by decide +kernel
theorem dL_law_536 : decode cL_law 536 = .ok (.iconst 1, 1) := by decide +kernel
theorem dL_law_537 : decode cL_law 537 = .ok (.iadd, 1) := by decide +kernel
theorem dL_law_538 : decode cL_law 538 = .ok (.iaload, 1) := by decide +kernel
theorem dL_law_539 : decode cL_law 539 = .ok (.invokevirtual 79, 3) := by decide +kernel
theorem dL_law_542 : decode cL_law 542 = .ok (.if_icmp .eq 41, 3) := by decide +kernel
theorem dL_law_545 : decode cL_law 545 = .ok (.iconst 0, 1) := by decide +kernel
theorem dL_law_546 : decode cL_law 546 = .ok (.ireturn, 1) := by decide +kernel
theorem dL_law_547 : decode cL_law 547 = .ok (.aload_n 1, 1) := by decide +kernel
theorem dL_law_548 : decode cL_law 548 = .ok (.aload_n 0, 1) := by decide +kernel
theorem dL_law_549 : decode cL_law 549 = .ok (.iload_n 3, 1) := by decide +kernel
theorem dL_law_550 : decode cL_law 550 = .ok (.iconst 1, 1) := by decide +kernel
theorem dL_law_551 : decode cL_law 551 = .ok (.iadd, 1) := by decide +kernel
theorem dL_law_552 : decode cL_law 552 = .ok (.iaload, 1) := by decide +kernel
theorem dL_law_553 : decode cL_law 553 = .ok (.invokevirtual 80, 3) := by decide +kernel
theorem dL_law_556 : decode cL_law 556 = .ok (.aload_n 2, 1) := by decide +kernel
theorem dL_law_557 : decode cL_law 557 = .ok (.aload_n 0, 1) := by decide +kernel
theorem dL_law_558 : decode cL_law 558 = .ok (.iload_n 3, 1) := by decide +kernel
theorem dL_law_559 : decode cL_law 559 = .ok (.iconst 1, 1) := by decide +kernel
theorem dL_law_560 : decode cL_law 560 = .ok (.iadd, 1) := by decide +kernel
theorem dL_law_561 : decode cL_law 561 = .ok (.iaload, 1) := by decide +kernel
theorem dL_law_562 : decode cL_law 562 = .ok (.invokevirtual 83, 3) := by decide +kernel
theorem dL_law_565 : decode cL_law 565 = .ok (.if_icmp .eq 18, 3) := by decide +kernel
theorem dL_law_568 : decode cL_law 568 = .ok (.iconst 0, 1) := by decide +kernel
theorem dL_law_569 : decode cL_law 569 = .ok (.ireturn, 1) := by decide +kernel
theorem dL_law_570 : decode cL_law 570 = .ok (.aload_n 1, 1) := by decide +kernel
theorem dL_law_571 : decode cL_law 571 = .ok (.invokevirtual 84, 3) := by decide +kernel
theorem dL_law_574 : decode cL_law 574 = .ok (.aload_n 2, 1) := by decide +kernel
theorem dL_law_575 : decode cL_law 575 = .ok (.invokevirtual 87, 3) := by decide +kernel
theorem dL_law_578 : decode cL_law 578 = .ok (.if_icmp .eq 5, 3) := by decide +kernel
theorem dL_law_581 : decode cL_law 581 = .ok (.iconst 0, 1) := by decide +kernel
theorem dL_law_582 : decode cL_law 582 = .ok (.ireturn, 1) := by decide +kernel
theorem dL_law_583 : decode cL_law 583 = .ok (.iinc 3 6, 3) := by decide +kernel
theorem dL_law_586 : decode cL_law 586 = .ok (.goto (-568), 3) := by decide +kernel
theorem dL_law_589 : decode cL_law 589 = .ok (.iconst 1, 1) := by decide +kernel
theorem dL_law_590 : decode cL_law 590 = .ok (.ireturn, 1) := by decide +kernel
