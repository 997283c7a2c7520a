theorem dX12_in_0 : decode cX12_in 0 = .ok (.iload_n 0, 1) := by decide +kernel
theorem dX12_in_1 : decode cX12_in 1 = .ok (.iload_n 1, 1) := by decide +kernel
theorem dX12_in_2 : decode cX12_in 2 = .ok (.if_icmp .lt 12, 3) := by decide +kernel
theorem dX12_in_5 : decode cX12_in 5 = .ok (.iload_n 0, 1) := by decide +kernel
theorem dX12_in_6 : decode cX12_in 6 = .ok (.iload_n 2, 1) := by decide +kernel
theorem dX12_in_7 : decode cX12_in 7 = .ok (.if_icmp .gt 7, 3) := by decide +kernel
theorem dX12_in_10 : decode cX12_in 10 = .ok (.iconst 1, 1) := by decide +kernel
theorem dX12_in_11 : decode cX12_in 11 = .ok (.goto 4, 3) := by decide +kernel
theorem dX12_in_14 : decode cX12_in 14 = .ok (.iconst 0, 1) := by decide +kernel
theorem dX12_in_15 : decode cX12_in 15 = .ok (.ireturn, 1) := by decide +kernel
theorem dX12_has_0 : decode cX12_has 0 = .ok (.iload_n 0, 1) := by decide +kernel
theorem dX12_has_1 : decode cX12_has 1 = .ok (.iload_n 1, 1) := by decide +kernel
theorem dX12_has_2 : decode cX12_has 2 = .ok (.ishr, 1) := by decide +kernel
theorem dX12_has_3 : decode cX12_has 3 = .ok (.iconst 1, 1) := by decide +kernel
theorem dX12_has_4 : decode cX12_has 4 = .ok (.iand, 1) := by decide +kernel
theorem dX12_has_5 : decode cX12_has 5 = .ok (.iconst 1, 1) := by decide +kernel
theorem dX12_has_6 : decode cX12_has 6 = .ok (.if_icmp .ne 7, 3) := by decide +kernel
theorem dX12_has_9 : decode cX12_has 9 = .ok (.iconst 1, 1) := by decide +kernel
theorem dX12_has_10 : decode cX12_has 10 = .ok (.goto 4, 3) := by decide +kernel
theorem dX12_has_13 : decode cX12_has 13 = .ok (.iconst 0, 1) := by decide +kernel
theorem dX12_has_14 : decode cX12_has 14 = .ok (.ireturn, 1) := by decide +kernel
theorem dX12_init_0 : decode cX12_init 0 = .ok (.aload_n 0, 1) := by decide +kernel
theorem dX12_init_1 : decode cX12_init 1 = .ok (.invokespecial 3, 3) := by decide +kernel
theorem dX12_init_4 : decode cX12_init 4 = .ok (.aload_n 0, 1) := by decide +kernel
theorem dX12_init_5 : decode cX12_init 5 = .ok (.sipush 240, 3) := by decide +kernel
theorem dX12_init_8 : decode cX12_init 8 = .ok (.newarray .int, 2) := by decide +kernel
theorem dX12_init_10 : decode cX12_init 10 = .ok (.putfield 9, 3) := by decide +kernel
theorem dX12_init_13 : decode cX12_init 13 = .ok (.aload_n 0, 1) := by decide +kernel
theorem dX12_init_14 : decode cX12_init 14 = .ok (.iconst 5, 1) := by decide +kernel
theorem dX12_init_15 : decode cX12_init 15 = .ok (.newarray .int, 2) := by decide +kernel
theorem dX12_init_17 : decode cX12_init 17 = .ok (.putfield 13, 3) := by decide +kernel
theorem dX12_init_20 : decode cX12_init 20 = .ok (.aload_n 0, 1) := by decide +kernel
theorem dX12_init_21 : decode cX12_init 21 = .ok (.bipush 24, 2) := by decide +kernel
theorem dX12_init_23 : decode cX12_init 23 = .ok (.newarray .int, 2) := by decide +kernel
theorem dX12_init_25 : decode cX12_init 25 = .ok (.putfield 16, 3) := by decide +kernel
theorem dX12_init_28 : decode cX12_init 28 = .ok (.aload_n 0, 1) := by decide +kernel
theorem dX12_init_29 : decode cX12_init 29 = .ok (.bipush 16, 2) := by decide +kernel
theorem dX12_init_31 : decode cX12_init 31 = .ok (.newarray .int, 2) := by decide +kernel
theorem dX12_init_33 : decode cX12_init 33 = .ok (.putfield 19, 3) := by decide +kernel
theorem dX12_init_36 : decode cX12_init 36 = .ok (.aload_n 0, 1) := by decide +kernel
theorem dX12_init_37 : decode cX12_init 37 = .ok (.iconst 5, 1) := by decide +kernel
theorem dX12_init_38 : decode cX12_init 38 = .ok (.newarray .int, 2) := by decide +kernel
theorem dX12_init_40 : decode cX12_init 40 = .ok (.putfield 22, 3) := by decide +kernel
theorem dX12_init_43 : decode cX12_init 43 = .ok (.aload_n 0, 1) := by decide +kernel
theorem dX12_init_44 : decode cX12_init 44 = .ok (.bipush 24, 2) := by decide +kernel
theorem dX12_init_46 : decode cX12_init 46 = .ok (.newarray .int, 2) := by decide +kernel
theorem dX12_init_48 : decode cX12_init 48 = .ok (.putfield 25, 3) := by decide +kernel
theorem dX12_init_51 : decode cX12_init 51 = .ok (.aload_n 0, 1) := by decide +kernel
theorem dX12_init_52 : decode cX12_init 52 = .ok (.bipush 16, 2) := by decide +kernel
theorem dX12_init_54 : decode cX12_init 54 = .ok (.newarray .int, 2) := by decide +kernel
theorem dX12_init_56 : decode cX12_init 56 = .ok (.putfield 28, 3) := by decide +kernel
theorem dX12_init_59 : decode cX12_init 59 = .ok (.aload_n 0, 1) := by decide +kernel
theorem dX12_init_60 : decode cX12_init 60 = .ok (.sipush 550, 3) := by decide +kernel
theorem dX12_init_63 : decode cX12_init 63 = .ok (.newarray .int, 2) := by decide +kernel
theorem dX12_init_65 : decode cX12_init 65 = .ok (.putfield 31, 3) := by decide +kernel
theorem dX12_init_68 : decode cX12_init 68 = .ok (.aload_n 0, 1) := by decide +kernel
theorem dX12_init_69 : decode cX12_init 69 = .ok (.iconst 5, 1) := by decide +kernel
theorem dX12_init_70 : decode cX12_init 70 = .ok (.newarray .int, 2) := by decide +kernel
theorem dX12_init_72 : decode cX12_init 72 = .ok (.putfield 34, 3) := by decide +kernel
theorem dX12_init_75 : decode cX12_init 75 = .ok (.aload_n 0, 1) := by decide +kernel
theorem dX12_init_76 : decode cX12_init 76 = .ok (.iconst 2, 1) := by decide +kernel
theorem dX12_init_77 : decode cX12_init 77 = .ok (.putfield 37, 3) := by decide +kernel
theorem dX12_init_80 : decode cX12_init 80 = .ok (.aload_n 0, 1) := by decide +kernel
theorem dX12_init_81 : decode cX12_init 81 = .ok (.bipush 6, 2) := by decide +kernel
theorem dX12_init_83 : decode cX12_init 83 = .ok (.newarray .int, 2) := by decide +kernel
theorem dX12_init_85 : decode cX12_init 85 = .ok (.putfield 41, 3) := by decide +kernel
theorem dX12_init_88 : decode cX12_init 88 = .ok (.aload_n 0, 1) := by decide +kernel
theorem dX12_init_89 : decode cX12_init 89 = .ok (.bipush 16, 2) := by decide +kernel
theorem dX12_init_91 : decode cX12_init 91 = .ok (.newarray .int, 2) := by decide +kernel
theorem dX12_init_93 : decode cX12_init 93 = .ok (.putfield 44, 3) := by decide +kernel
theorem dX12_init_96 : decode cX12_init 96 = .ok (.aload_n 0, 1) := by decide +kernel
theorem dX12_init_97 : decode cX12_init 97 = .ok (.bipush 7, 2) := by decide +kernel
theorem dX12_init_99 : decode cX12_init 99 = .ok (.newarray .int, 2) := by decide +kernel
theorem dX12_init_101 : decode cX12_init 101 = .ok (.putfield 47, 3) := by decide +kernel
theorem dX12_init_104 : decode cX12_init 104 = .ok (.aload_n 0, 1) := by decide +kernel
theorem dX12_init_105 : decode cX12_init 105 = .ok (.bipush 6, 2) := by decide +kernel
theorem dX12_init_107 : decode cX12_init 107 = .ok (.newarray .int, 2) := by decide +kernel
theorem dX12_init_109 : decode cX12_init 109 = .ok (.putfield 50, 3) := by decide +kernel
theorem dX12_init_112 : decode cX12_init 112 = .ok (.aload_n 0, 1) := by decide +kernel
theorem dX12_init_113 : decode cX12_init 113 = .ok (.sipush 22000, 3) := by decide +kernel
theorem dX12_init_116 : decode cX12_init 116 = .ok (.newarray .int, 2) := by decide +kernel
theorem dX12_init_118 : decode cX12_init 118 = .ok (.putfield 53, 3) := by decide +kernel
theorem dX12_init_121 : decode cX12_init 121 = .ok (.aload_n 0, 1) := by decide +kernel
theorem dX12_init_122 : decode cX12_init 122 = .ok (.sipush 3321, 3) := by decide +kernel
theorem dX12_init_125 : decode cX12_init 125 = .ok (.newarray .int, 2) := by decide +kernel
theorem dX12_init_127 : decode cX12_init 127 = .ok (.putfield 56, 3) := by decide +kernel
theorem dX12_init_130 : decode cX12_init 130 = .ok (.aload_n 0, 1) := by decide +kernel
theorem dX12_init_131 : decode cX12_init 131 = .ok (.bipush 81, 2) := by decide +kernel
theorem dX12_init_133 : decode cX12_init 133 = .ok (.newarray .int, 2) := by decide +kernel
theorem dX12_init_135 : decode cX12_init 135 = .ok (.putfield 59, 3) := by decide +kernel
theorem dX12_init_138 : decode cX12_init 138 = .ok (.aload_n 0, 1) := by decide +kernel
theorem dX12_init_139 : decode cX12_init 139 = .ok (.sipush 550, 3) := by decide +kernel
theorem dX12_init_142 : decode cX12_init 142 = .ok (.newarray .int, 2) := by decide +kernel
theorem dX12_init_144 : decode cX12_init 144 = .ok (.putfield 62, 3) := by decide +kernel
theorem dX12_init_147 : decode cX12_init 147 = .ok (.return_, 1) := by decide +kernel
theorem dX12_thrown_0 : decode cX12_thrown 0 = .ok (.aload_n 0, 1) := by decide +kernel
theorem dX12_thrown_1 : decode cX12_thrown 1 = .ok (.getfield 65, 3) := by decide +kernel
theorem dX12_thrown_4 : decode cX12_thrown 4 = .ok (.ireturn, 1) := by decide +kernel
theorem dX12_byteOf_0 : decode cX12_byteOf 0 = .ok (.iload 5, 2) := by decide +kernel
theorem dX12_byteOf_2 : decode cX12_byteOf 2 = .ok (.iconst 4, 1) := by decide +kernel
theorem dX12_byteOf_3 : decode cX12_byteOf 3 = .ok (.if_icmp .ge 7, 3) := by decide +kernel
theorem dX12_byteOf_6 : decode cX12_byteOf 6 = .ok (.iload_n 0, 1) := by decide +kernel
theorem dX12_byteOf_7 : decode cX12_byteOf 7 = .ok (.goto 38, 3) := by decide +kernel
theorem dX12_byteOf_10 : decode cX12_byteOf 10 = .ok (.iload 5, 2) := by decide +kernel
theorem dX12_byteOf_12 : decode cX12_byteOf 12 = .ok (.bipush 8, 2) := by decide +kernel
theorem dX12_byteOf_14 : decode cX12_byteOf 14 = .ok (.if_icmp .ge 7, 3) := by decide +kernel
theorem dX12_byteOf_17 : decode cX12_byteOf 17 = .ok (.iload_n 1, 1) := by decide +kernel
theorem dX12_byteOf_18 : decode cX12_byteOf 18 = .ok (.goto 27, 3) := by decide +kernel
theorem dX12_byteOf_21 : decode cX12_byteOf 21 = .ok (.iload 5, 2) := by decide +kernel
theorem dX12_byteOf_23 : decode cX12_byteOf 23 = .ok (.bipush 12, 2) := by decide +kernel
theorem dX12_byteOf_25 : decode cX12_byteOf 25 = .ok (.if_icmp .ge 7, 3) := by decide +kernel
theorem dX12_byteOf_28 : decode cX12_byteOf 28 = .ok (.iload_n 2, 1) := by decide +kernel
theorem dX12_byteOf_29 : decode cX12_byteOf 29 = .ok (.goto 16, 3) := by decide +kernel
theorem dX12_byteOf_32 : decode cX12_byteOf 32 = .ok (.iload 5, 2) := by decide +kernel
theorem dX12_byteOf_34 : decode cX12_byteOf 34 = .ok (.bipush 16, 2) := by decide +kernel
theorem dX12_byteOf_36 : decode cX12_byteOf 36 = .ok (.if_icmp .ge 7, 3) := by decide +kernel
theorem dX12_byteOf_39 : decode cX12_byteOf 39 = .ok (.iload_n 3, 1) := by decide +kernel
theorem dX12_byteOf_40 : decode cX12_byteOf 40 = .ok (.goto 5, 3) := by decide +kernel
theorem dX12_byteOf_43 : decode cX12_byteOf 43 = .ok (.iload 4, 2) := by decide +kernel
theorem dX12_byteOf_45 : decode cX12_byteOf 45 = .ok (.istore 6, 2) := by decide +kernel
theorem dX12_byteOf_47 : decode cX12_byteOf 47 = .ok (.iload 6, 2) := by decide +kernel
theorem dX12_byteOf_49 : decode cX12_byteOf 49 = .ok (.bipush 24, 2) := by decide +kernel
theorem dX12_byteOf_51 : decode cX12_byteOf 51 = .ok (.bipush 8, 2) := by decide +kernel
theorem dX12_byteOf_53 : decode cX12_byteOf 53 = .ok (.iload 5, 2) := by decide +kernel
theorem dX12_byteOf_55 : decode cX12_byteOf 55 = .ok (.iconst 4, 1) := by decide +kernel
theorem dX12_byteOf_56 : decode cX12_byteOf 56 = .ok (.irem, 1) := by decide +kernel
theorem dX12_byteOf_57 : decode cX12_byteOf 57 = .ok (.imul, 1) := by decide +kernel
theorem dX12_byteOf_58 : decode cX12_byteOf 58 = .ok (.isub, 1) := by decide +kernel
theorem dX12_byteOf_59 : decode cX12_byteOf 59 = .ok (.ishr, 1) := by decide +kernel
theorem dX12_byteOf_60 : decode cX12_byteOf 60 = .ok (.sipush 255, 3) := by decide +kernel
theorem dX12_byteOf_63 : decode cX12_byteOf 63 = .ok (.iand, 1) := by decide +kernel
theorem dX12_byteOf_64 : decode cX12_byteOf 64 = .ok (.ireturn, 1) := by decide +kernel
theorem dX12_feed_0 : decode cX12_feed 0 = .ok (.iconst 0, 1) := by decide +kernel
theorem dX12_feed_1 : decode cX12_feed 1 = .ok (.istore 6, 2) := by decide +kernel
theorem dX12_feed_3 : decode cX12_feed 3 = .ok (.iconst 0, 1) := by decide +kernel
theorem dX12_feed_4 : decode cX12_feed 4 = .ok (.istore 7, 2) := by decide +kernel
theorem dX12_feed_6 : decode cX12_feed 6 = .ok (.iload 7, 2) := by decide +kernel
theorem dX12_feed_8 : decode cX12_feed 8 = .ok (.bipush 20, 2) := by decide +kernel
theorem dX12_feed_10 : decode cX12_feed 10 = .ok (.if_icmp .ge 34, 3) := by decide +kernel
theorem dX12_feed_13 : decode cX12_feed 13 = .ok (.iload 6, 2) := by decide +kernel
theorem dX12_feed_15 : decode cX12_feed 15 = .ok (.iload_n 1, 1) := by decide +kernel
theorem dX12_feed_16 : decode cX12_feed 16 = .ok (.iload_n 2, 1) := by decide +kernel
theorem dX12_feed_17 : decode cX12_feed 17 = .ok (.iload_n 3, 1) := by decide +kernel
theorem dX12_feed_18 : decode cX12_feed 18 = .ok (.iload 4, 2) := by decide +kernel
theorem dX12_feed_20 : decode cX12_feed 20 = .ok (.iload 5, 2) := by decide +kernel
theorem dX12_feed_22 : decode cX12_feed 22 = .ok (.iload 7, 2) := by decide +kernel
theorem dX12_feed_24 : decode cX12_feed 24 = .ok (.invokestatic 68, 3) := by decide +kernel
theorem dX12_feed_27 : decode cX12_feed 27 = .ok (.ifCond .eq 7, 3) := by decide +kernel
theorem dX12_feed_30 : decode cX12_feed 30 = .ok (.iconst 1, 1) := by decide +kernel
theorem dX12_feed_31 : decode cX12_feed 31 = .ok (.goto 4, 3) := by decide +kernel
theorem dX12_feed_34 : decode cX12_feed 34 = .ok (.iconst 0, 1) := by decide +kernel
theorem dX12_feed_35 : decode cX12_feed 35 = .ok (.iadd, 1) := by decide +kernel
theorem dX12_feed_36 : decode cX12_feed 36 = .ok (.istore 6, 2) := by decide +kernel
theorem dX12_feed_38 : decode cX12_feed 38 = .ok (.iinc 7 1, 3) := by decide +kernel
theorem dX12_feed_41 : decode cX12_feed 41 = .ok (.goto (-35), 3) := by decide +kernel
theorem dX12_feed_44 : decode cX12_feed 44 = .ok (.aload_n 0, 1) := by decide +kernel
theorem dX12_feed_45 : decode cX12_feed 45 = .ok (.getfield 72, 3) := by decide +kernel
theorem dX12_feed_48 : decode cX12_feed 48 = .ok (.iload 6, 2) := by decide +kernel
theorem dX12_feed_50 : decode cX12_feed 50 = .ok (.iadd, 1) := by decide +kernel
theorem dX12_feed_51 : decode cX12_feed 51 = .ok (.sipush 240, 3) := by decide +kernel
theorem dX12_feed_54 : decode cX12_feed 54 = .ok (.if_icmp .le 5, 3) := by decide +kernel
theorem dX12_feed_57 : decode cX12_feed 57 = .ok (.iconst (-1), 1) := by decide +kernel
theorem dX12_feed_58 : decode cX12_feed 58 = .ok (.ireturn, 1) := by decide +kernel
theorem dX12_feed_59 : decode cX12_feed 59 = .ok (.iconst 0, 1) := by decide +kernel
theorem dX12_feed_60 : decode cX12_feed 60 = .ok (.istore 7, 2) := by decide +kernel
theorem dX12_feed_62 : decode cX12_feed 62 = .ok (.iload 7, 2) := by decide +kernel
theorem dX12_feed_64 : decode cX12_feed 64 = .ok (.bipush 20, 2) := by decide +kernel
theorem dX12_feed_66 : decode cX12_feed 66 = .ok (.if_icmp .ge 49, 3) := by decide +kernel
theorem dX12_feed_69 : decode cX12_feed 69 = .ok (.iload_n 1, 1) := by decide +kernel
theorem dX12_feed_70 : decode cX12_feed 70 = .ok (.iload_n 2, 1) := by decide +kernel
theorem dX12_feed_71 : decode cX12_feed 71 = .ok (.iload_n 3, 1) := by decide +kernel
theorem dX12_feed_72 : decode cX12_feed 72 = .ok (.iload 4, 2) := by decide +kernel
theorem dX12_feed_74 : decode cX12_feed 74 = .ok (.iload 5, 2) := by decide +kernel
theorem dX12_feed_76 : decode cX12_feed 76 = .ok (.iload 7, 2) := by decide +kernel
theorem dX12_feed_78 : decode cX12_feed 78 = .ok (.invokestatic 68, 3) := by decide +kernel
theorem dX12_feed_81 : decode cX12_feed 81 = .ok (.istore 8, 2) := by decide +kernel
theorem dX12_feed_83 : decode cX12_feed 83 = .ok (.iload 8, 2) := by decide +kernel
theorem dX12_feed_85 : decode cX12_feed 85 = .ok (.ifCond .eq 24, 3) := by decide +kernel
theorem dX12_feed_88 : decode cX12_feed 88 = .ok (.aload_n 0, 1) := by decide +kernel
theorem dX12_feed_89 : decode cX12_feed 89 = .ok (.getfield 9, 3) := by decide +kernel
theorem dX12_feed_92 : decode cX12_feed 92 = .ok (.aload_n 0, 1) := by decide +kernel
theorem dX12_feed_93 : decode cX12_feed 93 = .ok (.getfield 72, 3) := by decide +kernel
theorem dX12_feed_96 : decode cX12_feed 96 = .ok (.iload 8, 2) := by decide +kernel
theorem dX12_feed_98 : decode cX12_feed 98 = .ok (.iastore, 1) := by decide +kernel
theorem dX12_feed_99 : decode cX12_feed 99 = .ok (.aload_n 0, 1) := by decide +kernel
theorem dX12_feed_100 : decode cX12_feed 100 = .ok (.dup, 1) := by decide +kernel
theorem dX12_feed_101 : decode cX12_feed 101 = .ok (.getfield 72, 3) := by decide +kernel
theorem dX12_feed_104 : decode cX12_feed 104 = .ok (.iconst 1, 1) := by decide +kernel
theorem dX12_feed_105 : decode cX12_feed 105 = .ok (.iadd, 1) := by decide +kernel
theorem dX12_feed_106 : decode cX12_feed 106 = .ok (.putfield 72, 3) := by decide +kernel
theorem dX12_feed_109 : decode cX12_feed 109 = .ok (.iinc 7 1, 3) := by decide +kernel
theorem dX12_feed_112 : decode cX12_feed 112 = .ok (.goto (-50), 3) := by decide +kernel
theorem dX12_feed_115 : decode cX12_feed 115 = .ok (.aload_n 0, 1) := by decide +kernel
theorem dX12_feed_116 : decode cX12_feed 116 = .ok (.getfield 72, 3) := by decide +kernel
theorem dX12_feed_119 : decode cX12_feed 119 = .ok (.ireturn, 1) := by decide +kernel
theorem dX12_end_0 : decode cX12_end 0 = .ok (.iload_n 1, 1) := by decide +kernel
theorem dX12_end_1 : decode cX12_end 1 = .ok (.iconst 0, 1) := by decide +kernel
theorem dX12_end_2 : decode cX12_end 2 = .ok (.aload_n 0, 1) := by decide +kernel
theorem dX12_end_3 : decode cX12_end 3 = .ok (.getfield 72, 3) := by decide +kernel
theorem dX12_end_6 : decode cX12_end 6 = .ok (.invokestatic 75, 3) := by decide +kernel
theorem dX12_end_9 : decode cX12_end 9 = .ok (.ifCond .ne 5, 3) := by decide +kernel
theorem dX12_end_12 : decode cX12_end 12 = .ok (.iconst 0, 1) := by decide +kernel
theorem dX12_end_13 : decode cX12_end 13 = .ok (.ireturn, 1) := by decide +kernel
theorem dX12_end_14 : decode cX12_end 14 = .ok (.aload_n 0, 1) := by decide +kernel
theorem dX12_end_15 : decode cX12_end 15 = .ok (.iload_n 1, 1) := by decide +kernel
theorem dX12_end_16 : decode cX12_end 16 = .ok (.putfield 72, 3) := by decide +kernel
theorem dX12_end_19 : decode cX12_end 19 = .ok (.iconst 1, 1) := by decide +kernel
theorem dX12_end_20 : decode cX12_end 20 = .ok (.ireturn, 1) := by decide +kernel
theorem dX12_here_0 : decode cX12_here 0 = .ok (.aload_n 0, 1) := by decide +kernel
theorem dX12_here_1 : decode cX12_here 1 = .ok (.getfield 79, 3) := by decide +kernel
theorem dX12_here_4 : decode cX12_here 4 = .ok (.aload_n 0, 1) := by decide +kernel
theorem dX12_here_5 : decode cX12_here 5 = .ok (.getfield 72, 3) := by decide +kernel
theorem dX12_here_8 : decode cX12_here 8 = .ok (.if_icmp .ge 15, 3) := by decide +kernel
theorem dX12_here_11 : decode cX12_here 11 = .ok (.aload_n 0, 1) := by decide +kernel
theorem dX12_here_12 : decode cX12_here 12 = .ok (.getfield 9, 3) := by decide +kernel
theorem dX12_here_15 : decode cX12_here 15 = .ok (.aload_n 0, 1) := by decide +kernel
theorem dX12_here_16 : decode cX12_here 16 = .ok (.getfield 79, 3) := by decide +kernel
theorem dX12_here_19 : decode cX12_here 19 = .ok (.iaload, 1) := by decide +kernel
theorem dX12_here_20 : decode cX12_here 20 = .ok (.goto 4, 3) := by decide +kernel
theorem dX12_here_23 : decode cX12_here 23 = .ok (.iconst (-1), 1) := by decide +kernel
theorem dX12_here_24 : decode cX12_here 24 = .ok (.ireturn, 1) := by decide +kernel
theorem dX12_ahead_0 : decode cX12_ahead 0 = .ok (.aload_n 0, 1) := by decide +kernel
theorem dX12_ahead_1 : decode cX12_ahead 1 = .ok (.invokevirtual 82, 3) := by decide +kernel
theorem dX12_ahead_4 : decode cX12_ahead 4 = .ok (.bipush 32, 2) := by decide +kernel
theorem dX12_ahead_6 : decode cX12_ahead 6 = .ok (.if_icmp .ne 16, 3) := by decide +kernel
theorem dX12_ahead_9 : decode cX12_ahead 9 = .ok (.aload_n 0, 1) := by decide +kernel
theorem dX12_ahead_10 : decode cX12_ahead 10 = .ok (.dup, 1) := by decide +kernel
theorem dX12_ahead_11 : decode cX12_ahead 11 = .ok (.getfield 79, 3) := by decide +kernel
theorem dX12_ahead_14 : decode cX12_ahead 14 = .ok (.iconst 1, 1) := by decide +kernel
theorem dX12_ahead_15 : decode cX12_ahead 15 = .ok (.iadd, 1) := by decide +kernel
theorem dX12_ahead_16 : decode cX12_ahead 16 = .ok (.putfield 79, 3) := by decide +kernel
theorem dX12_ahead_19 : decode cX12_ahead 19 = .ok (.goto (-19), 3) := by decide +kernel
theorem dX12_ahead_22 : decode cX12_ahead 22 = .ok (.aload_n 0, 1) := by decide +kernel
theorem dX12_ahead_23 : decode cX12_ahead 23 = .ok (.invokevirtual 82, 3) := by decide +kernel
theorem dX12_ahead_26 : decode cX12_ahead 26 = .ok (.ireturn, 1) := by decide +kernel
theorem dX12_bad_0 : decode cX12_bad 0 = .ok (.aload_n 0, 1) := by decide +kernel
theorem dX12_bad_1 : decode cX12_bad 1 = .ok (.aload_n 0, 1) := by decide +kernel
theorem dX12_bad_2 : decode cX12_bad 2 = .ok (.getfield 86, 3) := by decide +kernel
theorem dX12_bad_5 : decode cX12_bad 5 = .ok (.iconst (-1), 1) := by decide +kernel
theorem dX12_bad_6 : decode cX12_bad 6 = .ok (.if_icmp .ne 10, 3) := by decide +kernel
theorem dX12_bad_9 : decode cX12_bad 9 = .ok (.aload_n 0, 1) := by decide +kernel
theorem dX12_bad_10 : decode cX12_bad 10 = .ok (.getfield 79, 3) := by decide +kernel
theorem dX12_bad_13 : decode cX12_bad 13 = .ok (.goto 7, 3) := by decide +kernel
theorem dX12_bad_16 : decode cX12_bad 16 = .ok (.aload_n 0, 1) := by decide +kernel
theorem dX12_bad_17 : decode cX12_bad 17 = .ok (.getfield 86, 3) := by decide +kernel
theorem dX12_bad_20 : decode cX12_bad 20 = .ok (.putfield 86, 3) := by decide +kernel
theorem dX12_bad_23 : decode cX12_bad 23 = .ok (.return_, 1) := by decide +kernel
theorem dX12_isDigit_0 : decode cX12_isDigit 0 = .ok (.iload_n 0, 1) := by decide +kernel
theorem dX12_isDigit_1 : decode cX12_isDigit 1 = .ok (.bipush 48, 2) := by decide +kernel
theorem dX12_isDigit_3 : decode cX12_isDigit 3 = .ok (.if_icmp .lt 13, 3) := by decide +kernel
theorem dX12_isDigit_6 : decode cX12_isDigit 6 = .ok (.iload_n 0, 1) := by decide +kernel
theorem dX12_isDigit_7 : decode cX12_isDigit 7 = .ok (.bipush 57, 2) := by decide +kernel
theorem dX12_isDigit_9 : decode cX12_isDigit 9 = .ok (.if_icmp .gt 7, 3) := by decide +kernel
theorem dX12_isDigit_12 : decode cX12_isDigit 12 = .ok (.iconst 1, 1) := by decide +kernel
theorem dX12_isDigit_13 : decode cX12_isDigit 13 = .ok (.goto 4, 3) := by decide +kernel
theorem dX12_isDigit_16 : decode cX12_isDigit 16 = .ok (.iconst 0, 1) := by decide +kernel
theorem dX12_isDigit_17 : decode cX12_isDigit 17 = .ok (.ireturn, 1) := by decide +kernel
theorem dX12_number_0 : decode cX12_number 0 = .ok (.aload_n 0, 1) := by decide +kernel
theorem dX12_number_1 : decode cX12_number 1 = .ok (.invokevirtual 89, 3) := by decide +kernel
theorem dX12_number_4 : decode cX12_number 4 = .ok (.invokestatic 92, 3) := by decide +kernel
theorem dX12_number_7 : decode cX12_number 7 = .ok (.ifCond .ne 9, 3) := by decide +kernel
theorem dX12_number_10 : decode cX12_number 10 = .ok (.aload_n 0, 1) := by decide +kernel
theorem dX12_number_11 : decode cX12_number 11 = .ok (.invokevirtual 96, 3) := by decide +kernel
theorem dX12_number_14 : decode cX12_number 14 = .ok (.iload_n 1, 1) := by decide +kernel
theorem dX12_number_15 : decode cX12_number 15 = .ok (.ireturn, 1) := by decide +kernel
theorem dX12_number_16 : decode cX12_number 16 = .ok (.aload_n 0, 1) := by decide +kernel
theorem dX12_number_17 : decode cX12_number 17 = .ok (.invokevirtual 82, 3) := by decide +kernel
theorem dX12_number_20 : decode cX12_number 20 = .ok (.bipush 48, 2) := by decide +kernel
theorem dX12_number_22 : decode cX12_number 22 = .ok (.isub, 1) := by decide +kernel
theorem dX12_number_23 : decode cX12_number 23 = .ok (.istore_n 3, 1) := by decide +kernel
theorem dX12_number_24 : decode cX12_number 24 = .ok (.aload_n 0, 1) := by decide +kernel
theorem dX12_number_25 : decode cX12_number 25 = .ok (.dup, 1) := by decide +kernel
theorem dX12_number_26 : decode cX12_number 26 = .ok (.getfield 79, 3) := by decide +kernel
theorem dX12_number_29 : decode cX12_number 29 = .ok (.iconst 1, 1) := by decide +kernel
theorem dX12_number_30 : decode cX12_number 30 = .ok (.iadd, 1) := by decide +kernel
theorem dX12_number_31 : decode cX12_number 31 = .ok (.putfield 79, 3) := by decide +kernel
theorem dX12_number_34 : decode cX12_number 34 = .ok (.aload_n 0, 1) := by decide +kernel
theorem dX12_number_35 : decode cX12_number 35 = .ok (.invokevirtual 82, 3) := by decide +kernel
theorem dX12_number_38 : decode cX12_number 38 = .ok (.invokestatic 92, 3) := by decide +kernel
theorem dX12_number_41 : decode cX12_number 41 = .ok (.ifCond .eq 26, 3) := by decide +kernel
theorem dX12_number_44 : decode cX12_number 44 = .ok (.bipush 10, 2) := by decide +kernel
theorem dX12_number_46 : decode cX12_number 46 = .ok (.iload_n 3, 1) := by decide +kernel
theorem dX12_number_47 : decode cX12_number 47 = .ok (.imul, 1) := by decide +kernel
theorem dX12_number_48 : decode cX12_number 48 = .ok (.aload_n 0, 1) := by decide +kernel
theorem dX12_number_49 : decode cX12_number 49 = .ok (.invokevirtual 82, 3) := by decide +kernel
theorem dX12_number_52 : decode cX12_number 52 = .ok (.iadd, 1) := by decide +kernel
theorem dX12_number_53 : decode cX12_number 53 = .ok (.bipush 48, 2) := by decide +kernel
theorem dX12_number_55 : decode cX12_number 55 = .ok (.isub, 1) := by decide +kernel
theorem dX12_number_56 : decode cX12_number 56 = .ok (.istore_n 3, 1) := by decide +kernel
theorem dX12_number_57 : decode cX12_number 57 = .ok (.aload_n 0, 1) := by decide +kernel
theorem dX12_number_58 : decode cX12_number 58 = .ok (.dup, 1) := by decide +kernel
theorem dX12_number_59 : decode cX12_number 59 = .ok (.getfield 79, 3) := by decide +kernel
theorem dX12_number_62 : decode cX12_number 62 = .ok (.iconst 1, 1) := by decide +kernel
theorem dX12_number_63 : decode cX12_number 63 = .ok (.iadd, 1) := by decide +kernel
theorem dX12_number_64 : decode cX12_number 64 = .ok (.putfield 79, 3) := by decide +kernel
theorem dX12_number_67 : decode cX12_number 67 = .ok (.aload_n 0, 1) := by decide +kernel
theorem dX12_number_68 : decode cX12_number 68 = .ok (.invokevirtual 82, 3) := by decide +kernel
theorem dX12_number_71 : decode cX12_number 71 = .ok (.invokestatic 92, 3) := by decide +kernel
theorem dX12_number_74 : decode cX12_number 74 = .ok (.ifCond .eq 10, 3) := by decide +kernel
theorem dX12_number_77 : decode cX12_number 77 = .ok (.aload_n 0, 1) := by decide +kernel
theorem dX12_number_78 : decode cX12_number 78 = .ok (.invokevirtual 96, 3) := by decide +kernel
theorem dX12_number_81 : decode cX12_number 81 = .ok (.goto 26, 3) := by decide +kernel
theorem dX12_number_84 : decode cX12_number 84 = .ok (.iload_n 3, 1) := by decide +kernel
theorem dX12_number_85 : decode cX12_number 85 = .ok (.iload_n 1, 1) := by decide +kernel
theorem dX12_number_86 : decode cX12_number 86 = .ok (.iload_n 2, 1) := by decide +kernel
theorem dX12_number_87 : decode cX12_number 87 = .ok (.invokestatic 75, 3) := by decide +kernel
theorem dX12_number_90 : decode cX12_number 90 = .ok (.ifCond .ne 17, 3) := by decide +kernel
theorem dX12_number_93 : decode cX12_number 93 = .ok (.aload_n 0, 1) := by decide +kernel
theorem dX12_number_94 : decode cX12_number 94 = .ok (.dup, 1) := by decide +kernel
theorem dX12_number_95 : decode cX12_number 95 = .ok (.getfield 79, 3) := by decide +kernel
theorem dX12_number_98 : decode cX12_number 98 = .ok (.iconst 1, 1) := by decide +kernel
theorem dX12_number_99 : decode cX12_number 99 = .ok (.isub, 1) := by decide +kernel
theorem dX12_number_100 : decode cX12_number 100 = .ok (.putfield 79, 3) := by decide +kernel
theorem dX12_number_103 : decode cX12_number 103 = .ok (.aload_n 0, 1) := by decide +kernel
theorem dX12_number_104 : decode cX12_number 104 = .ok (.invokevirtual 96, 3) := by decide +kernel
theorem dX12_number_107 : decode cX12_number 107 = .ok (.iload_n 3, 1) := by decide +kernel
theorem dX12_number_108 : decode cX12_number 108 = .ok (.ireturn, 1) := by decide +kernel
theorem dX12_itemOf_0 : decode cX12_itemOf 0 = .ok (.iload_n 0, 1) := by decide +kernel
theorem dX12_itemOf_1 : decode cX12_itemOf 1 = .ok (.bipush 115, 2) := by decide +kernel
theorem dX12_itemOf_3 : decode cX12_itemOf 3 = .ok (.if_icmp .ne 55, 3) := by decide +kernel
theorem dX12_itemOf_6 : decode cX12_itemOf 6 = .ok (.iload_n 1, 1) := by decide +kernel
theorem dX12_itemOf_7 : decode cX12_itemOf 7 = .ok (.bipush 119, 2) := by decide +kernel
theorem dX12_itemOf_9 : decode cX12_itemOf 9 = .ok (.if_icmp .ne 7, 3) := by decide +kernel
theorem dX12_itemOf_12 : decode cX12_itemOf 12 = .ok (.iconst 0, 1) := by decide +kernel
theorem dX12_itemOf_13 : decode cX12_itemOf 13 = .ok (.goto 44, 3) := by decide +kernel
theorem dX12_itemOf_16 : decode cX12_itemOf 16 = .ok (.iload_n 1, 1) := by decide +kernel
theorem dX12_itemOf_17 : decode cX12_itemOf 17 = .ok (.bipush 99, 2) := by decide +kernel
theorem dX12_itemOf_19 : decode cX12_itemOf 19 = .ok (.if_icmp .ne 7, 3) := by decide +kernel
theorem dX12_itemOf_22 : decode cX12_itemOf 22 = .ok (.iconst 1, 1) := by decide +kernel
theorem dX12_itemOf_23 : decode cX12_itemOf 23 = .ok (.goto 34, 3) := by decide +kernel
theorem dX12_itemOf_26 : decode cX12_itemOf 26 = .ok (.iload_n 1, 1) := by decide +kernel
theorem dX12_itemOf_27 : decode cX12_itemOf 27 = .ok (.bipush 116, 2) := by decide +kernel
theorem dX12_itemOf_29 : decode cX12_itemOf 29 = .ok (.if_icmp .ne 7, 3) := by decide +kernel
theorem dX12_itemOf_32 : decode cX12_itemOf 32 = .ok (.iconst 2, 1) := by decide +kernel
theorem dX12_itemOf_33 : decode cX12_itemOf 33 = .ok (.goto 24, 3) := by decide +kernel
theorem dX12_itemOf_36 : decode cX12_itemOf 36 = .ok (.iload_n 1, 1) := by decide +kernel
theorem dX12_itemOf_37 : decode cX12_itemOf 37 = .ok (.bipush 109, 2) := by decide +kernel
theorem dX12_itemOf_39 : decode cX12_itemOf 39 = .ok (.if_icmp .ne 7, 3) := by decide +kernel
theorem dX12_itemOf_42 : decode cX12_itemOf 42 = .ok (.iconst 3, 1) := by decide +kernel
theorem dX12_itemOf_43 : decode cX12_itemOf 43 = .ok (.goto 14, 3) := by decide +kernel
theorem dX12_itemOf_46 : decode cX12_itemOf 46 = .ok (.iload_n 1, 1) := by decide +kernel
theorem dX12_itemOf_47 : decode cX12_itemOf 47 = .ok (.bipush 117, 2) := by decide +kernel
theorem dX12_itemOf_49 : decode cX12_itemOf 49 = .ok (.if_icmp .ne 7, 3) := by decide +kernel
theorem dX12_itemOf_52 : decode cX12_itemOf 52 = .ok (.iconst 4, 1) := by decide +kernel
theorem dX12_itemOf_53 : decode cX12_itemOf 53 = .ok (.goto 4, 3) := by decide +kernel
theorem dX12_itemOf_56 : decode cX12_itemOf 56 = .ok (.iconst (-1), 1) := by decide +kernel
theorem dX12_itemOf_57 : decode cX12_itemOf 57 = .ok (.ireturn, 1) := by decide +kernel
theorem dX12_itemOf_58 : decode cX12_itemOf 58 = .ok (.iload_n 1, 1) := by decide +kernel
theorem dX12_itemOf_59 : decode cX12_itemOf 59 = .ok (.bipush 97, 2) := by decide +kernel
theorem dX12_itemOf_61 : decode cX12_itemOf 61 = .ok (.if_icmp .ne 7, 3) := by decide +kernel
theorem dX12_itemOf_64 : decode cX12_itemOf 64 = .ok (.iconst 0, 1) := by decide +kernel
theorem dX12_itemOf_65 : decode cX12_itemOf 65 = .ok (.goto 34, 3) := by decide +kernel
theorem dX12_itemOf_68 : decode cX12_itemOf 68 = .ok (.iload_n 1, 1) := by decide +kernel
theorem dX12_itemOf_69 : decode cX12_itemOf 69 = .ok (.bipush 98, 2) := by decide +kernel
theorem dX12_itemOf_71 : decode cX12_itemOf 71 = .ok (.if_icmp .ne 7, 3) := by decide +kernel
theorem dX12_itemOf_74 : decode cX12_itemOf 74 = .ok (.iconst 1, 1) := by decide +kernel
theorem dX12_itemOf_75 : decode cX12_itemOf 75 = .ok (.goto 24, 3) := by decide +kernel
theorem dX12_itemOf_78 : decode cX12_itemOf 78 = .ok (.iload_n 1, 1) := by decide +kernel
theorem dX12_itemOf_79 : decode cX12_itemOf 79 = .ok (.bipush 107, 2) := by decide +kernel
theorem dX12_itemOf_81 : decode cX12_itemOf 81 = .ok (.if_icmp .ne 7, 3) := by decide +kernel
theorem dX12_itemOf_84 : decode cX12_itemOf 84 = .ok (.iconst 2, 1) := by decide +kernel
theorem dX12_itemOf_85 : decode cX12_itemOf 85 = .ok (.goto 14, 3) := by decide +kernel
theorem dX12_itemOf_88 : decode cX12_itemOf 88 = .ok (.iload_n 1, 1) := by decide +kernel
theorem dX12_itemOf_89 : decode cX12_itemOf 89 = .ok (.bipush 108, 2) := by decide +kernel
theorem dX12_itemOf_91 : decode cX12_itemOf 91 = .ok (.if_icmp .ne 7, 3) := by decide +kernel
theorem dX12_itemOf_94 : decode cX12_itemOf 94 = .ok (.iconst 3, 1) := by decide +kernel
theorem dX12_itemOf_95 : decode cX12_itemOf 95 = .ok (.goto 4, 3) := by decide +kernel
theorem dX12_itemOf_98 : decode cX12_itemOf 98 = .ok (.iconst (-1), 1) := by decide +kernel
theorem dX12_itemOf_99 : decode cX12_itemOf 99 = .ok (.ireturn, 1) := by decide +kernel
theorem dX12_lowest_0 : decode cX12_lowest 0 = .ok (.iload_n 0, 1) := by decide +kernel
theorem dX12_lowest_1 : decode cX12_lowest 1 = .ok (.bipush 115, 2) := by decide +kernel
theorem dX12_lowest_3 : decode cX12_lowest 3 = .ok (.if_icmp .ne 31, 3) := by decide +kernel
theorem dX12_lowest_6 : decode cX12_lowest 6 = .ok (.iload_n 1, 1) := by decide +kernel
theorem dX12_lowest_7 : decode cX12_lowest 7 = .ok (.ifCond .ne 7, 3) := by decide +kernel
theorem dX12_lowest_10 : decode cX12_lowest 10 = .ok (.iconst 4, 1) := by decide +kernel
theorem dX12_lowest_11 : decode cX12_lowest 11 = .ok (.goto 22, 3) := by decide +kernel
theorem dX12_lowest_14 : decode cX12_lowest 14 = .ok (.iload_n 1, 1) := by decide +kernel
theorem dX12_lowest_15 : decode cX12_lowest 15 = .ok (.iconst 1, 1) := by decide +kernel
theorem dX12_lowest_16 : decode cX12_lowest 16 = .ok (.if_icmp .ne 7, 3) := by decide +kernel
theorem dX12_lowest_19 : decode cX12_lowest 19 = .ok (.iconst 1, 1) := by decide +kernel
theorem dX12_lowest_20 : decode cX12_lowest 20 = .ok (.goto 13, 3) := by decide +kernel
theorem dX12_lowest_23 : decode cX12_lowest 23 = .ok (.iload_n 1, 1) := by decide +kernel
theorem dX12_lowest_24 : decode cX12_lowest 24 = .ok (.iconst 4, 1) := by decide +kernel
theorem dX12_lowest_25 : decode cX12_lowest 25 = .ok (.if_icmp .ne 7, 3) := by decide +kernel
theorem dX12_lowest_28 : decode cX12_lowest 28 = .ok (.iconst 0, 1) := by decide +kernel
theorem dX12_lowest_29 : decode cX12_lowest 29 = .ok (.goto 4, 3) := by decide +kernel
theorem dX12_lowest_32 : decode cX12_lowest 32 = .ok (.iconst 2, 1) := by decide +kernel
theorem dX12_lowest_33 : decode cX12_lowest 33 = .ok (.ireturn, 1) := by decide +kernel
theorem dX12_lowest_34 : decode cX12_lowest 34 = .ok (.iload_n 1, 1) := by decide +kernel
theorem dX12_lowest_35 : decode cX12_lowest 35 = .ok (.iconst 2, 1) := by decide +kernel
theorem dX12_lowest_36 : decode cX12_lowest 36 = .ok (.if_icmp .ne 7, 3) := by decide +kernel
theorem dX12_lowest_39 : decode cX12_lowest 39 = .ok (.iconst 2, 1) := by decide +kernel
theorem dX12_lowest_40 : decode cX12_lowest 40 = .ok (.goto 4, 3) := by decide +kernel
theorem dX12_lowest_43 : decode cX12_lowest 43 = .ok (.iconst 0, 1) := by decide +kernel
theorem dX12_lowest_44 : decode cX12_lowest 44 = .ok (.ireturn, 1) := by decide +kernel
theorem dX12_highest_0 : decode cX12_highest 0 = .ok (.iload_n 0, 1) := by decide +kernel
theorem dX12_highest_1 : decode cX12_highest 1 = .ok (.bipush 115, 2) := by decide +kernel
theorem dX12_highest_3 : decode cX12_highest 3 = .ok (.if_icmp .ne 33, 3) := by decide +kernel
theorem dX12_highest_6 : decode cX12_highest 6 = .ok (.iload_n 1, 1) := by decide +kernel
theorem dX12_highest_7 : decode cX12_highest 7 = .ok (.ifCond .ne 8, 3) := by decide +kernel
theorem dX12_highest_10 : decode cX12_highest 10 = .ok (.bipush 16, 2) := by decide +kernel
theorem dX12_highest_12 : decode cX12_highest 12 = .ok (.goto 23, 3) := by decide +kernel
theorem dX12_highest_15 : decode cX12_highest 15 = .ok (.iload_n 1, 1) := by decide +kernel
theorem dX12_highest_16 : decode cX12_highest 16 = .ok (.iconst 1, 1) := by decide +kernel
theorem dX12_highest_17 : decode cX12_highest 17 = .ok (.if_icmp .ne 7, 3) := by decide +kernel
theorem dX12_highest_20 : decode cX12_highest 20 = .ok (.iconst 4, 1) := by decide +kernel
theorem dX12_highest_21 : decode cX12_highest 21 = .ok (.goto 14, 3) := by decide +kernel
theorem dX12_highest_24 : decode cX12_highest 24 = .ok (.iload_n 1, 1) := by decide +kernel
theorem dX12_highest_25 : decode cX12_highest 25 = .ok (.iconst 4, 1) := by decide +kernel
theorem dX12_highest_26 : decode cX12_highest 26 = .ok (.if_icmp .ne 7, 3) := by decide +kernel
theorem dX12_highest_29 : decode cX12_highest 29 = .ok (.iconst 1, 1) := by decide +kernel
theorem dX12_highest_30 : decode cX12_highest 30 = .ok (.goto 5, 3) := by decide +kernel
theorem dX12_highest_33 : decode cX12_highest 33 = .ok (.bipush 9, 2) := by decide +kernel
theorem dX12_highest_35 : decode cX12_highest 35 = .ok (.ireturn, 1) := by decide +kernel
theorem dX12_highest_36 : decode cX12_highest 36 = .ok (.iload_n 1, 1) := by decide +kernel
theorem dX12_highest_37 : decode cX12_highest 37 = .ok (.iconst 2, 1) := by decide +kernel
theorem dX12_highest_38 : decode cX12_highest 38 = .ok (.if_icmp .ne 7, 3) := by decide +kernel
theorem dX12_highest_41 : decode cX12_highest 41 = .ok (.iconst 3, 1) := by decide +kernel
theorem dX12_highest_42 : decode cX12_highest 42 = .ok (.goto 14, 3) := by decide +kernel
theorem dX12_highest_45 : decode cX12_highest 45 = .ok (.iload_n 1, 1) := by decide +kernel
theorem dX12_highest_46 : decode cX12_highest 46 = .ok (.iconst 3, 1) := by decide +kernel
theorem dX12_highest_47 : decode cX12_highest 47 = .ok (.if_icmp .ne 8, 3) := by decide +kernel
theorem dX12_highest_50 : decode cX12_highest 50 = .ok (.bipush 9, 2) := by decide +kernel
theorem dX12_highest_52 : decode cX12_highest 52 = .ok (.goto 4, 3) := by decide +kernel
theorem dX12_highest_55 : decode cX12_highest 55 = .ok (.iconst 5, 1) := by decide +kernel
theorem dX12_highest_56 : decode cX12_highest 56 = .ok (.ireturn, 1) := by decide +kernel
theorem dX12_usual_0 : decode cX12_usual 0 = .ok (.iload_n 0, 1) := by decide +kernel
theorem dX12_usual_1 : decode cX12_usual 1 = .ok (.bipush 115, 2) := by decide +kernel
theorem dX12_usual_3 : decode cX12_usual 3 = .ok (.if_icmp .ne 41, 3) := by decide +kernel
theorem dX12_usual_6 : decode cX12_usual 6 = .ok (.iload_n 1, 1) := by decide +kernel
theorem dX12_usual_7 : decode cX12_usual 7 = .ok (.ifCond .ne 8, 3) := by decide +kernel
theorem dX12_usual_10 : decode cX12_usual 10 = .ok (.bipush 10, 2) := by decide +kernel
theorem dX12_usual_12 : decode cX12_usual 12 = .ok (.goto 31, 3) := by decide +kernel
theorem dX12_usual_15 : decode cX12_usual 15 = .ok (.iload_n 1, 1) := by decide +kernel
theorem dX12_usual_16 : decode cX12_usual 16 = .ok (.iconst 1, 1) := by decide +kernel
theorem dX12_usual_17 : decode cX12_usual 17 = .ok (.if_icmp .ne 7, 3) := by decide +kernel
theorem dX12_usual_20 : decode cX12_usual 20 = .ok (.iconst 2, 1) := by decide +kernel
theorem dX12_usual_21 : decode cX12_usual 21 = .ok (.goto 22, 3) := by decide +kernel
theorem dX12_usual_24 : decode cX12_usual 24 = .ok (.iload_n 1, 1) := by decide +kernel
theorem dX12_usual_25 : decode cX12_usual 25 = .ok (.iconst 2, 1) := by decide +kernel
theorem dX12_usual_26 : decode cX12_usual 26 = .ok (.if_icmp .ne 7, 3) := by decide +kernel
theorem dX12_usual_29 : decode cX12_usual 29 = .ok (.iconst 3, 1) := by decide +kernel
theorem dX12_usual_30 : decode cX12_usual 30 = .ok (.goto 13, 3) := by decide +kernel
theorem dX12_usual_33 : decode cX12_usual 33 = .ok (.iload_n 1, 1) := by decide +kernel
theorem dX12_usual_34 : decode cX12_usual 34 = .ok (.iconst 3, 1) := by decide +kernel
theorem dX12_usual_35 : decode cX12_usual 35 = .ok (.if_icmp .ne 7, 3) := by decide +kernel
theorem dX12_usual_38 : decode cX12_usual 38 = .ok (.iconst 4, 1) := by decide +kernel
theorem dX12_usual_39 : decode cX12_usual 39 = .ok (.goto 4, 3) := by decide +kernel
theorem dX12_usual_42 : decode cX12_usual 42 = .ok (.iconst 1, 1) := by decide +kernel
theorem dX12_usual_43 : decode cX12_usual 43 = .ok (.ireturn, 1) := by decide +kernel
theorem dX12_usual_44 : decode cX12_usual 44 = .ok (.iload_n 1, 1) := by decide +kernel
theorem dX12_usual_45 : decode cX12_usual 45 = .ok (.ifCond .ne 7, 3) := by decide +kernel
theorem dX12_usual_48 : decode cX12_usual 48 = .ok (.iconst 0, 1) := by decide +kernel
theorem dX12_usual_49 : decode cX12_usual 49 = .ok (.goto 13, 3) := by decide +kernel
theorem dX12_usual_52 : decode cX12_usual 52 = .ok (.iload_n 1, 1) := by decide +kernel
theorem dX12_usual_53 : decode cX12_usual 53 = .ok (.iconst 2, 1) := by decide +kernel
theorem dX12_usual_54 : decode cX12_usual 54 = .ok (.if_icmp .ne 7, 3) := by decide +kernel
theorem dX12_usual_57 : decode cX12_usual 57 = .ok (.iconst 2, 1) := by decide +kernel
theorem dX12_usual_58 : decode cX12_usual 58 = .ok (.goto 4, 3) := by decide +kernel
theorem dX12_usual_61 : decode cX12_usual 61 = .ok (.iconst 1, 1) := by decide +kernel
theorem dX12_usual_62 : decode cX12_usual 62 = .ok (.ireturn, 1) := by decide +kernel
theorem dX12_items_0 : decode cX12_items 0 = .ok (.iconst 0, 1) := by decide +kernel
theorem dX12_items_1 : decode cX12_items 1 = .ok (.istore 5, 2) := by decide +kernel
theorem dX12_items_3 : decode cX12_items 3 = .ok (.iload 5, 2) := by decide +kernel
theorem dX12_items_5 : decode cX12_items 5 = .ok (.iload 4, 2) := by decide +kernel
theorem dX12_items_7 : decode cX12_items 7 = .ok (.if_icmp .ge 21, 3) := by decide +kernel
theorem dX12_items_10 : decode cX12_items 10 = .ok (.aload_n 2, 1) := by decide +kernel
theorem dX12_items_11 : decode cX12_items 11 = .ok (.iload_n 3, 1) := by decide +kernel
theorem dX12_items_12 : decode cX12_items 12 = .ok (.iload 5, 2) := by decide +kernel
theorem dX12_items_14 : decode cX12_items 14 = .ok (.iadd, 1) := by decide +kernel
theorem dX12_items_15 : decode cX12_items 15 = .ok (.iload_n 1, 1) := by decide +kernel
theorem dX12_items_16 : decode cX12_items 16 = .ok (.iload 5, 2) := by decide +kernel
theorem dX12_items_18 : decode cX12_items 18 = .ok (.invokestatic 99, 3) := by decide +kernel
theorem dX12_items_21 : decode cX12_items 21 = .ok (.iastore, 1) := by decide +kernel
theorem dX12_items_22 : decode cX12_items 22 = .ok (.iinc 5 1, 3) := by decide +kernel
theorem dX12_items_25 : decode cX12_items 25 = .ok (.goto (-22), 3) := by decide +kernel
theorem dX12_items_28 : decode cX12_items 28 = .ok (.iconst 0, 1) := by decide +kernel
theorem dX12_items_29 : decode cX12_items 29 = .ok (.istore 5, 2) := by decide +kernel
theorem dX12_items_31 : decode cX12_items 31 = .ok (.iload_n 1, 1) := by decide +kernel
theorem dX12_items_32 : decode cX12_items 32 = .ok (.aload_n 0, 1) := by decide +kernel
theorem dX12_items_33 : decode cX12_items 33 = .ok (.invokevirtual 89, 3) := by decide +kernel
theorem dX12_items_36 : decode cX12_items 36 = .ok (.invokestatic 103, 3) := by decide +kernel
theorem dX12_items_39 : decode cX12_items 39 = .ok (.istore 6, 2) := by decide +kernel
theorem dX12_items_41 : decode cX12_items 41 = .ok (.aload_n 0, 1) := by decide +kernel
theorem dX12_items_42 : decode cX12_items 42 = .ok (.getfield 86, 3) := by decide +kernel
theorem dX12_items_45 : decode cX12_items 45 = .ok (.iconst (-1), 1) := by decide +kernel
theorem dX12_items_46 : decode cX12_items 46 = .ok (.if_icmp .ne 85, 3) := by decide +kernel
theorem dX12_items_49 : decode cX12_items 49 = .ok (.iload 6, 2) := by decide +kernel
theorem dX12_items_51 : decode cX12_items 51 = .ok (.iconst (-1), 1) := by decide +kernel
theorem dX12_items_52 : decode cX12_items 52 = .ok (.if_icmp .eq 79, 3) := by decide +kernel
theorem dX12_items_55 : decode cX12_items 55 = .ok (.iload 5, 2) := by decide +kernel
theorem dX12_items_57 : decode cX12_items 57 = .ok (.iload 6, 2) := by decide +kernel
theorem dX12_items_59 : decode cX12_items 59 = .ok (.invokestatic 106, 3) := by decide +kernel
theorem dX12_items_62 : decode cX12_items 62 = .ok (.ifCond .ne 69, 3) := by decide +kernel
theorem dX12_items_65 : decode cX12_items 65 = .ok (.iload 5, 2) := by decide +kernel
theorem dX12_items_67 : decode cX12_items 67 = .ok (.iconst 1, 1) := by decide +kernel
theorem dX12_items_68 : decode cX12_items 68 = .ok (.iload 6, 2) := by decide +kernel
theorem dX12_items_70 : decode cX12_items 70 = .ok (.ishl, 1) := by decide +kernel
theorem dX12_items_71 : decode cX12_items 71 = .ok (.ior, 1) := by decide +kernel
theorem dX12_items_72 : decode cX12_items 72 = .ok (.istore 5, 2) := by decide +kernel
theorem dX12_items_74 : decode cX12_items 74 = .ok (.aload_n 0, 1) := by decide +kernel
theorem dX12_items_75 : decode cX12_items 75 = .ok (.dup, 1) := by decide +kernel
theorem dX12_items_76 : decode cX12_items 76 = .ok (.getfield 79, 3) := by decide +kernel
theorem dX12_items_79 : decode cX12_items 79 = .ok (.iconst 1, 1) := by decide +kernel
theorem dX12_items_80 : decode cX12_items 80 = .ok (.iadd, 1) := by decide +kernel
theorem dX12_items_81 : decode cX12_items 81 = .ok (.putfield 79, 3) := by decide +kernel
theorem dX12_items_84 : decode cX12_items 84 = .ok (.aload_n 2, 1) := by decide +kernel
theorem dX12_items_85 : decode cX12_items 85 = .ok (.iload_n 3, 1) := by decide +kernel
theorem dX12_items_86 : decode cX12_items 86 = .ok (.iload 6, 2) := by decide +kernel
theorem dX12_items_88 : decode cX12_items 88 = .ok (.iadd, 1) := by decide +kernel
theorem dX12_items_89 : decode cX12_items 89 = .ok (.aload_n 0, 1) := by decide +kernel
theorem dX12_items_90 : decode cX12_items 90 = .ok (.iload_n 1, 1) := by decide +kernel
theorem dX12_items_91 : decode cX12_items 91 = .ok (.iload 6, 2) := by decide +kernel
theorem dX12_items_93 : decode cX12_items 93 = .ok (.invokestatic 110, 3) := by decide +kernel
theorem dX12_items_96 : decode cX12_items 96 = .ok (.iload_n 1, 1) := by decide +kernel
theorem dX12_items_97 : decode cX12_items 97 = .ok (.iload 6, 2) := by decide +kernel
theorem dX12_items_99 : decode cX12_items 99 = .ok (.invokestatic 113, 3) := by decide +kernel
theorem dX12_items_102 : decode cX12_items 102 = .ok (.invokevirtual 116, 3) := by decide +kernel
theorem dX12_items_105 : decode cX12_items 105 = .ok (.iastore, 1) := by decide +kernel
theorem dX12_items_106 : decode cX12_items 106 = .ok (.aload_n 0, 1) := by decide +kernel
theorem dX12_items_107 : decode cX12_items 107 = .ok (.getfield 86, 3) := by decide +kernel
theorem dX12_items_110 : decode cX12_items 110 = .ok (.iconst (-1), 1) := by decide +kernel
theorem dX12_items_111 : decode cX12_items 111 = .ok (.if_icmp .ne 14, 3) := by decide +kernel
theorem dX12_items_114 : decode cX12_items 114 = .ok (.iload_n 1, 1) := by decide +kernel
theorem dX12_items_115 : decode cX12_items 115 = .ok (.aload_n 0, 1) := by decide +kernel
theorem dX12_items_116 : decode cX12_items 116 = .ok (.invokevirtual 89, 3) := by decide +kernel
theorem dX12_items_119 : decode cX12_items 119 = .ok (.invokestatic 103, 3) := by decide +kernel
theorem dX12_items_122 : decode cX12_items 122 = .ok (.goto 4, 3) := by decide +kernel
theorem dX12_items_125 : decode cX12_items 125 = .ok (.iconst (-1), 1) := by decide +kernel
theorem dX12_items_126 : decode cX12_items 126 = .ok (.istore 6, 2) := by decide +kernel
theorem dX12_items_128 : decode cX12_items 128 = .ok (.goto (-87), 3) := by decide +kernel
theorem dX12_items_131 : decode cX12_items 131 = .ok (.return_, 1) := by decide +kernel
theorem dX12_isWhole_0 : decode cX12_isWhole 0 = .ok (.aload_n 0, 1) := by decide +kernel
theorem dX12_isWhole_1 : decode cX12_isWhole 1 = .ok (.getfield 119, 3) := by decide +kernel
theorem dX12_isWhole_4 : decode cX12_isWhole 4 = .ok (.ifCond .le 7, 3) := by decide +kernel
theorem dX12_isWhole_7 : decode cX12_isWhole 7 = .ok (.iconst 1, 1) := by decide +kernel
theorem dX12_isWhole_8 : decode cX12_isWhole 8 = .ok (.goto 4, 3) := by decide +kernel
theorem dX12_isWhole_11 : decode cX12_isWhole 11 = .ok (.iconst 0, 1) := by decide +kernel
theorem dX12_isWhole_12 : decode cX12_isWhole 12 = .ok (.istore_n 1, 1) := by decide +kernel
theorem dX12_isWhole_13 : decode cX12_isWhole 13 = .ok (.iconst 0, 1) := by decide +kernel
theorem dX12_isWhole_14 : decode cX12_isWhole 14 = .ok (.istore_n 2, 1) := by decide +kernel
theorem dX12_isWhole_15 : decode cX12_isWhole 15 = .ok (.iload_n 2, 1) := by decide +kernel
theorem dX12_isWhole_16 : decode cX12_isWhole 16 = .ok (.aload_n 0, 1) := by decide +kernel
theorem dX12_isWhole_17 : decode cX12_isWhole 17 = .ok (.getfield 119, 3) := by decide +kernel
theorem dX12_isWhole_20 : decode cX12_isWhole 20 = .ok (.if_icmp .ge 111, 3) := by decide +kernel
theorem dX12_isWhole_23 : decode cX12_isWhole 23 = .ok (.iload_n 1, 1) := by decide +kernel
theorem dX12_isWhole_24 : decode cX12_isWhole 24 = .ok (.ifCond .eq 30, 3) := by decide +kernel
theorem dX12_isWhole_27 : decode cX12_isWhole 27 = .ok (.aload_n 0, 1) := by decide +kernel
theorem dX12_isWhole_28 : decode cX12_isWhole 28 = .ok (.getfield 16, 3) := by decide +kernel
theorem dX12_isWhole_31 : decode cX12_isWhole 31 = .ok (.iconst 4, 1) := by decide +kernel
theorem dX12_isWhole_32 : decode cX12_isWhole 32 = .ok (.iload_n 2, 1) := by decide +kernel
theorem dX12_isWhole_33 : decode cX12_isWhole 33 = .ok (.imul, 1) := by decide +kernel
theorem dX12_isWhole_34 : decode cX12_isWhole 34 = .ok (.iconst 0, 1) := by decide +kernel
theorem dX12_isWhole_35 : decode cX12_isWhole 35 = .ok (.iadd, 1) := by decide +kernel
theorem dX12_isWhole_36 : decode cX12_isWhole 36 = .ok (.iaload, 1) := by decide +kernel
theorem dX12_isWhole_37 : decode cX12_isWhole 37 = .ok (.aload_n 0, 1) := by decide +kernel
theorem dX12_isWhole_38 : decode cX12_isWhole 38 = .ok (.getfield 16, 3) := by decide +kernel
theorem dX12_isWhole_41 : decode cX12_isWhole 41 = .ok (.iconst 4, 1) := by decide +kernel
theorem dX12_isWhole_42 : decode cX12_isWhole 42 = .ok (.iload_n 2, 1) := by decide +kernel
theorem dX12_isWhole_43 : decode cX12_isWhole 43 = .ok (.imul, 1) := by decide +kernel
theorem dX12_isWhole_44 : decode cX12_isWhole 44 = .ok (.iconst 1, 1) := by decide +kernel
theorem dX12_isWhole_45 : decode cX12_isWhole 45 = .ok (.iadd, 1) := by decide +kernel
theorem dX12_isWhole_46 : decode cX12_isWhole 46 = .ok (.iaload, 1) := by decide +kernel
theorem dX12_isWhole_47 : decode cX12_isWhole 47 = .ok (.if_icmp .eq 7, 3) := by decide +kernel
theorem dX12_isWhole_50 : decode cX12_isWhole 50 = .ok (.iconst 1, 1) := by decide +kernel
theorem dX12_isWhole_51 : decode cX12_isWhole 51 = .ok (.goto 4, 3) := by decide +kernel
theorem dX12_isWhole_54 : decode cX12_isWhole 54 = .ok (.iconst 0, 1) := by decide +kernel
theorem dX12_isWhole_55 : decode cX12_isWhole 55 = .ok (.istore_n 1, 1) := by decide +kernel
theorem dX12_isWhole_56 : decode cX12_isWhole 56 = .ok (.iconst 0, 1) := by decide +kernel
theorem dX12_isWhole_57 : decode cX12_isWhole 57 = .ok (.istore_n 3, 1) := by decide +kernel
theorem dX12_isWhole_58 : decode cX12_isWhole 58 = .ok (.iload_n 3, 1) := by decide +kernel
theorem dX12_isWhole_59 : decode cX12_isWhole 59 = .ok (.iload_n 2, 1) := by decide +kernel
theorem dX12_isWhole_60 : decode cX12_isWhole 60 = .ok (.if_icmp .ge 65, 3) := by decide +kernel
theorem dX12_isWhole_63 : decode cX12_isWhole 63 = .ok (.iload_n 1, 1) := by decide +kernel
theorem dX12_isWhole_64 : decode cX12_isWhole 64 = .ok (.ifCond .eq 53, 3) := by decide +kernel
theorem dX12_isWhole_67 : decode cX12_isWhole 67 = .ok (.aload_n 0, 1) := by decide +kernel
theorem dX12_isWhole_68 : decode cX12_isWhole 68 = .ok (.getfield 16, 3) := by decide +kernel
theorem dX12_isWhole_71 : decode cX12_isWhole 71 = .ok (.iconst 4, 1) := by decide +kernel
theorem dX12_isWhole_72 : decode cX12_isWhole 72 = .ok (.iload_n 2, 1) := by decide +kernel
theorem dX12_isWhole_73 : decode cX12_isWhole 73 = .ok (.imul, 1) := by decide +kernel
theorem dX12_isWhole_74 : decode cX12_isWhole 74 = .ok (.iconst 0, 1) := by decide +kernel
theorem dX12_isWhole_75 : decode cX12_isWhole 75 = .ok (.iadd, 1) := by decide +kernel
theorem dX12_isWhole_76 : decode cX12_isWhole 76 = .ok (.iaload, 1) := by decide +kernel
theorem dX12_isWhole_77 : decode cX12_isWhole 77 = .ok (.aload_n 0, 1) := by decide +kernel
theorem dX12_isWhole_78 : decode cX12_isWhole 78 = .ok (.getfield 16, 3) := by decide +kernel
theorem dX12_isWhole_81 : decode cX12_isWhole 81 = .ok (.iconst 4, 1) := by decide +kernel
theorem dX12_isWhole_82 : decode cX12_isWhole 82 = .ok (.iload_n 3, 1) := by decide +kernel
theorem dX12_isWhole_83 : decode cX12_isWhole 83 = .ok (.imul, 1) := by decide +kernel
theorem dX12_isWhole_84 : decode cX12_isWhole 84 = .ok (.iconst 0, 1) := by decide +kernel
theorem dX12_isWhole_85 : decode cX12_isWhole 85 = .ok (.iadd, 1) := by decide +kernel
theorem dX12_isWhole_86 : decode cX12_isWhole 86 = .ok (.iaload, 1) := by decide +kernel
theorem dX12_isWhole_87 : decode cX12_isWhole 87 = .ok (.if_icmp .ne 26, 3) := by decide +kernel
theorem dX12_isWhole_90 : decode cX12_isWhole 90 = .ok (.aload_n 0, 1) := by decide +kernel
theorem dX12_isWhole_91 : decode cX12_isWhole 91 = .ok (.getfield 16, 3) := by decide +kernel
theorem dX12_isWhole_94 : decode cX12_isWhole 94 = .ok (.iconst 4, 1) := by decide +kernel
theorem dX12_isWhole_95 : decode cX12_isWhole 95 = .ok (.iload_n 2, 1) := by decide +kernel
theorem dX12_isWhole_96 : decode cX12_isWhole 96 = .ok (.imul, 1) := by decide +kernel
theorem dX12_isWhole_97 : decode cX12_isWhole 97 = .ok (.iconst 1, 1) := by decide +kernel
theorem dX12_isWhole_98 : decode cX12_isWhole 98 = .ok (.iadd, 1) := by decide +kernel
theorem dX12_isWhole_99 : decode cX12_isWhole 99 = .ok (.iaload, 1) := by decide +kernel
theorem dX12_isWhole_100 : decode cX12_isWhole 100 = .ok (.aload_n 0, 1) := by decide +kernel
theorem dX12_isWhole_101 : decode cX12_isWhole 101 = .ok (.getfield 16, 3) := by decide +kernel
theorem dX12_isWhole_104 : decode cX12_isWhole 104 = .ok (.iconst 4, 1) := by decide +kernel
theorem dX12_isWhole_105 : decode cX12_isWhole 105 = .ok (.iload_n 3, 1) := by decide +kernel
theorem dX12_isWhole_106 : decode cX12_isWhole 106 = .ok (.imul, 1) := by decide +kernel
theorem dX12_isWhole_107 : decode cX12_isWhole 107 = .ok (.iconst 1, 1) := by decide +kernel
theorem dX12_isWhole_108 : decode cX12_isWhole 108 = .ok (.iadd, 1) := by decide +kernel
theorem dX12_isWhole_109 : decode cX12_isWhole 109 = .ok (.iaload, 1) := by decide +kernel
theorem dX12_isWhole_110 : decode cX12_isWhole 110 = .ok (.if_icmp .eq 7, 3) := by decide +kernel
theorem dX12_isWhole_113 : decode cX12_isWhole 113 = .ok (.iconst 1, 1) := by decide +kernel
theorem dX12_isWhole_114 : decode cX12_isWhole 114 = .ok (.goto 4, 3) := by decide +kernel
theorem dX12_isWhole_117 : decode cX12_isWhole 117 = .ok (.iconst 0, 1) := by decide +kernel
theorem dX12_isWhole_118 : decode cX12_isWhole 118 = .ok (.istore_n 1, 1) := by decide +kernel
theorem dX12_isWhole_119 : decode cX12_isWhole 119 = .ok (.iinc 3 1, 3) := by decide +kernel
theorem dX12_isWhole_122 : decode cX12_isWhole 122 = .ok (.goto (-64), 3) := by decide +kernel
theorem dX12_isWhole_125 : decode cX12_isWhole 125 = .ok (.iinc 2 1, 3) := by decide +kernel
theorem dX12_isWhole_128 : decode cX12_isWhole 128 = .ok (.goto (-113), 3) := by decide +kernel
theorem dX12_isWhole_131 : decode cX12_isWhole 131 = .ok (.iload_n 1, 1) := by decide +kernel
theorem dX12_isWhole_132 : decode cX12_isWhole 132 = .ok (.ireturn, 1) := by decide +kernel
theorem dX12_readMesh_0 : decode cX12_readMesh 0 = .ok (.aload_n 0, 1) := by decide +kernel
theorem dX12_readMesh_1 : decode cX12_readMesh 1 = .ok (.iconst 0, 1) := by decide +kernel
theorem dX12_readMesh_2 : decode cX12_readMesh 2 = .ok (.putfield 79, 3) := by decide +kernel
theorem dX12_readMesh_5 : decode cX12_readMesh 5 = .ok (.aload_n 0, 1) := by decide +kernel
theorem dX12_readMesh_6 : decode cX12_readMesh 6 = .ok (.iconst (-1), 1) := by decide +kernel
theorem dX12_readMesh_7 : decode cX12_readMesh 7 = .ok (.putfield 86, 3) := by decide +kernel
theorem dX12_readMesh_10 : decode cX12_readMesh 10 = .ok (.aload_n 0, 1) := by decide +kernel
theorem dX12_readMesh_11 : decode cX12_readMesh 11 = .ok (.iconst 0, 1) := by decide +kernel
theorem dX12_readMesh_12 : decode cX12_readMesh 12 = .ok (.putfield 119, 3) := by decide +kernel
theorem dX12_readMesh_15 : decode cX12_readMesh 15 = .ok (.iconst 0, 1) := by decide +kernel
theorem dX12_readMesh_16 : decode cX12_readMesh 16 = .ok (.istore_n 1, 1) := by decide +kernel
theorem dX12_readMesh_17 : decode cX12_readMesh 17 = .ok (.iconst 0, 1) := by decide +kernel
theorem dX12_readMesh_18 : decode cX12_readMesh 18 = .ok (.istore_n 2, 1) := by decide +kernel
theorem dX12_readMesh_19 : decode cX12_readMesh 19 = .ok (.iload_n 2, 1) := by decide +kernel
theorem dX12_readMesh_20 : decode cX12_readMesh 20 = .ok (.iconst 5, 1) := by decide +kernel
theorem dX12_readMesh_21 : decode cX12_readMesh 21 = .ok (.if_icmp .ge 21, 3) := by decide +kernel
theorem dX12_readMesh_24 : decode cX12_readMesh 24 = .ok (.aload_n 0, 1) := by decide +kernel
theorem dX12_readMesh_25 : decode cX12_readMesh 25 = .ok (.getfield 13, 3) := by decide +kernel
theorem dX12_readMesh_28 : decode cX12_readMesh 28 = .ok (.iload_n 2, 1) := by decide +kernel
theorem dX12_readMesh_29 : decode cX12_readMesh 29 = .ok (.bipush 115, 2) := by decide +kernel
theorem dX12_readMesh_31 : decode cX12_readMesh 31 = .ok (.iload_n 2, 1) := by decide +kernel
theorem dX12_readMesh_32 : decode cX12_readMesh 32 = .ok (.invokestatic 99, 3) := by decide +kernel
theorem dX12_readMesh_35 : decode cX12_readMesh 35 = .ok (.iastore, 1) := by decide +kernel
theorem dX12_readMesh_36 : decode cX12_readMesh 36 = .ok (.iinc 2 1, 3) := by decide +kernel
theorem dX12_readMesh_39 : decode cX12_readMesh 39 = .ok (.goto (-20), 3) := by decide +kernel
theorem dX12_readMesh_42 : decode cX12_readMesh 42 = .ok (.iconst 1, 1) := by decide +kernel
theorem dX12_readMesh_43 : decode cX12_readMesh 43 = .ok (.istore_n 2, 1) := by decide +kernel
theorem dX12_readMesh_44 : decode cX12_readMesh 44 = .ok (.iload_n 2, 1) := by decide +kernel
theorem dX12_readMesh_45 : decode cX12_readMesh 45 = .ok (.ifCond .eq 154, 3) := by decide +kernel
theorem dX12_readMesh_48 : decode cX12_readMesh 48 = .ok (.aload_n 0, 1) := by decide +kernel
theorem dX12_readMesh_49 : decode cX12_readMesh 49 = .ok (.getfield 86, 3) := by decide +kernel
theorem dX12_readMesh_52 : decode cX12_readMesh 52 = .ok (.iconst (-1), 1) := by decide +kernel
theorem dX12_readMesh_53 : decode cX12_readMesh 53 = .ok (.if_icmp .ne 146, 3) := by decide +kernel
theorem dX12_readMesh_56 : decode cX12_readMesh 56 = .ok (.aload_n 0, 1) := by decide +kernel
theorem dX12_readMesh_57 : decode cX12_readMesh 57 = .ok (.invokevirtual 89, 3) := by decide +kernel
theorem dX12_readMesh_60 : decode cX12_readMesh 60 = .ok (.istore_n 3, 1) := by decide +kernel
theorem dX12_readMesh_61 : decode cX12_readMesh 61 = .ok (.iload_n 3, 1) := by decide +kernel
theorem dX12_readMesh_62 : decode cX12_readMesh 62 = .ok (.bipush 115, 2) := by decide +kernel
theorem dX12_readMesh_64 : decode cX12_readMesh 64 = .ok (.if_icmp .ne 33, 3) := by decide +kernel
theorem dX12_readMesh_67 : decode cX12_readMesh 67 = .ok (.iload_n 1, 1) := by decide +kernel
theorem dX12_readMesh_68 : decode cX12_readMesh 68 = .ok (.ifCond .ne 29, 3) := by decide +kernel
theorem dX12_readMesh_71 : decode cX12_readMesh 71 = .ok (.iconst 1, 1) := by decide +kernel
theorem dX12_readMesh_72 : decode cX12_readMesh 72 = .ok (.istore_n 1, 1) := by decide +kernel
theorem dX12_readMesh_73 : decode cX12_readMesh 73 = .ok (.aload_n 0, 1) := by decide +kernel
theorem dX12_readMesh_74 : decode cX12_readMesh 74 = .ok (.dup, 1) := by decide +kernel
theorem dX12_readMesh_75 : decode cX12_readMesh 75 = .ok (.getfield 79, 3) := by decide +kernel
theorem dX12_readMesh_78 : decode cX12_readMesh 78 = .ok (.iconst 1, 1) := by decide +kernel
theorem dX12_readMesh_79 : decode cX12_readMesh 79 = .ok (.iadd, 1) := by decide +kernel
theorem dX12_readMesh_80 : decode cX12_readMesh 80 = .ok (.putfield 79, 3) := by decide +kernel
theorem dX12_readMesh_83 : decode cX12_readMesh 83 = .ok (.aload_n 0, 1) := by decide +kernel
theorem dX12_readMesh_84 : decode cX12_readMesh 84 = .ok (.iload_n 3, 1) := by decide +kernel
theorem dX12_readMesh_85 : decode cX12_readMesh 85 = .ok (.aload_n 0, 1) := by decide +kernel
theorem dX12_readMesh_86 : decode cX12_readMesh 86 = .ok (.getfield 13, 3) := by decide +kernel
theorem dX12_readMesh_89 : decode cX12_readMesh 89 = .ok (.iconst 0, 1) := by decide +kernel
theorem dX12_readMesh_90 : decode cX12_readMesh 90 = .ok (.iconst 5, 1) := by decide +kernel
theorem dX12_readMesh_91 : decode cX12_readMesh 91 = .ok (.invokevirtual 122, 3) := by decide +kernel
theorem dX12_readMesh_94 : decode cX12_readMesh 94 = .ok (.goto 61, 3) := by decide +kernel
theorem dX12_readMesh_97 : decode cX12_readMesh 97 = .ok (.iload_n 3, 1) := by decide +kernel
theorem dX12_readMesh_98 : decode cX12_readMesh 98 = .ok (.bipush 112, 2) := by decide +kernel
theorem dX12_readMesh_100 : decode cX12_readMesh 100 = .ok (.if_icmp .ne 51, 3) := by decide +kernel
theorem dX12_readMesh_103 : decode cX12_readMesh 103 = .ok (.aload_n 0, 1) := by decide +kernel
theorem dX12_readMesh_104 : decode cX12_readMesh 104 = .ok (.getfield 119, 3) := by decide +kernel
theorem dX12_readMesh_107 : decode cX12_readMesh 107 = .ok (.bipush 6, 2) := by decide +kernel
theorem dX12_readMesh_109 : decode cX12_readMesh 109 = .ok (.if_icmp .ge 42, 3) := by decide +kernel
theorem dX12_readMesh_112 : decode cX12_readMesh 112 = .ok (.aload_n 0, 1) := by decide +kernel
theorem dX12_readMesh_113 : decode cX12_readMesh 113 = .ok (.dup, 1) := by decide +kernel
theorem dX12_readMesh_114 : decode cX12_readMesh 114 = .ok (.getfield 79, 3) := by decide +kernel
theorem dX12_readMesh_117 : decode cX12_readMesh 117 = .ok (.iconst 1, 1) := by decide +kernel
theorem dX12_readMesh_118 : decode cX12_readMesh 118 = .ok (.iadd, 1) := by decide +kernel
theorem dX12_readMesh_119 : decode cX12_readMesh 119 = .ok (.putfield 79, 3) := by decide +kernel
theorem dX12_readMesh_122 : decode cX12_readMesh 122 = .ok (.aload_n 0, 1) := by decide +kernel
theorem dX12_readMesh_123 : decode cX12_readMesh 123 = .ok (.iload_n 3, 1) := by decide +kernel
theorem dX12_readMesh_124 : decode cX12_readMesh 124 = .ok (.aload_n 0, 1) := by decide +kernel
theorem dX12_readMesh_125 : decode cX12_readMesh 125 = .ok (.getfield 16, 3) := by decide +kernel
theorem dX12_readMesh_128 : decode cX12_readMesh 128 = .ok (.iconst 4, 1) := by decide +kernel
theorem dX12_readMesh_129 : decode cX12_readMesh 129 = .ok (.aload_n 0, 1) := by decide +kernel
theorem dX12_readMesh_130 : decode cX12_readMesh 130 = .ok (.getfield 119, 3) := by decide +kernel
theorem dX12_readMesh_133 : decode cX12_readMesh 133 = .ok (.imul, 1) := by decide +kernel
theorem dX12_readMesh_134 : decode cX12_readMesh 134 = .ok (.iconst 4, 1) := by decide +kernel
theorem dX12_readMesh_135 : decode cX12_readMesh 135 = .ok (.invokevirtual 122, 3) := by decide +kernel
theorem dX12_readMesh_138 : decode cX12_readMesh 138 = .ok (.aload_n 0, 1) := by decide +kernel
theorem dX12_readMesh_139 : decode cX12_readMesh 139 = .ok (.dup, 1) := by decide +kernel
theorem dX12_readMesh_140 : decode cX12_readMesh 140 = .ok (.getfield 119, 3) := by decide +kernel
theorem dX12_readMesh_143 : decode cX12_readMesh 143 = .ok (.iconst 1, 1) := by decide +kernel
theorem dX12_readMesh_144 : decode cX12_readMesh 144 = .ok (.iadd, 1) := by decide +kernel
theorem dX12_readMesh_145 : decode cX12_readMesh 145 = .ok (.putfield 119, 3) := by decide +kernel
theorem dX12_readMesh_148 : decode cX12_readMesh 148 = .ok (.goto 7, 3) := by decide +kernel
theorem dX12_readMesh_151 : decode cX12_readMesh 151 = .ok (.aload_n 0, 1) := by decide +kernel
theorem dX12_readMesh_152 : decode cX12_readMesh 152 = .ok (.invokevirtual 96, 3) := by decide +kernel
theorem dX12_readMesh_155 : decode cX12_readMesh 155 = .ok (.aload_n 0, 1) := by decide +kernel
theorem dX12_readMesh_156 : decode cX12_readMesh 156 = .ok (.getfield 86, 3) := by decide +kernel
theorem dX12_readMesh_159 : decode cX12_readMesh 159 = .ok (.iconst (-1), 1) := by decide +kernel
theorem dX12_readMesh_160 : decode cX12_readMesh 160 = .ok (.if_icmp .ne 16, 3) := by decide +kernel
theorem dX12_readMesh_163 : decode cX12_readMesh 163 = .ok (.aload_n 0, 1) := by decide +kernel
theorem dX12_readMesh_164 : decode cX12_readMesh 164 = .ok (.invokevirtual 89, 3) := by decide +kernel
theorem dX12_readMesh_167 : decode cX12_readMesh 167 = .ok (.bipush 59, 2) := by decide +kernel
theorem dX12_readMesh_169 : decode cX12_readMesh 169 = .ok (.if_icmp .ne 7, 3) := by decide +kernel
theorem dX12_readMesh_172 : decode cX12_readMesh 172 = .ok (.iconst 1, 1) := by decide +kernel
theorem dX12_readMesh_173 : decode cX12_readMesh 173 = .ok (.goto 4, 3) := by decide +kernel
theorem dX12_readMesh_176 : decode cX12_readMesh 176 = .ok (.iconst 0, 1) := by decide +kernel
theorem dX12_readMesh_177 : decode cX12_readMesh 177 = .ok (.istore_n 2, 1) := by decide +kernel
theorem dX12_readMesh_178 : decode cX12_readMesh 178 = .ok (.aload_n 0, 1) := by decide +kernel
theorem dX12_readMesh_179 : decode cX12_readMesh 179 = .ok (.dup, 1) := by decide +kernel
theorem dX12_readMesh_180 : decode cX12_readMesh 180 = .ok (.getfield 79, 3) := by decide +kernel
theorem dX12_readMesh_183 : decode cX12_readMesh 183 = .ok (.iload_n 2, 1) := by decide +kernel
theorem dX12_readMesh_184 : decode cX12_readMesh 184 = .ok (.ifCond .eq 7, 3) := by decide +kernel
theorem dX12_readMesh_187 : decode cX12_readMesh 187 = .ok (.iconst 1, 1) := by decide +kernel
theorem dX12_readMesh_188 : decode cX12_readMesh 188 = .ok (.goto 4, 3) := by decide +kernel
theorem dX12_readMesh_191 : decode cX12_readMesh 191 = .ok (.iconst 0, 1) := by decide +kernel
theorem dX12_readMesh_192 : decode cX12_readMesh 192 = .ok (.iadd, 1) := by decide +kernel
theorem dX12_readMesh_193 : decode cX12_readMesh 193 = .ok (.putfield 79, 3) := by decide +kernel
theorem dX12_readMesh_196 : decode cX12_readMesh 196 = .ok (.goto (-152), 3) := by decide +kernel
theorem dX12_readMesh_199 : decode cX12_readMesh 199 = .ok (.aload_n 0, 1) := by decide +kernel
theorem dX12_readMesh_200 : decode cX12_readMesh 200 = .ok (.getfield 86, 3) := by decide +kernel
theorem dX12_readMesh_203 : decode cX12_readMesh 203 = .ok (.iconst (-1), 1) := by decide +kernel
theorem dX12_readMesh_204 : decode cX12_readMesh 204 = .ok (.if_icmp .ne 22, 3) := by decide +kernel
theorem dX12_readMesh_207 : decode cX12_readMesh 207 = .ok (.aload_n 0, 1) := by decide +kernel
theorem dX12_readMesh_208 : decode cX12_readMesh 208 = .ok (.invokevirtual 89, 3) := by decide +kernel
theorem dX12_readMesh_211 : decode cX12_readMesh 211 = .ok (.iconst (-1), 1) := by decide +kernel
theorem dX12_readMesh_212 : decode cX12_readMesh 212 = .ok (.if_icmp .ne 10, 3) := by decide +kernel
theorem dX12_readMesh_215 : decode cX12_readMesh 215 = .ok (.aload_n 0, 1) := by decide +kernel
theorem dX12_readMesh_216 : decode cX12_readMesh 216 = .ok (.invokevirtual 126, 3) := by decide +kernel
theorem dX12_readMesh_219 : decode cX12_readMesh 219 = .ok (.ifCond .ne 7, 3) := by decide +kernel
theorem dX12_readMesh_222 : decode cX12_readMesh 222 = .ok (.aload_n 0, 1) := by decide +kernel
theorem dX12_readMesh_223 : decode cX12_readMesh 223 = .ok (.invokevirtual 96, 3) := by decide +kernel
theorem dX12_readMesh_226 : decode cX12_readMesh 226 = .ok (.aload_n 0, 1) := by decide +kernel
theorem dX12_readMesh_227 : decode cX12_readMesh 227 = .ok (.getfield 86, 3) := by decide +kernel
theorem dX12_readMesh_230 : decode cX12_readMesh 230 = .ok (.ireturn, 1) := by decide +kernel
theorem dX12_readHops_0 : decode cX12_readHops 0 = .ok (.aload_n 0, 1) := by decide +kernel
theorem dX12_readHops_1 : decode cX12_readHops 1 = .ok (.iconst 0, 1) := by decide +kernel
theorem dX12_readHops_2 : decode cX12_readHops 2 = .ok (.putfield 79, 3) := by decide +kernel
theorem dX12_readHops_5 : decode cX12_readHops 5 = .ok (.aload_n 0, 1) := by decide +kernel
theorem dX12_readHops_6 : decode cX12_readHops 6 = .ok (.iconst (-1), 1) := by decide +kernel
theorem dX12_readHops_7 : decode cX12_readHops 7 = .ok (.putfield 86, 3) := by decide +kernel
theorem dX12_readHops_10 : decode cX12_readHops 10 = .ok (.aload_n 0, 1) := by decide +kernel
theorem dX12_readHops_11 : decode cX12_readHops 11 = .ok (.iconst 0, 1) := by decide +kernel
theorem dX12_readHops_12 : decode cX12_readHops 12 = .ok (.putfield 130, 3) := by decide +kernel
theorem dX12_readHops_15 : decode cX12_readHops 15 = .ok (.aload_n 0, 1) := by decide +kernel
theorem dX12_readHops_16 : decode cX12_readHops 16 = .ok (.invokevirtual 89, 3) := by decide +kernel
theorem dX12_readHops_19 : decode cX12_readHops 19 = .ok (.invokestatic 92, 3) := by decide +kernel
theorem dX12_readHops_22 : decode cX12_readHops 22 = .ok (.ifCond .eq 51, 3) := by decide +kernel
theorem dX12_readHops_25 : decode cX12_readHops 25 = .ok (.aload_n 0, 1) := by decide +kernel
theorem dX12_readHops_26 : decode cX12_readHops 26 = .ok (.getfield 130, 3) := by decide +kernel
theorem dX12_readHops_29 : decode cX12_readHops 29 = .ok (.bipush 16, 2) := by decide +kernel
theorem dX12_readHops_31 : decode cX12_readHops 31 = .ok (.if_icmp .ge 42, 3) := by decide +kernel
theorem dX12_readHops_34 : decode cX12_readHops 34 = .ok (.aload_n 0, 1) := by decide +kernel
theorem dX12_readHops_35 : decode cX12_readHops 35 = .ok (.getfield 19, 3) := by decide +kernel
theorem dX12_readHops_38 : decode cX12_readHops 38 = .ok (.aload_n 0, 1) := by decide +kernel
theorem dX12_readHops_39 : decode cX12_readHops 39 = .ok (.getfield 130, 3) := by decide +kernel
theorem dX12_readHops_42 : decode cX12_readHops 42 = .ok (.aload_n 0, 1) := by decide +kernel
theorem dX12_readHops_43 : decode cX12_readHops 43 = .ok (.invokevirtual 82, 3) := by decide +kernel
theorem dX12_readHops_46 : decode cX12_readHops 46 = .ok (.bipush 48, 2) := by decide +kernel
theorem dX12_readHops_48 : decode cX12_readHops 48 = .ok (.isub, 1) := by decide +kernel
theorem dX12_readHops_49 : decode cX12_readHops 49 = .ok (.iastore, 1) := by decide +kernel
theorem dX12_readHops_50 : decode cX12_readHops 50 = .ok (.aload_n 0, 1) := by decide +kernel
theorem dX12_readHops_51 : decode cX12_readHops 51 = .ok (.dup, 1) := by decide +kernel
theorem dX12_readHops_52 : decode cX12_readHops 52 = .ok (.getfield 130, 3) := by decide +kernel
theorem dX12_readHops_55 : decode cX12_readHops 55 = .ok (.iconst 1, 1) := by decide +kernel
theorem dX12_readHops_56 : decode cX12_readHops 56 = .ok (.iadd, 1) := by decide +kernel
theorem dX12_readHops_57 : decode cX12_readHops 57 = .ok (.putfield 130, 3) := by decide +kernel
theorem dX12_readHops_60 : decode cX12_readHops 60 = .ok (.aload_n 0, 1) := by decide +kernel
theorem dX12_readHops_61 : decode cX12_readHops 61 = .ok (.dup, 1) := by decide +kernel
theorem dX12_readHops_62 : decode cX12_readHops 62 = .ok (.getfield 79, 3) := by decide +kernel
theorem dX12_readHops_65 : decode cX12_readHops 65 = .ok (.iconst 1, 1) := by decide +kernel
theorem dX12_readHops_66 : decode cX12_readHops 66 = .ok (.iadd, 1) := by decide +kernel
theorem dX12_readHops_67 : decode cX12_readHops 67 = .ok (.putfield 79, 3) := by decide +kernel
theorem dX12_readHops_70 : decode cX12_readHops 70 = .ok (.goto (-55), 3) := by decide +kernel
theorem dX12_readHops_73 : decode cX12_readHops 73 = .ok (.aload_n 0, 1) := by decide +kernel
theorem dX12_readHops_74 : decode cX12_readHops 74 = .ok (.invokevirtual 89, 3) := by decide +kernel
theorem dX12_readHops_77 : decode cX12_readHops 77 = .ok (.iconst (-1), 1) := by decide +kernel
theorem dX12_readHops_78 : decode cX12_readHops 78 = .ok (.if_icmp .ne 10, 3) := by decide +kernel
theorem dX12_readHops_81 : decode cX12_readHops 81 = .ok (.aload_n 0, 1) := by decide +kernel
theorem dX12_readHops_82 : decode cX12_readHops 82 = .ok (.getfield 130, 3) := by decide +kernel
theorem dX12_readHops_85 : decode cX12_readHops 85 = .ok (.ifCond .ne 7, 3) := by decide +kernel
theorem dX12_readHops_88 : decode cX12_readHops 88 = .ok (.aload_n 0, 1) := by decide +kernel
theorem dX12_readHops_89 : decode cX12_readHops 89 = .ok (.invokevirtual 96, 3) := by decide +kernel
theorem dX12_readHops_92 : decode cX12_readHops 92 = .ok (.aload_n 0, 1) := by decide +kernel
theorem dX12_readHops_93 : decode cX12_readHops 93 = .ok (.getfield 86, 3) := by decide +kernel
theorem dX12_readHops_96 : decode cX12_readHops 96 = .ok (.ireturn, 1) := by decide +kernel
theorem dX12_fault_0 : decode cX12_fault 0 = .ok (.iload_n 1, 1) := by decide +kernel
theorem dX12_fault_1 : decode cX12_fault 1 = .ok (.ifCond .ne 10, 3) := by decide +kernel
theorem dX12_fault_4 : decode cX12_fault 4 = .ok (.aload_n 0, 1) := by decide +kernel
theorem dX12_fault_5 : decode cX12_fault 5 = .ok (.invokevirtual 133, 3) := by decide +kernel
theorem dX12_fault_8 : decode cX12_fault 8 = .ok (.goto 17, 3) := by decide +kernel
theorem dX12_fault_11 : decode cX12_fault 11 = .ok (.iload_n 1, 1) := by decide +kernel
theorem dX12_fault_12 : decode cX12_fault 12 = .ok (.iconst 1, 1) := by decide +kernel
theorem dX12_fault_13 : decode cX12_fault 13 = .ok (.if_icmp .ne 10, 3) := by decide +kernel
theorem dX12_fault_16 : decode cX12_fault 16 = .ok (.aload_n 0, 1) := by decide +kernel
theorem dX12_fault_17 : decode cX12_fault 17 = .ok (.invokevirtual 136, 3) := by decide +kernel
theorem dX12_fault_20 : decode cX12_fault 20 = .ok (.goto 5, 3) := by decide +kernel
theorem dX12_fault_23 : decode cX12_fault 23 = .ok (.bipush (-2), 2) := by decide +kernel
theorem dX12_fault_25 : decode cX12_fault 25 = .ok (.ireturn, 1) := by decide +kernel
theorem dX12_of_0 : decode cX12_of 0 = .ok (.aload_n 0, 1) := by decide +kernel
theorem dX12_of_1 : decode cX12_of 1 = .ok (.getfield 31, 3) := by decide +kernel
theorem dX12_of_4 : decode cX12_of 4 = .ok (.bipush 61, 2) := by decide +kernel
theorem dX12_of_6 : decode cX12_of 6 = .ok (.iload_n 1, 1) := by decide +kernel
theorem dX12_of_7 : decode cX12_of 7 = .ok (.imul, 1) := by decide +kernel
theorem dX12_of_8 : decode cX12_of 8 = .ok (.iload_n 2, 1) := by decide +kernel
theorem dX12_of_9 : decode cX12_of 9 = .ok (.iadd, 1) := by decide +kernel
theorem dX12_of_10 : decode cX12_of 10 = .ok (.iaload, 1) := by decide +kernel
theorem dX12_of_11 : decode cX12_of 11 = .ok (.ireturn, 1) := by decide +kernel
theorem dX12_set_0 : decode cX12_set 0 = .ok (.aload_n 0, 1) := by decide +kernel
theorem dX12_set_1 : decode cX12_set 1 = .ok (.getfield 31, 3) := by decide +kernel
theorem dX12_set_4 : decode cX12_set 4 = .ok (.bipush 61, 2) := by decide +kernel
theorem dX12_set_6 : decode cX12_set 6 = .ok (.iload_n 1, 1) := by decide +kernel
theorem dX12_set_7 : decode cX12_set 7 = .ok (.imul, 1) := by decide +kernel
theorem dX12_set_8 : decode cX12_set 8 = .ok (.iload_n 2, 1) := by decide +kernel
theorem dX12_set_9 : decode cX12_set 9 = .ok (.iadd, 1) := by decide +kernel
theorem dX12_set_10 : decode cX12_set 10 = .ok (.iload_n 3, 1) := by decide +kernel
theorem dX12_set_11 : decode cX12_set 11 = .ok (.iastore, 1) := by decide +kernel
theorem dX12_set_12 : decode cX12_set 12 = .ok (.return_, 1) := by decide +kernel
theorem dX12_takeMesh_0 : decode cX12_takeMesh 0 = .ok (.aload_n 0, 1) := by decide +kernel
theorem dX12_takeMesh_1 : decode cX12_takeMesh 1 = .ok (.aload_n 0, 1) := by decide +kernel
theorem dX12_takeMesh_2 : decode cX12_takeMesh 2 = .ok (.getfield 119, 3) := by decide +kernel
theorem dX12_takeMesh_5 : decode cX12_takeMesh 5 = .ok (.putfield 138, 3) := by decide +kernel
theorem dX12_takeMesh_8 : decode cX12_takeMesh 8 = .ok (.iconst 0, 1) := by decide +kernel
theorem dX12_takeMesh_9 : decode cX12_takeMesh 9 = .ok (.istore_n 1, 1) := by decide +kernel
theorem dX12_takeMesh_10 : decode cX12_takeMesh 10 = .ok (.iload_n 1, 1) := by decide +kernel
theorem dX12_takeMesh_11 : decode cX12_takeMesh 11 = .ok (.iconst 5, 1) := by decide +kernel
theorem dX12_takeMesh_12 : decode cX12_takeMesh 12 = .ok (.if_icmp .ge 21, 3) := by decide +kernel
theorem dX12_takeMesh_15 : decode cX12_takeMesh 15 = .ok (.aload_n 0, 1) := by decide +kernel
theorem dX12_takeMesh_16 : decode cX12_takeMesh 16 = .ok (.getfield 22, 3) := by decide +kernel
theorem dX12_takeMesh_19 : decode cX12_takeMesh 19 = .ok (.iload_n 1, 1) := by decide +kernel
theorem dX12_takeMesh_20 : decode cX12_takeMesh 20 = .ok (.aload_n 0, 1) := by decide +kernel
theorem dX12_takeMesh_21 : decode cX12_takeMesh 21 = .ok (.getfield 13, 3) := by decide +kernel
theorem dX12_takeMesh_24 : decode cX12_takeMesh 24 = .ok (.iload_n 1, 1) := by decide +kernel
theorem dX12_takeMesh_25 : decode cX12_takeMesh 25 = .ok (.iaload, 1) := by decide +kernel
theorem dX12_takeMesh_26 : decode cX12_takeMesh 26 = .ok (.iastore, 1) := by decide +kernel
theorem dX12_takeMesh_27 : decode cX12_takeMesh 27 = .ok (.iinc 1 1, 3) := by decide +kernel
theorem dX12_takeMesh_30 : decode cX12_takeMesh 30 = .ok (.goto (-20), 3) := by decide +kernel
theorem dX12_takeMesh_33 : decode cX12_takeMesh 33 = .ok (.iconst 0, 1) := by decide +kernel
theorem dX12_takeMesh_34 : decode cX12_takeMesh 34 = .ok (.istore_n 1, 1) := by decide +kernel
theorem dX12_takeMesh_35 : decode cX12_takeMesh 35 = .ok (.iload_n 1, 1) := by decide +kernel
theorem dX12_takeMesh_36 : decode cX12_takeMesh 36 = .ok (.bipush 24, 2) := by decide +kernel
theorem dX12_takeMesh_38 : decode cX12_takeMesh 38 = .ok (.if_icmp .ge 21, 3) := by decide +kernel
theorem dX12_takeMesh_41 : decode cX12_takeMesh 41 = .ok (.aload_n 0, 1) := by decide +kernel
theorem dX12_takeMesh_42 : decode cX12_takeMesh 42 = .ok (.getfield 25, 3) := by decide +kernel
theorem dX12_takeMesh_45 : decode cX12_takeMesh 45 = .ok (.iload_n 1, 1) := by decide +kernel
theorem dX12_takeMesh_46 : decode cX12_takeMesh 46 = .ok (.aload_n 0, 1) := by decide +kernel
theorem dX12_takeMesh_47 : decode cX12_takeMesh 47 = .ok (.getfield 16, 3) := by decide +kernel
theorem dX12_takeMesh_50 : decode cX12_takeMesh 50 = .ok (.iload_n 1, 1) := by decide +kernel
theorem dX12_takeMesh_51 : decode cX12_takeMesh 51 = .ok (.iaload, 1) := by decide +kernel
theorem dX12_takeMesh_52 : decode cX12_takeMesh 52 = .ok (.iastore, 1) := by decide +kernel
theorem dX12_takeMesh_53 : decode cX12_takeMesh 53 = .ok (.iinc 1 1, 3) := by decide +kernel
theorem dX12_takeMesh_56 : decode cX12_takeMesh 56 = .ok (.goto (-21), 3) := by decide +kernel
theorem dX12_takeMesh_59 : decode cX12_takeMesh 59 = .ok (.iconst 0, 1) := by decide +kernel
theorem dX12_takeMesh_60 : decode cX12_takeMesh 60 = .ok (.istore_n 1, 1) := by decide +kernel
theorem dX12_takeMesh_61 : decode cX12_takeMesh 61 = .ok (.iload_n 1, 1) := by decide +kernel
theorem dX12_takeMesh_62 : decode cX12_takeMesh 62 = .ok (.sipush 550, 3) := by decide +kernel
theorem dX12_takeMesh_65 : decode cX12_takeMesh 65 = .ok (.if_icmp .ge 16, 3) := by decide +kernel
theorem dX12_takeMesh_68 : decode cX12_takeMesh 68 = .ok (.aload_n 0, 1) := by decide +kernel
theorem dX12_takeMesh_69 : decode cX12_takeMesh 69 = .ok (.getfield 31, 3) := by decide +kernel
theorem dX12_takeMesh_72 : decode cX12_takeMesh 72 = .ok (.iload_n 1, 1) := by decide +kernel
theorem dX12_takeMesh_73 : decode cX12_takeMesh 73 = .ok (.iconst 0, 1) := by decide +kernel
theorem dX12_takeMesh_74 : decode cX12_takeMesh 74 = .ok (.iastore, 1) := by decide +kernel
theorem dX12_takeMesh_75 : decode cX12_takeMesh 75 = .ok (.iinc 1 1, 3) := by decide +kernel
theorem dX12_takeMesh_78 : decode cX12_takeMesh 78 = .ok (.goto (-17), 3) := by decide +kernel
theorem dX12_takeMesh_81 : decode cX12_takeMesh 81 = .ok (.iconst 0, 1) := by decide +kernel
theorem dX12_takeMesh_82 : decode cX12_takeMesh 82 = .ok (.istore_n 1, 1) := by decide +kernel
theorem dX12_takeMesh_83 : decode cX12_takeMesh 83 = .ok (.iload_n 1, 1) := by decide +kernel
theorem dX12_takeMesh_84 : decode cX12_takeMesh 84 = .ok (.aload_n 0, 1) := by decide +kernel
theorem dX12_takeMesh_85 : decode cX12_takeMesh 85 = .ok (.getfield 138, 3) := by decide +kernel
theorem dX12_takeMesh_88 : decode cX12_takeMesh 88 = .ok (.if_icmp .ge 26, 3) := by decide +kernel
theorem dX12_takeMesh_91 : decode cX12_takeMesh 91 = .ok (.aload_n 0, 1) := by decide +kernel
theorem dX12_takeMesh_92 : decode cX12_takeMesh 92 = .ok (.iload_n 1, 1) := by decide +kernel
theorem dX12_takeMesh_93 : decode cX12_takeMesh 93 = .ok (.bipush 58, 2) := by decide +kernel
theorem dX12_takeMesh_95 : decode cX12_takeMesh 95 = .ok (.aload_n 0, 1) := by decide +kernel
theorem dX12_takeMesh_96 : decode cX12_takeMesh 96 = .ok (.getfield 25, 3) := by decide +kernel
theorem dX12_takeMesh_99 : decode cX12_takeMesh 99 = .ok (.iconst 4, 1) := by decide +kernel
theorem dX12_takeMesh_100 : decode cX12_takeMesh 100 = .ok (.iload_n 1, 1) := by decide +kernel
theorem dX12_takeMesh_101 : decode cX12_takeMesh 101 = .ok (.imul, 1) := by decide +kernel
theorem dX12_takeMesh_102 : decode cX12_takeMesh 102 = .ok (.iconst 3, 1) := by decide +kernel
theorem dX12_takeMesh_103 : decode cX12_takeMesh 103 = .ok (.iadd, 1) := by decide +kernel
theorem dX12_takeMesh_104 : decode cX12_takeMesh 104 = .ok (.iaload, 1) := by decide +kernel
theorem dX12_takeMesh_105 : decode cX12_takeMesh 105 = .ok (.invokevirtual 141, 3) := by decide +kernel
theorem dX12_takeMesh_108 : decode cX12_takeMesh 108 = .ok (.iinc 1 1, 3) := by decide +kernel
theorem dX12_takeMesh_111 : decode cX12_takeMesh 111 = .ok (.goto (-28), 3) := by decide +kernel
theorem dX12_takeMesh_114 : decode cX12_takeMesh 114 = .ok (.aload_n 0, 1) := by decide +kernel
theorem dX12_takeMesh_115 : decode cX12_takeMesh 115 = .ok (.getfield 31, 3) := by decide +kernel
theorem dX12_takeMesh_118 : decode cX12_takeMesh 118 = .ok (.sipush 367, 3) := by decide +kernel
theorem dX12_takeMesh_121 : decode cX12_takeMesh 121 = .ok (.aload_n 0, 1) := by decide +kernel
theorem dX12_takeMesh_122 : decode cX12_takeMesh 122 = .ok (.getfield 22, 3) := by decide +kernel
theorem dX12_takeMesh_125 : decode cX12_takeMesh 125 = .ok (.iconst 4, 1) := by decide +kernel
theorem dX12_takeMesh_126 : decode cX12_takeMesh 126 = .ok (.iaload, 1) := by decide +kernel
theorem dX12_takeMesh_127 : decode cX12_takeMesh 127 = .ok (.iastore, 1) := by decide +kernel
theorem dX12_takeMesh_128 : decode cX12_takeMesh 128 = .ok (.aload_n 0, 1) := by decide +kernel
theorem dX12_takeMesh_129 : decode cX12_takeMesh 129 = .ok (.iconst 0, 1) := by decide +kernel
theorem dX12_takeMesh_130 : decode cX12_takeMesh 130 = .ok (.putfield 145, 3) := by decide +kernel
theorem dX12_takeMesh_133 : decode cX12_takeMesh 133 = .ok (.aload_n 0, 1) := by decide +kernel
theorem dX12_takeMesh_134 : decode cX12_takeMesh 134 = .ok (.iconst 0, 1) := by decide +kernel
theorem dX12_takeMesh_135 : decode cX12_takeMesh 135 = .ok (.putfield 148, 3) := by decide +kernel
theorem dX12_takeMesh_138 : decode cX12_takeMesh 138 = .ok (.aload_n 0, 1) := by decide +kernel
theorem dX12_takeMesh_139 : decode cX12_takeMesh 139 = .ok (.getfield 138, 3) := by decide +kernel
theorem dX12_takeMesh_142 : decode cX12_takeMesh 142 = .ok (.ireturn, 1) := by decide +kernel
theorem dX12_takeHops_0 : decode cX12_takeHops 0 = .ok (.aload_n 0, 1) := by decide +kernel
theorem dX12_takeHops_1 : decode cX12_takeHops 1 = .ok (.aload_n 0, 1) := by decide +kernel
theorem dX12_takeHops_2 : decode cX12_takeHops 2 = .ok (.getfield 130, 3) := by decide +kernel
theorem dX12_takeHops_5 : decode cX12_takeHops 5 = .ok (.putfield 152, 3) := by decide +kernel
theorem dX12_takeHops_8 : decode cX12_takeHops 8 = .ok (.iconst 0, 1) := by decide +kernel
theorem dX12_takeHops_9 : decode cX12_takeHops 9 = .ok (.istore_n 1, 1) := by decide +kernel
theorem dX12_takeHops_10 : decode cX12_takeHops 10 = .ok (.iload_n 1, 1) := by decide +kernel
theorem dX12_takeHops_11 : decode cX12_takeHops 11 = .ok (.aload_n 0, 1) := by decide +kernel
theorem dX12_takeHops_12 : decode cX12_takeHops 12 = .ok (.getfield 152, 3) := by decide +kernel
theorem dX12_takeHops_15 : decode cX12_takeHops 15 = .ok (.if_icmp .ge 21, 3) := by decide +kernel
theorem dX12_takeHops_18 : decode cX12_takeHops 18 = .ok (.aload_n 0, 1) := by decide +kernel
theorem dX12_takeHops_19 : decode cX12_takeHops 19 = .ok (.getfield 28, 3) := by decide +kernel
theorem dX12_takeHops_22 : decode cX12_takeHops 22 = .ok (.iload_n 1, 1) := by decide +kernel
theorem dX12_takeHops_23 : decode cX12_takeHops 23 = .ok (.aload_n 0, 1) := by decide +kernel
theorem dX12_takeHops_24 : decode cX12_takeHops 24 = .ok (.getfield 19, 3) := by decide +kernel
theorem dX12_takeHops_27 : decode cX12_takeHops 27 = .ok (.iload_n 1, 1) := by decide +kernel
theorem dX12_takeHops_28 : decode cX12_takeHops 28 = .ok (.iaload, 1) := by decide +kernel
theorem dX12_takeHops_29 : decode cX12_takeHops 29 = .ok (.iastore, 1) := by decide +kernel
theorem dX12_takeHops_30 : decode cX12_takeHops 30 = .ok (.iinc 1 1, 3) := by decide +kernel
theorem dX12_takeHops_33 : decode cX12_takeHops 33 = .ok (.goto (-23), 3) := by decide +kernel
theorem dX12_takeHops_36 : decode cX12_takeHops 36 = .ok (.aload_n 0, 1) := by decide +kernel
theorem dX12_takeHops_37 : decode cX12_takeHops 37 = .ok (.getfield 152, 3) := by decide +kernel
theorem dX12_takeHops_40 : decode cX12_takeHops 40 = .ok (.ireturn, 1) := by decide +kernel
theorem dX12_text_0 : decode cX12_text 0 = .ok (.iload_n 1, 1) := by decide +kernel
theorem dX12_text_1 : decode cX12_text 1 = .ok (.ifCond .ne 21, 3) := by decide +kernel
theorem dX12_text_4 : decode cX12_text 4 = .ok (.aload_n 0, 1) := by decide +kernel
theorem dX12_text_5 : decode cX12_text 5 = .ok (.invokevirtual 133, 3) := by decide +kernel
theorem dX12_text_8 : decode cX12_text 8 = .ok (.iconst (-1), 1) := by decide +kernel
theorem dX12_text_9 : decode cX12_text 9 = .ok (.if_icmp .ne 13, 3) := by decide +kernel
theorem dX12_text_12 : decode cX12_text 12 = .ok (.aload_n 0, 1) := by decide +kernel
theorem dX12_text_13 : decode cX12_text 13 = .ok (.iconst 0, 1) := by decide +kernel
theorem dX12_text_14 : decode cX12_text 14 = .ok (.putfield 72, 3) := by decide +kernel
theorem dX12_text_17 : decode cX12_text 17 = .ok (.aload_n 0, 1) := by decide +kernel
theorem dX12_text_18 : decode cX12_text 18 = .ok (.invokevirtual 155, 3) := by decide +kernel
theorem dX12_text_21 : decode cX12_text 21 = .ok (.ireturn, 1) := by decide +kernel
theorem dX12_text_22 : decode cX12_text 22 = .ok (.iload_n 1, 1) := by decide +kernel
theorem dX12_text_23 : decode cX12_text 23 = .ok (.iconst 1, 1) := by decide +kernel
theorem dX12_text_24 : decode cX12_text 24 = .ok (.if_icmp .ne 21, 3) := by decide +kernel
theorem dX12_text_27 : decode cX12_text 27 = .ok (.aload_n 0, 1) := by decide +kernel
theorem dX12_text_28 : decode cX12_text 28 = .ok (.invokevirtual 136, 3) := by decide +kernel
theorem dX12_text_31 : decode cX12_text 31 = .ok (.iconst (-1), 1) := by decide +kernel
theorem dX12_text_32 : decode cX12_text 32 = .ok (.if_icmp .ne 13, 3) := by decide +kernel
theorem dX12_text_35 : decode cX12_text 35 = .ok (.aload_n 0, 1) := by decide +kernel
theorem dX12_text_36 : decode cX12_text 36 = .ok (.iconst 0, 1) := by decide +kernel
theorem dX12_text_37 : decode cX12_text 37 = .ok (.putfield 72, 3) := by decide +kernel
theorem dX12_text_40 : decode cX12_text 40 = .ok (.aload_n 0, 1) := by decide +kernel
theorem dX12_text_41 : decode cX12_text 41 = .ok (.invokevirtual 158, 3) := by decide +kernel
theorem dX12_text_44 : decode cX12_text 44 = .ok (.ireturn, 1) := by decide +kernel
theorem dX12_text_45 : decode cX12_text 45 = .ok (.iconst (-1), 1) := by decide +kernel
theorem dX12_text_46 : decode cX12_text 46 = .ok (.ireturn, 1) := by decide +kernel
theorem dX12_isPair_0 : decode cX12_isPair 0 = .ok (.iload_n 1, 1) := by decide +kernel
theorem dX12_isPair_1 : decode cX12_isPair 1 = .ok (.iconst 0, 1) := by decide +kernel
theorem dX12_isPair_2 : decode cX12_isPair 2 = .ok (.aload_n 0, 1) := by decide +kernel
theorem dX12_isPair_3 : decode cX12_isPair 3 = .ok (.getfield 138, 3) := by decide +kernel
theorem dX12_isPair_6 : decode cX12_isPair 6 = .ok (.iconst 1, 1) := by decide +kernel
theorem dX12_isPair_7 : decode cX12_isPair 7 = .ok (.isub, 1) := by decide +kernel
theorem dX12_isPair_8 : decode cX12_isPair 8 = .ok (.invokestatic 75, 3) := by decide +kernel
theorem dX12_isPair_11 : decode cX12_isPair 11 = .ok (.ireturn, 1) := by decide +kernel
theorem dX12_nodeOf_0 : decode cX12_nodeOf 0 = .ok (.aload_n 0, 1) := by decide +kernel
theorem dX12_nodeOf_1 : decode cX12_nodeOf 1 = .ok (.getfield 25, 3) := by decide +kernel
theorem dX12_nodeOf_4 : decode cX12_nodeOf 4 = .ok (.iconst 4, 1) := by decide +kernel
theorem dX12_nodeOf_5 : decode cX12_nodeOf 5 = .ok (.iload_n 1, 1) := by decide +kernel
theorem dX12_nodeOf_6 : decode cX12_nodeOf 6 = .ok (.imul, 1) := by decide +kernel
theorem dX12_nodeOf_7 : decode cX12_nodeOf 7 = .ok (.iload_n 2, 1) := by decide +kernel
theorem dX12_nodeOf_8 : decode cX12_nodeOf 8 = .ok (.iadd, 1) := by decide +kernel
theorem dX12_nodeOf_9 : decode cX12_nodeOf 9 = .ok (.iaload, 1) := by decide +kernel
theorem dX12_nodeOf_10 : decode cX12_nodeOf 10 = .ok (.ireturn, 1) := by decide +kernel
theorem dX12_isTwoStep_0 : decode cX12_isTwoStep 0 = .ok (.aload_n 0, 1) := by decide +kernel
theorem dX12_isTwoStep_1 : decode cX12_isTwoStep 1 = .ok (.getfield 25, 3) := by decide +kernel
theorem dX12_isTwoStep_4 : decode cX12_isTwoStep 4 = .ok (.iconst 4, 1) := by decide +kernel
theorem dX12_isTwoStep_5 : decode cX12_isTwoStep 5 = .ok (.iload_n 1, 1) := by decide +kernel
theorem dX12_isTwoStep_6 : decode cX12_isTwoStep 6 = .ok (.imul, 1) := by decide +kernel
theorem dX12_isTwoStep_7 : decode cX12_isTwoStep 7 = .ok (.iconst 2, 1) := by decide +kernel
theorem dX12_isTwoStep_8 : decode cX12_isTwoStep 8 = .ok (.iadd, 1) := by decide +kernel
theorem dX12_isTwoStep_9 : decode cX12_isTwoStep 9 = .ok (.iaload, 1) := by decide +kernel
theorem dX12_isTwoStep_10 : decode cX12_isTwoStep 10 = .ok (.iconst 2, 1) := by decide +kernel
theorem dX12_isTwoStep_11 : decode cX12_isTwoStep 11 = .ok (.if_icmp .ne 7, 3) := by decide +kernel
theorem dX12_isTwoStep_14 : decode cX12_isTwoStep 14 = .ok (.iconst 1, 1) := by decide +kernel
theorem dX12_isTwoStep_15 : decode cX12_isTwoStep 15 = .ok (.goto 4, 3) := by decide +kernel
theorem dX12_isTwoStep_18 : decode cX12_isTwoStep 18 = .ok (.iconst 0, 1) := by decide +kernel
theorem dX12_isTwoStep_19 : decode cX12_isTwoStep 19 = .ok (.ireturn, 1) := by decide +kernel
theorem dX12_manyOf_0 : decode cX12_manyOf 0 = .ok (.aload_n 0, 1) := by decide +kernel
theorem dX12_manyOf_1 : decode cX12_manyOf 1 = .ok (.iload_n 1, 1) := by decide +kernel
theorem dX12_manyOf_2 : decode cX12_manyOf 2 = .ok (.iload_n 2, 1) := by decide +kernel
theorem dX12_manyOf_3 : decode cX12_manyOf 3 = .ok (.ifCond .ne 8, 3) := by decide +kernel
theorem dX12_manyOf_6 : decode cX12_manyOf 6 = .ok (.bipush 18, 2) := by decide +kernel
theorem dX12_manyOf_8 : decode cX12_manyOf 8 = .ok (.goto 5, 3) := by decide +kernel
theorem dX12_manyOf_11 : decode cX12_manyOf 11 = .ok (.bipush 25, 2) := by decide +kernel
theorem dX12_manyOf_13 : decode cX12_manyOf 13 = .ok (.invokevirtual 161, 3) := by decide +kernel
theorem dX12_manyOf_16 : decode cX12_manyOf 16 = .ok (.ireturn, 1) := by decide +kernel
theorem dX12_cellOf_0 : decode cX12_cellOf 0 = .ok (.aload_n 0, 1) := by decide +kernel
theorem dX12_cellOf_1 : decode cX12_cellOf 1 = .ok (.iload_n 1, 1) := by decide +kernel
theorem dX12_cellOf_2 : decode cX12_cellOf 2 = .ok (.iload_n 2, 1) := by decide +kernel
theorem dX12_cellOf_3 : decode cX12_cellOf 3 = .ok (.ifCond .ne 7, 3) := by decide +kernel
theorem dX12_cellOf_6 : decode cX12_cellOf 6 = .ok (.iconst 0, 1) := by decide +kernel
theorem dX12_cellOf_7 : decode cX12_cellOf 7 = .ok (.goto 5, 3) := by decide +kernel
theorem dX12_cellOf_10 : decode cX12_cellOf 10 = .ok (.bipush 19, 2) := by decide +kernel
theorem dX12_cellOf_12 : decode cX12_cellOf 12 = .ok (.iload_n 3, 1) := by decide +kernel
theorem dX12_cellOf_13 : decode cX12_cellOf 13 = .ok (.iadd, 1) := by decide +kernel
theorem dX12_cellOf_14 : decode cX12_cellOf 14 = .ok (.invokevirtual 161, 3) := by decide +kernel
theorem dX12_cellOf_17 : decode cX12_cellOf 17 = .ok (.ireturn, 1) := by decide +kernel
theorem dX12_placeIn_0 : decode cX12_placeIn 0 = .ok (.iconst 0, 1) := by decide +kernel
theorem dX12_placeIn_1 : decode cX12_placeIn 1 = .ok (.istore 4, 2) := by decide +kernel
theorem dX12_placeIn_3 : decode cX12_placeIn 3 = .ok (.iload 4, 2) := by decide +kernel
theorem dX12_placeIn_5 : decode cX12_placeIn 5 = .ok (.aload_n 0, 1) := by decide +kernel
theorem dX12_placeIn_6 : decode cX12_placeIn 6 = .ok (.iload_n 1, 1) := by decide +kernel
theorem dX12_placeIn_7 : decode cX12_placeIn 7 = .ok (.iload_n 2, 1) := by decide +kernel
theorem dX12_placeIn_8 : decode cX12_placeIn 8 = .ok (.invokevirtual 164, 3) := by decide +kernel
theorem dX12_placeIn_11 : decode cX12_placeIn 11 = .ok (.if_icmp .ge 24, 3) := by decide +kernel
theorem dX12_placeIn_14 : decode cX12_placeIn 14 = .ok (.aload_n 0, 1) := by decide +kernel
theorem dX12_placeIn_15 : decode cX12_placeIn 15 = .ok (.iload_n 1, 1) := by decide +kernel
theorem dX12_placeIn_16 : decode cX12_placeIn 16 = .ok (.iload_n 2, 1) := by decide +kernel
theorem dX12_placeIn_17 : decode cX12_placeIn 17 = .ok (.iload 4, 2) := by decide +kernel
theorem dX12_placeIn_19 : decode cX12_placeIn 19 = .ok (.invokevirtual 167, 3) := by decide +kernel
theorem dX12_placeIn_22 : decode cX12_placeIn 22 = .ok (.iload_n 3, 1) := by decide +kernel
theorem dX12_placeIn_23 : decode cX12_placeIn 23 = .ok (.if_icmp .ne 6, 3) := by decide +kernel
theorem dX12_placeIn_26 : decode cX12_placeIn 26 = .ok (.iload 4, 2) := by decide +kernel
theorem dX12_placeIn_28 : decode cX12_placeIn 28 = .ok (.ireturn, 1) := by decide +kernel
theorem dX12_placeIn_29 : decode cX12_placeIn 29 = .ok (.iinc 4 1, 3) := by decide +kernel
theorem dX12_placeIn_32 : decode cX12_placeIn 32 = .ok (.goto (-29), 3) := by decide +kernel
theorem dX12_placeIn_35 : decode cX12_placeIn 35 = .ok (.iconst (-1), 1) := by decide +kernel
theorem dX12_placeIn_36 : decode cX12_placeIn 36 = .ok (.ireturn, 1) := by decide +kernel
theorem dX12_shift_0 : decode cX12_shift 0 = .ok (.aload_n 0, 1) := by decide +kernel
theorem dX12_shift_1 : decode cX12_shift 1 = .ok (.iload_n 1, 1) := by decide +kernel
theorem dX12_shift_2 : decode cX12_shift 2 = .ok (.iload_n 2, 1) := by decide +kernel
theorem dX12_shift_3 : decode cX12_shift 3 = .ok (.iload 4, 2) := by decide +kernel
theorem dX12_shift_5 : decode cX12_shift 5 = .ok (.iadd, 1) := by decide +kernel
theorem dX12_shift_6 : decode cX12_shift 6 = .ok (.aload_n 0, 1) := by decide +kernel
theorem dX12_shift_7 : decode cX12_shift 7 = .ok (.iload_n 1, 1) := by decide +kernel
theorem dX12_shift_8 : decode cX12_shift 8 = .ok (.iload_n 2, 1) := by decide +kernel
theorem dX12_shift_9 : decode cX12_shift 9 = .ok (.iload_n 3, 1) := by decide +kernel
theorem dX12_shift_10 : decode cX12_shift 10 = .ok (.iadd, 1) := by decide +kernel
theorem dX12_shift_11 : decode cX12_shift 11 = .ok (.invokevirtual 161, 3) := by decide +kernel
theorem dX12_shift_14 : decode cX12_shift 14 = .ok (.invokevirtual 141, 3) := by decide +kernel
theorem dX12_shift_17 : decode cX12_shift 17 = .ok (.return_, 1) := by decide +kernel
theorem dX12_insert_0 : decode cX12_insert 0 = .ok (.aload_n 0, 1) := by decide +kernel
theorem dX12_insert_1 : decode cX12_insert 1 = .ok (.iload_n 1, 1) := by decide +kernel
theorem dX12_insert_2 : decode cX12_insert 2 = .ok (.iload_n 2, 1) := by decide +kernel
theorem dX12_insert_3 : decode cX12_insert 3 = .ok (.invokevirtual 164, 3) := by decide +kernel
theorem dX12_insert_6 : decode cX12_insert 6 = .ok (.istore 4, 2) := by decide +kernel
theorem dX12_insert_8 : decode cX12_insert 8 = .ok (.iload 4, 2) := by decide +kernel
theorem dX12_insert_10 : decode cX12_insert 10 = .ok (.bipush 6, 2) := by decide +kernel
theorem dX12_insert_12 : decode cX12_insert 12 = .ok (.if_icmp .eq 14, 3) := by decide +kernel
theorem dX12_insert_15 : decode cX12_insert 15 = .ok (.aload_n 0, 1) := by decide +kernel
theorem dX12_insert_16 : decode cX12_insert 16 = .ok (.iload_n 1, 1) := by decide +kernel
theorem dX12_insert_17 : decode cX12_insert 17 = .ok (.iload_n 2, 1) := by decide +kernel
theorem dX12_insert_18 : decode cX12_insert 18 = .ok (.iload_n 3, 1) := by decide +kernel
theorem dX12_insert_19 : decode cX12_insert 19 = .ok (.invokevirtual 171, 3) := by decide +kernel
theorem dX12_insert_22 : decode cX12_insert 22 = .ok (.iconst (-1), 1) := by decide +kernel
theorem dX12_insert_23 : decode cX12_insert 23 = .ok (.if_icmp .eq 4, 3) := by decide +kernel
theorem dX12_insert_26 : decode cX12_insert 26 = .ok (.return_, 1) := by decide +kernel
theorem dX12_insert_27 : decode cX12_insert 27 = .ok (.iload 4, 2) := by decide +kernel
theorem dX12_insert_29 : decode cX12_insert 29 = .ok (.istore 5, 2) := by decide +kernel
theorem dX12_insert_31 : decode cX12_insert 31 = .ok (.iload 5, 2) := by decide +kernel
theorem dX12_insert_33 : decode cX12_insert 33 = .ok (.ifCond .le 74, 3) := by decide +kernel
theorem dX12_insert_36 : decode cX12_insert 36 = .ok (.aload_n 0, 1) := by decide +kernel
theorem dX12_insert_37 : decode cX12_insert 37 = .ok (.iload_n 1, 1) := by decide +kernel
theorem dX12_insert_38 : decode cX12_insert 38 = .ok (.iload_n 2, 1) := by decide +kernel
theorem dX12_insert_39 : decode cX12_insert 39 = .ok (.iload 5, 2) := by decide +kernel
theorem dX12_insert_41 : decode cX12_insert 41 = .ok (.iconst 1, 1) := by decide +kernel
theorem dX12_insert_42 : decode cX12_insert 42 = .ok (.isub, 1) := by decide +kernel
theorem dX12_insert_43 : decode cX12_insert 43 = .ok (.invokevirtual 167, 3) := by decide +kernel
theorem dX12_insert_46 : decode cX12_insert 46 = .ok (.iload_n 3, 1) := by decide +kernel
theorem dX12_insert_47 : decode cX12_insert 47 = .ok (.if_icmp .le 60, 3) := by decide +kernel
theorem dX12_insert_50 : decode cX12_insert 50 = .ok (.aload_n 0, 1) := by decide +kernel
theorem dX12_insert_51 : decode cX12_insert 51 = .ok (.iload_n 1, 1) := by decide +kernel
theorem dX12_insert_52 : decode cX12_insert 52 = .ok (.iload_n 2, 1) := by decide +kernel
theorem dX12_insert_53 : decode cX12_insert 53 = .ok (.ifCond .ne 7, 3) := by decide +kernel
theorem dX12_insert_56 : decode cX12_insert 56 = .ok (.iconst 0, 1) := by decide +kernel
theorem dX12_insert_57 : decode cX12_insert 57 = .ok (.goto 5, 3) := by decide +kernel
theorem dX12_insert_60 : decode cX12_insert 60 = .ok (.bipush 19, 2) := by decide +kernel
theorem dX12_insert_62 : decode cX12_insert 62 = .ok (.iload 5, 2) := by decide +kernel
theorem dX12_insert_64 : decode cX12_insert 64 = .ok (.iconst 1, 1) := by decide +kernel
theorem dX12_insert_65 : decode cX12_insert 65 = .ok (.isub, 1) := by decide +kernel
theorem dX12_insert_66 : decode cX12_insert 66 = .ok (.iload 5, 2) := by decide +kernel
theorem dX12_insert_68 : decode cX12_insert 68 = .ok (.invokevirtual 174, 3) := by decide +kernel
theorem dX12_insert_71 : decode cX12_insert 71 = .ok (.iload_n 2, 1) := by decide +kernel
theorem dX12_insert_72 : decode cX12_insert 72 = .ok (.ifCond .ne 29, 3) := by decide +kernel
theorem dX12_insert_75 : decode cX12_insert 75 = .ok (.aload_n 0, 1) := by decide +kernel
theorem dX12_insert_76 : decode cX12_insert 76 = .ok (.iload_n 1, 1) := by decide +kernel
theorem dX12_insert_77 : decode cX12_insert 77 = .ok (.bipush 6, 2) := by decide +kernel
theorem dX12_insert_79 : decode cX12_insert 79 = .ok (.iload 5, 2) := by decide +kernel
theorem dX12_insert_81 : decode cX12_insert 81 = .ok (.iconst 1, 1) := by decide +kernel
theorem dX12_insert_82 : decode cX12_insert 82 = .ok (.isub, 1) := by decide +kernel
theorem dX12_insert_83 : decode cX12_insert 83 = .ok (.iload 5, 2) := by decide +kernel
theorem dX12_insert_85 : decode cX12_insert 85 = .ok (.invokevirtual 174, 3) := by decide +kernel
theorem dX12_insert_88 : decode cX12_insert 88 = .ok (.aload_n 0, 1) := by decide +kernel
theorem dX12_insert_89 : decode cX12_insert 89 = .ok (.iload_n 1, 1) := by decide +kernel
theorem dX12_insert_90 : decode cX12_insert 90 = .ok (.bipush 12, 2) := by decide +kernel
theorem dX12_insert_92 : decode cX12_insert 92 = .ok (.iload 5, 2) := by decide +kernel
theorem dX12_insert_94 : decode cX12_insert 94 = .ok (.iconst 1, 1) := by decide +kernel
theorem dX12_insert_95 : decode cX12_insert 95 = .ok (.isub, 1) := by decide +kernel
theorem dX12_insert_96 : decode cX12_insert 96 = .ok (.iload 5, 2) := by decide +kernel
theorem dX12_insert_98 : decode cX12_insert 98 = .ok (.invokevirtual 174, 3) := by decide +kernel
theorem dX12_insert_101 : decode cX12_insert 101 = .ok (.iinc 5 (-1), 3) := by decide +kernel
theorem dX12_insert_104 : decode cX12_insert 104 = .ok (.goto (-73), 3) := by decide +kernel
theorem dX12_insert_107 : decode cX12_insert 107 = .ok (.aload_n 0, 1) := by decide +kernel
theorem dX12_insert_108 : decode cX12_insert 108 = .ok (.iload_n 1, 1) := by decide +kernel
theorem dX12_insert_109 : decode cX12_insert 109 = .ok (.iload_n 2, 1) := by decide +kernel
theorem dX12_insert_110 : decode cX12_insert 110 = .ok (.ifCond .ne 7, 3) := by decide +kernel
theorem dX12_insert_113 : decode cX12_insert 113 = .ok (.iconst 0, 1) := by decide +kernel
theorem dX12_insert_114 : decode cX12_insert 114 = .ok (.goto 5, 3) := by decide +kernel
theorem dX12_insert_117 : decode cX12_insert 117 = .ok (.bipush 19, 2) := by decide +kernel
theorem dX12_insert_119 : decode cX12_insert 119 = .ok (.iload 5, 2) := by decide +kernel
theorem dX12_insert_121 : decode cX12_insert 121 = .ok (.iadd, 1) := by decide +kernel
theorem dX12_insert_122 : decode cX12_insert 122 = .ok (.iload_n 3, 1) := by decide +kernel
theorem dX12_insert_123 : decode cX12_insert 123 = .ok (.invokevirtual 141, 3) := by decide +kernel
theorem dX12_insert_126 : decode cX12_insert 126 = .ok (.iload_n 2, 1) := by decide +kernel
theorem dX12_insert_127 : decode cX12_insert 127 = .ok (.ifCond .ne 25, 3) := by decide +kernel
theorem dX12_insert_130 : decode cX12_insert 130 = .ok (.aload_n 0, 1) := by decide +kernel
theorem dX12_insert_131 : decode cX12_insert 131 = .ok (.iload_n 1, 1) := by decide +kernel
theorem dX12_insert_132 : decode cX12_insert 132 = .ok (.bipush 6, 2) := by decide +kernel
theorem dX12_insert_134 : decode cX12_insert 134 = .ok (.iload 5, 2) := by decide +kernel
theorem dX12_insert_136 : decode cX12_insert 136 = .ok (.iadd, 1) := by decide +kernel
theorem dX12_insert_137 : decode cX12_insert 137 = .ok (.iconst 0, 1) := by decide +kernel
theorem dX12_insert_138 : decode cX12_insert 138 = .ok (.invokevirtual 141, 3) := by decide +kernel
theorem dX12_insert_141 : decode cX12_insert 141 = .ok (.aload_n 0, 1) := by decide +kernel
theorem dX12_insert_142 : decode cX12_insert 142 = .ok (.iload_n 1, 1) := by decide +kernel
theorem dX12_insert_143 : decode cX12_insert 143 = .ok (.bipush 12, 2) := by decide +kernel
theorem dX12_insert_145 : decode cX12_insert 145 = .ok (.iload 5, 2) := by decide +kernel
theorem dX12_insert_147 : decode cX12_insert 147 = .ok (.iadd, 1) := by decide +kernel
theorem dX12_insert_148 : decode cX12_insert 148 = .ok (.iconst 0, 1) := by decide +kernel
theorem dX12_insert_149 : decode cX12_insert 149 = .ok (.invokevirtual 141, 3) := by decide +kernel
theorem dX12_insert_152 : decode cX12_insert 152 = .ok (.aload_n 0, 1) := by decide +kernel
theorem dX12_insert_153 : decode cX12_insert 153 = .ok (.iload_n 1, 1) := by decide +kernel
theorem dX12_insert_154 : decode cX12_insert 154 = .ok (.iload_n 2, 1) := by decide +kernel
theorem dX12_insert_155 : decode cX12_insert 155 = .ok (.ifCond .ne 8, 3) := by decide +kernel
theorem dX12_insert_158 : decode cX12_insert 158 = .ok (.bipush 18, 2) := by decide +kernel
theorem dX12_insert_160 : decode cX12_insert 160 = .ok (.goto 5, 3) := by decide +kernel
theorem dX12_insert_163 : decode cX12_insert 163 = .ok (.bipush 25, 2) := by decide +kernel
theorem dX12_insert_165 : decode cX12_insert 165 = .ok (.iload 4, 2) := by decide +kernel
theorem dX12_insert_167 : decode cX12_insert 167 = .ok (.iconst 1, 1) := by decide +kernel
theorem dX12_insert_168 : decode cX12_insert 168 = .ok (.iadd, 1) := by decide +kernel
theorem dX12_insert_169 : decode cX12_insert 169 = .ok (.invokevirtual 141, 3) := by decide +kernel
theorem dX12_insert_172 : decode cX12_insert 172 = .ok (.return_, 1) := by decide +kernel
theorem dX12_remove_0 : decode cX12_remove 0 = .ok (.aload_n 0, 1) := by decide +kernel
theorem dX12_remove_1 : decode cX12_remove 1 = .ok (.iload_n 1, 1) := by decide +kernel
theorem dX12_remove_2 : decode cX12_remove 2 = .ok (.iload_n 2, 1) := by decide +kernel
theorem dX12_remove_3 : decode cX12_remove 3 = .ok (.iload_n 3, 1) := by decide +kernel
theorem dX12_remove_4 : decode cX12_remove 4 = .ok (.invokevirtual 171, 3) := by decide +kernel
theorem dX12_remove_7 : decode cX12_remove 7 = .ok (.istore 4, 2) := by decide +kernel
theorem dX12_remove_9 : decode cX12_remove 9 = .ok (.iload 4, 2) := by decide +kernel
theorem dX12_remove_11 : decode cX12_remove 11 = .ok (.iconst (-1), 1) := by decide +kernel
theorem dX12_remove_12 : decode cX12_remove 12 = .ok (.if_icmp .ne 4, 3) := by decide +kernel
theorem dX12_remove_15 : decode cX12_remove 15 = .ok (.return_, 1) := by decide +kernel
theorem dX12_remove_16 : decode cX12_remove 16 = .ok (.iload 4, 2) := by decide +kernel
theorem dX12_remove_18 : decode cX12_remove 18 = .ok (.iconst 1, 1) := by decide +kernel
theorem dX12_remove_19 : decode cX12_remove 19 = .ok (.iadd, 1) := by decide +kernel
theorem dX12_remove_20 : decode cX12_remove 20 = .ok (.istore 5, 2) := by decide +kernel
theorem dX12_remove_22 : decode cX12_remove 22 = .ok (.iload 5, 2) := by decide +kernel
theorem dX12_remove_24 : decode cX12_remove 24 = .ok (.aload_n 0, 1) := by decide +kernel
theorem dX12_remove_25 : decode cX12_remove 25 = .ok (.iload_n 1, 1) := by decide +kernel
theorem dX12_remove_26 : decode cX12_remove 26 = .ok (.iload_n 2, 1) := by decide +kernel
theorem dX12_remove_27 : decode cX12_remove 27 = .ok (.invokevirtual 164, 3) := by decide +kernel
theorem dX12_remove_30 : decode cX12_remove 30 = .ok (.if_icmp .ge 60, 3) := by decide +kernel
theorem dX12_remove_33 : decode cX12_remove 33 = .ok (.aload_n 0, 1) := by decide +kernel
theorem dX12_remove_34 : decode cX12_remove 34 = .ok (.iload_n 1, 1) := by decide +kernel
theorem dX12_remove_35 : decode cX12_remove 35 = .ok (.iload_n 2, 1) := by decide +kernel
theorem dX12_remove_36 : decode cX12_remove 36 = .ok (.ifCond .ne 7, 3) := by decide +kernel
theorem dX12_remove_39 : decode cX12_remove 39 = .ok (.iconst 0, 1) := by decide +kernel
theorem dX12_remove_40 : decode cX12_remove 40 = .ok (.goto 5, 3) := by decide +kernel
theorem dX12_remove_43 : decode cX12_remove 43 = .ok (.bipush 19, 2) := by decide +kernel
theorem dX12_remove_45 : decode cX12_remove 45 = .ok (.iload 5, 2) := by decide +kernel
theorem dX12_remove_47 : decode cX12_remove 47 = .ok (.iload 5, 2) := by decide +kernel
theorem dX12_remove_49 : decode cX12_remove 49 = .ok (.iconst 1, 1) := by decide +kernel
theorem dX12_remove_50 : decode cX12_remove 50 = .ok (.isub, 1) := by decide +kernel
theorem dX12_remove_51 : decode cX12_remove 51 = .ok (.invokevirtual 174, 3) := by decide +kernel
theorem dX12_remove_54 : decode cX12_remove 54 = .ok (.iload_n 2, 1) := by decide +kernel
theorem dX12_remove_55 : decode cX12_remove 55 = .ok (.ifCond .ne 29, 3) := by decide +kernel
theorem dX12_remove_58 : decode cX12_remove 58 = .ok (.aload_n 0, 1) := by decide +kernel
theorem dX12_remove_59 : decode cX12_remove 59 = .ok (.iload_n 1, 1) := by decide +kernel
theorem dX12_remove_60 : decode cX12_remove 60 = .ok (.bipush 6, 2) := by decide +kernel
theorem dX12_remove_62 : decode cX12_remove 62 = .ok (.iload 5, 2) := by decide +kernel
theorem dX12_remove_64 : decode cX12_remove 64 = .ok (.iload 5, 2) := by decide +kernel
theorem dX12_remove_66 : decode cX12_remove 66 = .ok (.iconst 1, 1) := by decide +kernel
theorem dX12_remove_67 : decode cX12_remove 67 = .ok (.isub, 1) := by decide +kernel
theorem dX12_remove_68 : decode cX12_remove 68 = .ok (.invokevirtual 174, 3) := by decide +kernel
theorem dX12_remove_71 : decode cX12_remove 71 = .ok (.aload_n 0, 1) := by decide +kernel
theorem dX12_remove_72 : decode cX12_remove 72 = .ok (.iload_n 1, 1) := by decide +kernel
theorem dX12_remove_73 : decode cX12_remove 73 = .ok (.bipush 12, 2) := by decide +kernel
theorem dX12_remove_75 : decode cX12_remove 75 = .ok (.iload 5, 2) := by decide +kernel
theorem dX12_remove_77 : decode cX12_remove 77 = .ok (.iload 5, 2) := by decide +kernel
theorem dX12_remove_79 : decode cX12_remove 79 = .ok (.iconst 1, 1) := by decide +kernel
theorem dX12_remove_80 : decode cX12_remove 80 = .ok (.isub, 1) := by decide +kernel
theorem dX12_remove_81 : decode cX12_remove 81 = .ok (.invokevirtual 174, 3) := by decide +kernel
theorem dX12_remove_84 : decode cX12_remove 84 = .ok (.iinc 5 1, 3) := by decide +kernel
theorem dX12_remove_87 : decode cX12_remove 87 = .ok (.goto (-65), 3) := by decide +kernel
theorem dX12_remove_90 : decode cX12_remove 90 = .ok (.aload_n 0, 1) := by decide +kernel
theorem dX12_remove_91 : decode cX12_remove 91 = .ok (.iload_n 1, 1) := by decide +kernel
theorem dX12_remove_92 : decode cX12_remove 92 = .ok (.iload_n 2, 1) := by decide +kernel
theorem dX12_remove_93 : decode cX12_remove 93 = .ok (.ifCond .ne 8, 3) := by decide +kernel
theorem dX12_remove_96 : decode cX12_remove 96 = .ok (.bipush 18, 2) := by decide +kernel
theorem dX12_remove_98 : decode cX12_remove 98 = .ok (.goto 5, 3) := by decide +kernel
theorem dX12_remove_101 : decode cX12_remove 101 = .ok (.bipush 25, 2) := by decide +kernel
theorem dX12_remove_103 : decode cX12_remove 103 = .ok (.aload_n 0, 1) := by decide +kernel
theorem dX12_remove_104 : decode cX12_remove 104 = .ok (.iload_n 1, 1) := by decide +kernel
theorem dX12_remove_105 : decode cX12_remove 105 = .ok (.iload_n 2, 1) := by decide +kernel
theorem dX12_remove_106 : decode cX12_remove 106 = .ok (.invokevirtual 164, 3) := by decide +kernel
theorem dX12_remove_109 : decode cX12_remove 109 = .ok (.iconst 1, 1) := by decide +kernel
theorem dX12_remove_110 : decode cX12_remove 110 = .ok (.isub, 1) := by decide +kernel
theorem dX12_remove_111 : decode cX12_remove 111 = .ok (.invokevirtual 141, 3) := by decide +kernel
theorem dX12_remove_114 : decode cX12_remove 114 = .ok (.return_, 1) := by decide +kernel
theorem dX12_emptyTable_0 : decode cX12_emptyTable 0 = .ok (.aload_n 0, 1) := by decide +kernel
theorem dX12_emptyTable_1 : decode cX12_emptyTable 1 = .ok (.iload_n 1, 1) := by decide +kernel
theorem dX12_emptyTable_2 : decode cX12_emptyTable 2 = .ok (.iload_n 2, 1) := by decide +kernel
theorem dX12_emptyTable_3 : decode cX12_emptyTable 3 = .ok (.ifCond .ne 8, 3) := by decide +kernel
theorem dX12_emptyTable_6 : decode cX12_emptyTable 6 = .ok (.bipush 18, 2) := by decide +kernel
theorem dX12_emptyTable_8 : decode cX12_emptyTable 8 = .ok (.goto 5, 3) := by decide +kernel
theorem dX12_emptyTable_11 : decode cX12_emptyTable 11 = .ok (.bipush 25, 2) := by decide +kernel
theorem dX12_emptyTable_13 : decode cX12_emptyTable 13 = .ok (.iconst 0, 1) := by decide +kernel
theorem dX12_emptyTable_14 : decode cX12_emptyTable 14 = .ok (.invokevirtual 141, 3) := by decide +kernel
theorem dX12_emptyTable_17 : decode cX12_emptyTable 17 = .ok (.aload_n 0, 1) := by decide +kernel
theorem dX12_emptyTable_18 : decode cX12_emptyTable 18 = .ok (.iload_n 1, 1) := by decide +kernel
theorem dX12_emptyTable_19 : decode cX12_emptyTable 19 = .ok (.bipush 26, 2) := by decide +kernel
theorem dX12_emptyTable_21 : decode cX12_emptyTable 21 = .ok (.iload_n 2, 1) := by decide +kernel
theorem dX12_emptyTable_22 : decode cX12_emptyTable 22 = .ok (.iadd, 1) := by decide +kernel
theorem dX12_emptyTable_23 : decode cX12_emptyTable 23 = .ok (.iconst 0, 1) := by decide +kernel
theorem dX12_emptyTable_24 : decode cX12_emptyTable 24 = .ok (.invokevirtual 141, 3) := by decide +kernel
theorem dX12_emptyTable_27 : decode cX12_emptyTable 27 = .ok (.return_, 1) := by decide +kernel
theorem dX12_isTaken_0 : decode cX12_isTaken 0 = .ok (.iconst 0, 1) := by decide +kernel
theorem dX12_isTaken_1 : decode cX12_isTaken 1 = .ok (.istore_n 3, 1) := by decide +kernel
theorem dX12_isTaken_2 : decode cX12_isTaken 2 = .ok (.iload_n 3, 1) := by decide +kernel
theorem dX12_isTaken_3 : decode cX12_isTaken 3 = .ok (.aload_n 0, 1) := by decide +kernel
theorem dX12_isTaken_4 : decode cX12_isTaken 4 = .ok (.getfield 138, 3) := by decide +kernel
theorem dX12_isTaken_7 : decode cX12_isTaken 7 = .ok (.if_icmp .ge 139, 3) := by decide +kernel
theorem dX12_isTaken_10 : decode cX12_isTaken 10 = .ok (.iconst 0, 1) := by decide +kernel
theorem dX12_isTaken_11 : decode cX12_isTaken 11 = .ok (.istore 4, 2) := by decide +kernel
theorem dX12_isTaken_13 : decode cX12_isTaken 13 = .ok (.iload 4, 2) := by decide +kernel
theorem dX12_isTaken_15 : decode cX12_isTaken 15 = .ok (.iconst 2, 1) := by decide +kernel
theorem dX12_isTaken_16 : decode cX12_isTaken 16 = .ok (.if_icmp .ge 124, 3) := by decide +kernel
theorem dX12_isTaken_19 : decode cX12_isTaken 19 = .ok (.aload_n 0, 1) := by decide +kernel
theorem dX12_isTaken_20 : decode cX12_isTaken 20 = .ok (.iload_n 3, 1) := by decide +kernel
theorem dX12_isTaken_21 : decode cX12_isTaken 21 = .ok (.iload 4, 2) := by decide +kernel
theorem dX12_isTaken_23 : decode cX12_isTaken 23 = .ok (.invokevirtual 178, 3) := by decide +kernel
theorem dX12_isTaken_26 : decode cX12_isTaken 26 = .ok (.iload_n 1, 1) := by decide +kernel
theorem dX12_isTaken_27 : decode cX12_isTaken 27 = .ok (.if_icmp .ne 7, 3) := by decide +kernel
theorem dX12_isTaken_30 : decode cX12_isTaken 30 = .ok (.iconst 1, 1) := by decide +kernel
theorem dX12_isTaken_31 : decode cX12_isTaken 31 = .ok (.goto 4, 3) := by decide +kernel
theorem dX12_isTaken_34 : decode cX12_isTaken 34 = .ok (.iconst 0, 1) := by decide +kernel
theorem dX12_isTaken_35 : decode cX12_isTaken 35 = .ok (.istore 5, 2) := by decide +kernel
theorem dX12_isTaken_37 : decode cX12_isTaken 37 = .ok (.iconst 0, 1) := by decide +kernel
theorem dX12_isTaken_38 : decode cX12_isTaken 38 = .ok (.istore 6, 2) := by decide +kernel
theorem dX12_isTaken_40 : decode cX12_isTaken 40 = .ok (.iload 6, 2) := by decide +kernel
theorem dX12_isTaken_42 : decode cX12_isTaken 42 = .ok (.aload_n 0, 1) := by decide +kernel
theorem dX12_isTaken_43 : decode cX12_isTaken 43 = .ok (.iload_n 3, 1) := by decide +kernel
theorem dX12_isTaken_44 : decode cX12_isTaken 44 = .ok (.iload 4, 2) := by decide +kernel
theorem dX12_isTaken_46 : decode cX12_isTaken 46 = .ok (.invokevirtual 164, 3) := by decide +kernel
theorem dX12_isTaken_49 : decode cX12_isTaken 49 = .ok (.if_icmp .ge 32, 3) := by decide +kernel
theorem dX12_isTaken_52 : decode cX12_isTaken 52 = .ok (.iload 5, 2) := by decide +kernel
theorem dX12_isTaken_54 : decode cX12_isTaken 54 = .ok (.ifCond .eq 27, 3) := by decide +kernel
theorem dX12_isTaken_57 : decode cX12_isTaken 57 = .ok (.aload_n 0, 1) := by decide +kernel
theorem dX12_isTaken_58 : decode cX12_isTaken 58 = .ok (.iload_n 3, 1) := by decide +kernel
theorem dX12_isTaken_59 : decode cX12_isTaken 59 = .ok (.iload 4, 2) := by decide +kernel
theorem dX12_isTaken_61 : decode cX12_isTaken 61 = .ok (.iload 6, 2) := by decide +kernel
theorem dX12_isTaken_63 : decode cX12_isTaken 63 = .ok (.invokevirtual 167, 3) := by decide +kernel
theorem dX12_isTaken_66 : decode cX12_isTaken 66 = .ok (.bipush 10, 2) := by decide +kernel
theorem dX12_isTaken_68 : decode cX12_isTaken 68 = .ok (.idiv, 1) := by decide +kernel
theorem dX12_isTaken_69 : decode cX12_isTaken 69 = .ok (.iload_n 2, 1) := by decide +kernel
theorem dX12_isTaken_70 : decode cX12_isTaken 70 = .ok (.if_icmp .ne 5, 3) := by decide +kernel
theorem dX12_isTaken_73 : decode cX12_isTaken 73 = .ok (.iconst 1, 1) := by decide +kernel
theorem dX12_isTaken_74 : decode cX12_isTaken 74 = .ok (.ireturn, 1) := by decide +kernel
theorem dX12_isTaken_75 : decode cX12_isTaken 75 = .ok (.iinc 6 1, 3) := by decide +kernel
theorem dX12_isTaken_78 : decode cX12_isTaken 78 = .ok (.goto (-38), 3) := by decide +kernel
theorem dX12_isTaken_81 : decode cX12_isTaken 81 = .ok (.iconst 0, 1) := by decide +kernel
theorem dX12_isTaken_82 : decode cX12_isTaken 82 = .ok (.istore 6, 2) := by decide +kernel
theorem dX12_isTaken_84 : decode cX12_isTaken 84 = .ok (.iload 6, 2) := by decide +kernel
theorem dX12_isTaken_86 : decode cX12_isTaken 86 = .ok (.aload_n 0, 1) := by decide +kernel
theorem dX12_isTaken_87 : decode cX12_isTaken 87 = .ok (.iload_n 3, 1) := by decide +kernel
theorem dX12_isTaken_88 : decode cX12_isTaken 88 = .ok (.bipush 33, 2) := by decide +kernel
theorem dX12_isTaken_90 : decode cX12_isTaken 90 = .ok (.iload 4, 2) := by decide +kernel
theorem dX12_isTaken_92 : decode cX12_isTaken 92 = .ok (.iadd, 1) := by decide +kernel
theorem dX12_isTaken_93 : decode cX12_isTaken 93 = .ok (.invokevirtual 161, 3) := by decide +kernel
theorem dX12_isTaken_96 : decode cX12_isTaken 96 = .ok (.if_icmp .ge 38, 3) := by decide +kernel
theorem dX12_isTaken_99 : decode cX12_isTaken 99 = .ok (.iload 5, 2) := by decide +kernel
theorem dX12_isTaken_101 : decode cX12_isTaken 101 = .ok (.ifCond .eq 33, 3) := by decide +kernel
theorem dX12_isTaken_104 : decode cX12_isTaken 104 = .ok (.aload_n 0, 1) := by decide +kernel
theorem dX12_isTaken_105 : decode cX12_isTaken 105 = .ok (.iload_n 3, 1) := by decide +kernel
theorem dX12_isTaken_106 : decode cX12_isTaken 106 = .ok (.bipush 35, 2) := by decide +kernel
theorem dX12_isTaken_108 : decode cX12_isTaken 108 = .ok (.iconst 4, 1) := by decide +kernel
theorem dX12_isTaken_109 : decode cX12_isTaken 109 = .ok (.iload 4, 2) := by decide +kernel
theorem dX12_isTaken_111 : decode cX12_isTaken 111 = .ok (.imul, 1) := by decide +kernel
theorem dX12_isTaken_112 : decode cX12_isTaken 112 = .ok (.iadd, 1) := by decide +kernel
theorem dX12_isTaken_113 : decode cX12_isTaken 113 = .ok (.iload 6, 2) := by decide +kernel
theorem dX12_isTaken_115 : decode cX12_isTaken 115 = .ok (.iadd, 1) := by decide +kernel
theorem dX12_isTaken_116 : decode cX12_isTaken 116 = .ok (.invokevirtual 161, 3) := by decide +kernel
theorem dX12_isTaken_119 : decode cX12_isTaken 119 = .ok (.bipush 10, 2) := by decide +kernel
theorem dX12_isTaken_121 : decode cX12_isTaken 121 = .ok (.idiv, 1) := by decide +kernel
theorem dX12_isTaken_122 : decode cX12_isTaken 122 = .ok (.iload_n 2, 1) := by decide +kernel
theorem dX12_isTaken_123 : decode cX12_isTaken 123 = .ok (.if_icmp .ne 5, 3) := by decide +kernel
theorem dX12_isTaken_126 : decode cX12_isTaken 126 = .ok (.iconst 1, 1) := by decide +kernel
theorem dX12_isTaken_127 : decode cX12_isTaken 127 = .ok (.ireturn, 1) := by decide +kernel
theorem dX12_isTaken_128 : decode cX12_isTaken 128 = .ok (.iinc 6 1, 3) := by decide +kernel
theorem dX12_isTaken_131 : decode cX12_isTaken 131 = .ok (.goto (-47), 3) := by decide +kernel
theorem dX12_isTaken_134 : decode cX12_isTaken 134 = .ok (.iinc 4 1, 3) := by decide +kernel
theorem dX12_isTaken_137 : decode cX12_isTaken 137 = .ok (.goto (-124), 3) := by decide +kernel
theorem dX12_isTaken_140 : decode cX12_isTaken 140 = .ok (.iinc 3 1, 3) := by decide +kernel
theorem dX12_isTaken_143 : decode cX12_isTaken 143 = .ok (.goto (-141), 3) := by decide +kernel
theorem dX12_isTaken_146 : decode cX12_isTaken 146 = .ok (.iconst 0, 1) := by decide +kernel
theorem dX12_isTaken_147 : decode cX12_isTaken 147 = .ok (.ireturn, 1) := by decide +kernel
theorem dX12_layOffers_0 : decode cX12_layOffers 0 = .ok (.iconst 0, 1) := by decide +kernel
theorem dX12_layOffers_1 : decode cX12_layOffers 1 = .ok (.istore 4, 2) := by decide +kernel
theorem dX12_layOffers_3 : decode cX12_layOffers 3 = .ok (.iconst 0, 1) := by decide +kernel
theorem dX12_layOffers_4 : decode cX12_layOffers 4 = .ok (.istore 5, 2) := by decide +kernel
theorem dX12_layOffers_6 : decode cX12_layOffers 6 = .ok (.iload 5, 2) := by decide +kernel
theorem dX12_layOffers_8 : decode cX12_layOffers 8 = .ok (.aload_n 0, 1) := by decide +kernel
theorem dX12_layOffers_9 : decode cX12_layOffers 9 = .ok (.getfield 22, 3) := by decide +kernel
theorem dX12_layOffers_12 : decode cX12_layOffers 12 = .ok (.iconst 0, 1) := by decide +kernel
theorem dX12_layOffers_13 : decode cX12_layOffers 13 = .ok (.iaload, 1) := by decide +kernel
theorem dX12_layOffers_14 : decode cX12_layOffers 14 = .ok (.if_icmp .ge 59, 3) := by decide +kernel
theorem dX12_layOffers_17 : decode cX12_layOffers 17 = .ok (.iload_n 3, 1) := by decide +kernel
theorem dX12_layOffers_18 : decode cX12_layOffers 18 = .ok (.iload 5, 2) := by decide +kernel
theorem dX12_layOffers_20 : decode cX12_layOffers 20 = .ok (.iadd, 1) := by decide +kernel
theorem dX12_layOffers_21 : decode cX12_layOffers 21 = .ok (.aload_n 0, 1) := by decide +kernel
theorem dX12_layOffers_22 : decode cX12_layOffers 22 = .ok (.getfield 22, 3) := by decide +kernel
theorem dX12_layOffers_25 : decode cX12_layOffers 25 = .ok (.iconst 0, 1) := by decide +kernel
theorem dX12_layOffers_26 : decode cX12_layOffers 26 = .ok (.iaload, 1) := by decide +kernel
theorem dX12_layOffers_27 : decode cX12_layOffers 27 = .ok (.irem, 1) := by decide +kernel
theorem dX12_layOffers_28 : decode cX12_layOffers 28 = .ok (.istore 6, 2) := by decide +kernel
theorem dX12_layOffers_30 : decode cX12_layOffers 30 = .ok (.aload_n 0, 1) := by decide +kernel
theorem dX12_layOffers_31 : decode cX12_layOffers 31 = .ok (.iload_n 2, 1) := by decide +kernel
theorem dX12_layOffers_32 : decode cX12_layOffers 32 = .ok (.iload 6, 2) := by decide +kernel
theorem dX12_layOffers_34 : decode cX12_layOffers 34 = .ok (.invokevirtual 181, 3) := by decide +kernel
theorem dX12_layOffers_37 : decode cX12_layOffers 37 = .ok (.ifCond .ne 30, 3) := by decide +kernel
theorem dX12_layOffers_40 : decode cX12_layOffers 40 = .ok (.aload_n 0, 1) := by decide +kernel
theorem dX12_layOffers_41 : decode cX12_layOffers 41 = .ok (.getfield 44, 3) := by decide +kernel
theorem dX12_layOffers_44 : decode cX12_layOffers 44 = .ok (.iload 4, 2) := by decide +kernel
theorem dX12_layOffers_46 : decode cX12_layOffers 46 = .ok (.bipush 10, 2) := by decide +kernel
theorem dX12_layOffers_48 : decode cX12_layOffers 48 = .ok (.iload 6, 2) := by decide +kernel
theorem dX12_layOffers_50 : decode cX12_layOffers 50 = .ok (.imul, 1) := by decide +kernel
theorem dX12_layOffers_51 : decode cX12_layOffers 51 = .ok (.iload 6, 2) := by decide +kernel
theorem dX12_layOffers_53 : decode cX12_layOffers 53 = .ok (.iload_n 1, 1) := by decide +kernel
theorem dX12_layOffers_54 : decode cX12_layOffers 54 = .ok (.iadd, 1) := by decide +kernel
theorem dX12_layOffers_55 : decode cX12_layOffers 55 = .ok (.aload_n 0, 1) := by decide +kernel
theorem dX12_layOffers_56 : decode cX12_layOffers 56 = .ok (.getfield 22, 3) := by decide +kernel
theorem dX12_layOffers_59 : decode cX12_layOffers 59 = .ok (.iconst 1, 1) := by decide +kernel
theorem dX12_layOffers_60 : decode cX12_layOffers 60 = .ok (.iaload, 1) := by decide +kernel
theorem dX12_layOffers_61 : decode cX12_layOffers 61 = .ok (.irem, 1) := by decide +kernel
theorem dX12_layOffers_62 : decode cX12_layOffers 62 = .ok (.iadd, 1) := by decide +kernel
theorem dX12_layOffers_63 : decode cX12_layOffers 63 = .ok (.iastore, 1) := by decide +kernel
theorem dX12_layOffers_64 : decode cX12_layOffers 64 = .ok (.iinc 4 1, 3) := by decide +kernel
theorem dX12_layOffers_67 : decode cX12_layOffers 67 = .ok (.iinc 5 1, 3) := by decide +kernel
theorem dX12_layOffers_70 : decode cX12_layOffers 70 = .ok (.goto (-64), 3) := by decide +kernel
theorem dX12_layOffers_73 : decode cX12_layOffers 73 = .ok (.iload 4, 2) := by decide +kernel
theorem dX12_layOffers_75 : decode cX12_layOffers 75 = .ok (.ireturn, 1) := by decide +kernel
theorem dX12_promise_0 : decode cX12_promise 0 = .ok (.aload_n 0, 1) := by decide +kernel
theorem dX12_promise_1 : decode cX12_promise 1 = .ok (.iload_n 1, 1) := by decide +kernel
theorem dX12_promise_2 : decode cX12_promise 2 = .ok (.bipush 33, 2) := by decide +kernel
theorem dX12_promise_4 : decode cX12_promise 4 = .ok (.iload_n 2, 1) := by decide +kernel
theorem dX12_promise_5 : decode cX12_promise 5 = .ok (.iadd, 1) := by decide +kernel
theorem dX12_promise_6 : decode cX12_promise 6 = .ok (.iload_n 3, 1) := by decide +kernel
theorem dX12_promise_7 : decode cX12_promise 7 = .ok (.invokevirtual 141, 3) := by decide +kernel
theorem dX12_promise_10 : decode cX12_promise 10 = .ok (.iconst 0, 1) := by decide +kernel
theorem dX12_promise_11 : decode cX12_promise 11 = .ok (.istore 4, 2) := by decide +kernel
theorem dX12_promise_13 : decode cX12_promise 13 = .ok (.iload 4, 2) := by decide +kernel
theorem dX12_promise_15 : decode cX12_promise 15 = .ok (.iload_n 3, 1) := by decide +kernel
theorem dX12_promise_16 : decode cX12_promise 16 = .ok (.if_icmp .ge 30, 3) := by decide +kernel
theorem dX12_promise_19 : decode cX12_promise 19 = .ok (.aload_n 0, 1) := by decide +kernel
theorem dX12_promise_20 : decode cX12_promise 20 = .ok (.iload_n 1, 1) := by decide +kernel
theorem dX12_promise_21 : decode cX12_promise 21 = .ok (.bipush 35, 2) := by decide +kernel
theorem dX12_promise_23 : decode cX12_promise 23 = .ok (.iconst 4, 1) := by decide +kernel
theorem dX12_promise_24 : decode cX12_promise 24 = .ok (.iload_n 2, 1) := by decide +kernel
theorem dX12_promise_25 : decode cX12_promise 25 = .ok (.imul, 1) := by decide +kernel
theorem dX12_promise_26 : decode cX12_promise 26 = .ok (.iadd, 1) := by decide +kernel
theorem dX12_promise_27 : decode cX12_promise 27 = .ok (.iload 4, 2) := by decide +kernel
theorem dX12_promise_29 : decode cX12_promise 29 = .ok (.iadd, 1) := by decide +kernel
theorem dX12_promise_30 : decode cX12_promise 30 = .ok (.aload_n 0, 1) := by decide +kernel
theorem dX12_promise_31 : decode cX12_promise 31 = .ok (.getfield 44, 3) := by decide +kernel
theorem dX12_promise_34 : decode cX12_promise 34 = .ok (.iload 4, 2) := by decide +kernel
theorem dX12_promise_36 : decode cX12_promise 36 = .ok (.iaload, 1) := by decide +kernel
theorem dX12_promise_37 : decode cX12_promise 37 = .ok (.invokevirtual 141, 3) := by decide +kernel
theorem dX12_promise_40 : decode cX12_promise 40 = .ok (.iinc 4 1, 3) := by decide +kernel
theorem dX12_promise_43 : decode cX12_promise 43 = .ok (.goto (-30), 3) := by decide +kernel
theorem dX12_promise_46 : decode cX12_promise 46 = .ok (.return_, 1) := by decide +kernel
theorem dX12_waitFor_0 : decode cX12_waitFor 0 = .ok (.aload_n 0, 1) := by decide +kernel
theorem dX12_waitFor_1 : decode cX12_waitFor 1 = .ok (.iload_n 1, 1) := by decide +kernel
theorem dX12_waitFor_2 : decode cX12_waitFor 2 = .ok (.bipush 28, 2) := by decide +kernel
theorem dX12_waitFor_4 : decode cX12_waitFor 4 = .ok (.iload_n 2, 1) := by decide +kernel
theorem dX12_waitFor_5 : decode cX12_waitFor 5 = .ok (.iadd, 1) := by decide +kernel
theorem dX12_waitFor_6 : decode cX12_waitFor 6 = .ok (.iconst 1, 1) := by decide +kernel
theorem dX12_waitFor_7 : decode cX12_waitFor 7 = .ok (.invokevirtual 141, 3) := by decide +kernel
theorem dX12_waitFor_10 : decode cX12_waitFor 10 = .ok (.aload_n 0, 1) := by decide +kernel
theorem dX12_waitFor_11 : decode cX12_waitFor 11 = .ok (.iload_n 1, 1) := by decide +kernel
theorem dX12_waitFor_12 : decode cX12_waitFor 12 = .ok (.bipush 30, 2) := by decide +kernel
theorem dX12_waitFor_14 : decode cX12_waitFor 14 = .ok (.iload_n 2, 1) := by decide +kernel
theorem dX12_waitFor_15 : decode cX12_waitFor 15 = .ok (.iadd, 1) := by decide +kernel
theorem dX12_waitFor_16 : decode cX12_waitFor 16 = .ok (.aload_n 0, 1) := by decide +kernel
theorem dX12_waitFor_17 : decode cX12_waitFor 17 = .ok (.getfield 31, 3) := by decide +kernel
theorem dX12_waitFor_20 : decode cX12_waitFor 20 = .ok (.sipush 368, 3) := by decide +kernel
theorem dX12_waitFor_23 : decode cX12_waitFor 23 = .ok (.iaload, 1) := by decide +kernel
theorem dX12_waitFor_24 : decode cX12_waitFor 24 = .ok (.invokevirtual 141, 3) := by decide +kernel
theorem dX12_waitFor_27 : decode cX12_waitFor 27 = .ok (.return_, 1) := by decide +kernel
theorem dX12_waitNoMore_0 : decode cX12_waitNoMore 0 = .ok (.aload_n 0, 1) := by decide +kernel
theorem dX12_waitNoMore_1 : decode cX12_waitNoMore 1 = .ok (.iload_n 1, 1) := by decide +kernel
theorem dX12_waitNoMore_2 : decode cX12_waitNoMore 2 = .ok (.bipush 28, 2) := by decide +kernel
theorem dX12_waitNoMore_4 : decode cX12_waitNoMore 4 = .ok (.iload_n 2, 1) := by decide +kernel
theorem dX12_waitNoMore_5 : decode cX12_waitNoMore 5 = .ok (.iadd, 1) := by decide +kernel
theorem dX12_waitNoMore_6 : decode cX12_waitNoMore 6 = .ok (.iconst 0, 1) := by decide +kernel
theorem dX12_waitNoMore_7 : decode cX12_waitNoMore 7 = .ok (.invokevirtual 141, 3) := by decide +kernel
theorem dX12_waitNoMore_10 : decode cX12_waitNoMore 10 = .ok (.aload_n 0, 1) := by decide +kernel
theorem dX12_waitNoMore_11 : decode cX12_waitNoMore 11 = .ok (.iload_n 1, 1) := by decide +kernel
theorem dX12_waitNoMore_12 : decode cX12_waitNoMore 12 = .ok (.bipush 33, 2) := by decide +kernel
theorem dX12_waitNoMore_14 : decode cX12_waitNoMore 14 = .ok (.iload_n 2, 1) := by decide +kernel
theorem dX12_waitNoMore_15 : decode cX12_waitNoMore 15 = .ok (.iadd, 1) := by decide +kernel
theorem dX12_waitNoMore_16 : decode cX12_waitNoMore 16 = .ok (.iconst 0, 1) := by decide +kernel
theorem dX12_waitNoMore_17 : decode cX12_waitNoMore 17 = .ok (.invokevirtual 141, 3) := by decide +kernel
theorem dX12_waitNoMore_20 : decode cX12_waitNoMore 20 = .ok (.return_, 1) := by decide +kernel
theorem dX12_write_0 : decode cX12_write 0 = .ok (.aload_n 0, 1) := by decide +kernel
theorem dX12_write_1 : decode cX12_write 1 = .ok (.iload_n 1, 1) := by decide +kernel
theorem dX12_write_2 : decode cX12_write 2 = .ok (.bipush 43, 2) := by decide +kernel
theorem dX12_write_4 : decode cX12_write 4 = .ok (.iconst 1, 1) := by decide +kernel
theorem dX12_write_5 : decode cX12_write 5 = .ok (.invokevirtual 141, 3) := by decide +kernel
theorem dX12_write_8 : decode cX12_write 8 = .ok (.aload_n 0, 1) := by decide +kernel
theorem dX12_write_9 : decode cX12_write 9 = .ok (.iload_n 1, 1) := by decide +kernel
theorem dX12_write_10 : decode cX12_write 10 = .ok (.bipush 44, 2) := by decide +kernel
theorem dX12_write_12 : decode cX12_write 12 = .ok (.iload_n 2, 1) := by decide +kernel
theorem dX12_write_13 : decode cX12_write 13 = .ok (.invokevirtual 141, 3) := by decide +kernel
theorem dX12_write_16 : decode cX12_write 16 = .ok (.aload_n 0, 1) := by decide +kernel
theorem dX12_write_17 : decode cX12_write 17 = .ok (.iload_n 1, 1) := by decide +kernel
theorem dX12_write_18 : decode cX12_write 18 = .ok (.bipush 45, 2) := by decide +kernel
theorem dX12_write_20 : decode cX12_write 20 = .ok (.iload_n 3, 1) := by decide +kernel
theorem dX12_write_21 : decode cX12_write 21 = .ok (.invokevirtual 141, 3) := by decide +kernel
theorem dX12_write_24 : decode cX12_write 24 = .ok (.aload_n 0, 1) := by decide +kernel
theorem dX12_write_25 : decode cX12_write 25 = .ok (.iload_n 1, 1) := by decide +kernel
theorem dX12_write_26 : decode cX12_write 26 = .ok (.bipush 46, 2) := by decide +kernel
theorem dX12_write_28 : decode cX12_write 28 = .ok (.iload 4, 2) := by decide +kernel
theorem dX12_write_30 : decode cX12_write 30 = .ok (.invokevirtual 141, 3) := by decide +kernel
theorem dX12_write_33 : decode cX12_write 33 = .ok (.aload_n 0, 1) := by decide +kernel
theorem dX12_write_34 : decode cX12_write 34 = .ok (.iload_n 1, 1) := by decide +kernel
theorem dX12_write_35 : decode cX12_write 35 = .ok (.bipush 47, 2) := by decide +kernel
theorem dX12_write_37 : decode cX12_write 37 = .ok (.iload_n 2, 1) := by decide +kernel
theorem dX12_write_38 : decode cX12_write 38 = .ok (.ifCond .ne 13, 3) := by decide +kernel
theorem dX12_write_41 : decode cX12_write 41 = .ok (.aload_n 0, 1) := by decide +kernel
theorem dX12_write_42 : decode cX12_write 42 = .ok (.iload_n 1, 1) := by decide +kernel
theorem dX12_write_43 : decode cX12_write 43 = .ok (.bipush 26, 2) := by decide +kernel
theorem dX12_write_45 : decode cX12_write 45 = .ok (.invokevirtual 161, 3) := by decide +kernel
theorem dX12_write_48 : decode cX12_write 48 = .ok (.goto 4, 3) := by decide +kernel
theorem dX12_write_51 : decode cX12_write 51 = .ok (.iconst (-1), 1) := by decide +kernel
theorem dX12_write_52 : decode cX12_write 52 = .ok (.invokevirtual 141, 3) := by decide +kernel
theorem dX12_write_55 : decode cX12_write 55 = .ok (.aload_n 0, 1) := by decide +kernel
theorem dX12_write_56 : decode cX12_write 56 = .ok (.iload_n 1, 1) := by decide +kernel
theorem dX12_write_57 : decode cX12_write 57 = .ok (.bipush 49, 2) := by decide +kernel
theorem dX12_write_59 : decode cX12_write 59 = .ok (.iload 5, 2) := by decide +kernel
theorem dX12_write_61 : decode cX12_write 61 = .ok (.invokevirtual 141, 3) := by decide +kernel
theorem dX12_write_64 : decode cX12_write 64 = .ok (.aload_n 0, 1) := by decide +kernel
theorem dX12_write_65 : decode cX12_write 65 = .ok (.iload_n 1, 1) := by decide +kernel
theorem dX12_write_66 : decode cX12_write 66 = .ok (.bipush 48, 2) := by decide +kernel
theorem dX12_write_68 : decode cX12_write 68 = .ok (.iconst 0, 1) := by decide +kernel
theorem dX12_write_69 : decode cX12_write 69 = .ok (.invokevirtual 141, 3) := by decide +kernel
theorem dX12_write_72 : decode cX12_write 72 = .ok (.return_, 1) := by decide +kernel
theorem dX12_writeCell_0 : decode cX12_writeCell 0 = .ok (.aload_n 0, 1) := by decide +kernel
theorem dX12_writeCell_1 : decode cX12_writeCell 1 = .ok (.iload_n 1, 1) := by decide +kernel
theorem dX12_writeCell_2 : decode cX12_writeCell 2 = .ok (.bipush 50, 2) := by decide +kernel
theorem dX12_writeCell_4 : decode cX12_writeCell 4 = .ok (.aload_n 0, 1) := by decide +kernel
theorem dX12_writeCell_5 : decode cX12_writeCell 5 = .ok (.iload_n 1, 1) := by decide +kernel
theorem dX12_writeCell_6 : decode cX12_writeCell 6 = .ok (.bipush 48, 2) := by decide +kernel
theorem dX12_writeCell_8 : decode cX12_writeCell 8 = .ok (.invokevirtual 161, 3) := by decide +kernel
theorem dX12_writeCell_11 : decode cX12_writeCell 11 = .ok (.iadd, 1) := by decide +kernel
theorem dX12_writeCell_12 : decode cX12_writeCell 12 = .ok (.iload_n 2, 1) := by decide +kernel
theorem dX12_writeCell_13 : decode cX12_writeCell 13 = .ok (.invokevirtual 141, 3) := by decide +kernel
theorem dX12_writeCell_16 : decode cX12_writeCell 16 = .ok (.aload_n 0, 1) := by decide +kernel
theorem dX12_writeCell_17 : decode cX12_writeCell 17 = .ok (.iload_n 1, 1) := by decide +kernel
theorem dX12_writeCell_18 : decode cX12_writeCell 18 = .ok (.bipush 48, 2) := by decide +kernel
theorem dX12_writeCell_20 : decode cX12_writeCell 20 = .ok (.aload_n 0, 1) := by decide +kernel
theorem dX12_writeCell_21 : decode cX12_writeCell 21 = .ok (.iload_n 1, 1) := by decide +kernel
theorem dX12_writeCell_22 : decode cX12_writeCell 22 = .ok (.bipush 48, 2) := by decide +kernel
theorem dX12_writeCell_24 : decode cX12_writeCell 24 = .ok (.invokevirtual 161, 3) := by decide +kernel
theorem dX12_writeCell_27 : decode cX12_writeCell 27 = .ok (.iconst 1, 1) := by decide +kernel
theorem dX12_writeCell_28 : decode cX12_writeCell 28 = .ok (.iadd, 1) := by decide +kernel
theorem dX12_writeCell_29 : decode cX12_writeCell 29 = .ok (.invokevirtual 141, 3) := by decide +kernel
theorem dX12_writeCell_32 : decode cX12_writeCell 32 = .ok (.return_, 1) := by decide +kernel
theorem dX12_writeOffers_0 : decode cX12_writeOffers 0 = .ok (.iconst 0, 1) := by decide +kernel
theorem dX12_writeOffers_1 : decode cX12_writeOffers 1 = .ok (.istore_n 3, 1) := by decide +kernel
theorem dX12_writeOffers_2 : decode cX12_writeOffers 2 = .ok (.iload_n 3, 1) := by decide +kernel
theorem dX12_writeOffers_3 : decode cX12_writeOffers 3 = .ok (.iload_n 2, 1) := by decide +kernel
theorem dX12_writeOffers_4 : decode cX12_writeOffers 4 = .ok (.if_icmp .ge 20, 3) := by decide +kernel
theorem dX12_writeOffers_7 : decode cX12_writeOffers 7 = .ok (.aload_n 0, 1) := by decide +kernel
theorem dX12_writeOffers_8 : decode cX12_writeOffers 8 = .ok (.iload_n 1, 1) := by decide +kernel
theorem dX12_writeOffers_9 : decode cX12_writeOffers 9 = .ok (.aload_n 0, 1) := by decide +kernel
theorem dX12_writeOffers_10 : decode cX12_writeOffers 10 = .ok (.getfield 44, 3) := by decide +kernel
theorem dX12_writeOffers_13 : decode cX12_writeOffers 13 = .ok (.iload_n 3, 1) := by decide +kernel
theorem dX12_writeOffers_14 : decode cX12_writeOffers 14 = .ok (.iaload, 1) := by decide +kernel
theorem dX12_writeOffers_15 : decode cX12_writeOffers 15 = .ok (.invokevirtual 184, 3) := by decide +kernel
theorem dX12_writeOffers_18 : decode cX12_writeOffers 18 = .ok (.iinc 3 1, 3) := by decide +kernel
theorem dX12_writeOffers_21 : decode cX12_writeOffers 21 = .ok (.goto (-19), 3) := by decide +kernel
theorem dX12_writeOffers_24 : decode cX12_writeOffers 24 = .ok (.return_, 1) := by decide +kernel
theorem dX12_canDeal_0 : decode cX12_canDeal 0 = .ok (.aload_n 0, 1) := by decide +kernel
theorem dX12_canDeal_1 : decode cX12_canDeal 1 = .ok (.iload_n 1, 1) := by decide +kernel
theorem dX12_canDeal_2 : decode cX12_canDeal 2 = .ok (.bipush 28, 2) := by decide +kernel
theorem dX12_canDeal_4 : decode cX12_canDeal 4 = .ok (.invokevirtual 161, 3) := by decide +kernel
theorem dX12_canDeal_7 : decode cX12_canDeal 7 = .ok (.ifCond .ne 17, 3) := by decide +kernel
theorem dX12_canDeal_10 : decode cX12_canDeal 10 = .ok (.aload_n 0, 1) := by decide +kernel
theorem dX12_canDeal_11 : decode cX12_canDeal 11 = .ok (.iload_n 1, 1) := by decide +kernel
theorem dX12_canDeal_12 : decode cX12_canDeal 12 = .ok (.bipush 43, 2) := by decide +kernel
theorem dX12_canDeal_14 : decode cX12_canDeal 14 = .ok (.invokevirtual 161, 3) := by decide +kernel
theorem dX12_canDeal_17 : decode cX12_canDeal 17 = .ok (.ifCond .ne 7, 3) := by decide +kernel
theorem dX12_canDeal_20 : decode cX12_canDeal 20 = .ok (.iconst 1, 1) := by decide +kernel
theorem dX12_canDeal_21 : decode cX12_canDeal 21 = .ok (.goto 4, 3) := by decide +kernel
theorem dX12_canDeal_24 : decode cX12_canDeal 24 = .ok (.iconst 0, 1) := by decide +kernel
theorem dX12_canDeal_25 : decode cX12_canDeal 25 = .ok (.ireturn, 1) := by decide +kernel
theorem dX12_manyFor_0 : decode cX12_manyFor 0 = .ok (.aload_n 0, 1) := by decide +kernel
theorem dX12_manyFor_1 : decode cX12_manyFor 1 = .ok (.iload_n 1, 1) := by decide +kernel
theorem dX12_manyFor_2 : decode cX12_manyFor 2 = .ok (.invokevirtual 188, 3) := by decide +kernel
theorem dX12_manyFor_5 : decode cX12_manyFor 5 = .ok (.ifCond .ne 5, 3) := by decide +kernel
theorem dX12_manyFor_8 : decode cX12_manyFor 8 = .ok (.iconst (-1), 1) := by decide +kernel
theorem dX12_manyFor_9 : decode cX12_manyFor 9 = .ok (.ireturn, 1) := by decide +kernel
theorem dX12_manyFor_10 : decode cX12_manyFor 10 = .ok (.iload_n 2, 1) := by decide +kernel
theorem dX12_manyFor_11 : decode cX12_manyFor 11 = .ok (.iconst 3, 1) := by decide +kernel
theorem dX12_manyFor_12 : decode cX12_manyFor 12 = .ok (.if_icmp .eq 15, 3) := by decide +kernel
theorem dX12_manyFor_15 : decode cX12_manyFor 15 = .ok (.iload_n 2, 1) := by decide +kernel
theorem dX12_manyFor_16 : decode cX12_manyFor 16 = .ok (.ifCond .ne 13, 3) := by decide +kernel
theorem dX12_manyFor_19 : decode cX12_manyFor 19 = .ok (.aload_n 0, 1) := by decide +kernel
theorem dX12_manyFor_20 : decode cX12_manyFor 20 = .ok (.iload_n 1, 1) := by decide +kernel
theorem dX12_manyFor_21 : decode cX12_manyFor 21 = .ok (.invokevirtual 191, 3) := by decide +kernel
theorem dX12_manyFor_24 : decode cX12_manyFor 24 = .ok (.ifCond .ne 5, 3) := by decide +kernel
theorem dX12_manyFor_27 : decode cX12_manyFor 27 = .ok (.iconst 0, 1) := by decide +kernel
theorem dX12_manyFor_28 : decode cX12_manyFor 28 = .ok (.ireturn, 1) := by decide +kernel
theorem dX12_manyFor_29 : decode cX12_manyFor 29 = .ok (.iload_n 2, 1) := by decide +kernel
theorem dX12_manyFor_30 : decode cX12_manyFor 30 = .ok (.iconst 1, 1) := by decide +kernel
theorem dX12_manyFor_31 : decode cX12_manyFor 31 = .ok (.if_icmp .ne 19, 3) := by decide +kernel
theorem dX12_manyFor_34 : decode cX12_manyFor 34 = .ok (.iload_n 3, 1) := by decide +kernel
theorem dX12_manyFor_35 : decode cX12_manyFor 35 = .ok (.aload_n 0, 1) := by decide +kernel
theorem dX12_manyFor_36 : decode cX12_manyFor 36 = .ok (.iload_n 1, 1) := by decide +kernel
theorem dX12_manyFor_37 : decode cX12_manyFor 37 = .ok (.bipush 18, 2) := by decide +kernel
theorem dX12_manyFor_39 : decode cX12_manyFor 39 = .ok (.invokevirtual 161, 3) := by decide +kernel
theorem dX12_manyFor_42 : decode cX12_manyFor 42 = .ok (.invokestatic 194, 3) := by decide +kernel
theorem dX12_manyFor_45 : decode cX12_manyFor 45 = .ok (.istore 4, 2) := by decide +kernel
theorem dX12_manyFor_47 : decode cX12_manyFor 47 = .ok (.goto 67, 3) := by decide +kernel
theorem dX12_manyFor_50 : decode cX12_manyFor 50 = .ok (.iload_n 2, 1) := by decide +kernel
theorem dX12_manyFor_51 : decode cX12_manyFor 51 = .ok (.ifCond .ne 26, 3) := by decide +kernel
theorem dX12_manyFor_54 : decode cX12_manyFor 54 = .ok (.iload_n 3, 1) := by decide +kernel
theorem dX12_manyFor_55 : decode cX12_manyFor 55 = .ok (.iconst 1, 1) := by decide +kernel
theorem dX12_manyFor_56 : decode cX12_manyFor 56 = .ok (.iadd, 1) := by decide +kernel
theorem dX12_manyFor_57 : decode cX12_manyFor 57 = .ok (.aload_n 0, 1) := by decide +kernel
theorem dX12_manyFor_58 : decode cX12_manyFor 58 = .ok (.iload_n 1, 1) := by decide +kernel
theorem dX12_manyFor_59 : decode cX12_manyFor 59 = .ok (.aload_n 0, 1) := by decide +kernel
theorem dX12_manyFor_60 : decode cX12_manyFor 60 = .ok (.iload_n 1, 1) := by decide +kernel
theorem dX12_manyFor_61 : decode cX12_manyFor 61 = .ok (.iconst 0, 1) := by decide +kernel
theorem dX12_manyFor_62 : decode cX12_manyFor 62 = .ok (.invokevirtual 178, 3) := by decide +kernel
theorem dX12_manyFor_65 : decode cX12_manyFor 65 = .ok (.iconst 0, 1) := by decide +kernel
theorem dX12_manyFor_66 : decode cX12_manyFor 66 = .ok (.invokevirtual 199, 3) := by decide +kernel
theorem dX12_manyFor_69 : decode cX12_manyFor 69 = .ok (.invokestatic 194, 3) := by decide +kernel
theorem dX12_manyFor_72 : decode cX12_manyFor 72 = .ok (.istore 4, 2) := by decide +kernel
theorem dX12_manyFor_74 : decode cX12_manyFor 74 = .ok (.goto 40, 3) := by decide +kernel
theorem dX12_manyFor_77 : decode cX12_manyFor 77 = .ok (.iconst 2, 1) := by decide +kernel
theorem dX12_manyFor_78 : decode cX12_manyFor 78 = .ok (.aload_n 0, 1) := by decide +kernel
theorem dX12_manyFor_79 : decode cX12_manyFor 79 = .ok (.iload_n 1, 1) := by decide +kernel
theorem dX12_manyFor_80 : decode cX12_manyFor 80 = .ok (.aload_n 0, 1) := by decide +kernel
theorem dX12_manyFor_81 : decode cX12_manyFor 81 = .ok (.iload_n 1, 1) := by decide +kernel
theorem dX12_manyFor_82 : decode cX12_manyFor 82 = .ok (.iconst 0, 1) := by decide +kernel
theorem dX12_manyFor_83 : decode cX12_manyFor 83 = .ok (.invokevirtual 178, 3) := by decide +kernel
theorem dX12_manyFor_86 : decode cX12_manyFor 86 = .ok (.aload_n 0, 1) := by decide +kernel
theorem dX12_manyFor_87 : decode cX12_manyFor 87 = .ok (.iload_n 1, 1) := by decide +kernel
theorem dX12_manyFor_88 : decode cX12_manyFor 88 = .ok (.iconst 0, 1) := by decide +kernel
theorem dX12_manyFor_89 : decode cX12_manyFor 89 = .ok (.iload_n 3, 1) := by decide +kernel
theorem dX12_manyFor_90 : decode cX12_manyFor 90 = .ok (.iadd, 1) := by decide +kernel
theorem dX12_manyFor_91 : decode cX12_manyFor 91 = .ok (.invokevirtual 161, 3) := by decide +kernel
theorem dX12_manyFor_94 : decode cX12_manyFor 94 = .ok (.bipush 10, 2) := by decide +kernel
theorem dX12_manyFor_96 : decode cX12_manyFor 96 = .ok (.idiv, 1) := by decide +kernel
theorem dX12_manyFor_97 : decode cX12_manyFor 97 = .ok (.iconst 1, 1) := by decide +kernel
theorem dX12_manyFor_98 : decode cX12_manyFor 98 = .ok (.iadd, 1) := by decide +kernel
theorem dX12_manyFor_99 : decode cX12_manyFor 99 = .ok (.aload_n 0, 1) := by decide +kernel
theorem dX12_manyFor_100 : decode cX12_manyFor 100 = .ok (.getfield 22, 3) := by decide +kernel
theorem dX12_manyFor_103 : decode cX12_manyFor 103 = .ok (.iconst 0, 1) := by decide +kernel
theorem dX12_manyFor_104 : decode cX12_manyFor 104 = .ok (.iaload, 1) := by decide +kernel
theorem dX12_manyFor_105 : decode cX12_manyFor 105 = .ok (.irem, 1) := by decide +kernel
theorem dX12_manyFor_106 : decode cX12_manyFor 106 = .ok (.invokevirtual 199, 3) := by decide +kernel
theorem dX12_manyFor_109 : decode cX12_manyFor 109 = .ok (.invokestatic 194, 3) := by decide +kernel
theorem dX12_manyFor_112 : decode cX12_manyFor 112 = .ok (.istore 4, 2) := by decide +kernel
theorem dX12_manyFor_114 : decode cX12_manyFor 114 = .ok (.iload 4, 2) := by decide +kernel
theorem dX12_manyFor_116 : decode cX12_manyFor 116 = .ok (.ifCond .ne 7, 3) := by decide +kernel
theorem dX12_manyFor_119 : decode cX12_manyFor 119 = .ok (.iconst (-1), 1) := by decide +kernel
theorem dX12_manyFor_120 : decode cX12_manyFor 120 = .ok (.goto 5, 3) := by decide +kernel
theorem dX12_manyFor_123 : decode cX12_manyFor 123 = .ok (.iload 4, 2) := by decide +kernel
theorem dX12_manyFor_125 : decode cX12_manyFor 125 = .ok (.ireturn, 1) := by decide +kernel
theorem dX12_begin_0 : decode cX12_begin 0 = .ok (.aload_n 0, 1) := by decide +kernel
theorem dX12_begin_1 : decode cX12_begin 1 = .ok (.iload_n 1, 1) := by decide +kernel
theorem dX12_begin_2 : decode cX12_begin 2 = .ok (.iload_n 2, 1) := by decide +kernel
theorem dX12_begin_3 : decode cX12_begin 3 = .ok (.iload_n 3, 1) := by decide +kernel
theorem dX12_begin_4 : decode cX12_begin 4 = .ok (.invokevirtual 202, 3) := by decide +kernel
theorem dX12_begin_7 : decode cX12_begin 7 = .ok (.istore 4, 2) := by decide +kernel
theorem dX12_begin_9 : decode cX12_begin 9 = .ok (.iload 4, 2) := by decide +kernel
theorem dX12_begin_11 : decode cX12_begin 11 = .ok (.iconst (-1), 1) := by decide +kernel
theorem dX12_begin_12 : decode cX12_begin 12 = .ok (.if_icmp .ne 4, 3) := by decide +kernel
theorem dX12_begin_15 : decode cX12_begin 15 = .ok (.return_, 1) := by decide +kernel
theorem dX12_begin_16 : decode cX12_begin 16 = .ok (.iload_n 2, 1) := by decide +kernel
theorem dX12_begin_17 : decode cX12_begin 17 = .ok (.iconst 2, 1) := by decide +kernel
theorem dX12_begin_18 : decode cX12_begin 18 = .ok (.if_icmp .ne 14, 3) := by decide +kernel
theorem dX12_begin_21 : decode cX12_begin 21 = .ok (.aload_n 0, 1) := by decide +kernel
theorem dX12_begin_22 : decode cX12_begin 22 = .ok (.iload_n 1, 1) := by decide +kernel
theorem dX12_begin_23 : decode cX12_begin 23 = .ok (.iconst 0, 1) := by decide +kernel
theorem dX12_begin_24 : decode cX12_begin 24 = .ok (.iload_n 3, 1) := by decide +kernel
theorem dX12_begin_25 : decode cX12_begin 25 = .ok (.iadd, 1) := by decide +kernel
theorem dX12_begin_26 : decode cX12_begin 26 = .ok (.invokevirtual 161, 3) := by decide +kernel
theorem dX12_begin_29 : decode cX12_begin 29 = .ok (.goto 4, 3) := by decide +kernel
theorem dX12_begin_32 : decode cX12_begin 32 = .ok (.iconst 0, 1) := by decide +kernel
theorem dX12_begin_33 : decode cX12_begin 33 = .ok (.istore 5, 2) := by decide +kernel
theorem dX12_begin_35 : decode cX12_begin 35 = .ok (.aload_n 0, 1) := by decide +kernel
theorem dX12_begin_36 : decode cX12_begin 36 = .ok (.iload_n 1, 1) := by decide +kernel
theorem dX12_begin_37 : decode cX12_begin 37 = .ok (.iconst 0, 1) := by decide +kernel
theorem dX12_begin_38 : decode cX12_begin 38 = .ok (.iload_n 2, 1) := by decide +kernel
theorem dX12_begin_39 : decode cX12_begin 39 = .ok (.iconst (-1), 1) := by decide +kernel
theorem dX12_begin_40 : decode cX12_begin 40 = .ok (.iload_n 2, 1) := by decide +kernel
theorem dX12_begin_41 : decode cX12_begin 41 = .ok (.ifCond .eq 8, 3) := by decide +kernel
theorem dX12_begin_44 : decode cX12_begin 44 = .ok (.iload_n 2, 1) := by decide +kernel
theorem dX12_begin_45 : decode cX12_begin 45 = .ok (.iconst 1, 1) := by decide +kernel
theorem dX12_begin_46 : decode cX12_begin 46 = .ok (.if_icmp .ne 7, 3) := by decide +kernel
theorem dX12_begin_49 : decode cX12_begin 49 = .ok (.iload_n 3, 1) := by decide +kernel
theorem dX12_begin_50 : decode cX12_begin 50 = .ok (.goto 4, 3) := by decide +kernel
theorem dX12_begin_53 : decode cX12_begin 53 = .ok (.iconst (-1), 1) := by decide +kernel
theorem dX12_begin_54 : decode cX12_begin 54 = .ok (.invokevirtual 205, 3) := by decide +kernel
theorem dX12_begin_57 : decode cX12_begin 57 = .ok (.iload_n 2, 1) := by decide +kernel
theorem dX12_begin_58 : decode cX12_begin 58 = .ok (.iconst 1, 1) := by decide +kernel
theorem dX12_begin_59 : decode cX12_begin 59 = .ok (.if_icmp .ne 50, 3) := by decide +kernel
theorem dX12_begin_62 : decode cX12_begin 62 = .ok (.aload_n 0, 1) := by decide +kernel
theorem dX12_begin_63 : decode cX12_begin 63 = .ok (.iload_n 1, 1) := by decide +kernel
theorem dX12_begin_64 : decode cX12_begin 64 = .ok (.bipush 18, 2) := by decide +kernel
theorem dX12_begin_66 : decode cX12_begin 66 = .ok (.invokevirtual 161, 3) := by decide +kernel
theorem dX12_begin_69 : decode cX12_begin 69 = .ok (.iload 4, 2) := by decide +kernel
theorem dX12_begin_71 : decode cX12_begin 71 = .ok (.isub, 1) := by decide +kernel
theorem dX12_begin_72 : decode cX12_begin 72 = .ok (.istore 6, 2) := by decide +kernel
theorem dX12_begin_74 : decode cX12_begin 74 = .ok (.iload 6, 2) := by decide +kernel
theorem dX12_begin_76 : decode cX12_begin 76 = .ok (.aload_n 0, 1) := by decide +kernel
theorem dX12_begin_77 : decode cX12_begin 77 = .ok (.iload_n 1, 1) := by decide +kernel
theorem dX12_begin_78 : decode cX12_begin 78 = .ok (.bipush 18, 2) := by decide +kernel
theorem dX12_begin_80 : decode cX12_begin 80 = .ok (.invokevirtual 161, 3) := by decide +kernel
theorem dX12_begin_83 : decode cX12_begin 83 = .ok (.if_icmp .ge 23, 3) := by decide +kernel
theorem dX12_begin_86 : decode cX12_begin 86 = .ok (.aload_n 0, 1) := by decide +kernel
theorem dX12_begin_87 : decode cX12_begin 87 = .ok (.iload_n 1, 1) := by decide +kernel
theorem dX12_begin_88 : decode cX12_begin 88 = .ok (.aload_n 0, 1) := by decide +kernel
theorem dX12_begin_89 : decode cX12_begin 89 = .ok (.iload_n 1, 1) := by decide +kernel
theorem dX12_begin_90 : decode cX12_begin 90 = .ok (.iconst 0, 1) := by decide +kernel
theorem dX12_begin_91 : decode cX12_begin 91 = .ok (.iload 6, 2) := by decide +kernel
theorem dX12_begin_93 : decode cX12_begin 93 = .ok (.iadd, 1) := by decide +kernel
theorem dX12_begin_94 : decode cX12_begin 94 = .ok (.invokevirtual 161, 3) := by decide +kernel
theorem dX12_begin_97 : decode cX12_begin 97 = .ok (.invokevirtual 184, 3) := by decide +kernel
theorem dX12_begin_100 : decode cX12_begin 100 = .ok (.iinc 6 1, 3) := by decide +kernel
theorem dX12_begin_103 : decode cX12_begin 103 = .ok (.goto (-29), 3) := by decide +kernel
theorem dX12_begin_106 : decode cX12_begin 106 = .ok (.goto 30, 3) := by decide +kernel
theorem dX12_begin_109 : decode cX12_begin 109 = .ok (.iload_n 2, 1) := by decide +kernel
theorem dX12_begin_110 : decode cX12_begin 110 = .ok (.iconst 2, 1) := by decide +kernel
theorem dX12_begin_111 : decode cX12_begin 111 = .ok (.if_icmp .ne 10, 3) := by decide +kernel
theorem dX12_begin_114 : decode cX12_begin 114 = .ok (.aload_n 0, 1) := by decide +kernel
theorem dX12_begin_115 : decode cX12_begin 115 = .ok (.iload_n 1, 1) := by decide +kernel
theorem dX12_begin_116 : decode cX12_begin 116 = .ok (.iload 5, 2) := by decide +kernel
theorem dX12_begin_118 : decode cX12_begin 118 = .ok (.invokevirtual 184, 3) := by decide +kernel
theorem dX12_begin_121 : decode cX12_begin 121 = .ok (.aload_n 0, 1) := by decide +kernel
theorem dX12_begin_122 : decode cX12_begin 122 = .ok (.iload_n 1, 1) := by decide +kernel
theorem dX12_begin_123 : decode cX12_begin 123 = .ok (.iload 4, 2) := by decide +kernel
theorem dX12_begin_125 : decode cX12_begin 125 = .ok (.invokevirtual 209, 3) := by decide +kernel
theorem dX12_begin_128 : decode cX12_begin 128 = .ok (.aload_n 0, 1) := by decide +kernel
theorem dX12_begin_129 : decode cX12_begin 129 = .ok (.iload_n 1, 1) := by decide +kernel
theorem dX12_begin_130 : decode cX12_begin 130 = .ok (.iconst 0, 1) := by decide +kernel
theorem dX12_begin_131 : decode cX12_begin 131 = .ok (.iload 4, 2) := by decide +kernel
theorem dX12_begin_133 : decode cX12_begin 133 = .ok (.invokevirtual 212, 3) := by decide +kernel
theorem dX12_begin_136 : decode cX12_begin 136 = .ok (.aload_n 0, 1) := by decide +kernel
theorem dX12_begin_137 : decode cX12_begin 137 = .ok (.iload_n 1, 1) := by decide +kernel
theorem dX12_begin_138 : decode cX12_begin 138 = .ok (.iconst 0, 1) := by decide +kernel
theorem dX12_begin_139 : decode cX12_begin 139 = .ok (.invokevirtual 215, 3) := by decide +kernel
theorem dX12_begin_142 : decode cX12_begin 142 = .ok (.aload_n 0, 1) := by decide +kernel
theorem dX12_begin_143 : decode cX12_begin 143 = .ok (.iload_n 1, 1) := by decide +kernel
theorem dX12_begin_144 : decode cX12_begin 144 = .ok (.bipush 32, 2) := by decide +kernel
theorem dX12_begin_146 : decode cX12_begin 146 = .ok (.iload_n 2, 1) := by decide +kernel
theorem dX12_begin_147 : decode cX12_begin 147 = .ok (.invokevirtual 141, 3) := by decide +kernel
theorem dX12_begin_150 : decode cX12_begin 150 = .ok (.return_, 1) := by decide +kernel
theorem dX12_layTold_0 : decode cX12_layTold 0 = .ok (.aload_n 0, 1) := by decide +kernel
theorem dX12_layTold_1 : decode cX12_layTold 1 = .ok (.aload_n 0, 1) := by decide +kernel
theorem dX12_layTold_2 : decode cX12_layTold 2 = .ok (.iload_n 1, 1) := by decide +kernel
theorem dX12_layTold_3 : decode cX12_layTold 3 = .ok (.bipush 48, 2) := by decide +kernel
theorem dX12_layTold_5 : decode cX12_layTold 5 = .ok (.invokevirtual 161, 3) := by decide +kernel
theorem dX12_layTold_8 : decode cX12_layTold 8 = .ok (.putfield 218, 3) := by decide +kernel
theorem dX12_layTold_11 : decode cX12_layTold 11 = .ok (.iconst 0, 1) := by decide +kernel
theorem dX12_layTold_12 : decode cX12_layTold 12 = .ok (.istore_n 2, 1) := by decide +kernel
theorem dX12_layTold_13 : decode cX12_layTold 13 = .ok (.iload_n 2, 1) := by decide +kernel
theorem dX12_layTold_14 : decode cX12_layTold 14 = .ok (.aload_n 0, 1) := by decide +kernel
theorem dX12_layTold_15 : decode cX12_layTold 15 = .ok (.getfield 218, 3) := by decide +kernel
theorem dX12_layTold_18 : decode cX12_layTold 18 = .ok (.if_icmp .ge 24, 3) := by decide +kernel
theorem dX12_layTold_21 : decode cX12_layTold 21 = .ok (.aload_n 0, 1) := by decide +kernel
theorem dX12_layTold_22 : decode cX12_layTold 22 = .ok (.getfield 47, 3) := by decide +kernel
theorem dX12_layTold_25 : decode cX12_layTold 25 = .ok (.iload_n 2, 1) := by decide +kernel
theorem dX12_layTold_26 : decode cX12_layTold 26 = .ok (.aload_n 0, 1) := by decide +kernel
theorem dX12_layTold_27 : decode cX12_layTold 27 = .ok (.iload_n 1, 1) := by decide +kernel
theorem dX12_layTold_28 : decode cX12_layTold 28 = .ok (.bipush 50, 2) := by decide +kernel
theorem dX12_layTold_30 : decode cX12_layTold 30 = .ok (.iload_n 2, 1) := by decide +kernel
theorem dX12_layTold_31 : decode cX12_layTold 31 = .ok (.iadd, 1) := by decide +kernel
theorem dX12_layTold_32 : decode cX12_layTold 32 = .ok (.invokevirtual 161, 3) := by decide +kernel
theorem dX12_layTold_35 : decode cX12_layTold 35 = .ok (.iastore, 1) := by decide +kernel
theorem dX12_layTold_36 : decode cX12_layTold 36 = .ok (.iinc 2 1, 3) := by decide +kernel
theorem dX12_layTold_39 : decode cX12_layTold 39 = .ok (.goto (-26), 3) := by decide +kernel
theorem dX12_layTold_42 : decode cX12_layTold 42 = .ok (.return_, 1) := by decide +kernel
theorem dX12_nextOf_0 : decode cX12_nextOf 0 = .ok (.iload_n 0, 1) := by decide +kernel
theorem dX12_nextOf_1 : decode cX12_nextOf 1 = .ok (.sipush 255, 3) := by decide +kernel
theorem dX12_nextOf_4 : decode cX12_nextOf 4 = .ok (.if_icmp .ne 7, 3) := by decide +kernel
theorem dX12_nextOf_7 : decode cX12_nextOf 7 = .ok (.iconst 1, 1) := by decide +kernel
theorem dX12_nextOf_8 : decode cX12_nextOf 8 = .ok (.goto 6, 3) := by decide +kernel
theorem dX12_nextOf_11 : decode cX12_nextOf 11 = .ok (.iload_n 0, 1) := by decide +kernel
theorem dX12_nextOf_12 : decode cX12_nextOf 12 = .ok (.iconst 1, 1) := by decide +kernel
theorem dX12_nextOf_13 : decode cX12_nextOf 13 = .ok (.iadd, 1) := by decide +kernel
theorem dX12_nextOf_14 : decode cX12_nextOf 14 = .ok (.ireturn, 1) := by decide +kernel
theorem dX12_stepOn_0 : decode cX12_stepOn 0 = .ok (.aload_n 0, 1) := by decide +kernel
theorem dX12_stepOn_1 : decode cX12_stepOn 1 = .ok (.iload_n 1, 1) := by decide +kernel
theorem dX12_stepOn_2 : decode cX12_stepOn 2 = .ok (.bipush 26, 2) := by decide +kernel
theorem dX12_stepOn_4 : decode cX12_stepOn 4 = .ok (.iload_n 2, 1) := by decide +kernel
theorem dX12_stepOn_5 : decode cX12_stepOn 5 = .ok (.iadd, 1) := by decide +kernel
theorem dX12_stepOn_6 : decode cX12_stepOn 6 = .ok (.aload_n 0, 1) := by decide +kernel
theorem dX12_stepOn_7 : decode cX12_stepOn 7 = .ok (.iload_n 1, 1) := by decide +kernel
theorem dX12_stepOn_8 : decode cX12_stepOn 8 = .ok (.bipush 26, 2) := by decide +kernel
theorem dX12_stepOn_10 : decode cX12_stepOn 10 = .ok (.iload_n 2, 1) := by decide +kernel
theorem dX12_stepOn_11 : decode cX12_stepOn 11 = .ok (.iadd, 1) := by decide +kernel
theorem dX12_stepOn_12 : decode cX12_stepOn 12 = .ok (.invokevirtual 161, 3) := by decide +kernel
theorem dX12_stepOn_15 : decode cX12_stepOn 15 = .ok (.invokestatic 221, 3) := by decide +kernel
theorem dX12_stepOn_18 : decode cX12_stepOn 18 = .ok (.invokevirtual 141, 3) := by decide +kernel
theorem dX12_stepOn_21 : decode cX12_stepOn 21 = .ok (.return_, 1) := by decide +kernel
theorem dX12_answerTaken_0 : decode cX12_answerTaken 0 = .ok (.aload_n 0, 1) := by decide +kernel
theorem dX12_answerTaken_1 : decode cX12_answerTaken 1 = .ok (.iload_n 1, 1) := by decide +kernel
theorem dX12_answerTaken_2 : decode cX12_answerTaken 2 = .ok (.bipush 46, 2) := by decide +kernel
theorem dX12_answerTaken_4 : decode cX12_answerTaken 4 = .ok (.aload_n 0, 1) := by decide +kernel
theorem dX12_answerTaken_5 : decode cX12_answerTaken 5 = .ok (.iload_n 1, 1) := by decide +kernel
theorem dX12_answerTaken_6 : decode cX12_answerTaken 6 = .ok (.bipush 48, 2) := by decide +kernel
theorem dX12_answerTaken_8 : decode cX12_answerTaken 8 = .ok (.invokevirtual 161, 3) := by decide +kernel
theorem dX12_answerTaken_11 : decode cX12_answerTaken 11 = .ok (.ifCond .ne 7, 3) := by decide +kernel
theorem dX12_answerTaken_14 : decode cX12_answerTaken 14 = .ok (.iconst 1, 1) := by decide +kernel
theorem dX12_answerTaken_15 : decode cX12_answerTaken 15 = .ok (.goto 4, 3) := by decide +kernel
theorem dX12_answerTaken_18 : decode cX12_answerTaken 18 = .ok (.iconst 0, 1) := by decide +kernel
theorem dX12_answerTaken_19 : decode cX12_answerTaken 19 = .ok (.invokevirtual 141, 3) := by decide +kernel
theorem dX12_answerTaken_22 : decode cX12_answerTaken 22 = .ok (.aload_n 0, 1) := by decide +kernel
theorem dX12_answerTaken_23 : decode cX12_answerTaken 23 = .ok (.iload_n 1, 1) := by decide +kernel
theorem dX12_answerTaken_24 : decode cX12_answerTaken 24 = .ok (.bipush 48, 2) := by decide +kernel
theorem dX12_answerTaken_26 : decode cX12_answerTaken 26 = .ok (.invokevirtual 161, 3) := by decide +kernel
theorem dX12_answerTaken_29 : decode cX12_answerTaken 29 = .ok (.ifCond .le 9, 3) := by decide +kernel
theorem dX12_answerTaken_32 : decode cX12_answerTaken 32 = .ok (.aload_n 0, 1) := by decide +kernel
theorem dX12_answerTaken_33 : decode cX12_answerTaken 33 = .ok (.iload_n 1, 1) := by decide +kernel
theorem dX12_answerTaken_34 : decode cX12_answerTaken 34 = .ok (.iconst 1, 1) := by decide +kernel
theorem dX12_answerTaken_35 : decode cX12_answerTaken 35 = .ok (.invokevirtual 225, 3) := by decide +kernel
theorem dX12_answerTaken_38 : decode cX12_answerTaken 38 = .ok (.return_, 1) := by decide +kernel
theorem dX12_takeIn_0 : decode cX12_takeIn 0 = .ok (.iconst 0, 1) := by decide +kernel
theorem dX12_takeIn_1 : decode cX12_takeIn 1 = .ok (.istore 4, 2) := by decide +kernel
theorem dX12_takeIn_3 : decode cX12_takeIn 3 = .ok (.iconst 0, 1) := by decide +kernel
theorem dX12_takeIn_4 : decode cX12_takeIn 4 = .ok (.istore 5, 2) := by decide +kernel
theorem dX12_takeIn_6 : decode cX12_takeIn 6 = .ok (.iload 5, 2) := by decide +kernel
theorem dX12_takeIn_8 : decode cX12_takeIn 8 = .ok (.aload_n 0, 1) := by decide +kernel
theorem dX12_takeIn_9 : decode cX12_takeIn 9 = .ok (.getfield 218, 3) := by decide +kernel
theorem dX12_takeIn_12 : decode cX12_takeIn 12 = .ok (.if_icmp .ge 77, 3) := by decide +kernel
theorem dX12_takeIn_15 : decode cX12_takeIn 15 = .ok (.iload 4, 2) := by decide +kernel
theorem dX12_takeIn_17 : decode cX12_takeIn 17 = .ok (.iload_n 3, 1) := by decide +kernel
theorem dX12_takeIn_18 : decode cX12_takeIn 18 = .ok (.if_icmp .ge 71, 3) := by decide +kernel
theorem dX12_takeIn_21 : decode cX12_takeIn 21 = .ok (.aload_n 0, 1) := by decide +kernel
theorem dX12_takeIn_22 : decode cX12_takeIn 22 = .ok (.iload_n 1, 1) := by decide +kernel
theorem dX12_takeIn_23 : decode cX12_takeIn 23 = .ok (.iload_n 2, 1) := by decide +kernel
theorem dX12_takeIn_24 : decode cX12_takeIn 24 = .ok (.invokevirtual 164, 3) := by decide +kernel
theorem dX12_takeIn_27 : decode cX12_takeIn 27 = .ok (.bipush 6, 2) := by decide +kernel
theorem dX12_takeIn_29 : decode cX12_takeIn 29 = .ok (.if_icmp .ge 60, 3) := by decide +kernel
theorem dX12_takeIn_32 : decode cX12_takeIn 32 = .ok (.aload_n 0, 1) := by decide +kernel
theorem dX12_takeIn_33 : decode cX12_takeIn 33 = .ok (.aload_n 0, 1) := by decide +kernel
theorem dX12_takeIn_34 : decode cX12_takeIn 34 = .ok (.iload_n 1, 1) := by decide +kernel
theorem dX12_takeIn_35 : decode cX12_takeIn 35 = .ok (.iload_n 2, 1) := by decide +kernel
theorem dX12_takeIn_36 : decode cX12_takeIn 36 = .ok (.invokevirtual 178, 3) := by decide +kernel
theorem dX12_takeIn_39 : decode cX12_takeIn 39 = .ok (.aload_n 0, 1) := by decide +kernel
theorem dX12_takeIn_40 : decode cX12_takeIn 40 = .ok (.getfield 47, 3) := by decide +kernel
theorem dX12_takeIn_43 : decode cX12_takeIn 43 = .ok (.iload 5, 2) := by decide +kernel
theorem dX12_takeIn_45 : decode cX12_takeIn 45 = .ok (.iaload, 1) := by decide +kernel
theorem dX12_takeIn_46 : decode cX12_takeIn 46 = .ok (.bipush 10, 2) := by decide +kernel
theorem dX12_takeIn_48 : decode cX12_takeIn 48 = .ok (.idiv, 1) := by decide +kernel
theorem dX12_takeIn_49 : decode cX12_takeIn 49 = .ok (.invokevirtual 181, 3) := by decide +kernel
theorem dX12_takeIn_52 : decode cX12_takeIn 52 = .ok (.ifCond .ne 31, 3) := by decide +kernel
theorem dX12_takeIn_55 : decode cX12_takeIn 55 = .ok (.aload_n 0, 1) := by decide +kernel
theorem dX12_takeIn_56 : decode cX12_takeIn 56 = .ok (.iload_n 1, 1) := by decide +kernel
theorem dX12_takeIn_57 : decode cX12_takeIn 57 = .ok (.iload_n 2, 1) := by decide +kernel
theorem dX12_takeIn_58 : decode cX12_takeIn 58 = .ok (.aload_n 0, 1) := by decide +kernel
theorem dX12_takeIn_59 : decode cX12_takeIn 59 = .ok (.getfield 47, 3) := by decide +kernel
theorem dX12_takeIn_62 : decode cX12_takeIn 62 = .ok (.iload 5, 2) := by decide +kernel
theorem dX12_takeIn_64 : decode cX12_takeIn 64 = .ok (.iaload, 1) := by decide +kernel
theorem dX12_takeIn_65 : decode cX12_takeIn 65 = .ok (.invokevirtual 228, 3) := by decide +kernel
theorem dX12_takeIn_68 : decode cX12_takeIn 68 = .ok (.aload_n 0, 1) := by decide +kernel
theorem dX12_takeIn_69 : decode cX12_takeIn 69 = .ok (.iload_n 1, 1) := by decide +kernel
theorem dX12_takeIn_70 : decode cX12_takeIn 70 = .ok (.aload_n 0, 1) := by decide +kernel
theorem dX12_takeIn_71 : decode cX12_takeIn 71 = .ok (.getfield 47, 3) := by decide +kernel
theorem dX12_takeIn_74 : decode cX12_takeIn 74 = .ok (.iload 5, 2) := by decide +kernel
theorem dX12_takeIn_76 : decode cX12_takeIn 76 = .ok (.iaload, 1) := by decide +kernel
theorem dX12_takeIn_77 : decode cX12_takeIn 77 = .ok (.invokevirtual 184, 3) := by decide +kernel
theorem dX12_takeIn_80 : decode cX12_takeIn 80 = .ok (.iinc 4 1, 3) := by decide +kernel
theorem dX12_takeIn_83 : decode cX12_takeIn 83 = .ok (.iinc 5 1, 3) := by decide +kernel
theorem dX12_takeIn_86 : decode cX12_takeIn 86 = .ok (.goto (-80), 3) := by decide +kernel
theorem dX12_takeIn_89 : decode cX12_takeIn 89 = .ok (.return_, 1) := by decide +kernel
theorem dX12_readMove_0 : decode cX12_readMove 0 = .ok (.iconst 1, 1) := by decide +kernel
theorem dX12_readMove_1 : decode cX12_readMove 1 = .ok (.istore_n 2, 1) := by decide +kernel
theorem dX12_readMove_2 : decode cX12_readMove 2 = .ok (.iload_n 2, 1) := by decide +kernel
theorem dX12_readMove_3 : decode cX12_readMove 3 = .ok (.aload_n 0, 1) := by decide +kernel
theorem dX12_readMove_4 : decode cX12_readMove 4 = .ok (.getfield 218, 3) := by decide +kernel
theorem dX12_readMove_7 : decode cX12_readMove 7 = .ok (.if_icmp .ge 31, 3) := by decide +kernel
theorem dX12_readMove_10 : decode cX12_readMove 10 = .ok (.aload_n 0, 1) := by decide +kernel
theorem dX12_readMove_11 : decode cX12_readMove 11 = .ok (.aload_n 0, 1) := by decide +kernel
theorem dX12_readMove_12 : decode cX12_readMove 12 = .ok (.iload_n 1, 1) := by decide +kernel
theorem dX12_readMove_13 : decode cX12_readMove 13 = .ok (.iconst 1, 1) := by decide +kernel
theorem dX12_readMove_14 : decode cX12_readMove 14 = .ok (.invokevirtual 178, 3) := by decide +kernel
theorem dX12_readMove_17 : decode cX12_readMove 17 = .ok (.aload_n 0, 1) := by decide +kernel
theorem dX12_readMove_18 : decode cX12_readMove 18 = .ok (.getfield 47, 3) := by decide +kernel
theorem dX12_readMove_21 : decode cX12_readMove 21 = .ok (.iload_n 2, 1) := by decide +kernel
theorem dX12_readMove_22 : decode cX12_readMove 22 = .ok (.iaload, 1) := by decide +kernel
theorem dX12_readMove_23 : decode cX12_readMove 23 = .ok (.bipush 10, 2) := by decide +kernel
theorem dX12_readMove_25 : decode cX12_readMove 25 = .ok (.idiv, 1) := by decide +kernel
theorem dX12_readMove_26 : decode cX12_readMove 26 = .ok (.invokevirtual 181, 3) := by decide +kernel
theorem dX12_readMove_29 : decode cX12_readMove 29 = .ok (.ifCond .eq 9, 3) := by decide +kernel
theorem dX12_readMove_32 : decode cX12_readMove 32 = .ok (.iinc 2 1, 3) := by decide +kernel
theorem dX12_readMove_35 : decode cX12_readMove 35 = .ok (.goto (-33), 3) := by decide +kernel
theorem dX12_readMove_38 : decode cX12_readMove 38 = .ok (.aload_n 0, 1) := by decide +kernel
theorem dX12_readMove_39 : decode cX12_readMove 39 = .ok (.iload_n 1, 1) := by decide +kernel
theorem dX12_readMove_40 : decode cX12_readMove 40 = .ok (.iconst 1, 1) := by decide +kernel
theorem dX12_readMove_41 : decode cX12_readMove 41 = .ok (.aload_n 0, 1) := by decide +kernel
theorem dX12_readMove_42 : decode cX12_readMove 42 = .ok (.getfield 47, 3) := by decide +kernel
theorem dX12_readMove_45 : decode cX12_readMove 45 = .ok (.iconst 0, 1) := by decide +kernel
theorem dX12_readMove_46 : decode cX12_readMove 46 = .ok (.iaload, 1) := by decide +kernel
theorem dX12_readMove_47 : decode cX12_readMove 47 = .ok (.invokevirtual 171, 3) := by decide +kernel
theorem dX12_readMove_50 : decode cX12_readMove 50 = .ok (.iconst (-1), 1) := by decide +kernel
theorem dX12_readMove_51 : decode cX12_readMove 51 = .ok (.if_icmp .eq 57, 3) := by decide +kernel
theorem dX12_readMove_54 : decode cX12_readMove 54 = .ok (.iload_n 2, 1) := by decide +kernel
theorem dX12_readMove_55 : decode cX12_readMove 55 = .ok (.aload_n 0, 1) := by decide +kernel
theorem dX12_readMove_56 : decode cX12_readMove 56 = .ok (.getfield 218, 3) := by decide +kernel
theorem dX12_readMove_59 : decode cX12_readMove 59 = .ok (.if_icmp .ge 49, 3) := by decide +kernel
theorem dX12_readMove_62 : decode cX12_readMove 62 = .ok (.aload_n 0, 1) := by decide +kernel
theorem dX12_readMove_63 : decode cX12_readMove 63 = .ok (.iload_n 1, 1) := by decide +kernel
theorem dX12_readMove_64 : decode cX12_readMove 64 = .ok (.iconst 1, 1) := by decide +kernel
theorem dX12_readMove_65 : decode cX12_readMove 65 = .ok (.aload_n 0, 1) := by decide +kernel
theorem dX12_readMove_66 : decode cX12_readMove 66 = .ok (.getfield 47, 3) := by decide +kernel
theorem dX12_readMove_69 : decode cX12_readMove 69 = .ok (.iconst 0, 1) := by decide +kernel
theorem dX12_readMove_70 : decode cX12_readMove 70 = .ok (.iaload, 1) := by decide +kernel
theorem dX12_readMove_71 : decode cX12_readMove 71 = .ok (.invokevirtual 231, 3) := by decide +kernel
theorem dX12_readMove_74 : decode cX12_readMove 74 = .ok (.aload_n 0, 1) := by decide +kernel
theorem dX12_readMove_75 : decode cX12_readMove 75 = .ok (.iload_n 1, 1) := by decide +kernel
theorem dX12_readMove_76 : decode cX12_readMove 76 = .ok (.iconst 1, 1) := by decide +kernel
theorem dX12_readMove_77 : decode cX12_readMove 77 = .ok (.aload_n 0, 1) := by decide +kernel
theorem dX12_readMove_78 : decode cX12_readMove 78 = .ok (.getfield 47, 3) := by decide +kernel
theorem dX12_readMove_81 : decode cX12_readMove 81 = .ok (.iload_n 2, 1) := by decide +kernel
theorem dX12_readMove_82 : decode cX12_readMove 82 = .ok (.iaload, 1) := by decide +kernel
theorem dX12_readMove_83 : decode cX12_readMove 83 = .ok (.invokevirtual 228, 3) := by decide +kernel
theorem dX12_readMove_86 : decode cX12_readMove 86 = .ok (.aload_n 0, 1) := by decide +kernel
theorem dX12_readMove_87 : decode cX12_readMove 87 = .ok (.iload_n 1, 1) := by decide +kernel
theorem dX12_readMove_88 : decode cX12_readMove 88 = .ok (.aload_n 0, 1) := by decide +kernel
theorem dX12_readMove_89 : decode cX12_readMove 89 = .ok (.getfield 47, 3) := by decide +kernel
theorem dX12_readMove_92 : decode cX12_readMove 92 = .ok (.iconst 0, 1) := by decide +kernel
theorem dX12_readMove_93 : decode cX12_readMove 93 = .ok (.iaload, 1) := by decide +kernel
theorem dX12_readMove_94 : decode cX12_readMove 94 = .ok (.invokevirtual 184, 3) := by decide +kernel
theorem dX12_readMove_97 : decode cX12_readMove 97 = .ok (.aload_n 0, 1) := by decide +kernel
theorem dX12_readMove_98 : decode cX12_readMove 98 = .ok (.iload_n 1, 1) := by decide +kernel
theorem dX12_readMove_99 : decode cX12_readMove 99 = .ok (.aload_n 0, 1) := by decide +kernel
theorem dX12_readMove_100 : decode cX12_readMove 100 = .ok (.getfield 47, 3) := by decide +kernel
theorem dX12_readMove_103 : decode cX12_readMove 103 = .ok (.iload_n 2, 1) := by decide +kernel
theorem dX12_readMove_104 : decode cX12_readMove 104 = .ok (.iaload, 1) := by decide +kernel
theorem dX12_readMove_105 : decode cX12_readMove 105 = .ok (.invokevirtual 184, 3) := by decide +kernel
theorem dX12_readMove_108 : decode cX12_readMove 108 = .ok (.return_, 1) := by decide +kernel
theorem dX12_readRequest_0 : decode cX12_readRequest 0 = .ok (.aload_n 0, 1) := by decide +kernel
theorem dX12_readRequest_1 : decode cX12_readRequest 1 = .ok (.iload_n 1, 1) := by decide +kernel
theorem dX12_readRequest_2 : decode cX12_readRequest 2 = .ok (.bipush 45, 2) := by decide +kernel
theorem dX12_readRequest_4 : decode cX12_readRequest 4 = .ok (.invokevirtual 161, 3) := by decide +kernel
theorem dX12_readRequest_7 : decode cX12_readRequest 7 = .ok (.istore_n 2, 1) := by decide +kernel
theorem dX12_readRequest_8 : decode cX12_readRequest 8 = .ok (.aload_n 0, 1) := by decide +kernel
theorem dX12_readRequest_9 : decode cX12_readRequest 9 = .ok (.iload_n 1, 1) := by decide +kernel
theorem dX12_readRequest_10 : decode cX12_readRequest 10 = .ok (.bipush 47, 2) := by decide +kernel
theorem dX12_readRequest_12 : decode cX12_readRequest 12 = .ok (.invokevirtual 161, 3) := by decide +kernel
theorem dX12_readRequest_15 : decode cX12_readRequest 15 = .ok (.istore_n 3, 1) := by decide +kernel
theorem dX12_readRequest_16 : decode cX12_readRequest 16 = .ok (.aload_n 0, 1) := by decide +kernel
theorem dX12_readRequest_17 : decode cX12_readRequest 17 = .ok (.iload_n 1, 1) := by decide +kernel
theorem dX12_readRequest_18 : decode cX12_readRequest 18 = .ok (.bipush 49, 2) := by decide +kernel
theorem dX12_readRequest_20 : decode cX12_readRequest 20 = .ok (.invokevirtual 161, 3) := by decide +kernel
theorem dX12_readRequest_23 : decode cX12_readRequest 23 = .ok (.istore 4, 2) := by decide +kernel
theorem dX12_readRequest_25 : decode cX12_readRequest 25 = .ok (.aload_n 0, 1) := by decide +kernel
theorem dX12_readRequest_26 : decode cX12_readRequest 26 = .ok (.iload_n 1, 1) := by decide +kernel
theorem dX12_readRequest_27 : decode cX12_readRequest 27 = .ok (.invokevirtual 234, 3) := by decide +kernel
theorem dX12_readRequest_30 : decode cX12_readRequest 30 = .ok (.aload_n 0, 1) := by decide +kernel
theorem dX12_readRequest_31 : decode cX12_readRequest 31 = .ok (.iload_n 1, 1) := by decide +kernel
theorem dX12_readRequest_32 : decode cX12_readRequest 32 = .ok (.iconst 1, 1) := by decide +kernel
theorem dX12_readRequest_33 : decode cX12_readRequest 33 = .ok (.invokevirtual 238, 3) := by decide +kernel
theorem dX12_readRequest_36 : decode cX12_readRequest 36 = .ok (.aload_n 0, 1) := by decide +kernel
theorem dX12_readRequest_37 : decode cX12_readRequest 37 = .ok (.iload_n 1, 1) := by decide +kernel
theorem dX12_readRequest_38 : decode cX12_readRequest 38 = .ok (.iconst 1, 1) := by decide +kernel
theorem dX12_readRequest_39 : decode cX12_readRequest 39 = .ok (.iload_n 2, 1) := by decide +kernel
theorem dX12_readRequest_40 : decode cX12_readRequest 40 = .ok (.iconst 0, 1) := by decide +kernel
theorem dX12_readRequest_41 : decode cX12_readRequest 41 = .ok (.iload 4, 2) := by decide +kernel
theorem dX12_readRequest_43 : decode cX12_readRequest 43 = .ok (.invokevirtual 205, 3) := by decide +kernel
theorem dX12_readRequest_46 : decode cX12_readRequest 46 = .ok (.iload_n 2, 1) := by decide +kernel
theorem dX12_readRequest_47 : decode cX12_readRequest 47 = .ok (.iconst 3, 1) := by decide +kernel
theorem dX12_readRequest_48 : decode cX12_readRequest 48 = .ok (.if_icmp .ne 12, 3) := by decide +kernel
theorem dX12_readRequest_51 : decode cX12_readRequest 51 = .ok (.aload_n 0, 1) := by decide +kernel
theorem dX12_readRequest_52 : decode cX12_readRequest 52 = .ok (.iload_n 1, 1) := by decide +kernel
theorem dX12_readRequest_53 : decode cX12_readRequest 53 = .ok (.iconst 1, 1) := by decide +kernel
theorem dX12_readRequest_54 : decode cX12_readRequest 54 = .ok (.invokevirtual 241, 3) := by decide +kernel
theorem dX12_readRequest_57 : decode cX12_readRequest 57 = .ok (.goto 199, 3) := by decide +kernel
theorem dX12_readRequest_60 : decode cX12_readRequest 60 = .ok (.iload_n 3, 1) := by decide +kernel
theorem dX12_readRequest_61 : decode cX12_readRequest 61 = .ok (.aload_n 0, 1) := by decide +kernel
theorem dX12_readRequest_62 : decode cX12_readRequest 62 = .ok (.iload_n 1, 1) := by decide +kernel
theorem dX12_readRequest_63 : decode cX12_readRequest 63 = .ok (.bipush 27, 2) := by decide +kernel
theorem dX12_readRequest_65 : decode cX12_readRequest 65 = .ok (.invokevirtual 161, 3) := by decide +kernel
theorem dX12_readRequest_68 : decode cX12_readRequest 68 = .ok (.if_icmp .eq 14, 3) := by decide +kernel
theorem dX12_readRequest_71 : decode cX12_readRequest 71 = .ok (.aload_n 0, 1) := by decide +kernel
theorem dX12_readRequest_72 : decode cX12_readRequest 72 = .ok (.iload_n 1, 1) := by decide +kernel
theorem dX12_readRequest_73 : decode cX12_readRequest 73 = .ok (.bipush 46, 2) := by decide +kernel
theorem dX12_readRequest_75 : decode cX12_readRequest 75 = .ok (.iconst 2, 1) := by decide +kernel
theorem dX12_readRequest_76 : decode cX12_readRequest 76 = .ok (.invokevirtual 141, 3) := by decide +kernel
theorem dX12_readRequest_79 : decode cX12_readRequest 79 = .ok (.goto 177, 3) := by decide +kernel
theorem dX12_readRequest_82 : decode cX12_readRequest 82 = .ok (.iload_n 2, 1) := by decide +kernel
theorem dX12_readRequest_83 : decode cX12_readRequest 83 = .ok (.ifCond .ne 78, 3) := by decide +kernel
theorem dX12_readRequest_86 : decode cX12_readRequest 86 = .ok (.aload_n 0, 1) := by decide +kernel
theorem dX12_readRequest_87 : decode cX12_readRequest 87 = .ok (.iload_n 1, 1) := by decide +kernel
theorem dX12_readRequest_88 : decode cX12_readRequest 88 = .ok (.invokevirtual 191, 3) := by decide +kernel
theorem dX12_readRequest_91 : decode cX12_readRequest 91 = .ok (.ifCond .ne 70, 3) := by decide +kernel
theorem dX12_readRequest_94 : decode cX12_readRequest 94 = .ok (.iload 4, 2) := by decide +kernel
theorem dX12_readRequest_96 : decode cX12_readRequest 96 = .ok (.iconst 1, 1) := by decide +kernel
theorem dX12_readRequest_97 : decode cX12_readRequest 97 = .ok (.iadd, 1) := by decide +kernel
theorem dX12_readRequest_98 : decode cX12_readRequest 98 = .ok (.aload_n 0, 1) := by decide +kernel
theorem dX12_readRequest_99 : decode cX12_readRequest 99 = .ok (.iload_n 1, 1) := by decide +kernel
theorem dX12_readRequest_100 : decode cX12_readRequest 100 = .ok (.aload_n 0, 1) := by decide +kernel
theorem dX12_readRequest_101 : decode cX12_readRequest 101 = .ok (.iload_n 1, 1) := by decide +kernel
theorem dX12_readRequest_102 : decode cX12_readRequest 102 = .ok (.iconst 1, 1) := by decide +kernel
theorem dX12_readRequest_103 : decode cX12_readRequest 103 = .ok (.invokevirtual 178, 3) := by decide +kernel
theorem dX12_readRequest_106 : decode cX12_readRequest 106 = .ok (.iconst 0, 1) := by decide +kernel
theorem dX12_readRequest_107 : decode cX12_readRequest 107 = .ok (.invokevirtual 199, 3) := by decide +kernel
theorem dX12_readRequest_110 : decode cX12_readRequest 110 = .ok (.invokestatic 194, 3) := by decide +kernel
theorem dX12_readRequest_113 : decode cX12_readRequest 113 = .ok (.istore 5, 2) := by decide +kernel
theorem dX12_readRequest_115 : decode cX12_readRequest 115 = .ok (.aload_n 0, 1) := by decide +kernel
theorem dX12_readRequest_116 : decode cX12_readRequest 116 = .ok (.iload_n 1, 1) := by decide +kernel
theorem dX12_readRequest_117 : decode cX12_readRequest 117 = .ok (.bipush 46, 2) := by decide +kernel
theorem dX12_readRequest_119 : decode cX12_readRequest 119 = .ok (.iload 5, 2) := by decide +kernel
theorem dX12_readRequest_121 : decode cX12_readRequest 121 = .ok (.ifCond .ne 7, 3) := by decide +kernel
theorem dX12_readRequest_124 : decode cX12_readRequest 124 = .ok (.iconst 1, 1) := by decide +kernel
theorem dX12_readRequest_125 : decode cX12_readRequest 125 = .ok (.goto 4, 3) := by decide +kernel
theorem dX12_readRequest_128 : decode cX12_readRequest 128 = .ok (.iconst 0, 1) := by decide +kernel
theorem dX12_readRequest_129 : decode cX12_readRequest 129 = .ok (.invokevirtual 141, 3) := by decide +kernel
theorem dX12_readRequest_132 : decode cX12_readRequest 132 = .ok (.iload 5, 2) := by decide +kernel
theorem dX12_readRequest_134 : decode cX12_readRequest 134 = .ok (.ifCond .le 24, 3) := by decide +kernel
theorem dX12_readRequest_137 : decode cX12_readRequest 137 = .ok (.aload_n 0, 1) := by decide +kernel
theorem dX12_readRequest_138 : decode cX12_readRequest 138 = .ok (.iload_n 1, 1) := by decide +kernel
theorem dX12_readRequest_139 : decode cX12_readRequest 139 = .ok (.iload 5, 2) := by decide +kernel
theorem dX12_readRequest_141 : decode cX12_readRequest 141 = .ok (.invokevirtual 209, 3) := by decide +kernel
theorem dX12_readRequest_144 : decode cX12_readRequest 144 = .ok (.aload_n 0, 1) := by decide +kernel
theorem dX12_readRequest_145 : decode cX12_readRequest 145 = .ok (.iload_n 1, 1) := by decide +kernel
theorem dX12_readRequest_146 : decode cX12_readRequest 146 = .ok (.iconst 1, 1) := by decide +kernel
theorem dX12_readRequest_147 : decode cX12_readRequest 147 = .ok (.iload 5, 2) := by decide +kernel
theorem dX12_readRequest_149 : decode cX12_readRequest 149 = .ok (.invokevirtual 212, 3) := by decide +kernel
theorem dX12_readRequest_152 : decode cX12_readRequest 152 = .ok (.aload_n 0, 1) := by decide +kernel
theorem dX12_readRequest_153 : decode cX12_readRequest 153 = .ok (.iload_n 1, 1) := by decide +kernel
theorem dX12_readRequest_154 : decode cX12_readRequest 154 = .ok (.iconst 1, 1) := by decide +kernel
theorem dX12_readRequest_155 : decode cX12_readRequest 155 = .ok (.invokevirtual 215, 3) := by decide +kernel
theorem dX12_readRequest_158 : decode cX12_readRequest 158 = .ok (.goto 98, 3) := by decide +kernel
theorem dX12_readRequest_161 : decode cX12_readRequest 161 = .ok (.iload_n 2, 1) := by decide +kernel
theorem dX12_readRequest_162 : decode cX12_readRequest 162 = .ok (.ifCond .ne 14, 3) := by decide +kernel
theorem dX12_readRequest_165 : decode cX12_readRequest 165 = .ok (.aload_n 0, 1) := by decide +kernel
theorem dX12_readRequest_166 : decode cX12_readRequest 166 = .ok (.iload_n 1, 1) := by decide +kernel
theorem dX12_readRequest_167 : decode cX12_readRequest 167 = .ok (.iconst 1, 1) := by decide +kernel
theorem dX12_readRequest_168 : decode cX12_readRequest 168 = .ok (.iload 4, 2) := by decide +kernel
theorem dX12_readRequest_170 : decode cX12_readRequest 170 = .ok (.invokevirtual 244, 3) := by decide +kernel
theorem dX12_readRequest_173 : decode cX12_readRequest 173 = .ok (.goto 13, 3) := by decide +kernel
theorem dX12_readRequest_176 : decode cX12_readRequest 176 = .ok (.iload_n 2, 1) := by decide +kernel
theorem dX12_readRequest_177 : decode cX12_readRequest 177 = .ok (.iconst 2, 1) := by decide +kernel
theorem dX12_readRequest_178 : decode cX12_readRequest 178 = .ok (.if_icmp .ne 8, 3) := by decide +kernel
theorem dX12_readRequest_181 : decode cX12_readRequest 181 = .ok (.aload_n 0, 1) := by decide +kernel
theorem dX12_readRequest_182 : decode cX12_readRequest 182 = .ok (.iload_n 1, 1) := by decide +kernel
theorem dX12_readRequest_183 : decode cX12_readRequest 183 = .ok (.invokevirtual 247, 3) := by decide +kernel
theorem dX12_readRequest_186 : decode cX12_readRequest 186 = .ok (.iconst 0, 1) := by decide +kernel
theorem dX12_readRequest_187 : decode cX12_readRequest 187 = .ok (.istore 5, 2) := by decide +kernel
theorem dX12_readRequest_189 : decode cX12_readRequest 189 = .ok (.iload 5, 2) := by decide +kernel
theorem dX12_readRequest_191 : decode cX12_readRequest 191 = .ok (.aload_n 0, 1) := by decide +kernel
theorem dX12_readRequest_192 : decode cX12_readRequest 192 = .ok (.getfield 218, 3) := by decide +kernel
theorem dX12_readRequest_195 : decode cX12_readRequest 195 = .ok (.if_icmp .ge 56, 3) := by decide +kernel
theorem dX12_readRequest_198 : decode cX12_readRequest 198 = .ok (.iload_n 2, 1) := by decide +kernel
theorem dX12_readRequest_199 : decode cX12_readRequest 199 = .ok (.iconst 1, 1) := by decide +kernel
theorem dX12_readRequest_200 : decode cX12_readRequest 200 = .ok (.if_icmp .ne 51, 3) := by decide +kernel
theorem dX12_readRequest_203 : decode cX12_readRequest 203 = .ok (.aload_n 0, 1) := by decide +kernel
theorem dX12_readRequest_204 : decode cX12_readRequest 204 = .ok (.iload_n 1, 1) := by decide +kernel
theorem dX12_readRequest_205 : decode cX12_readRequest 205 = .ok (.iconst 1, 1) := by decide +kernel
theorem dX12_readRequest_206 : decode cX12_readRequest 206 = .ok (.aload_n 0, 1) := by decide +kernel
theorem dX12_readRequest_207 : decode cX12_readRequest 207 = .ok (.getfield 47, 3) := by decide +kernel
theorem dX12_readRequest_210 : decode cX12_readRequest 210 = .ok (.iload 5, 2) := by decide +kernel
theorem dX12_readRequest_212 : decode cX12_readRequest 212 = .ok (.iaload, 1) := by decide +kernel
theorem dX12_readRequest_213 : decode cX12_readRequest 213 = .ok (.invokevirtual 171, 3) := by decide +kernel
theorem dX12_readRequest_216 : decode cX12_readRequest 216 = .ok (.iconst (-1), 1) := by decide +kernel
theorem dX12_readRequest_217 : decode cX12_readRequest 217 = .ok (.if_icmp .eq 28, 3) := by decide +kernel
theorem dX12_readRequest_220 : decode cX12_readRequest 220 = .ok (.aload_n 0, 1) := by decide +kernel
theorem dX12_readRequest_221 : decode cX12_readRequest 221 = .ok (.iload_n 1, 1) := by decide +kernel
theorem dX12_readRequest_222 : decode cX12_readRequest 222 = .ok (.iconst 1, 1) := by decide +kernel
theorem dX12_readRequest_223 : decode cX12_readRequest 223 = .ok (.aload_n 0, 1) := by decide +kernel
theorem dX12_readRequest_224 : decode cX12_readRequest 224 = .ok (.getfield 47, 3) := by decide +kernel
theorem dX12_readRequest_227 : decode cX12_readRequest 227 = .ok (.iload 5, 2) := by decide +kernel
theorem dX12_readRequest_229 : decode cX12_readRequest 229 = .ok (.iaload, 1) := by decide +kernel
theorem dX12_readRequest_230 : decode cX12_readRequest 230 = .ok (.invokevirtual 231, 3) := by decide +kernel
theorem dX12_readRequest_233 : decode cX12_readRequest 233 = .ok (.aload_n 0, 1) := by decide +kernel
theorem dX12_readRequest_234 : decode cX12_readRequest 234 = .ok (.iload_n 1, 1) := by decide +kernel
theorem dX12_readRequest_235 : decode cX12_readRequest 235 = .ok (.aload_n 0, 1) := by decide +kernel
theorem dX12_readRequest_236 : decode cX12_readRequest 236 = .ok (.getfield 47, 3) := by decide +kernel
theorem dX12_readRequest_239 : decode cX12_readRequest 239 = .ok (.iload 5, 2) := by decide +kernel
theorem dX12_readRequest_241 : decode cX12_readRequest 241 = .ok (.iaload, 1) := by decide +kernel
theorem dX12_readRequest_242 : decode cX12_readRequest 242 = .ok (.invokevirtual 184, 3) := by decide +kernel
theorem dX12_readRequest_245 : decode cX12_readRequest 245 = .ok (.iinc 5 1, 3) := by decide +kernel
theorem dX12_readRequest_248 : decode cX12_readRequest 248 = .ok (.goto (-59), 3) := by decide +kernel
theorem dX12_readRequest_251 : decode cX12_readRequest 251 = .ok (.aload_n 0, 1) := by decide +kernel
theorem dX12_readRequest_252 : decode cX12_readRequest 252 = .ok (.iload_n 1, 1) := by decide +kernel
theorem dX12_readRequest_253 : decode cX12_readRequest 253 = .ok (.invokevirtual 250, 3) := by decide +kernel
theorem dX12_readRequest_256 : decode cX12_readRequest 256 = .ok (.return_, 1) := by decide +kernel
theorem dX12_readConfirm_0 : decode cX12_readConfirm 0 = .ok (.aload_n 0, 1) := by decide +kernel
theorem dX12_readConfirm_1 : decode cX12_readConfirm 1 = .ok (.iload_n 1, 1) := by decide +kernel
theorem dX12_readConfirm_2 : decode cX12_readConfirm 2 = .ok (.invokevirtual 234, 3) := by decide +kernel
theorem dX12_readConfirm_5 : decode cX12_readConfirm 5 = .ok (.aload_n 0, 1) := by decide +kernel
theorem dX12_readConfirm_6 : decode cX12_readConfirm 6 = .ok (.iload_n 1, 1) := by decide +kernel
theorem dX12_readConfirm_7 : decode cX12_readConfirm 7 = .ok (.bipush 43, 2) := by decide +kernel
theorem dX12_readConfirm_9 : decode cX12_readConfirm 9 = .ok (.iconst 0, 1) := by decide +kernel
theorem dX12_readConfirm_10 : decode cX12_readConfirm 10 = .ok (.invokevirtual 141, 3) := by decide +kernel
theorem dX12_readConfirm_13 : decode cX12_readConfirm 13 = .ok (.aload_n 0, 1) := by decide +kernel
theorem dX12_readConfirm_14 : decode cX12_readConfirm 14 = .ok (.iload_n 1, 1) := by decide +kernel
theorem dX12_readConfirm_15 : decode cX12_readConfirm 15 = .ok (.bipush 29, 2) := by decide +kernel
theorem dX12_readConfirm_17 : decode cX12_readConfirm 17 = .ok (.invokevirtual 161, 3) := by decide +kernel
theorem dX12_readConfirm_20 : decode cX12_readConfirm 20 = .ok (.ifCond .ne 4, 3) := by decide +kernel
theorem dX12_readConfirm_23 : decode cX12_readConfirm 23 = .ok (.return_, 1) := by decide +kernel
theorem dX12_readConfirm_24 : decode cX12_readConfirm 24 = .ok (.iconst 0, 1) := by decide +kernel
theorem dX12_readConfirm_25 : decode cX12_readConfirm 25 = .ok (.istore_n 2, 1) := by decide +kernel
theorem dX12_readConfirm_26 : decode cX12_readConfirm 26 = .ok (.iload_n 2, 1) := by decide +kernel
theorem dX12_readConfirm_27 : decode cX12_readConfirm 27 = .ok (.aload_n 0, 1) := by decide +kernel
theorem dX12_readConfirm_28 : decode cX12_readConfirm 28 = .ok (.getfield 218, 3) := by decide +kernel
theorem dX12_readConfirm_31 : decode cX12_readConfirm 31 = .ok (.if_icmp .ge 21, 3) := by decide +kernel
theorem dX12_readConfirm_34 : decode cX12_readConfirm 34 = .ok (.aload_n 0, 1) := by decide +kernel
theorem dX12_readConfirm_35 : decode cX12_readConfirm 35 = .ok (.iload_n 1, 1) := by decide +kernel
theorem dX12_readConfirm_36 : decode cX12_readConfirm 36 = .ok (.iconst 1, 1) := by decide +kernel
theorem dX12_readConfirm_37 : decode cX12_readConfirm 37 = .ok (.aload_n 0, 1) := by decide +kernel
theorem dX12_readConfirm_38 : decode cX12_readConfirm 38 = .ok (.getfield 47, 3) := by decide +kernel
theorem dX12_readConfirm_41 : decode cX12_readConfirm 41 = .ok (.iload_n 2, 1) := by decide +kernel
theorem dX12_readConfirm_42 : decode cX12_readConfirm 42 = .ok (.iaload, 1) := by decide +kernel
theorem dX12_readConfirm_43 : decode cX12_readConfirm 43 = .ok (.invokevirtual 228, 3) := by decide +kernel
theorem dX12_readConfirm_46 : decode cX12_readConfirm 46 = .ok (.iinc 2 1, 3) := by decide +kernel
theorem dX12_readConfirm_49 : decode cX12_readConfirm 49 = .ok (.goto (-23), 3) := by decide +kernel
theorem dX12_readConfirm_52 : decode cX12_readConfirm 52 = .ok (.aload_n 0, 1) := by decide +kernel
theorem dX12_readConfirm_53 : decode cX12_readConfirm 53 = .ok (.getfield 218, 3) := by decide +kernel
theorem dX12_readConfirm_56 : decode cX12_readConfirm 56 = .ok (.ifCond .le 9, 3) := by decide +kernel
theorem dX12_readConfirm_59 : decode cX12_readConfirm 59 = .ok (.aload_n 0, 1) := by decide +kernel
theorem dX12_readConfirm_60 : decode cX12_readConfirm 60 = .ok (.iload_n 1, 1) := by decide +kernel
theorem dX12_readConfirm_61 : decode cX12_readConfirm 61 = .ok (.iconst 1, 1) := by decide +kernel
theorem dX12_readConfirm_62 : decode cX12_readConfirm 62 = .ok (.invokevirtual 225, 3) := by decide +kernel
theorem dX12_readConfirm_65 : decode cX12_readConfirm 65 = .ok (.aload_n 0, 1) := by decide +kernel
theorem dX12_readConfirm_66 : decode cX12_readConfirm 66 = .ok (.iload_n 1, 1) := by decide +kernel
theorem dX12_readConfirm_67 : decode cX12_readConfirm 67 = .ok (.iconst 1, 1) := by decide +kernel
theorem dX12_readConfirm_68 : decode cX12_readConfirm 68 = .ok (.invokevirtual 238, 3) := by decide +kernel
theorem dX12_readConfirm_71 : decode cX12_readConfirm 71 = .ok (.return_, 1) := by decide +kernel
theorem dX12_readOk_0 : decode cX12_readOk 0 = .ok (.iload_n 2, 1) := by decide +kernel
theorem dX12_readOk_1 : decode cX12_readOk 1 = .ok (.ifCond .ne 44, 3) := by decide +kernel
theorem dX12_readOk_4 : decode cX12_readOk 4 = .ok (.aload_n 0, 1) := by decide +kernel
theorem dX12_readOk_5 : decode cX12_readOk 5 = .ok (.iload_n 1, 1) := by decide +kernel
theorem dX12_readOk_6 : decode cX12_readOk 6 = .ok (.invokevirtual 191, 3) := by decide +kernel
theorem dX12_readOk_9 : decode cX12_readOk 9 = .ok (.ifCond .ne 36, 3) := by decide +kernel
theorem dX12_readOk_12 : decode cX12_readOk 12 = .ok (.aload_n 0, 1) := by decide +kernel
theorem dX12_readOk_13 : decode cX12_readOk 13 = .ok (.iload_n 1, 1) := by decide +kernel
theorem dX12_readOk_14 : decode cX12_readOk 14 = .ok (.iconst 2, 1) := by decide +kernel
theorem dX12_readOk_15 : decode cX12_readOk 15 = .ok (.iconst 0, 1) := by decide +kernel
theorem dX12_readOk_16 : decode cX12_readOk 16 = .ok (.iconst (-1), 1) := by decide +kernel
theorem dX12_readOk_17 : decode cX12_readOk 17 = .ok (.iload_n 3, 1) := by decide +kernel
theorem dX12_readOk_18 : decode cX12_readOk 18 = .ok (.invokevirtual 205, 3) := by decide +kernel
theorem dX12_readOk_21 : decode cX12_readOk 21 = .ok (.aload_n 0, 1) := by decide +kernel
theorem dX12_readOk_22 : decode cX12_readOk 22 = .ok (.iload_n 1, 1) := by decide +kernel
theorem dX12_readOk_23 : decode cX12_readOk 23 = .ok (.iconst 0, 1) := by decide +kernel
theorem dX12_readOk_24 : decode cX12_readOk 24 = .ok (.iload_n 3, 1) := by decide +kernel
theorem dX12_readOk_25 : decode cX12_readOk 25 = .ok (.invokevirtual 244, 3) := by decide +kernel
theorem dX12_readOk_28 : decode cX12_readOk 28 = .ok (.aload_n 0, 1) := by decide +kernel
theorem dX12_readOk_29 : decode cX12_readOk 29 = .ok (.iload_n 1, 1) := by decide +kernel
theorem dX12_readOk_30 : decode cX12_readOk 30 = .ok (.bipush 48, 2) := by decide +kernel
theorem dX12_readOk_32 : decode cX12_readOk 32 = .ok (.invokevirtual 161, 3) := by decide +kernel
theorem dX12_readOk_35 : decode cX12_readOk 35 = .ok (.ifCond .le 9, 3) := by decide +kernel
theorem dX12_readOk_38 : decode cX12_readOk 38 = .ok (.aload_n 0, 1) := by decide +kernel
theorem dX12_readOk_39 : decode cX12_readOk 39 = .ok (.iload_n 1, 1) := by decide +kernel
theorem dX12_readOk_40 : decode cX12_readOk 40 = .ok (.iconst 0, 1) := by decide +kernel
theorem dX12_readOk_41 : decode cX12_readOk 41 = .ok (.invokevirtual 225, 3) := by decide +kernel
theorem dX12_readOk_44 : decode cX12_readOk 44 = .ok (.return_, 1) := by decide +kernel
theorem dX12_readOk_45 : decode cX12_readOk 45 = .ok (.iload_n 2, 1) := by decide +kernel
theorem dX12_readOk_46 : decode cX12_readOk 46 = .ok (.iconst 3, 1) := by decide +kernel
theorem dX12_readOk_47 : decode cX12_readOk 47 = .ok (.if_icmp .ne 10, 3) := by decide +kernel
theorem dX12_readOk_50 : decode cX12_readOk 50 = .ok (.aload_n 0, 1) := by decide +kernel
theorem dX12_readOk_51 : decode cX12_readOk 51 = .ok (.iload_n 1, 1) := by decide +kernel
theorem dX12_readOk_52 : decode cX12_readOk 52 = .ok (.iconst 0, 1) := by decide +kernel
theorem dX12_readOk_53 : decode cX12_readOk 53 = .ok (.invokevirtual 241, 3) := by decide +kernel
theorem dX12_readOk_56 : decode cX12_readOk 56 = .ok (.return_, 1) := by decide +kernel
theorem dX12_readOk_57 : decode cX12_readOk 57 = .ok (.iconst 0, 1) := by decide +kernel
theorem dX12_readOk_58 : decode cX12_readOk 58 = .ok (.istore 4, 2) := by decide +kernel
theorem dX12_readOk_60 : decode cX12_readOk 60 = .ok (.iload 4, 2) := by decide +kernel
theorem dX12_readOk_62 : decode cX12_readOk 62 = .ok (.aload_n 0, 1) := by decide +kernel
theorem dX12_readOk_63 : decode cX12_readOk 63 = .ok (.getfield 218, 3) := by decide +kernel
theorem dX12_readOk_66 : decode cX12_readOk 66 = .ok (.if_icmp .ge 47, 3) := by decide +kernel
theorem dX12_readOk_69 : decode cX12_readOk 69 = .ok (.iload_n 2, 1) := by decide +kernel
theorem dX12_readOk_70 : decode cX12_readOk 70 = .ok (.iconst 2, 1) := by decide +kernel
theorem dX12_readOk_71 : decode cX12_readOk 71 = .ok (.if_icmp .eq 42, 3) := by decide +kernel
theorem dX12_readOk_74 : decode cX12_readOk 74 = .ok (.iload_n 2, 1) := by decide +kernel
theorem dX12_readOk_75 : decode cX12_readOk 75 = .ok (.ifCond .ne 19, 3) := by decide +kernel
theorem dX12_readOk_78 : decode cX12_readOk 78 = .ok (.aload_n 0, 1) := by decide +kernel
theorem dX12_readOk_79 : decode cX12_readOk 79 = .ok (.iload_n 1, 1) := by decide +kernel
theorem dX12_readOk_80 : decode cX12_readOk 80 = .ok (.iconst 0, 1) := by decide +kernel
theorem dX12_readOk_81 : decode cX12_readOk 81 = .ok (.aload_n 0, 1) := by decide +kernel
theorem dX12_readOk_82 : decode cX12_readOk 82 = .ok (.getfield 47, 3) := by decide +kernel
theorem dX12_readOk_85 : decode cX12_readOk 85 = .ok (.iload 4, 2) := by decide +kernel
theorem dX12_readOk_87 : decode cX12_readOk 87 = .ok (.iaload, 1) := by decide +kernel
theorem dX12_readOk_88 : decode cX12_readOk 88 = .ok (.invokevirtual 228, 3) := by decide +kernel
theorem dX12_readOk_91 : decode cX12_readOk 91 = .ok (.goto 16, 3) := by decide +kernel
theorem dX12_readOk_94 : decode cX12_readOk 94 = .ok (.aload_n 0, 1) := by decide +kernel
theorem dX12_readOk_95 : decode cX12_readOk 95 = .ok (.iload_n 1, 1) := by decide +kernel
theorem dX12_readOk_96 : decode cX12_readOk 96 = .ok (.iconst 0, 1) := by decide +kernel
theorem dX12_readOk_97 : decode cX12_readOk 97 = .ok (.aload_n 0, 1) := by decide +kernel
theorem dX12_readOk_98 : decode cX12_readOk 98 = .ok (.getfield 47, 3) := by decide +kernel
theorem dX12_readOk_101 : decode cX12_readOk 101 = .ok (.iload 4, 2) := by decide +kernel
theorem dX12_readOk_103 : decode cX12_readOk 103 = .ok (.iaload, 1) := by decide +kernel
theorem dX12_readOk_104 : decode cX12_readOk 104 = .ok (.invokevirtual 231, 3) := by decide +kernel
theorem dX12_readOk_107 : decode cX12_readOk 107 = .ok (.iinc 4 1, 3) := by decide +kernel
theorem dX12_readOk_110 : decode cX12_readOk 110 = .ok (.goto (-50), 3) := by decide +kernel
theorem dX12_readOk_113 : decode cX12_readOk 113 = .ok (.iload_n 2, 1) := by decide +kernel
theorem dX12_readOk_114 : decode cX12_readOk 114 = .ok (.iconst 2, 1) := by decide +kernel
theorem dX12_readOk_115 : decode cX12_readOk 115 = .ok (.if_icmp .ne 43, 3) := by decide +kernel
theorem dX12_readOk_118 : decode cX12_readOk 118 = .ok (.aload_n 0, 1) := by decide +kernel
theorem dX12_readOk_119 : decode cX12_readOk 119 = .ok (.iload_n 1, 1) := by decide +kernel
theorem dX12_readOk_120 : decode cX12_readOk 120 = .ok (.iconst 0, 1) := by decide +kernel
theorem dX12_readOk_121 : decode cX12_readOk 121 = .ok (.aload_n 0, 1) := by decide +kernel
theorem dX12_readOk_122 : decode cX12_readOk 122 = .ok (.getfield 47, 3) := by decide +kernel
theorem dX12_readOk_125 : decode cX12_readOk 125 = .ok (.iconst 0, 1) := by decide +kernel
theorem dX12_readOk_126 : decode cX12_readOk 126 = .ok (.iaload, 1) := by decide +kernel
theorem dX12_readOk_127 : decode cX12_readOk 127 = .ok (.invokevirtual 171, 3) := by decide +kernel
theorem dX12_readOk_130 : decode cX12_readOk 130 = .ok (.iconst (-1), 1) := by decide +kernel
theorem dX12_readOk_131 : decode cX12_readOk 131 = .ok (.if_icmp .eq 27, 3) := by decide +kernel
theorem dX12_readOk_134 : decode cX12_readOk 134 = .ok (.aload_n 0, 1) := by decide +kernel
theorem dX12_readOk_135 : decode cX12_readOk 135 = .ok (.iload_n 1, 1) := by decide +kernel
theorem dX12_readOk_136 : decode cX12_readOk 136 = .ok (.iconst 0, 1) := by decide +kernel
theorem dX12_readOk_137 : decode cX12_readOk 137 = .ok (.aload_n 0, 1) := by decide +kernel
theorem dX12_readOk_138 : decode cX12_readOk 138 = .ok (.getfield 47, 3) := by decide +kernel
theorem dX12_readOk_141 : decode cX12_readOk 141 = .ok (.iconst 0, 1) := by decide +kernel
theorem dX12_readOk_142 : decode cX12_readOk 142 = .ok (.iaload, 1) := by decide +kernel
theorem dX12_readOk_143 : decode cX12_readOk 143 = .ok (.invokevirtual 231, 3) := by decide +kernel
theorem dX12_readOk_146 : decode cX12_readOk 146 = .ok (.aload_n 0, 1) := by decide +kernel
theorem dX12_readOk_147 : decode cX12_readOk 147 = .ok (.iload_n 1, 1) := by decide +kernel
theorem dX12_readOk_148 : decode cX12_readOk 148 = .ok (.iconst 0, 1) := by decide +kernel
theorem dX12_readOk_149 : decode cX12_readOk 149 = .ok (.aload_n 0, 1) := by decide +kernel
theorem dX12_readOk_150 : decode cX12_readOk 150 = .ok (.getfield 47, 3) := by decide +kernel
theorem dX12_readOk_153 : decode cX12_readOk 153 = .ok (.iconst 1, 1) := by decide +kernel
theorem dX12_readOk_154 : decode cX12_readOk 154 = .ok (.iaload, 1) := by decide +kernel
theorem dX12_readOk_155 : decode cX12_readOk 155 = .ok (.invokevirtual 228, 3) := by decide +kernel
theorem dX12_readOk_158 : decode cX12_readOk 158 = .ok (.aload_n 0, 1) := by decide +kernel
theorem dX12_readOk_159 : decode cX12_readOk 159 = .ok (.iload_n 1, 1) := by decide +kernel
theorem dX12_readOk_160 : decode cX12_readOk 160 = .ok (.iconst 0, 1) := by decide +kernel
theorem dX12_readOk_161 : decode cX12_readOk 161 = .ok (.invokevirtual 225, 3) := by decide +kernel
theorem dX12_readOk_164 : decode cX12_readOk 164 = .ok (.return_, 1) := by decide +kernel
theorem dX12_readAnswer_0 : decode cX12_readAnswer 0 = .ok (.aload_n 0, 1) := by decide +kernel
theorem dX12_readAnswer_1 : decode cX12_readAnswer 1 = .ok (.iload_n 1, 1) := by decide +kernel
theorem dX12_readAnswer_2 : decode cX12_readAnswer 2 = .ok (.bipush 46, 2) := by decide +kernel
theorem dX12_readAnswer_4 : decode cX12_readAnswer 4 = .ok (.invokevirtual 161, 3) := by decide +kernel
theorem dX12_readAnswer_7 : decode cX12_readAnswer 7 = .ok (.istore_n 2, 1) := by decide +kernel
theorem dX12_readAnswer_8 : decode cX12_readAnswer 8 = .ok (.aload_n 0, 1) := by decide +kernel
theorem dX12_readAnswer_9 : decode cX12_readAnswer 9 = .ok (.iload_n 1, 1) := by decide +kernel
theorem dX12_readAnswer_10 : decode cX12_readAnswer 10 = .ok (.bipush 45, 2) := by decide +kernel
theorem dX12_readAnswer_12 : decode cX12_readAnswer 12 = .ok (.invokevirtual 161, 3) := by decide +kernel
theorem dX12_readAnswer_15 : decode cX12_readAnswer 15 = .ok (.istore_n 3, 1) := by decide +kernel
theorem dX12_readAnswer_16 : decode cX12_readAnswer 16 = .ok (.aload_n 0, 1) := by decide +kernel
theorem dX12_readAnswer_17 : decode cX12_readAnswer 17 = .ok (.iload_n 1, 1) := by decide +kernel
theorem dX12_readAnswer_18 : decode cX12_readAnswer 18 = .ok (.bipush 49, 2) := by decide +kernel
theorem dX12_readAnswer_20 : decode cX12_readAnswer 20 = .ok (.invokevirtual 161, 3) := by decide +kernel
theorem dX12_readAnswer_23 : decode cX12_readAnswer 23 = .ok (.istore 4, 2) := by decide +kernel
theorem dX12_readAnswer_25 : decode cX12_readAnswer 25 = .ok (.aload_n 0, 1) := by decide +kernel
theorem dX12_readAnswer_26 : decode cX12_readAnswer 26 = .ok (.iload_n 1, 1) := by decide +kernel
theorem dX12_readAnswer_27 : decode cX12_readAnswer 27 = .ok (.invokevirtual 234, 3) := by decide +kernel
theorem dX12_readAnswer_30 : decode cX12_readAnswer 30 = .ok (.aload_n 0, 1) := by decide +kernel
theorem dX12_readAnswer_31 : decode cX12_readAnswer 31 = .ok (.iload_n 1, 1) := by decide +kernel
theorem dX12_readAnswer_32 : decode cX12_readAnswer 32 = .ok (.bipush 43, 2) := by decide +kernel
theorem dX12_readAnswer_34 : decode cX12_readAnswer 34 = .ok (.iconst 0, 1) := by decide +kernel
theorem dX12_readAnswer_35 : decode cX12_readAnswer 35 = .ok (.invokevirtual 141, 3) := by decide +kernel
theorem dX12_readAnswer_38 : decode cX12_readAnswer 38 = .ok (.aload_n 0, 1) := by decide +kernel
theorem dX12_readAnswer_39 : decode cX12_readAnswer 39 = .ok (.iload_n 1, 1) := by decide +kernel
theorem dX12_readAnswer_40 : decode cX12_readAnswer 40 = .ok (.iconst 0, 1) := by decide +kernel
theorem dX12_readAnswer_41 : decode cX12_readAnswer 41 = .ok (.invokevirtual 238, 3) := by decide +kernel
theorem dX12_readAnswer_44 : decode cX12_readAnswer 44 = .ok (.iload_n 2, 1) := by decide +kernel
theorem dX12_readAnswer_45 : decode cX12_readAnswer 45 = .ok (.iconst 2, 1) := by decide +kernel
theorem dX12_readAnswer_46 : decode cX12_readAnswer 46 = .ok (.if_icmp .ne 13, 3) := by decide +kernel
theorem dX12_readAnswer_49 : decode cX12_readAnswer 49 = .ok (.aload_n 0, 1) := by decide +kernel
theorem dX12_readAnswer_50 : decode cX12_readAnswer 50 = .ok (.iload_n 1, 1) := by decide +kernel
theorem dX12_readAnswer_51 : decode cX12_readAnswer 51 = .ok (.iconst 3, 1) := by decide +kernel
theorem dX12_readAnswer_52 : decode cX12_readAnswer 52 = .ok (.iconst 0, 1) := by decide +kernel
theorem dX12_readAnswer_53 : decode cX12_readAnswer 53 = .ok (.invokevirtual 253, 3) := by decide +kernel
theorem dX12_readAnswer_56 : decode cX12_readAnswer 56 = .ok (.goto 15, 3) := by decide +kernel
theorem dX12_readAnswer_59 : decode cX12_readAnswer 59 = .ok (.iload_n 2, 1) := by decide +kernel
theorem dX12_readAnswer_60 : decode cX12_readAnswer 60 = .ok (.ifCond .ne 11, 3) := by decide +kernel
theorem dX12_readAnswer_63 : decode cX12_readAnswer 63 = .ok (.aload_n 0, 1) := by decide +kernel
theorem dX12_readAnswer_64 : decode cX12_readAnswer 64 = .ok (.iload_n 1, 1) := by decide +kernel
theorem dX12_readAnswer_65 : decode cX12_readAnswer 65 = .ok (.iload_n 3, 1) := by decide +kernel
theorem dX12_readAnswer_66 : decode cX12_readAnswer 66 = .ok (.iload 4, 2) := by decide +kernel
theorem dX12_readAnswer_68 : decode cX12_readAnswer 68 = .ok (.invokevirtual 256, 3) := by decide +kernel
theorem dX12_readAnswer_71 : decode cX12_readAnswer 71 = .ok (.return_, 1) := by decide +kernel
theorem dX12_readLetters_0 : decode cX12_readLetters 0 = .ok (.iconst 0, 1) := by decide +kernel
theorem dX12_readLetters_1 : decode cX12_readLetters 1 = .ok (.istore_n 1, 1) := by decide +kernel
theorem dX12_readLetters_2 : decode cX12_readLetters 2 = .ok (.iload_n 1, 1) := by decide +kernel
theorem dX12_readLetters_3 : decode cX12_readLetters 3 = .ok (.aload_n 0, 1) := by decide +kernel
theorem dX12_readLetters_4 : decode cX12_readLetters 4 = .ok (.getfield 138, 3) := by decide +kernel
theorem dX12_readLetters_7 : decode cX12_readLetters 7 = .ok (.if_icmp .ge 62, 3) := by decide +kernel
theorem dX12_readLetters_10 : decode cX12_readLetters 10 = .ok (.aload_n 0, 1) := by decide +kernel
theorem dX12_readLetters_11 : decode cX12_readLetters 11 = .ok (.iload_n 1, 1) := by decide +kernel
theorem dX12_readLetters_12 : decode cX12_readLetters 12 = .ok (.bipush 43, 2) := by decide +kernel
theorem dX12_readLetters_14 : decode cX12_readLetters 14 = .ok (.invokevirtual 161, 3) := by decide +kernel
theorem dX12_readLetters_17 : decode cX12_readLetters 17 = .ok (.iconst 1, 1) := by decide +kernel
theorem dX12_readLetters_18 : decode cX12_readLetters 18 = .ok (.if_icmp .ne 45, 3) := by decide +kernel
theorem dX12_readLetters_21 : decode cX12_readLetters 21 = .ok (.aload_n 0, 1) := by decide +kernel
theorem dX12_readLetters_22 : decode cX12_readLetters 22 = .ok (.iload_n 1, 1) := by decide +kernel
theorem dX12_readLetters_23 : decode cX12_readLetters 23 = .ok (.bipush 44, 2) := by decide +kernel
theorem dX12_readLetters_25 : decode cX12_readLetters 25 = .ok (.invokevirtual 161, 3) := by decide +kernel
theorem dX12_readLetters_28 : decode cX12_readLetters 28 = .ok (.ifCond .ne 11, 3) := by decide +kernel
theorem dX12_readLetters_31 : decode cX12_readLetters 31 = .ok (.aload_n 0, 1) := by decide +kernel
theorem dX12_readLetters_32 : decode cX12_readLetters 32 = .ok (.iload_n 1, 1) := by decide +kernel
theorem dX12_readLetters_33 : decode cX12_readLetters 33 = .ok (.invokevirtual 259, 3) := by decide +kernel
theorem dX12_readLetters_36 : decode cX12_readLetters 36 = .ok (.goto 27, 3) := by decide +kernel
theorem dX12_readLetters_39 : decode cX12_readLetters 39 = .ok (.aload_n 0, 1) := by decide +kernel
theorem dX12_readLetters_40 : decode cX12_readLetters 40 = .ok (.iload_n 1, 1) := by decide +kernel
theorem dX12_readLetters_41 : decode cX12_readLetters 41 = .ok (.bipush 44, 2) := by decide +kernel
theorem dX12_readLetters_43 : decode cX12_readLetters 43 = .ok (.invokevirtual 161, 3) := by decide +kernel
theorem dX12_readLetters_46 : decode cX12_readLetters 46 = .ok (.iconst 1, 1) := by decide +kernel
theorem dX12_readLetters_47 : decode cX12_readLetters 47 = .ok (.if_icmp .ne 11, 3) := by decide +kernel
theorem dX12_readLetters_50 : decode cX12_readLetters 50 = .ok (.aload_n 0, 1) := by decide +kernel
theorem dX12_readLetters_51 : decode cX12_readLetters 51 = .ok (.iload_n 1, 1) := by decide +kernel
theorem dX12_readLetters_52 : decode cX12_readLetters 52 = .ok (.invokevirtual 262, 3) := by decide +kernel
theorem dX12_readLetters_55 : decode cX12_readLetters 55 = .ok (.goto 8, 3) := by decide +kernel
theorem dX12_readLetters_58 : decode cX12_readLetters 58 = .ok (.aload_n 0, 1) := by decide +kernel
theorem dX12_readLetters_59 : decode cX12_readLetters 59 = .ok (.iload_n 1, 1) := by decide +kernel
theorem dX12_readLetters_60 : decode cX12_readLetters 60 = .ok (.invokevirtual 265, 3) := by decide +kernel
theorem dX12_readLetters_63 : decode cX12_readLetters 63 = .ok (.iinc 1 1, 3) := by decide +kernel
theorem dX12_readLetters_66 : decode cX12_readLetters 66 = .ok (.goto (-64), 3) := by decide +kernel
theorem dX12_readLetters_69 : decode cX12_readLetters 69 = .ok (.return_, 1) := by decide +kernel
theorem dX12_timeOut_0 : decode cX12_timeOut 0 = .ok (.iconst 0, 1) := by decide +kernel
theorem dX12_timeOut_1 : decode cX12_timeOut 1 = .ok (.istore_n 1, 1) := by decide +kernel
theorem dX12_timeOut_2 : decode cX12_timeOut 2 = .ok (.iload_n 1, 1) := by decide +kernel
theorem dX12_timeOut_3 : decode cX12_timeOut 3 = .ok (.aload_n 0, 1) := by decide +kernel
theorem dX12_timeOut_4 : decode cX12_timeOut 4 = .ok (.getfield 138, 3) := by decide +kernel
theorem dX12_timeOut_7 : decode cX12_timeOut 7 = .ok (.if_icmp .ge 99, 3) := by decide +kernel
theorem dX12_timeOut_10 : decode cX12_timeOut 10 = .ok (.iconst 0, 1) := by decide +kernel
theorem dX12_timeOut_11 : decode cX12_timeOut 11 = .ok (.istore_n 2, 1) := by decide +kernel
theorem dX12_timeOut_12 : decode cX12_timeOut 12 = .ok (.iload_n 2, 1) := by decide +kernel
theorem dX12_timeOut_13 : decode cX12_timeOut 13 = .ok (.iconst 2, 1) := by decide +kernel
theorem dX12_timeOut_14 : decode cX12_timeOut 14 = .ok (.if_icmp .ge 86, 3) := by decide +kernel
theorem dX12_timeOut_17 : decode cX12_timeOut 17 = .ok (.aload_n 0, 1) := by decide +kernel
theorem dX12_timeOut_18 : decode cX12_timeOut 18 = .ok (.iload_n 1, 1) := by decide +kernel
theorem dX12_timeOut_19 : decode cX12_timeOut 19 = .ok (.bipush 28, 2) := by decide +kernel
theorem dX12_timeOut_21 : decode cX12_timeOut 21 = .ok (.iload_n 2, 1) := by decide +kernel
theorem dX12_timeOut_22 : decode cX12_timeOut 22 = .ok (.iadd, 1) := by decide +kernel
theorem dX12_timeOut_23 : decode cX12_timeOut 23 = .ok (.invokevirtual 161, 3) := by decide +kernel
theorem dX12_timeOut_26 : decode cX12_timeOut 26 = .ok (.iconst 1, 1) := by decide +kernel
theorem dX12_timeOut_27 : decode cX12_timeOut 27 = .ok (.if_icmp .ne 67, 3) := by decide +kernel
theorem dX12_timeOut_30 : decode cX12_timeOut 30 = .ok (.aload_n 0, 1) := by decide +kernel
theorem dX12_timeOut_31 : decode cX12_timeOut 31 = .ok (.iload_n 1, 1) := by decide +kernel
theorem dX12_timeOut_32 : decode cX12_timeOut 32 = .ok (.bipush 43, 2) := by decide +kernel
theorem dX12_timeOut_34 : decode cX12_timeOut 34 = .ok (.invokevirtual 161, 3) := by decide +kernel
theorem dX12_timeOut_37 : decode cX12_timeOut 37 = .ok (.ifCond .ne 57, 3) := by decide +kernel
theorem dX12_timeOut_40 : decode cX12_timeOut 40 = .ok (.aload_n 0, 1) := by decide +kernel
theorem dX12_timeOut_41 : decode cX12_timeOut 41 = .ok (.getfield 31, 3) := by decide +kernel
theorem dX12_timeOut_44 : decode cX12_timeOut 44 = .ok (.sipush 368, 3) := by decide +kernel
theorem dX12_timeOut_47 : decode cX12_timeOut 47 = .ok (.iaload, 1) := by decide +kernel
theorem dX12_timeOut_48 : decode cX12_timeOut 48 = .ok (.aload_n 0, 1) := by decide +kernel
theorem dX12_timeOut_49 : decode cX12_timeOut 49 = .ok (.iload_n 1, 1) := by decide +kernel
theorem dX12_timeOut_50 : decode cX12_timeOut 50 = .ok (.bipush 30, 2) := by decide +kernel
theorem dX12_timeOut_52 : decode cX12_timeOut 52 = .ok (.iload_n 2, 1) := by decide +kernel
theorem dX12_timeOut_53 : decode cX12_timeOut 53 = .ok (.iadd, 1) := by decide +kernel
theorem dX12_timeOut_54 : decode cX12_timeOut 54 = .ok (.invokevirtual 161, 3) := by decide +kernel
theorem dX12_timeOut_57 : decode cX12_timeOut 57 = .ok (.isub, 1) := by decide +kernel
theorem dX12_timeOut_58 : decode cX12_timeOut 58 = .ok (.aload_n 0, 1) := by decide +kernel
theorem dX12_timeOut_59 : decode cX12_timeOut 59 = .ok (.getfield 22, 3) := by decide +kernel
theorem dX12_timeOut_62 : decode cX12_timeOut 62 = .ok (.iconst 2, 1) := by decide +kernel
theorem dX12_timeOut_63 : decode cX12_timeOut 63 = .ok (.iaload, 1) := by decide +kernel
theorem dX12_timeOut_64 : decode cX12_timeOut 64 = .ok (.if_icmp .lt 30, 3) := by decide +kernel
theorem dX12_timeOut_67 : decode cX12_timeOut 67 = .ok (.aload_n 0, 1) := by decide +kernel
theorem dX12_timeOut_68 : decode cX12_timeOut 68 = .ok (.iload_n 1, 1) := by decide +kernel
theorem dX12_timeOut_69 : decode cX12_timeOut 69 = .ok (.iload_n 2, 1) := by decide +kernel
theorem dX12_timeOut_70 : decode cX12_timeOut 70 = .ok (.invokevirtual 238, 3) := by decide +kernel
theorem dX12_timeOut_73 : decode cX12_timeOut 73 = .ok (.iload_n 2, 1) := by decide +kernel
theorem dX12_timeOut_74 : decode cX12_timeOut 74 = .ok (.ifCond .ne 20, 3) := by decide +kernel
theorem dX12_timeOut_77 : decode cX12_timeOut 77 = .ok (.aload_n 0, 1) := by decide +kernel
theorem dX12_timeOut_78 : decode cX12_timeOut 78 = .ok (.iload_n 1, 1) := by decide +kernel
theorem dX12_timeOut_79 : decode cX12_timeOut 79 = .ok (.bipush 32, 2) := by decide +kernel
theorem dX12_timeOut_81 : decode cX12_timeOut 81 = .ok (.invokevirtual 161, 3) := by decide +kernel
theorem dX12_timeOut_84 : decode cX12_timeOut 84 = .ok (.iconst 3, 1) := by decide +kernel
theorem dX12_timeOut_85 : decode cX12_timeOut 85 = .ok (.if_icmp .ne 9, 3) := by decide +kernel
theorem dX12_timeOut_88 : decode cX12_timeOut 88 = .ok (.aload_n 0, 1) := by decide +kernel
theorem dX12_timeOut_89 : decode cX12_timeOut 89 = .ok (.iload_n 1, 1) := by decide +kernel
theorem dX12_timeOut_90 : decode cX12_timeOut 90 = .ok (.iconst 0, 1) := by decide +kernel
theorem dX12_timeOut_91 : decode cX12_timeOut 91 = .ok (.invokevirtual 241, 3) := by decide +kernel
theorem dX12_timeOut_94 : decode cX12_timeOut 94 = .ok (.iinc 2 1, 3) := by decide +kernel
theorem dX12_timeOut_97 : decode cX12_timeOut 97 = .ok (.goto (-85), 3) := by decide +kernel
theorem dX12_timeOut_100 : decode cX12_timeOut 100 = .ok (.iinc 1 1, 3) := by decide +kernel
theorem dX12_timeOut_103 : decode cX12_timeOut 103 = .ok (.goto (-101), 3) := by decide +kernel
theorem dX12_timeOut_106 : decode cX12_timeOut 106 = .ok (.return_, 1) := by decide +kernel
theorem dX12_channelOf_0 : decode cX12_channelOf 0 = .ok (.iload_n 1, 1) := by decide +kernel
theorem dX12_channelOf_1 : decode cX12_channelOf 1 = .ok (.aload_n 0, 1) := by decide +kernel
theorem dX12_channelOf_2 : decode cX12_channelOf 2 = .ok (.getfield 22, 3) := by decide +kernel
theorem dX12_channelOf_5 : decode cX12_channelOf 5 = .ok (.iconst 0, 1) := by decide +kernel
theorem dX12_channelOf_6 : decode cX12_channelOf 6 = .ok (.iaload, 1) := by decide +kernel
theorem dX12_channelOf_7 : decode cX12_channelOf 7 = .ok (.imul, 1) := by decide +kernel
theorem dX12_channelOf_8 : decode cX12_channelOf 8 = .ok (.iload_n 2, 1) := by decide +kernel
theorem dX12_channelOf_9 : decode cX12_channelOf 9 = .ok (.bipush 10, 2) := by decide +kernel
theorem dX12_channelOf_11 : decode cX12_channelOf 11 = .ok (.idiv, 1) := by decide +kernel
theorem dX12_channelOf_12 : decode cX12_channelOf 12 = .ok (.iadd, 1) := by decide +kernel
theorem dX12_channelOf_13 : decode cX12_channelOf 13 = .ok (.iload_n 2, 1) := by decide +kernel
theorem dX12_channelOf_14 : decode cX12_channelOf 14 = .ok (.bipush 10, 2) := by decide +kernel
theorem dX12_channelOf_16 : decode cX12_channelOf 16 = .ok (.irem, 1) := by decide +kernel
theorem dX12_channelOf_17 : decode cX12_channelOf 17 = .ok (.iadd, 1) := by decide +kernel
theorem dX12_channelOf_18 : decode cX12_channelOf 18 = .ok (.istore_n 3, 1) := by decide +kernel
theorem dX12_channelOf_19 : decode cX12_channelOf 19 = .ok (.aload_n 0, 1) := by decide +kernel
theorem dX12_channelOf_20 : decode cX12_channelOf 20 = .ok (.getfield 152, 3) := by decide +kernel
theorem dX12_channelOf_23 : decode cX12_channelOf 23 = .ok (.ifCond .ne 14, 3) := by decide +kernel
theorem dX12_channelOf_26 : decode cX12_channelOf 26 = .ok (.iload_n 3, 1) := by decide +kernel
theorem dX12_channelOf_27 : decode cX12_channelOf 27 = .ok (.aload_n 0, 1) := by decide +kernel
theorem dX12_channelOf_28 : decode cX12_channelOf 28 = .ok (.getfield 22, 3) := by decide +kernel
theorem dX12_channelOf_31 : decode cX12_channelOf 31 = .ok (.iconst 1, 1) := by decide +kernel
theorem dX12_channelOf_32 : decode cX12_channelOf 32 = .ok (.iaload, 1) := by decide +kernel
theorem dX12_channelOf_33 : decode cX12_channelOf 33 = .ok (.irem, 1) := by decide +kernel
theorem dX12_channelOf_34 : decode cX12_channelOf 34 = .ok (.goto 14, 3) := by decide +kernel
theorem dX12_channelOf_37 : decode cX12_channelOf 37 = .ok (.aload_n 0, 1) := by decide +kernel
theorem dX12_channelOf_38 : decode cX12_channelOf 38 = .ok (.getfield 28, 3) := by decide +kernel
theorem dX12_channelOf_41 : decode cX12_channelOf 41 = .ok (.iload_n 3, 1) := by decide +kernel
theorem dX12_channelOf_42 : decode cX12_channelOf 42 = .ok (.aload_n 0, 1) := by decide +kernel
theorem dX12_channelOf_43 : decode cX12_channelOf 43 = .ok (.getfield 152, 3) := by decide +kernel
theorem dX12_channelOf_46 : decode cX12_channelOf 46 = .ok (.irem, 1) := by decide +kernel
theorem dX12_channelOf_47 : decode cX12_channelOf 47 = .ok (.iaload, 1) := by decide +kernel
theorem dX12_channelOf_48 : decode cX12_channelOf 48 = .ok (.ireturn, 1) := by decide +kernel
theorem dX12_doesSend_0 : decode cX12_doesSend 0 = .ok (.iconst 0, 1) := by decide +kernel
theorem dX12_doesSend_1 : decode cX12_doesSend 1 = .ok (.istore_n 3, 1) := by decide +kernel
theorem dX12_doesSend_2 : decode cX12_doesSend 2 = .ok (.iload_n 3, 1) := by decide +kernel
theorem dX12_doesSend_3 : decode cX12_doesSend 3 = .ok (.aload_n 0, 1) := by decide +kernel
theorem dX12_doesSend_4 : decode cX12_doesSend 4 = .ok (.getfield 50, 3) := by decide +kernel
theorem dX12_doesSend_7 : decode cX12_doesSend 7 = .ok (.iload_n 1, 1) := by decide +kernel
theorem dX12_doesSend_8 : decode cX12_doesSend 8 = .ok (.iaload, 1) := by decide +kernel
theorem dX12_doesSend_9 : decode cX12_doesSend 9 = .ok (.if_icmp .ge 22, 3) := by decide +kernel
theorem dX12_doesSend_12 : decode cX12_doesSend 12 = .ok (.aload_n 0, 1) := by decide +kernel
theorem dX12_doesSend_13 : decode cX12_doesSend 13 = .ok (.iload_n 1, 1) := by decide +kernel
theorem dX12_doesSend_14 : decode cX12_doesSend 14 = .ok (.iconst 0, 1) := by decide +kernel
theorem dX12_doesSend_15 : decode cX12_doesSend 15 = .ok (.iload_n 3, 1) := by decide +kernel
theorem dX12_doesSend_16 : decode cX12_doesSend 16 = .ok (.invokevirtual 167, 3) := by decide +kernel
theorem dX12_doesSend_19 : decode cX12_doesSend 19 = .ok (.iload_n 2, 1) := by decide +kernel
theorem dX12_doesSend_20 : decode cX12_doesSend 20 = .ok (.if_icmp .ne 5, 3) := by decide +kernel
theorem dX12_doesSend_23 : decode cX12_doesSend 23 = .ok (.iconst 1, 1) := by decide +kernel
theorem dX12_doesSend_24 : decode cX12_doesSend 24 = .ok (.ireturn, 1) := by decide +kernel
theorem dX12_doesSend_25 : decode cX12_doesSend 25 = .ok (.iinc 3 1, 3) := by decide +kernel
theorem dX12_doesSend_28 : decode cX12_doesSend 28 = .ok (.goto (-26), 3) := by decide +kernel
theorem dX12_doesSend_31 : decode cX12_doesSend 31 = .ok (.iconst 0, 1) := by decide +kernel
theorem dX12_doesSend_32 : decode cX12_doesSend 32 = .ok (.ireturn, 1) := by decide +kernel
theorem dX12_isGot_0 : decode cX12_isGot 0 = .ok (.aload_n 0, 1) := by decide +kernel
theorem dX12_isGot_1 : decode cX12_isGot 1 = .ok (.iload_n 1, 1) := by decide +kernel
theorem dX12_isGot_2 : decode cX12_isGot 2 = .ok (.iconst 1, 1) := by decide +kernel
theorem dX12_isGot_3 : decode cX12_isGot 3 = .ok (.iload_n 2, 1) := by decide +kernel
theorem dX12_isGot_4 : decode cX12_isGot 4 = .ok (.invokevirtual 171, 3) := by decide +kernel
theorem dX12_isGot_7 : decode cX12_isGot 7 = .ok (.iconst (-1), 1) := by decide +kernel
theorem dX12_isGot_8 : decode cX12_isGot 8 = .ok (.if_icmp .eq 34, 3) := by decide +kernel
theorem dX12_isGot_11 : decode cX12_isGot 11 = .ok (.aload_n 0, 1) := by decide +kernel
theorem dX12_isGot_12 : decode cX12_isGot 12 = .ok (.getfield 31, 3) := by decide +kernel
theorem dX12_isGot_15 : decode cX12_isGot 15 = .ok (.sipush 366, 3) := by decide +kernel
theorem dX12_isGot_18 : decode cX12_isGot 18 = .ok (.iaload, 1) := by decide +kernel
theorem dX12_isGot_19 : decode cX12_isGot 19 = .ok (.aload_n 0, 1) := by decide +kernel
theorem dX12_isGot_20 : decode cX12_isGot 20 = .ok (.aload_n 0, 1) := by decide +kernel
theorem dX12_isGot_21 : decode cX12_isGot 21 = .ok (.getfield 31, 3) := by decide +kernel
theorem dX12_isGot_24 : decode cX12_isGot 24 = .ok (.sipush 368, 3) := by decide +kernel
theorem dX12_isGot_27 : decode cX12_isGot 27 = .ok (.iaload, 1) := by decide +kernel
theorem dX12_isGot_28 : decode cX12_isGot 28 = .ok (.iload_n 2, 1) := by decide +kernel
theorem dX12_isGot_29 : decode cX12_isGot 29 = .ok (.invokevirtual 268, 3) := by decide +kernel
theorem dX12_isGot_32 : decode cX12_isGot 32 = .ok (.invokestatic 106, 3) := by decide +kernel
theorem dX12_isGot_35 : decode cX12_isGot 35 = .ok (.ifCond .ne 7, 3) := by decide +kernel
theorem dX12_isGot_38 : decode cX12_isGot 38 = .ok (.iconst 1, 1) := by decide +kernel
theorem dX12_isGot_39 : decode cX12_isGot 39 = .ok (.goto 4, 3) := by decide +kernel
theorem dX12_isGot_42 : decode cX12_isGot 42 = .ok (.iconst 0, 1) := by decide +kernel
theorem dX12_isGot_43 : decode cX12_isGot 43 = .ok (.istore_n 3, 1) := by decide +kernel
theorem dX12_isGot_44 : decode cX12_isGot 44 = .ok (.iconst 0, 1) := by decide +kernel
theorem dX12_isGot_45 : decode cX12_isGot 45 = .ok (.istore 4, 2) := by decide +kernel
theorem dX12_isGot_47 : decode cX12_isGot 47 = .ok (.iload 4, 2) := by decide +kernel
theorem dX12_isGot_49 : decode cX12_isGot 49 = .ok (.aload_n 0, 1) := by decide +kernel
theorem dX12_isGot_50 : decode cX12_isGot 50 = .ok (.getfield 138, 3) := by decide +kernel
theorem dX12_isGot_53 : decode cX12_isGot 53 = .ok (.if_icmp .ge 35, 3) := by decide +kernel
theorem dX12_isGot_56 : decode cX12_isGot 56 = .ok (.iload_n 3, 1) := by decide +kernel
theorem dX12_isGot_57 : decode cX12_isGot 57 = .ok (.ifCond .eq 23, 3) := by decide +kernel
theorem dX12_isGot_60 : decode cX12_isGot 60 = .ok (.iload 4, 2) := by decide +kernel
theorem dX12_isGot_62 : decode cX12_isGot 62 = .ok (.iload_n 1, 1) := by decide +kernel
theorem dX12_isGot_63 : decode cX12_isGot 63 = .ok (.if_icmp .eq 13, 3) := by decide +kernel
theorem dX12_isGot_66 : decode cX12_isGot 66 = .ok (.aload_n 0, 1) := by decide +kernel
theorem dX12_isGot_67 : decode cX12_isGot 67 = .ok (.iload 4, 2) := by decide +kernel
theorem dX12_isGot_69 : decode cX12_isGot 69 = .ok (.iload_n 2, 1) := by decide +kernel
theorem dX12_isGot_70 : decode cX12_isGot 70 = .ok (.invokevirtual 271, 3) := by decide +kernel
theorem dX12_isGot_73 : decode cX12_isGot 73 = .ok (.ifCond .ne 7, 3) := by decide +kernel
theorem dX12_isGot_76 : decode cX12_isGot 76 = .ok (.iconst 1, 1) := by decide +kernel
theorem dX12_isGot_77 : decode cX12_isGot 77 = .ok (.goto 4, 3) := by decide +kernel
theorem dX12_isGot_80 : decode cX12_isGot 80 = .ok (.iconst 0, 1) := by decide +kernel
theorem dX12_isGot_81 : decode cX12_isGot 81 = .ok (.istore_n 3, 1) := by decide +kernel
theorem dX12_isGot_82 : decode cX12_isGot 82 = .ok (.iinc 4 1, 3) := by decide +kernel
theorem dX12_isGot_85 : decode cX12_isGot 85 = .ok (.goto (-38), 3) := by decide +kernel
theorem dX12_isGot_88 : decode cX12_isGot 88 = .ok (.iload_n 3, 1) := by decide +kernel
theorem dX12_isGot_89 : decode cX12_isGot 89 = .ok (.ireturn, 1) := by decide +kernel
theorem dX12_sendAll_0 : decode cX12_sendAll 0 = .ok (.aload_n 0, 1) := by decide +kernel
theorem dX12_sendAll_1 : decode cX12_sendAll 1 = .ok (.iconst 0, 1) := by decide +kernel
theorem dX12_sendAll_2 : decode cX12_sendAll 2 = .ok (.putfield 274, 3) := by decide +kernel
theorem dX12_sendAll_5 : decode cX12_sendAll 5 = .ok (.iconst 0, 1) := by decide +kernel
theorem dX12_sendAll_6 : decode cX12_sendAll 6 = .ok (.istore_n 1, 1) := by decide +kernel
theorem dX12_sendAll_7 : decode cX12_sendAll 7 = .ok (.iload_n 1, 1) := by decide +kernel
theorem dX12_sendAll_8 : decode cX12_sendAll 8 = .ok (.aload_n 0, 1) := by decide +kernel
theorem dX12_sendAll_9 : decode cX12_sendAll 9 = .ok (.getfield 138, 3) := by decide +kernel
theorem dX12_sendAll_12 : decode cX12_sendAll 12 = .ok (.if_icmp .ge 59, 3) := by decide +kernel
theorem dX12_sendAll_15 : decode cX12_sendAll 15 = .ok (.aload_n 0, 1) := by decide +kernel
theorem dX12_sendAll_16 : decode cX12_sendAll 16 = .ok (.iload_n 1, 1) := by decide +kernel
theorem dX12_sendAll_17 : decode cX12_sendAll 17 = .ok (.bipush 57, 2) := by decide +kernel
theorem dX12_sendAll_19 : decode cX12_sendAll 19 = .ok (.bipush 99, 2) := by decide +kernel
theorem dX12_sendAll_21 : decode cX12_sendAll 21 = .ok (.aload_n 0, 1) := by decide +kernel
theorem dX12_sendAll_22 : decode cX12_sendAll 22 = .ok (.iload_n 1, 1) := by decide +kernel
theorem dX12_sendAll_23 : decode cX12_sendAll 23 = .ok (.bipush 57, 2) := by decide +kernel
theorem dX12_sendAll_25 : decode cX12_sendAll 25 = .ok (.invokevirtual 161, 3) := by decide +kernel
theorem dX12_sendAll_28 : decode cX12_sendAll 28 = .ok (.aload_n 0, 1) := by decide +kernel
theorem dX12_sendAll_29 : decode cX12_sendAll 29 = .ok (.iload_n 1, 1) := by decide +kernel
theorem dX12_sendAll_30 : decode cX12_sendAll 30 = .ok (.bipush 58, 2) := by decide +kernel
theorem dX12_sendAll_32 : decode cX12_sendAll 32 = .ok (.invokevirtual 161, 3) := by decide +kernel
theorem dX12_sendAll_35 : decode cX12_sendAll 35 = .ok (.iadd, 1) := by decide +kernel
theorem dX12_sendAll_36 : decode cX12_sendAll 36 = .ok (.invokestatic 194, 3) := by decide +kernel
theorem dX12_sendAll_39 : decode cX12_sendAll 39 = .ok (.invokevirtual 141, 3) := by decide +kernel
theorem dX12_sendAll_42 : decode cX12_sendAll 42 = .ok (.aload_n 0, 1) := by decide +kernel
theorem dX12_sendAll_43 : decode cX12_sendAll 43 = .ok (.getfield 50, 3) := by decide +kernel
theorem dX12_sendAll_46 : decode cX12_sendAll 46 = .ok (.iload_n 1, 1) := by decide +kernel
theorem dX12_sendAll_47 : decode cX12_sendAll 47 = .ok (.aload_n 0, 1) := by decide +kernel
theorem dX12_sendAll_48 : decode cX12_sendAll 48 = .ok (.iload_n 1, 1) := by decide +kernel
theorem dX12_sendAll_49 : decode cX12_sendAll 49 = .ok (.bipush 18, 2) := by decide +kernel
theorem dX12_sendAll_51 : decode cX12_sendAll 51 = .ok (.invokevirtual 161, 3) := by decide +kernel
theorem dX12_sendAll_54 : decode cX12_sendAll 54 = .ok (.aload_n 0, 1) := by decide +kernel
theorem dX12_sendAll_55 : decode cX12_sendAll 55 = .ok (.iload_n 1, 1) := by decide +kernel
theorem dX12_sendAll_56 : decode cX12_sendAll 56 = .ok (.bipush 57, 2) := by decide +kernel
theorem dX12_sendAll_58 : decode cX12_sendAll 58 = .ok (.invokevirtual 161, 3) := by decide +kernel
theorem dX12_sendAll_61 : decode cX12_sendAll 61 = .ok (.invokestatic 194, 3) := by decide +kernel
theorem dX12_sendAll_64 : decode cX12_sendAll 64 = .ok (.iastore, 1) := by decide +kernel
theorem dX12_sendAll_65 : decode cX12_sendAll 65 = .ok (.iinc 1 1, 3) := by decide +kernel
theorem dX12_sendAll_68 : decode cX12_sendAll 68 = .ok (.goto (-61), 3) := by decide +kernel
theorem dX12_sendAll_71 : decode cX12_sendAll 71 = .ok (.iconst 0, 1) := by decide +kernel
theorem dX12_sendAll_72 : decode cX12_sendAll 72 = .ok (.istore_n 1, 1) := by decide +kernel
theorem dX12_sendAll_73 : decode cX12_sendAll 73 = .ok (.iload_n 1, 1) := by decide +kernel
theorem dX12_sendAll_74 : decode cX12_sendAll 74 = .ok (.aload_n 0, 1) := by decide +kernel
theorem dX12_sendAll_75 : decode cX12_sendAll 75 = .ok (.getfield 138, 3) := by decide +kernel
theorem dX12_sendAll_78 : decode cX12_sendAll 78 = .ok (.if_icmp .ge 173, 3) := by decide +kernel
theorem dX12_sendAll_81 : decode cX12_sendAll 81 = .ok (.iconst 0, 1) := by decide +kernel
theorem dX12_sendAll_82 : decode cX12_sendAll 82 = .ok (.istore_n 2, 1) := by decide +kernel
theorem dX12_sendAll_83 : decode cX12_sendAll 83 = .ok (.iload_n 2, 1) := by decide +kernel
theorem dX12_sendAll_84 : decode cX12_sendAll 84 = .ok (.aload_n 0, 1) := by decide +kernel
theorem dX12_sendAll_85 : decode cX12_sendAll 85 = .ok (.getfield 50, 3) := by decide +kernel
theorem dX12_sendAll_88 : decode cX12_sendAll 88 = .ok (.iload_n 1, 1) := by decide +kernel
theorem dX12_sendAll_89 : decode cX12_sendAll 89 = .ok (.iaload, 1) := by decide +kernel
theorem dX12_sendAll_90 : decode cX12_sendAll 90 = .ok (.if_icmp .ge 112, 3) := by decide +kernel
theorem dX12_sendAll_93 : decode cX12_sendAll 93 = .ok (.aload_n 0, 1) := by decide +kernel
theorem dX12_sendAll_94 : decode cX12_sendAll 94 = .ok (.iload_n 1, 1) := by decide +kernel
theorem dX12_sendAll_95 : decode cX12_sendAll 95 = .ok (.bipush 6, 2) := by decide +kernel
theorem dX12_sendAll_97 : decode cX12_sendAll 97 = .ok (.iload_n 2, 1) := by decide +kernel
theorem dX12_sendAll_98 : decode cX12_sendAll 98 = .ok (.iadd, 1) := by decide +kernel
theorem dX12_sendAll_99 : decode cX12_sendAll 99 = .ok (.sipush 999, 3) := by decide +kernel
theorem dX12_sendAll_102 : decode cX12_sendAll 102 = .ok (.aload_n 0, 1) := by decide +kernel
theorem dX12_sendAll_103 : decode cX12_sendAll 103 = .ok (.iload_n 1, 1) := by decide +kernel
theorem dX12_sendAll_104 : decode cX12_sendAll 104 = .ok (.bipush 6, 2) := by decide +kernel
theorem dX12_sendAll_106 : decode cX12_sendAll 106 = .ok (.iload_n 2, 1) := by decide +kernel
theorem dX12_sendAll_107 : decode cX12_sendAll 107 = .ok (.iadd, 1) := by decide +kernel
theorem dX12_sendAll_108 : decode cX12_sendAll 108 = .ok (.invokevirtual 161, 3) := by decide +kernel
theorem dX12_sendAll_111 : decode cX12_sendAll 111 = .ok (.iconst 1, 1) := by decide +kernel
theorem dX12_sendAll_112 : decode cX12_sendAll 112 = .ok (.iadd, 1) := by decide +kernel
theorem dX12_sendAll_113 : decode cX12_sendAll 113 = .ok (.invokestatic 194, 3) := by decide +kernel
theorem dX12_sendAll_116 : decode cX12_sendAll 116 = .ok (.invokevirtual 141, 3) := by decide +kernel
theorem dX12_sendAll_119 : decode cX12_sendAll 119 = .ok (.aload_n 0, 1) := by decide +kernel
theorem dX12_sendAll_120 : decode cX12_sendAll 120 = .ok (.iload_n 1, 1) := by decide +kernel
theorem dX12_sendAll_121 : decode cX12_sendAll 121 = .ok (.aload_n 0, 1) := by decide +kernel
theorem dX12_sendAll_122 : decode cX12_sendAll 122 = .ok (.iload_n 1, 1) := by decide +kernel
theorem dX12_sendAll_123 : decode cX12_sendAll 123 = .ok (.iconst 0, 1) := by decide +kernel
theorem dX12_sendAll_124 : decode cX12_sendAll 124 = .ok (.iload_n 2, 1) := by decide +kernel
theorem dX12_sendAll_125 : decode cX12_sendAll 125 = .ok (.invokevirtual 167, 3) := by decide +kernel
theorem dX12_sendAll_128 : decode cX12_sendAll 128 = .ok (.invokevirtual 277, 3) := by decide +kernel
theorem dX12_sendAll_131 : decode cX12_sendAll 131 = .ok (.ifCond .eq 65, 3) := by decide +kernel
theorem dX12_sendAll_134 : decode cX12_sendAll 134 = .ok (.aload_n 0, 1) := by decide +kernel
theorem dX12_sendAll_135 : decode cX12_sendAll 135 = .ok (.iload_n 1, 1) := by decide +kernel
theorem dX12_sendAll_136 : decode cX12_sendAll 136 = .ok (.bipush 12, 2) := by decide +kernel
theorem dX12_sendAll_138 : decode cX12_sendAll 138 = .ok (.iload_n 2, 1) := by decide +kernel
theorem dX12_sendAll_139 : decode cX12_sendAll 139 = .ok (.iadd, 1) := by decide +kernel
theorem dX12_sendAll_140 : decode cX12_sendAll 140 = .ok (.sipush 999, 3) := by decide +kernel
theorem dX12_sendAll_143 : decode cX12_sendAll 143 = .ok (.aload_n 0, 1) := by decide +kernel
theorem dX12_sendAll_144 : decode cX12_sendAll 144 = .ok (.iload_n 1, 1) := by decide +kernel
theorem dX12_sendAll_145 : decode cX12_sendAll 145 = .ok (.bipush 12, 2) := by decide +kernel
theorem dX12_sendAll_147 : decode cX12_sendAll 147 = .ok (.iload_n 2, 1) := by decide +kernel
theorem dX12_sendAll_148 : decode cX12_sendAll 148 = .ok (.iadd, 1) := by decide +kernel
theorem dX12_sendAll_149 : decode cX12_sendAll 149 = .ok (.invokevirtual 161, 3) := by decide +kernel
theorem dX12_sendAll_152 : decode cX12_sendAll 152 = .ok (.iconst 1, 1) := by decide +kernel
theorem dX12_sendAll_153 : decode cX12_sendAll 153 = .ok (.iadd, 1) := by decide +kernel
theorem dX12_sendAll_154 : decode cX12_sendAll 154 = .ok (.invokestatic 194, 3) := by decide +kernel
theorem dX12_sendAll_157 : decode cX12_sendAll 157 = .ok (.invokevirtual 141, 3) := by decide +kernel
theorem dX12_sendAll_160 : decode cX12_sendAll 160 = .ok (.aload_n 0, 1) := by decide +kernel
theorem dX12_sendAll_161 : decode cX12_sendAll 161 = .ok (.iload_n 1, 1) := by decide +kernel
theorem dX12_sendAll_162 : decode cX12_sendAll 162 = .ok (.bipush 57, 2) := by decide +kernel
theorem dX12_sendAll_164 : decode cX12_sendAll 164 = .ok (.aload_n 0, 1) := by decide +kernel
theorem dX12_sendAll_165 : decode cX12_sendAll 165 = .ok (.iload_n 1, 1) := by decide +kernel
theorem dX12_sendAll_166 : decode cX12_sendAll 166 = .ok (.bipush 57, 2) := by decide +kernel
theorem dX12_sendAll_168 : decode cX12_sendAll 168 = .ok (.invokevirtual 161, 3) := by decide +kernel
theorem dX12_sendAll_171 : decode cX12_sendAll 171 = .ok (.iconst 1, 1) := by decide +kernel
theorem dX12_sendAll_172 : decode cX12_sendAll 172 = .ok (.isub, 1) := by decide +kernel
theorem dX12_sendAll_173 : decode cX12_sendAll 173 = .ok (.invokevirtual 141, 3) := by decide +kernel
theorem dX12_sendAll_176 : decode cX12_sendAll 176 = .ok (.aload_n 0, 1) := by decide +kernel
theorem dX12_sendAll_177 : decode cX12_sendAll 177 = .ok (.getfield 41, 3) := by decide +kernel
theorem dX12_sendAll_180 : decode cX12_sendAll 180 = .ok (.iload_n 1, 1) := by decide +kernel
theorem dX12_sendAll_181 : decode cX12_sendAll 181 = .ok (.dup2, 1) := by decide +kernel
theorem dX12_sendAll_182 : decode cX12_sendAll 182 = .ok (.iaload, 1) := by decide +kernel
theorem dX12_sendAll_183 : decode cX12_sendAll 183 = .ok (.iconst 1, 1) := by decide +kernel
theorem dX12_sendAll_184 : decode cX12_sendAll 184 = .ok (.iadd, 1) := by decide +kernel
theorem dX12_sendAll_185 : decode cX12_sendAll 185 = .ok (.iastore, 1) := by decide +kernel
theorem dX12_sendAll_186 : decode cX12_sendAll 186 = .ok (.aload_n 0, 1) := by decide +kernel
theorem dX12_sendAll_187 : decode cX12_sendAll 187 = .ok (.dup, 1) := by decide +kernel
theorem dX12_sendAll_188 : decode cX12_sendAll 188 = .ok (.getfield 274, 3) := by decide +kernel
theorem dX12_sendAll_191 : decode cX12_sendAll 191 = .ok (.iconst 1, 1) := by decide +kernel
theorem dX12_sendAll_192 : decode cX12_sendAll 192 = .ok (.iadd, 1) := by decide +kernel
theorem dX12_sendAll_193 : decode cX12_sendAll 193 = .ok (.putfield 274, 3) := by decide +kernel
theorem dX12_sendAll_196 : decode cX12_sendAll 196 = .ok (.iinc 2 1, 3) := by decide +kernel
theorem dX12_sendAll_199 : decode cX12_sendAll 199 = .ok (.goto (-116), 3) := by decide +kernel
theorem dX12_sendAll_202 : decode cX12_sendAll 202 = .ok (.aload_n 0, 1) := by decide +kernel
theorem dX12_sendAll_203 : decode cX12_sendAll 203 = .ok (.iload_n 1, 1) := by decide +kernel
theorem dX12_sendAll_204 : decode cX12_sendAll 204 = .ok (.bipush 59, 2) := by decide +kernel
theorem dX12_sendAll_206 : decode cX12_sendAll 206 = .ok (.aload_n 0, 1) := by decide +kernel
theorem dX12_sendAll_207 : decode cX12_sendAll 207 = .ok (.iload_n 1, 1) := by decide +kernel
theorem dX12_sendAll_208 : decode cX12_sendAll 208 = .ok (.bipush 59, 2) := by decide +kernel
theorem dX12_sendAll_210 : decode cX12_sendAll 210 = .ok (.invokevirtual 161, 3) := by decide +kernel
theorem dX12_sendAll_213 : decode cX12_sendAll 213 = .ok (.aload_n 0, 1) := by decide +kernel
theorem dX12_sendAll_214 : decode cX12_sendAll 214 = .ok (.getfield 50, 3) := by decide +kernel
theorem dX12_sendAll_217 : decode cX12_sendAll 217 = .ok (.iload_n 1, 1) := by decide +kernel
theorem dX12_sendAll_218 : decode cX12_sendAll 218 = .ok (.iaload, 1) := by decide +kernel
theorem dX12_sendAll_219 : decode cX12_sendAll 219 = .ok (.iadd, 1) := by decide +kernel
theorem dX12_sendAll_220 : decode cX12_sendAll 220 = .ok (.invokevirtual 141, 3) := by decide +kernel
theorem dX12_sendAll_223 : decode cX12_sendAll 223 = .ok (.aload_n 0, 1) := by decide +kernel
theorem dX12_sendAll_224 : decode cX12_sendAll 224 = .ok (.iload_n 1, 1) := by decide +kernel
theorem dX12_sendAll_225 : decode cX12_sendAll 225 = .ok (.bipush 60, 2) := by decide +kernel
theorem dX12_sendAll_227 : decode cX12_sendAll 227 = .ok (.aload_n 0, 1) := by decide +kernel
theorem dX12_sendAll_228 : decode cX12_sendAll 228 = .ok (.iload_n 1, 1) := by decide +kernel
theorem dX12_sendAll_229 : decode cX12_sendAll 229 = .ok (.bipush 60, 2) := by decide +kernel
theorem dX12_sendAll_231 : decode cX12_sendAll 231 = .ok (.invokevirtual 161, 3) := by decide +kernel
theorem dX12_sendAll_234 : decode cX12_sendAll 234 = .ok (.aload_n 0, 1) := by decide +kernel
theorem dX12_sendAll_235 : decode cX12_sendAll 235 = .ok (.iload_n 1, 1) := by decide +kernel
theorem dX12_sendAll_236 : decode cX12_sendAll 236 = .ok (.bipush 18, 2) := by decide +kernel
theorem dX12_sendAll_238 : decode cX12_sendAll 238 = .ok (.invokevirtual 161, 3) := by decide +kernel
theorem dX12_sendAll_241 : decode cX12_sendAll 241 = .ok (.iadd, 1) := by decide +kernel
theorem dX12_sendAll_242 : decode cX12_sendAll 242 = .ok (.invokevirtual 141, 3) := by decide +kernel
theorem dX12_sendAll_245 : decode cX12_sendAll 245 = .ok (.iinc 1 1, 3) := by decide +kernel
theorem dX12_sendAll_248 : decode cX12_sendAll 248 = .ok (.goto (-175), 3) := by decide +kernel
theorem dX12_sendAll_251 : decode cX12_sendAll 251 = .ok (.return_, 1) := by decide +kernel
theorem dX12_isLess_0 : decode cX12_isLess 0 = .ok (.iload 4, 2) := by decide +kernel
theorem dX12_isLess_2 : decode cX12_isLess 2 = .ok (.aload_n 0, 1) := by decide +kernel
theorem dX12_isLess_3 : decode cX12_isLess 3 = .ok (.iload_n 1, 1) := by decide +kernel
theorem dX12_isLess_4 : decode cX12_isLess 4 = .ok (.bipush 12, 2) := by decide +kernel
theorem dX12_isLess_6 : decode cX12_isLess 6 = .ok (.iload_n 2, 1) := by decide +kernel
theorem dX12_isLess_7 : decode cX12_isLess 7 = .ok (.iadd, 1) := by decide +kernel
theorem dX12_isLess_8 : decode cX12_isLess 8 = .ok (.invokevirtual 161, 3) := by decide +kernel
theorem dX12_isLess_11 : decode cX12_isLess 11 = .ok (.imul, 1) := by decide +kernel
theorem dX12_isLess_12 : decode cX12_isLess 12 = .ok (.aload_n 0, 1) := by decide +kernel
theorem dX12_isLess_13 : decode cX12_isLess 13 = .ok (.iload_n 1, 1) := by decide +kernel
theorem dX12_isLess_14 : decode cX12_isLess 14 = .ok (.bipush 6, 2) := by decide +kernel
theorem dX12_isLess_16 : decode cX12_isLess 16 = .ok (.iload_n 3, 1) := by decide +kernel
theorem dX12_isLess_17 : decode cX12_isLess 17 = .ok (.iadd, 1) := by decide +kernel
theorem dX12_isLess_18 : decode cX12_isLess 18 = .ok (.invokevirtual 161, 3) := by decide +kernel
theorem dX12_isLess_21 : decode cX12_isLess 21 = .ok (.imul, 1) := by decide +kernel
theorem dX12_isLess_22 : decode cX12_isLess 22 = .ok (.aload_n 0, 1) := by decide +kernel
theorem dX12_isLess_23 : decode cX12_isLess 23 = .ok (.iload_n 1, 1) := by decide +kernel
theorem dX12_isLess_24 : decode cX12_isLess 24 = .ok (.bipush 12, 2) := by decide +kernel
theorem dX12_isLess_26 : decode cX12_isLess 26 = .ok (.iload_n 3, 1) := by decide +kernel
theorem dX12_isLess_27 : decode cX12_isLess 27 = .ok (.iadd, 1) := by decide +kernel
theorem dX12_isLess_28 : decode cX12_isLess 28 = .ok (.invokevirtual 161, 3) := by decide +kernel
theorem dX12_isLess_31 : decode cX12_isLess 31 = .ok (.aload_n 0, 1) := by decide +kernel
theorem dX12_isLess_32 : decode cX12_isLess 32 = .ok (.iload_n 1, 1) := by decide +kernel
theorem dX12_isLess_33 : decode cX12_isLess 33 = .ok (.bipush 6, 2) := by decide +kernel
theorem dX12_isLess_35 : decode cX12_isLess 35 = .ok (.iload_n 2, 1) := by decide +kernel
theorem dX12_isLess_36 : decode cX12_isLess 36 = .ok (.iadd, 1) := by decide +kernel
theorem dX12_isLess_37 : decode cX12_isLess 37 = .ok (.invokevirtual 161, 3) := by decide +kernel
theorem dX12_isLess_40 : decode cX12_isLess 40 = .ok (.imul, 1) := by decide +kernel
theorem dX12_isLess_41 : decode cX12_isLess 41 = .ok (.if_icmp .ge 7, 3) := by decide +kernel
theorem dX12_isLess_44 : decode cX12_isLess 44 = .ok (.iconst 1, 1) := by decide +kernel
theorem dX12_isLess_45 : decode cX12_isLess 45 = .ok (.goto 4, 3) := by decide +kernel
theorem dX12_isLess_48 : decode cX12_isLess 48 = .ok (.iconst 0, 1) := by decide +kernel
theorem dX12_isLess_49 : decode cX12_isLess 49 = .ok (.ireturn, 1) := by decide +kernel
theorem dX12_badPlace_0 : decode cX12_badPlace 0 = .ok (.iconst (-1), 1) := by decide +kernel
theorem dX12_badPlace_1 : decode cX12_badPlace 1 = .ok (.istore_n 2, 1) := by decide +kernel
theorem dX12_badPlace_2 : decode cX12_badPlace 2 = .ok (.iconst (-1), 1) := by decide +kernel
theorem dX12_badPlace_3 : decode cX12_badPlace 3 = .ok (.istore_n 3, 1) := by decide +kernel
theorem dX12_badPlace_4 : decode cX12_badPlace 4 = .ok (.iconst 0, 1) := by decide +kernel
theorem dX12_badPlace_5 : decode cX12_badPlace 5 = .ok (.istore 4, 2) := by decide +kernel
theorem dX12_badPlace_7 : decode cX12_badPlace 7 = .ok (.iload 4, 2) := by decide +kernel
theorem dX12_badPlace_9 : decode cX12_badPlace 9 = .ok (.aload_n 0, 1) := by decide +kernel
theorem dX12_badPlace_10 : decode cX12_badPlace 10 = .ok (.iload_n 1, 1) := by decide +kernel
theorem dX12_badPlace_11 : decode cX12_badPlace 11 = .ok (.bipush 18, 2) := by decide +kernel
theorem dX12_badPlace_13 : decode cX12_badPlace 13 = .ok (.invokevirtual 161, 3) := by decide +kernel
theorem dX12_badPlace_16 : decode cX12_badPlace 16 = .ok (.if_icmp .ge 71, 3) := by decide +kernel
theorem dX12_badPlace_19 : decode cX12_badPlace 19 = .ok (.aload_n 0, 1) := by decide +kernel
theorem dX12_badPlace_20 : decode cX12_badPlace 20 = .ok (.iload_n 1, 1) := by decide +kernel
theorem dX12_badPlace_21 : decode cX12_badPlace 21 = .ok (.bipush 6, 2) := by decide +kernel
theorem dX12_badPlace_23 : decode cX12_badPlace 23 = .ok (.iload 4, 2) := by decide +kernel
theorem dX12_badPlace_25 : decode cX12_badPlace 25 = .ok (.iadd, 1) := by decide +kernel
theorem dX12_badPlace_26 : decode cX12_badPlace 26 = .ok (.invokevirtual 161, 3) := by decide +kernel
theorem dX12_badPlace_29 : decode cX12_badPlace 29 = .ok (.iconst 4, 1) := by decide +kernel
theorem dX12_badPlace_30 : decode cX12_badPlace 30 = .ok (.if_icmp .lt 51, 3) := by decide +kernel
theorem dX12_badPlace_33 : decode cX12_badPlace 33 = .ok (.iload_n 2, 1) := by decide +kernel
theorem dX12_badPlace_34 : decode cX12_badPlace 34 = .ok (.iconst (-1), 1) := by decide +kernel
theorem dX12_badPlace_35 : decode cX12_badPlace 35 = .ok (.if_icmp .eq 15, 3) := by decide +kernel
theorem dX12_badPlace_38 : decode cX12_badPlace 38 = .ok (.aload_n 0, 1) := by decide +kernel
theorem dX12_badPlace_39 : decode cX12_badPlace 39 = .ok (.iload_n 1, 1) := by decide +kernel
theorem dX12_badPlace_40 : decode cX12_badPlace 40 = .ok (.iload_n 2, 1) := by decide +kernel
theorem dX12_badPlace_41 : decode cX12_badPlace 41 = .ok (.iload 4, 2) := by decide +kernel
theorem dX12_badPlace_43 : decode cX12_badPlace 43 = .ok (.iconst 1, 1) := by decide +kernel
theorem dX12_badPlace_44 : decode cX12_badPlace 44 = .ok (.invokevirtual 280, 3) := by decide +kernel
theorem dX12_badPlace_47 : decode cX12_badPlace 47 = .ok (.ifCond .eq 8, 3) := by decide +kernel
theorem dX12_badPlace_50 : decode cX12_badPlace 50 = .ok (.iload 4, 2) := by decide +kernel
theorem dX12_badPlace_52 : decode cX12_badPlace 52 = .ok (.goto 4, 3) := by decide +kernel
theorem dX12_badPlace_55 : decode cX12_badPlace 55 = .ok (.iload_n 2, 1) := by decide +kernel
theorem dX12_badPlace_56 : decode cX12_badPlace 56 = .ok (.istore_n 2, 1) := by decide +kernel
theorem dX12_badPlace_57 : decode cX12_badPlace 57 = .ok (.iload_n 3, 1) := by decide +kernel
theorem dX12_badPlace_58 : decode cX12_badPlace 58 = .ok (.iconst (-1), 1) := by decide +kernel
theorem dX12_badPlace_59 : decode cX12_badPlace 59 = .ok (.if_icmp .eq 15, 3) := by decide +kernel
theorem dX12_badPlace_62 : decode cX12_badPlace 62 = .ok (.aload_n 0, 1) := by decide +kernel
theorem dX12_badPlace_63 : decode cX12_badPlace 63 = .ok (.iload_n 1, 1) := by decide +kernel
theorem dX12_badPlace_64 : decode cX12_badPlace 64 = .ok (.iload 4, 2) := by decide +kernel
theorem dX12_badPlace_66 : decode cX12_badPlace 66 = .ok (.iload_n 3, 1) := by decide +kernel
theorem dX12_badPlace_67 : decode cX12_badPlace 67 = .ok (.iconst 1, 1) := by decide +kernel
theorem dX12_badPlace_68 : decode cX12_badPlace 68 = .ok (.invokevirtual 280, 3) := by decide +kernel
theorem dX12_badPlace_71 : decode cX12_badPlace 71 = .ok (.ifCond .eq 8, 3) := by decide +kernel
theorem dX12_badPlace_74 : decode cX12_badPlace 74 = .ok (.iload 4, 2) := by decide +kernel
theorem dX12_badPlace_76 : decode cX12_badPlace 76 = .ok (.goto 4, 3) := by decide +kernel
theorem dX12_badPlace_79 : decode cX12_badPlace 79 = .ok (.iload_n 3, 1) := by decide +kernel
theorem dX12_badPlace_80 : decode cX12_badPlace 80 = .ok (.istore_n 3, 1) := by decide +kernel
theorem dX12_badPlace_81 : decode cX12_badPlace 81 = .ok (.iinc 4 1, 3) := by decide +kernel
theorem dX12_badPlace_84 : decode cX12_badPlace 84 = .ok (.goto (-77), 3) := by decide +kernel
theorem dX12_badPlace_87 : decode cX12_badPlace 87 = .ok (.iload_n 2, 1) := by decide +kernel
theorem dX12_badPlace_88 : decode cX12_badPlace 88 = .ok (.iconst (-1), 1) := by decide +kernel
theorem dX12_badPlace_89 : decode cX12_badPlace 89 = .ok (.if_icmp .eq 18, 3) := by decide +kernel
theorem dX12_badPlace_92 : decode cX12_badPlace 92 = .ok (.aload_n 0, 1) := by decide +kernel
theorem dX12_badPlace_93 : decode cX12_badPlace 93 = .ok (.iload_n 1, 1) := by decide +kernel
theorem dX12_badPlace_94 : decode cX12_badPlace 94 = .ok (.iload_n 3, 1) := by decide +kernel
theorem dX12_badPlace_95 : decode cX12_badPlace 95 = .ok (.iload_n 2, 1) := by decide +kernel
theorem dX12_badPlace_96 : decode cX12_badPlace 96 = .ok (.iconst 2, 1) := by decide +kernel
theorem dX12_badPlace_97 : decode cX12_badPlace 97 = .ok (.invokevirtual 280, 3) := by decide +kernel
theorem dX12_badPlace_100 : decode cX12_badPlace 100 = .ok (.ifCond .eq 7, 3) := by decide +kernel
theorem dX12_badPlace_103 : decode cX12_badPlace 103 = .ok (.iload_n 3, 1) := by decide +kernel
theorem dX12_badPlace_104 : decode cX12_badPlace 104 = .ok (.goto 4, 3) := by decide +kernel
theorem dX12_badPlace_107 : decode cX12_badPlace 107 = .ok (.iconst (-1), 1) := by decide +kernel
theorem dX12_badPlace_108 : decode cX12_badPlace 108 = .ok (.ireturn, 1) := by decide +kernel
theorem dX12_windowOf_0 : decode cX12_windowOf 0 = .ok (.aload_n 0, 1) := by decide +kernel
theorem dX12_windowOf_1 : decode cX12_windowOf 1 = .ok (.iload_n 1, 1) := by decide +kernel
theorem dX12_windowOf_2 : decode cX12_windowOf 2 = .ok (.bipush 59, 2) := by decide +kernel
theorem dX12_windowOf_4 : decode cX12_windowOf 4 = .ok (.invokevirtual 161, 3) := by decide +kernel
theorem dX12_windowOf_7 : decode cX12_windowOf 7 = .ok (.istore_n 2, 1) := by decide +kernel
theorem dX12_windowOf_8 : decode cX12_windowOf 8 = .ok (.aload_n 0, 1) := by decide +kernel
theorem dX12_windowOf_9 : decode cX12_windowOf 9 = .ok (.iload_n 1, 1) := by decide +kernel
theorem dX12_windowOf_10 : decode cX12_windowOf 10 = .ok (.bipush 60, 2) := by decide +kernel
theorem dX12_windowOf_12 : decode cX12_windowOf 12 = .ok (.invokevirtual 161, 3) := by decide +kernel
theorem dX12_windowOf_15 : decode cX12_windowOf 15 = .ok (.istore_n 3, 1) := by decide +kernel
theorem dX12_windowOf_16 : decode cX12_windowOf 16 = .ok (.aload_n 0, 1) := by decide +kernel
theorem dX12_windowOf_17 : decode cX12_windowOf 17 = .ok (.iload_n 1, 1) := by decide +kernel
theorem dX12_windowOf_18 : decode cX12_windowOf 18 = .ok (.bipush 59, 2) := by decide +kernel
theorem dX12_windowOf_20 : decode cX12_windowOf 20 = .ok (.iconst 0, 1) := by decide +kernel
theorem dX12_windowOf_21 : decode cX12_windowOf 21 = .ok (.invokevirtual 141, 3) := by decide +kernel
theorem dX12_windowOf_24 : decode cX12_windowOf 24 = .ok (.aload_n 0, 1) := by decide +kernel
theorem dX12_windowOf_25 : decode cX12_windowOf 25 = .ok (.iload_n 1, 1) := by decide +kernel
theorem dX12_windowOf_26 : decode cX12_windowOf 26 = .ok (.bipush 60, 2) := by decide +kernel
theorem dX12_windowOf_28 : decode cX12_windowOf 28 = .ok (.iconst 0, 1) := by decide +kernel
theorem dX12_windowOf_29 : decode cX12_windowOf 29 = .ok (.invokevirtual 141, 3) := by decide +kernel
theorem dX12_windowOf_32 : decode cX12_windowOf 32 = .ok (.aload_n 0, 1) := by decide +kernel
theorem dX12_windowOf_33 : decode cX12_windowOf 33 = .ok (.getfield 31, 3) := by decide +kernel
theorem dX12_windowOf_36 : decode cX12_windowOf 36 = .ok (.sipush 367, 3) := by decide +kernel
theorem dX12_windowOf_39 : decode cX12_windowOf 39 = .ok (.iaload, 1) := by decide +kernel
theorem dX12_windowOf_40 : decode cX12_windowOf 40 = .ok (.ifCond .eq 11, 3) := by decide +kernel
theorem dX12_windowOf_43 : decode cX12_windowOf 43 = .ok (.aload_n 0, 1) := by decide +kernel
theorem dX12_windowOf_44 : decode cX12_windowOf 44 = .ok (.iload_n 1, 1) := by decide +kernel
theorem dX12_windowOf_45 : decode cX12_windowOf 45 = .ok (.invokevirtual 188, 3) := by decide +kernel
theorem dX12_windowOf_48 : decode cX12_windowOf 48 = .ok (.ifCond .ne 4, 3) := by decide +kernel
theorem dX12_windowOf_51 : decode cX12_windowOf 51 = .ok (.return_, 1) := by decide +kernel
theorem dX12_windowOf_52 : decode cX12_windowOf 52 = .ok (.aload_n 0, 1) := by decide +kernel
theorem dX12_windowOf_53 : decode cX12_windowOf 53 = .ok (.iload_n 1, 1) := by decide +kernel
theorem dX12_windowOf_54 : decode cX12_windowOf 54 = .ok (.invokevirtual 284, 3) := by decide +kernel
theorem dX12_windowOf_57 : decode cX12_windowOf 57 = .ok (.istore 4, 2) := by decide +kernel
theorem dX12_windowOf_59 : decode cX12_windowOf 59 = .ok (.iconst 4, 1) := by decide +kernel
theorem dX12_windowOf_60 : decode cX12_windowOf 60 = .ok (.iload_n 2, 1) := by decide +kernel
theorem dX12_windowOf_61 : decode cX12_windowOf 61 = .ok (.imul, 1) := by decide +kernel
theorem dX12_windowOf_62 : decode cX12_windowOf 62 = .ok (.iconst 3, 1) := by decide +kernel
theorem dX12_windowOf_63 : decode cX12_windowOf 63 = .ok (.iload_n 3, 1) := by decide +kernel
theorem dX12_windowOf_64 : decode cX12_windowOf 64 = .ok (.imul, 1) := by decide +kernel
theorem dX12_windowOf_65 : decode cX12_windowOf 65 = .ok (.if_icmp .gt 23, 3) := by decide +kernel
theorem dX12_windowOf_68 : decode cX12_windowOf 68 = .ok (.aload_n 0, 1) := by decide +kernel
theorem dX12_windowOf_69 : decode cX12_windowOf 69 = .ok (.iload_n 1, 1) := by decide +kernel
theorem dX12_windowOf_70 : decode cX12_windowOf 70 = .ok (.bipush 18, 2) := by decide +kernel
theorem dX12_windowOf_72 : decode cX12_windowOf 72 = .ok (.invokevirtual 161, 3) := by decide +kernel
theorem dX12_windowOf_75 : decode cX12_windowOf 75 = .ok (.ifCond .ne 23, 3) := by decide +kernel
theorem dX12_windowOf_78 : decode cX12_windowOf 78 = .ok (.aload_n 0, 1) := by decide +kernel
theorem dX12_windowOf_79 : decode cX12_windowOf 79 = .ok (.iload_n 1, 1) := by decide +kernel
theorem dX12_windowOf_80 : decode cX12_windowOf 80 = .ok (.bipush 57, 2) := by decide +kernel
theorem dX12_windowOf_82 : decode cX12_windowOf 82 = .ok (.invokevirtual 161, 3) := by decide +kernel
theorem dX12_windowOf_85 : decode cX12_windowOf 85 = .ok (.ifCond .le 13, 3) := by decide +kernel
theorem dX12_windowOf_88 : decode cX12_windowOf 88 = .ok (.aload_n 0, 1) := by decide +kernel
theorem dX12_windowOf_89 : decode cX12_windowOf 89 = .ok (.iload_n 1, 1) := by decide +kernel
theorem dX12_windowOf_90 : decode cX12_windowOf 90 = .ok (.iconst 0, 1) := by decide +kernel
theorem dX12_windowOf_91 : decode cX12_windowOf 91 = .ok (.iconst 1, 1) := by decide +kernel
theorem dX12_windowOf_92 : decode cX12_windowOf 92 = .ok (.invokevirtual 253, 3) := by decide +kernel
theorem dX12_windowOf_95 : decode cX12_windowOf 95 = .ok (.goto 45, 3) := by decide +kernel
theorem dX12_windowOf_98 : decode cX12_windowOf 98 = .ok (.iconst 4, 1) := by decide +kernel
theorem dX12_windowOf_99 : decode cX12_windowOf 99 = .ok (.iload_n 2, 1) := by decide +kernel
theorem dX12_windowOf_100 : decode cX12_windowOf 100 = .ok (.imul, 1) := by decide +kernel
theorem dX12_windowOf_101 : decode cX12_windowOf 101 = .ok (.iload_n 3, 1) := by decide +kernel
theorem dX12_windowOf_102 : decode cX12_windowOf 102 = .ok (.if_icmp .ge 24, 3) := by decide +kernel
theorem dX12_windowOf_105 : decode cX12_windowOf 105 = .ok (.aload_n 0, 1) := by decide +kernel
theorem dX12_windowOf_106 : decode cX12_windowOf 106 = .ok (.iload_n 1, 1) := by decide +kernel
theorem dX12_windowOf_107 : decode cX12_windowOf 107 = .ok (.bipush 18, 2) := by decide +kernel
theorem dX12_windowOf_109 : decode cX12_windowOf 109 = .ok (.invokevirtual 161, 3) := by decide +kernel
theorem dX12_windowOf_112 : decode cX12_windowOf 112 = .ok (.iconst 2, 1) := by decide +kernel
theorem dX12_windowOf_113 : decode cX12_windowOf 113 = .ok (.if_icmp .lt 13, 3) := by decide +kernel
theorem dX12_windowOf_116 : decode cX12_windowOf 116 = .ok (.aload_n 0, 1) := by decide +kernel
theorem dX12_windowOf_117 : decode cX12_windowOf 117 = .ok (.iload_n 1, 1) := by decide +kernel
theorem dX12_windowOf_118 : decode cX12_windowOf 118 = .ok (.iconst 1, 1) := by decide +kernel
theorem dX12_windowOf_119 : decode cX12_windowOf 119 = .ok (.iconst 1, 1) := by decide +kernel
theorem dX12_windowOf_120 : decode cX12_windowOf 120 = .ok (.invokevirtual 253, 3) := by decide +kernel
theorem dX12_windowOf_123 : decode cX12_windowOf 123 = .ok (.goto 17, 3) := by decide +kernel
theorem dX12_windowOf_126 : decode cX12_windowOf 126 = .ok (.iload 4, 2) := by decide +kernel
theorem dX12_windowOf_128 : decode cX12_windowOf 128 = .ok (.iconst (-1), 1) := by decide +kernel
theorem dX12_windowOf_129 : decode cX12_windowOf 129 = .ok (.if_icmp .eq 11, 3) := by decide +kernel
theorem dX12_windowOf_132 : decode cX12_windowOf 132 = .ok (.aload_n 0, 1) := by decide +kernel
theorem dX12_windowOf_133 : decode cX12_windowOf 133 = .ok (.iload_n 1, 1) := by decide +kernel
theorem dX12_windowOf_134 : decode cX12_windowOf 134 = .ok (.iconst 2, 1) := by decide +kernel
theorem dX12_windowOf_135 : decode cX12_windowOf 135 = .ok (.iload 4, 2) := by decide +kernel
theorem dX12_windowOf_137 : decode cX12_windowOf 137 = .ok (.invokevirtual 253, 3) := by decide +kernel
theorem dX12_windowOf_140 : decode cX12_windowOf 140 = .ok (.return_, 1) := by decide +kernel
theorem dX12_live_0 : decode cX12_live 0 = .ok (.aload_n 0, 1) := by decide +kernel
theorem dX12_live_1 : decode cX12_live 1 = .ok (.invokevirtual 287, 3) := by decide +kernel
theorem dX12_live_4 : decode cX12_live 4 = .ok (.aload_n 0, 1) := by decide +kernel
theorem dX12_live_5 : decode cX12_live 5 = .ok (.invokevirtual 290, 3) := by decide +kernel
theorem dX12_live_8 : decode cX12_live 8 = .ok (.aload_n 0, 1) := by decide +kernel
theorem dX12_live_9 : decode cX12_live 9 = .ok (.invokevirtual 293, 3) := by decide +kernel
theorem dX12_live_12 : decode cX12_live 12 = .ok (.iconst 0, 1) := by decide +kernel
theorem dX12_live_13 : decode cX12_live 13 = .ok (.istore_n 1, 1) := by decide +kernel
theorem dX12_live_14 : decode cX12_live 14 = .ok (.iload_n 1, 1) := by decide +kernel
theorem dX12_live_15 : decode cX12_live 15 = .ok (.aload_n 0, 1) := by decide +kernel
theorem dX12_live_16 : decode cX12_live 16 = .ok (.getfield 138, 3) := by decide +kernel
theorem dX12_live_19 : decode cX12_live 19 = .ok (.if_icmp .ge 34, 3) := by decide +kernel
theorem dX12_live_22 : decode cX12_live 22 = .ok (.aload_n 0, 1) := by decide +kernel
theorem dX12_live_23 : decode cX12_live 23 = .ok (.getfield 31, 3) := by decide +kernel
theorem dX12_live_26 : decode cX12_live 26 = .ok (.sipush 368, 3) := by decide +kernel
theorem dX12_live_29 : decode cX12_live 29 = .ok (.iaload, 1) := by decide +kernel
theorem dX12_live_30 : decode cX12_live 30 = .ok (.iconst 1, 1) := by decide +kernel
theorem dX12_live_31 : decode cX12_live 31 = .ok (.iadd, 1) := by decide +kernel
theorem dX12_live_32 : decode cX12_live 32 = .ok (.aload_n 0, 1) := by decide +kernel
theorem dX12_live_33 : decode cX12_live 33 = .ok (.getfield 22, 3) := by decide +kernel
theorem dX12_live_36 : decode cX12_live 36 = .ok (.iconst 3, 1) := by decide +kernel
theorem dX12_live_37 : decode cX12_live 37 = .ok (.iaload, 1) := by decide +kernel
theorem dX12_live_38 : decode cX12_live 38 = .ok (.irem, 1) := by decide +kernel
theorem dX12_live_39 : decode cX12_live 39 = .ok (.ifCond .ne 14, 3) := by decide +kernel
theorem dX12_live_42 : decode cX12_live 42 = .ok (.aload_n 0, 1) := by decide +kernel
theorem dX12_live_43 : decode cX12_live 43 = .ok (.iload_n 1, 1) := by decide +kernel
theorem dX12_live_44 : decode cX12_live 44 = .ok (.invokevirtual 296, 3) := by decide +kernel
theorem dX12_live_47 : decode cX12_live 47 = .ok (.iinc 1 1, 3) := by decide +kernel
theorem dX12_live_50 : decode cX12_live 50 = .ok (.goto (-36), 3) := by decide +kernel
theorem dX12_live_53 : decode cX12_live 53 = .ok (.aload_n 0, 1) := by decide +kernel
theorem dX12_live_54 : decode cX12_live 54 = .ok (.getfield 31, 3) := by decide +kernel
theorem dX12_live_57 : decode cX12_live 57 = .ok (.sipush 368, 3) := by decide +kernel
theorem dX12_live_60 : decode cX12_live 60 = .ok (.dup2, 1) := by decide +kernel
theorem dX12_live_61 : decode cX12_live 61 = .ok (.iaload, 1) := by decide +kernel
theorem dX12_live_62 : decode cX12_live 62 = .ok (.iconst 1, 1) := by decide +kernel
theorem dX12_live_63 : decode cX12_live 63 = .ok (.iadd, 1) := by decide +kernel
theorem dX12_live_64 : decode cX12_live 64 = .ok (.iastore, 1) := by decide +kernel
theorem dX12_live_65 : decode cX12_live 65 = .ok (.return_, 1) := by decide +kernel
theorem dX12_letterPairs_0 : decode cX12_letterPairs 0 = .ok (.iconst 0, 1) := by decide +kernel
theorem dX12_letterPairs_1 : decode cX12_letterPairs 1 = .ok (.istore_n 1, 1) := by decide +kernel
theorem dX12_letterPairs_2 : decode cX12_letterPairs 2 = .ok (.iconst 0, 1) := by decide +kernel
theorem dX12_letterPairs_3 : decode cX12_letterPairs 3 = .ok (.istore_n 2, 1) := by decide +kernel
theorem dX12_letterPairs_4 : decode cX12_letterPairs 4 = .ok (.iload_n 2, 1) := by decide +kernel
theorem dX12_letterPairs_5 : decode cX12_letterPairs 5 = .ok (.aload_n 0, 1) := by decide +kernel
theorem dX12_letterPairs_6 : decode cX12_letterPairs 6 = .ok (.getfield 138, 3) := by decide +kernel
theorem dX12_letterPairs_9 : decode cX12_letterPairs 9 = .ok (.if_icmp .ge 30, 3) := by decide +kernel
theorem dX12_letterPairs_12 : decode cX12_letterPairs 12 = .ok (.iload_n 1, 1) := by decide +kernel
theorem dX12_letterPairs_13 : decode cX12_letterPairs 13 = .ok (.aload_n 0, 1) := by decide +kernel
theorem dX12_letterPairs_14 : decode cX12_letterPairs 14 = .ok (.iload_n 2, 1) := by decide +kernel
theorem dX12_letterPairs_15 : decode cX12_letterPairs 15 = .ok (.bipush 43, 2) := by decide +kernel
theorem dX12_letterPairs_17 : decode cX12_letterPairs 17 = .ok (.invokevirtual 161, 3) := by decide +kernel
theorem dX12_letterPairs_20 : decode cX12_letterPairs 20 = .ok (.iconst 1, 1) := by decide +kernel
theorem dX12_letterPairs_21 : decode cX12_letterPairs 21 = .ok (.if_icmp .ne 9, 3) := by decide +kernel
theorem dX12_letterPairs_24 : decode cX12_letterPairs 24 = .ok (.iconst 1, 1) := by decide +kernel
theorem dX12_letterPairs_25 : decode cX12_letterPairs 25 = .ok (.iload_n 2, 1) := by decide +kernel
theorem dX12_letterPairs_26 : decode cX12_letterPairs 26 = .ok (.ishl, 1) := by decide +kernel
theorem dX12_letterPairs_27 : decode cX12_letterPairs 27 = .ok (.goto 4, 3) := by decide +kernel
theorem dX12_letterPairs_30 : decode cX12_letterPairs 30 = .ok (.iconst 0, 1) := by decide +kernel
theorem dX12_letterPairs_31 : decode cX12_letterPairs 31 = .ok (.ior, 1) := by decide +kernel
theorem dX12_letterPairs_32 : decode cX12_letterPairs 32 = .ok (.istore_n 1, 1) := by decide +kernel
theorem dX12_letterPairs_33 : decode cX12_letterPairs 33 = .ok (.iinc 2 1, 3) := by decide +kernel
theorem dX12_letterPairs_36 : decode cX12_letterPairs 36 = .ok (.goto (-32), 3) := by decide +kernel
theorem dX12_letterPairs_39 : decode cX12_letterPairs 39 = .ok (.iload_n 1, 1) := by decide +kernel
theorem dX12_letterPairs_40 : decode cX12_letterPairs 40 = .ok (.ireturn, 1) := by decide +kernel
theorem dX12_sharedCells_0 : decode cX12_sharedCells 0 = .ok (.iconst 0, 1) := by decide +kernel
theorem dX12_sharedCells_1 : decode cX12_sharedCells 1 = .ok (.istore_n 1, 1) := by decide +kernel
theorem dX12_sharedCells_2 : decode cX12_sharedCells 2 = .ok (.iconst 0, 1) := by decide +kernel
theorem dX12_sharedCells_3 : decode cX12_sharedCells 3 = .ok (.istore_n 2, 1) := by decide +kernel
theorem dX12_sharedCells_4 : decode cX12_sharedCells 4 = .ok (.iload_n 2, 1) := by decide +kernel
theorem dX12_sharedCells_5 : decode cX12_sharedCells 5 = .ok (.aload_n 0, 1) := by decide +kernel
theorem dX12_sharedCells_6 : decode cX12_sharedCells 6 = .ok (.getfield 138, 3) := by decide +kernel
theorem dX12_sharedCells_9 : decode cX12_sharedCells 9 = .ok (.if_icmp .ge 53, 3) := by decide +kernel
theorem dX12_sharedCells_12 : decode cX12_sharedCells 12 = .ok (.iconst 0, 1) := by decide +kernel
theorem dX12_sharedCells_13 : decode cX12_sharedCells 13 = .ok (.istore_n 3, 1) := by decide +kernel
theorem dX12_sharedCells_14 : decode cX12_sharedCells 14 = .ok (.iload_n 3, 1) := by decide +kernel
theorem dX12_sharedCells_15 : decode cX12_sharedCells 15 = .ok (.aload_n 0, 1) := by decide +kernel
theorem dX12_sharedCells_16 : decode cX12_sharedCells 16 = .ok (.iload_n 2, 1) := by decide +kernel
theorem dX12_sharedCells_17 : decode cX12_sharedCells 17 = .ok (.bipush 18, 2) := by decide +kernel
theorem dX12_sharedCells_19 : decode cX12_sharedCells 19 = .ok (.invokevirtual 161, 3) := by decide +kernel
theorem dX12_sharedCells_22 : decode cX12_sharedCells 22 = .ok (.if_icmp .ge 34, 3) := by decide +kernel
theorem dX12_sharedCells_25 : decode cX12_sharedCells 25 = .ok (.iload_n 1, 1) := by decide +kernel
theorem dX12_sharedCells_26 : decode cX12_sharedCells 26 = .ok (.aload_n 0, 1) := by decide +kernel
theorem dX12_sharedCells_27 : decode cX12_sharedCells 27 = .ok (.iload_n 2, 1) := by decide +kernel
theorem dX12_sharedCells_28 : decode cX12_sharedCells 28 = .ok (.iconst 1, 1) := by decide +kernel
theorem dX12_sharedCells_29 : decode cX12_sharedCells 29 = .ok (.aload_n 0, 1) := by decide +kernel
theorem dX12_sharedCells_30 : decode cX12_sharedCells 30 = .ok (.iload_n 2, 1) := by decide +kernel
theorem dX12_sharedCells_31 : decode cX12_sharedCells 31 = .ok (.iconst 0, 1) := by decide +kernel
theorem dX12_sharedCells_32 : decode cX12_sharedCells 32 = .ok (.iload_n 3, 1) := by decide +kernel
theorem dX12_sharedCells_33 : decode cX12_sharedCells 33 = .ok (.invokevirtual 167, 3) := by decide +kernel
theorem dX12_sharedCells_36 : decode cX12_sharedCells 36 = .ok (.invokevirtual 171, 3) := by decide +kernel
theorem dX12_sharedCells_39 : decode cX12_sharedCells 39 = .ok (.iconst (-1), 1) := by decide +kernel
theorem dX12_sharedCells_40 : decode cX12_sharedCells 40 = .ok (.if_icmp .eq 7, 3) := by decide +kernel
theorem dX12_sharedCells_43 : decode cX12_sharedCells 43 = .ok (.iconst 1, 1) := by decide +kernel
theorem dX12_sharedCells_44 : decode cX12_sharedCells 44 = .ok (.goto 4, 3) := by decide +kernel
theorem dX12_sharedCells_47 : decode cX12_sharedCells 47 = .ok (.iconst 0, 1) := by decide +kernel
theorem dX12_sharedCells_48 : decode cX12_sharedCells 48 = .ok (.iadd, 1) := by decide +kernel
theorem dX12_sharedCells_49 : decode cX12_sharedCells 49 = .ok (.istore_n 1, 1) := by decide +kernel
theorem dX12_sharedCells_50 : decode cX12_sharedCells 50 = .ok (.iinc 3 1, 3) := by decide +kernel
theorem dX12_sharedCells_53 : decode cX12_sharedCells 53 = .ok (.goto (-39), 3) := by decide +kernel
theorem dX12_sharedCells_56 : decode cX12_sharedCells 56 = .ok (.iinc 2 1, 3) := by decide +kernel
theorem dX12_sharedCells_59 : decode cX12_sharedCells 59 = .ok (.goto (-55), 3) := by decide +kernel
theorem dX12_sharedCells_62 : decode cX12_sharedCells 62 = .ok (.iload_n 1, 1) := by decide +kernel
theorem dX12_sharedCells_63 : decode cX12_sharedCells 63 = .ok (.ireturn, 1) := by decide +kernel
theorem dX12_passFrame_0 : decode cX12_passFrame 0 = .ok (.aload_n 0, 1) := by decide +kernel
theorem dX12_passFrame_1 : decode cX12_passFrame 1 = .ok (.invokevirtual 299, 3) := by decide +kernel
theorem dX12_passFrame_4 : decode cX12_passFrame 4 = .ok (.aload_n 0, 1) := by decide +kernel
theorem dX12_passFrame_5 : decode cX12_passFrame 5 = .ok (.getfield 31, 3) := by decide +kernel
theorem dX12_passFrame_8 : decode cX12_passFrame 8 = .ok (.sipush 369, 3) := by decide +kernel
theorem dX12_passFrame_11 : decode cX12_passFrame 11 = .ok (.iaload, 1) := by decide +kernel
theorem dX12_passFrame_12 : decode cX12_passFrame 12 = .ok (.bipush 60, 2) := by decide +kernel
theorem dX12_passFrame_14 : decode cX12_passFrame 14 = .ok (.if_icmp .ne 52, 3) := by decide +kernel
theorem dX12_passFrame_17 : decode cX12_passFrame 17 = .ok (.iconst 3, 1) := by decide +kernel
theorem dX12_passFrame_18 : decode cX12_passFrame 18 = .ok (.istore_n 1, 1) := by decide +kernel
theorem dX12_passFrame_19 : decode cX12_passFrame 19 = .ok (.iload_n 1, 1) := by decide +kernel
theorem dX12_passFrame_20 : decode cX12_passFrame 20 = .ok (.sipush 180, 3) := by decide +kernel
theorem dX12_passFrame_23 : decode cX12_passFrame 23 = .ok (.if_icmp .ge 31, 3) := by decide +kernel
theorem dX12_passFrame_26 : decode cX12_passFrame 26 = .ok (.aload_n 0, 1) := by decide +kernel
theorem dX12_passFrame_27 : decode cX12_passFrame 27 = .ok (.getfield 31, 3) := by decide +kernel
theorem dX12_passFrame_30 : decode cX12_passFrame 30 = .ok (.sipush 370, 3) := by decide +kernel
theorem dX12_passFrame_33 : decode cX12_passFrame 33 = .ok (.iload_n 1, 1) := by decide +kernel
theorem dX12_passFrame_34 : decode cX12_passFrame 34 = .ok (.iadd, 1) := by decide +kernel
theorem dX12_passFrame_35 : decode cX12_passFrame 35 = .ok (.iconst 3, 1) := by decide +kernel
theorem dX12_passFrame_36 : decode cX12_passFrame 36 = .ok (.isub, 1) := by decide +kernel
theorem dX12_passFrame_37 : decode cX12_passFrame 37 = .ok (.aload_n 0, 1) := by decide +kernel
theorem dX12_passFrame_38 : decode cX12_passFrame 38 = .ok (.getfield 31, 3) := by decide +kernel
theorem dX12_passFrame_41 : decode cX12_passFrame 41 = .ok (.sipush 370, 3) := by decide +kernel
theorem dX12_passFrame_44 : decode cX12_passFrame 44 = .ok (.iload_n 1, 1) := by decide +kernel
theorem dX12_passFrame_45 : decode cX12_passFrame 45 = .ok (.iadd, 1) := by decide +kernel
theorem dX12_passFrame_46 : decode cX12_passFrame 46 = .ok (.iaload, 1) := by decide +kernel
theorem dX12_passFrame_47 : decode cX12_passFrame 47 = .ok (.iastore, 1) := by decide +kernel
theorem dX12_passFrame_48 : decode cX12_passFrame 48 = .ok (.iinc 1 1, 3) := by decide +kernel
theorem dX12_passFrame_51 : decode cX12_passFrame 51 = .ok (.goto (-32), 3) := by decide +kernel
theorem dX12_passFrame_54 : decode cX12_passFrame 54 = .ok (.aload_n 0, 1) := by decide +kernel
theorem dX12_passFrame_55 : decode cX12_passFrame 55 = .ok (.getfield 31, 3) := by decide +kernel
theorem dX12_passFrame_58 : decode cX12_passFrame 58 = .ok (.sipush 369, 3) := by decide +kernel
theorem dX12_passFrame_61 : decode cX12_passFrame 61 = .ok (.dup2, 1) := by decide +kernel
theorem dX12_passFrame_62 : decode cX12_passFrame 62 = .ok (.iaload, 1) := by decide +kernel
theorem dX12_passFrame_63 : decode cX12_passFrame 63 = .ok (.iconst 1, 1) := by decide +kernel
theorem dX12_passFrame_64 : decode cX12_passFrame 64 = .ok (.isub, 1) := by decide +kernel
theorem dX12_passFrame_65 : decode cX12_passFrame 65 = .ok (.iastore, 1) := by decide +kernel
theorem dX12_passFrame_66 : decode cX12_passFrame 66 = .ok (.sipush 370, 3) := by decide +kernel
theorem dX12_passFrame_69 : decode cX12_passFrame 69 = .ok (.iconst 3, 1) := by decide +kernel
theorem dX12_passFrame_70 : decode cX12_passFrame 70 = .ok (.aload_n 0, 1) := by decide +kernel
theorem dX12_passFrame_71 : decode cX12_passFrame 71 = .ok (.getfield 31, 3) := by decide +kernel
theorem dX12_passFrame_74 : decode cX12_passFrame 74 = .ok (.sipush 369, 3) := by decide +kernel
theorem dX12_passFrame_77 : decode cX12_passFrame 77 = .ok (.iaload, 1) := by decide +kernel
theorem dX12_passFrame_78 : decode cX12_passFrame 78 = .ok (.imul, 1) := by decide +kernel
theorem dX12_passFrame_79 : decode cX12_passFrame 79 = .ok (.iadd, 1) := by decide +kernel
theorem dX12_passFrame_80 : decode cX12_passFrame 80 = .ok (.istore_n 1, 1) := by decide +kernel
theorem dX12_passFrame_81 : decode cX12_passFrame 81 = .ok (.aload_n 0, 1) := by decide +kernel
theorem dX12_passFrame_82 : decode cX12_passFrame 82 = .ok (.getfield 31, 3) := by decide +kernel
theorem dX12_passFrame_85 : decode cX12_passFrame 85 = .ok (.iload_n 1, 1) := by decide +kernel
theorem dX12_passFrame_86 : decode cX12_passFrame 86 = .ok (.aload_n 0, 1) := by decide +kernel
theorem dX12_passFrame_87 : decode cX12_passFrame 87 = .ok (.invokevirtual 302, 3) := by decide +kernel
theorem dX12_passFrame_90 : decode cX12_passFrame 90 = .ok (.invokestatic 305, 3) := by decide +kernel
theorem dX12_passFrame_93 : decode cX12_passFrame 93 = .ok (.iastore, 1) := by decide +kernel
theorem dX12_passFrame_94 : decode cX12_passFrame 94 = .ok (.aload_n 0, 1) := by decide +kernel
theorem dX12_passFrame_95 : decode cX12_passFrame 95 = .ok (.getfield 31, 3) := by decide +kernel
theorem dX12_passFrame_98 : decode cX12_passFrame 98 = .ok (.iload_n 1, 1) := by decide +kernel
theorem dX12_passFrame_99 : decode cX12_passFrame 99 = .ok (.iconst 1, 1) := by decide +kernel
theorem dX12_passFrame_100 : decode cX12_passFrame 100 = .ok (.iadd, 1) := by decide +kernel
theorem dX12_passFrame_101 : decode cX12_passFrame 101 = .ok (.aload_n 0, 1) := by decide +kernel
theorem dX12_passFrame_102 : decode cX12_passFrame 102 = .ok (.invokevirtual 310, 3) := by decide +kernel
theorem dX12_passFrame_105 : decode cX12_passFrame 105 = .ok (.iastore, 1) := by decide +kernel
theorem dX12_passFrame_106 : decode cX12_passFrame 106 = .ok (.aload_n 0, 1) := by decide +kernel
theorem dX12_passFrame_107 : decode cX12_passFrame 107 = .ok (.getfield 31, 3) := by decide +kernel
theorem dX12_passFrame_110 : decode cX12_passFrame 110 = .ok (.iload_n 1, 1) := by decide +kernel
theorem dX12_passFrame_111 : decode cX12_passFrame 111 = .ok (.iconst 2, 1) := by decide +kernel
theorem dX12_passFrame_112 : decode cX12_passFrame 112 = .ok (.iadd, 1) := by decide +kernel
theorem dX12_passFrame_113 : decode cX12_passFrame 113 = .ok (.aload_n 0, 1) := by decide +kernel
theorem dX12_passFrame_114 : decode cX12_passFrame 114 = .ok (.getfield 274, 3) := by decide +kernel
theorem dX12_passFrame_117 : decode cX12_passFrame 117 = .ok (.iastore, 1) := by decide +kernel
theorem dX12_passFrame_118 : decode cX12_passFrame 118 = .ok (.aload_n 0, 1) := by decide +kernel
theorem dX12_passFrame_119 : decode cX12_passFrame 119 = .ok (.getfield 31, 3) := by decide +kernel
theorem dX12_passFrame_122 : decode cX12_passFrame 122 = .ok (.sipush 369, 3) := by decide +kernel
theorem dX12_passFrame_125 : decode cX12_passFrame 125 = .ok (.dup2, 1) := by decide +kernel
theorem dX12_passFrame_126 : decode cX12_passFrame 126 = .ok (.iaload, 1) := by decide +kernel
theorem dX12_passFrame_127 : decode cX12_passFrame 127 = .ok (.iconst 1, 1) := by decide +kernel
theorem dX12_passFrame_128 : decode cX12_passFrame 128 = .ok (.iadd, 1) := by decide +kernel
theorem dX12_passFrame_129 : decode cX12_passFrame 129 = .ok (.iastore, 1) := by decide +kernel
theorem dX12_passFrame_130 : decode cX12_passFrame 130 = .ok (.return_, 1) := by decide +kernel
theorem dX12_rule_0 : decode cX12_rule 0 = .ok (.aload_n 0, 1) := by decide +kernel
theorem dX12_rule_1 : decode cX12_rule 1 = .ok (.getfield 138, 3) := by decide +kernel
theorem dX12_rule_4 : decode cX12_rule 4 = .ok (.ifCond .eq 12, 3) := by decide +kernel
theorem dX12_rule_7 : decode cX12_rule 7 = .ok (.iload_n 1, 1) := by decide +kernel
theorem dX12_rule_8 : decode cX12_rule 8 = .ok (.iconst 0, 1) := by decide +kernel
theorem dX12_rule_9 : decode cX12_rule 9 = .ok (.iconst 4, 1) := by decide +kernel
theorem dX12_rule_10 : decode cX12_rule 10 = .ok (.invokestatic 75, 3) := by decide +kernel
theorem dX12_rule_13 : decode cX12_rule 13 = .ok (.ifCond .ne 7, 3) := by decide +kernel
theorem dX12_rule_16 : decode cX12_rule 16 = .ok (.iconst (-1), 1) := by decide +kernel
theorem dX12_rule_17 : decode cX12_rule 17 = .ok (.goto 25, 3) := by decide +kernel
theorem dX12_rule_20 : decode cX12_rule 20 = .ok (.iload_n 1, 1) := by decide +kernel
theorem dX12_rule_21 : decode cX12_rule 21 = .ok (.iconst 4, 1) := by decide +kernel
theorem dX12_rule_22 : decode cX12_rule 22 = .ok (.if_icmp .ne 14, 3) := by decide +kernel
theorem dX12_rule_25 : decode cX12_rule 25 = .ok (.aload_n 0, 1) := by decide +kernel
theorem dX12_rule_26 : decode cX12_rule 26 = .ok (.getfield 31, 3) := by decide +kernel
theorem dX12_rule_29 : decode cX12_rule 29 = .ok (.sipush 367, 3) := by decide +kernel
theorem dX12_rule_32 : decode cX12_rule 32 = .ok (.iaload, 1) := by decide +kernel
theorem dX12_rule_33 : decode cX12_rule 33 = .ok (.goto 9, 3) := by decide +kernel
theorem dX12_rule_36 : decode cX12_rule 36 = .ok (.aload_n 0, 1) := by decide +kernel
theorem dX12_rule_37 : decode cX12_rule 37 = .ok (.getfield 22, 3) := by decide +kernel
theorem dX12_rule_40 : decode cX12_rule 40 = .ok (.iload_n 1, 1) := by decide +kernel
theorem dX12_rule_41 : decode cX12_rule 41 = .ok (.iaload, 1) := by decide +kernel
theorem dX12_rule_42 : decode cX12_rule 42 = .ok (.ireturn, 1) := by decide +kernel
theorem dX12_pair_0 : decode cX12_pair 0 = .ok (.aload_n 0, 1) := by decide +kernel
theorem dX12_pair_1 : decode cX12_pair 1 = .ok (.aload_n 0, 1) := by decide +kernel
theorem dX12_pair_2 : decode cX12_pair 2 = .ok (.iload_n 1, 1) := by decide +kernel
theorem dX12_pair_3 : decode cX12_pair 3 = .ok (.invokevirtual 313, 3) := by decide +kernel
theorem dX12_pair_6 : decode cX12_pair 6 = .ok (.ifCond .eq 17, 3) := by decide +kernel
theorem dX12_pair_9 : decode cX12_pair 9 = .ok (.iload_n 2, 1) := by decide +kernel
theorem dX12_pair_10 : decode cX12_pair 10 = .ok (.iconst 0, 1) := by decide +kernel
theorem dX12_pair_11 : decode cX12_pair 11 = .ok (.bipush 10, 2) := by decide +kernel
theorem dX12_pair_13 : decode cX12_pair 13 = .ok (.invokestatic 75, 3) := by decide +kernel
theorem dX12_pair_16 : decode cX12_pair 16 = .ok (.ifCond .eq 7, 3) := by decide +kernel
theorem dX12_pair_19 : decode cX12_pair 19 = .ok (.iconst 0, 1) := by decide +kernel
theorem dX12_pair_20 : decode cX12_pair 20 = .ok (.goto 4, 3) := by decide +kernel
theorem dX12_pair_23 : decode cX12_pair 23 = .ok (.iconst 1, 1) := by decide +kernel
theorem dX12_pair_24 : decode cX12_pair 24 = .ok (.putfield 65, 3) := by decide +kernel
theorem dX12_pair_27 : decode cX12_pair 27 = .ok (.aload_n 0, 1) := by decide +kernel
theorem dX12_pair_28 : decode cX12_pair 28 = .ok (.getfield 65, 3) := by decide +kernel
theorem dX12_pair_31 : decode cX12_pair 31 = .ok (.iconst 1, 1) := by decide +kernel
theorem dX12_pair_32 : decode cX12_pair 32 = .ok (.if_icmp .ne 5, 3) := by decide +kernel
theorem dX12_pair_35 : decode cX12_pair 35 = .ok (.iconst 0, 1) := by decide +kernel
theorem dX12_pair_36 : decode cX12_pair 36 = .ok (.ireturn, 1) := by decide +kernel
theorem dX12_pair_37 : decode cX12_pair 37 = .ok (.iload_n 2, 1) := by decide +kernel
theorem dX12_pair_38 : decode cX12_pair 38 = .ok (.tableswitch 101 3 10 #[46, 54, 62, 70, 78, 78, 91, 91], 46) := by decide +kernel
theorem dX12_pair_84 : decode cX12_pair 84 = .ok (.aload_n 0, 1) := by decide +kernel
theorem dX12_pair_85 : decode cX12_pair 85 = .ok (.iload_n 1, 1) := by decide +kernel
theorem dX12_pair_86 : decode cX12_pair 86 = .ok (.bipush 58, 2) := by decide +kernel
theorem dX12_pair_88 : decode cX12_pair 88 = .ok (.invokevirtual 161, 3) := by decide +kernel
theorem dX12_pair_91 : decode cX12_pair 91 = .ok (.ireturn, 1) := by decide +kernel
theorem dX12_pair_92 : decode cX12_pair 92 = .ok (.aload_n 0, 1) := by decide +kernel
theorem dX12_pair_93 : decode cX12_pair 93 = .ok (.iload_n 1, 1) := by decide +kernel
theorem dX12_pair_94 : decode cX12_pair 94 = .ok (.bipush 57, 2) := by decide +kernel
theorem dX12_pair_96 : decode cX12_pair 96 = .ok (.invokevirtual 161, 3) := by decide +kernel
theorem dX12_pair_99 : decode cX12_pair 99 = .ok (.ireturn, 1) := by decide +kernel
theorem dX12_pair_100 : decode cX12_pair 100 = .ok (.aload_n 0, 1) := by decide +kernel
theorem dX12_pair_101 : decode cX12_pair 101 = .ok (.iload_n 1, 1) := by decide +kernel
theorem dX12_pair_102 : decode cX12_pair 102 = .ok (.bipush 59, 2) := by decide +kernel
theorem dX12_pair_104 : decode cX12_pair 104 = .ok (.invokevirtual 161, 3) := by decide +kernel
theorem dX12_pair_107 : decode cX12_pair 107 = .ok (.ireturn, 1) := by decide +kernel
theorem dX12_pair_108 : decode cX12_pair 108 = .ok (.aload_n 0, 1) := by decide +kernel
theorem dX12_pair_109 : decode cX12_pair 109 = .ok (.iload_n 1, 1) := by decide +kernel
theorem dX12_pair_110 : decode cX12_pair 110 = .ok (.bipush 60, 2) := by decide +kernel
theorem dX12_pair_112 : decode cX12_pair 112 = .ok (.invokevirtual 161, 3) := by decide +kernel
theorem dX12_pair_115 : decode cX12_pair 115 = .ok (.ireturn, 1) := by decide +kernel
theorem dX12_pair_116 : decode cX12_pair 116 = .ok (.aload_n 0, 1) := by decide +kernel
theorem dX12_pair_117 : decode cX12_pair 117 = .ok (.iload_n 1, 1) := by decide +kernel
theorem dX12_pair_118 : decode cX12_pair 118 = .ok (.bipush 26, 2) := by decide +kernel
theorem dX12_pair_120 : decode cX12_pair 120 = .ok (.iload_n 2, 1) := by decide +kernel
theorem dX12_pair_121 : decode cX12_pair 121 = .ok (.iadd, 1) := by decide +kernel
theorem dX12_pair_122 : decode cX12_pair 122 = .ok (.bipush 7, 2) := by decide +kernel
theorem dX12_pair_124 : decode cX12_pair 124 = .ok (.isub, 1) := by decide +kernel
theorem dX12_pair_125 : decode cX12_pair 125 = .ok (.invokevirtual 161, 3) := by decide +kernel
theorem dX12_pair_128 : decode cX12_pair 128 = .ok (.ireturn, 1) := by decide +kernel
theorem dX12_pair_129 : decode cX12_pair 129 = .ok (.aload_n 0, 1) := by decide +kernel
theorem dX12_pair_130 : decode cX12_pair 130 = .ok (.iload_n 1, 1) := by decide +kernel
theorem dX12_pair_131 : decode cX12_pair 131 = .ok (.iload_n 2, 1) := by decide +kernel
theorem dX12_pair_132 : decode cX12_pair 132 = .ok (.bipush 9, 2) := by decide +kernel
theorem dX12_pair_134 : decode cX12_pair 134 = .ok (.isub, 1) := by decide +kernel
theorem dX12_pair_135 : decode cX12_pair 135 = .ok (.invokevirtual 164, 3) := by decide +kernel
theorem dX12_pair_138 : decode cX12_pair 138 = .ok (.ireturn, 1) := by decide +kernel
theorem dX12_pair_139 : decode cX12_pair 139 = .ok (.aload_n 0, 1) := by decide +kernel
theorem dX12_pair_140 : decode cX12_pair 140 = .ok (.getfield 25, 3) := by decide +kernel
theorem dX12_pair_143 : decode cX12_pair 143 = .ok (.iconst 4, 1) := by decide +kernel
theorem dX12_pair_144 : decode cX12_pair 144 = .ok (.iload_n 1, 1) := by decide +kernel
theorem dX12_pair_145 : decode cX12_pair 145 = .ok (.imul, 1) := by decide +kernel
theorem dX12_pair_146 : decode cX12_pair 146 = .ok (.iload_n 2, 1) := by decide +kernel
theorem dX12_pair_147 : decode cX12_pair 147 = .ok (.iadd, 1) := by decide +kernel
theorem dX12_pair_148 : decode cX12_pair 148 = .ok (.iaload, 1) := by decide +kernel
theorem dX12_pair_149 : decode cX12_pair 149 = .ok (.ireturn, 1) := by decide +kernel
theorem dX12_cell_0 : decode cX12_cell 0 = .ok (.aload_n 0, 1) := by decide +kernel
theorem dX12_cell_1 : decode cX12_cell 1 = .ok (.iload_n 1, 1) := by decide +kernel
theorem dX12_cell_2 : decode cX12_cell 2 = .ok (.invokevirtual 313, 3) := by decide +kernel
theorem dX12_cell_5 : decode cX12_cell 5 = .ok (.ifCond .eq 46, 3) := by decide +kernel
theorem dX12_cell_8 : decode cX12_cell 8 = .ok (.iload_n 2, 1) := by decide +kernel
theorem dX12_cell_9 : decode cX12_cell 9 = .ok (.iconst 0, 1) := by decide +kernel
theorem dX12_cell_10 : decode cX12_cell 10 = .ok (.iconst 1, 1) := by decide +kernel
theorem dX12_cell_11 : decode cX12_cell 11 = .ok (.invokestatic 75, 3) := by decide +kernel
theorem dX12_cell_14 : decode cX12_cell 14 = .ok (.ifCond .eq 37, 3) := by decide +kernel
theorem dX12_cell_17 : decode cX12_cell 17 = .ok (.iload_n 3, 1) := by decide +kernel
theorem dX12_cell_18 : decode cX12_cell 18 = .ok (.iconst 0, 1) := by decide +kernel
theorem dX12_cell_19 : decode cX12_cell 19 = .ok (.aload_n 0, 1) := by decide +kernel
theorem dX12_cell_20 : decode cX12_cell 20 = .ok (.iload_n 1, 1) := by decide +kernel
theorem dX12_cell_21 : decode cX12_cell 21 = .ok (.iload_n 2, 1) := by decide +kernel
theorem dX12_cell_22 : decode cX12_cell 22 = .ok (.invokevirtual 164, 3) := by decide +kernel
theorem dX12_cell_25 : decode cX12_cell 25 = .ok (.iconst 1, 1) := by decide +kernel
theorem dX12_cell_26 : decode cX12_cell 26 = .ok (.isub, 1) := by decide +kernel
theorem dX12_cell_27 : decode cX12_cell 27 = .ok (.invokestatic 75, 3) := by decide +kernel
theorem dX12_cell_30 : decode cX12_cell 30 = .ok (.ifCond .eq 21, 3) := by decide +kernel
theorem dX12_cell_33 : decode cX12_cell 33 = .ok (.iload 4, 2) := by decide +kernel
theorem dX12_cell_35 : decode cX12_cell 35 = .ok (.iconst 0, 1) := by decide +kernel
theorem dX12_cell_36 : decode cX12_cell 36 = .ok (.iload_n 2, 1) := by decide +kernel
theorem dX12_cell_37 : decode cX12_cell 37 = .ok (.ifCond .ne 7, 3) := by decide +kernel
theorem dX12_cell_40 : decode cX12_cell 40 = .ok (.iconst 2, 1) := by decide +kernel
theorem dX12_cell_41 : decode cX12_cell 41 = .ok (.goto 4, 3) := by decide +kernel
theorem dX12_cell_44 : decode cX12_cell 44 = .ok (.iconst 0, 1) := by decide +kernel
theorem dX12_cell_45 : decode cX12_cell 45 = .ok (.invokestatic 75, 3) := by decide +kernel
theorem dX12_cell_48 : decode cX12_cell 48 = .ok (.ifCond .ne 5, 3) := by decide +kernel
theorem dX12_cell_51 : decode cX12_cell 51 = .ok (.iconst (-1), 1) := by decide +kernel
theorem dX12_cell_52 : decode cX12_cell 52 = .ok (.ireturn, 1) := by decide +kernel
theorem dX12_cell_53 : decode cX12_cell 53 = .ok (.iload 4, 2) := by decide +kernel
theorem dX12_cell_55 : decode cX12_cell 55 = .ok (.ifCond .ne 13, 3) := by decide +kernel
theorem dX12_cell_58 : decode cX12_cell 58 = .ok (.aload_n 0, 1) := by decide +kernel
theorem dX12_cell_59 : decode cX12_cell 59 = .ok (.iload_n 1, 1) := by decide +kernel
theorem dX12_cell_60 : decode cX12_cell 60 = .ok (.iload_n 2, 1) := by decide +kernel
theorem dX12_cell_61 : decode cX12_cell 61 = .ok (.iload_n 3, 1) := by decide +kernel
theorem dX12_cell_62 : decode cX12_cell 62 = .ok (.invokevirtual 167, 3) := by decide +kernel
theorem dX12_cell_65 : decode cX12_cell 65 = .ok (.goto 23, 3) := by decide +kernel
theorem dX12_cell_68 : decode cX12_cell 68 = .ok (.aload_n 0, 1) := by decide +kernel
theorem dX12_cell_69 : decode cX12_cell 69 = .ok (.iload_n 1, 1) := by decide +kernel
theorem dX12_cell_70 : decode cX12_cell 70 = .ok (.iload 4, 2) := by decide +kernel
theorem dX12_cell_72 : decode cX12_cell 72 = .ok (.iconst 1, 1) := by decide +kernel
theorem dX12_cell_73 : decode cX12_cell 73 = .ok (.if_icmp .ne 8, 3) := by decide +kernel
theorem dX12_cell_76 : decode cX12_cell 76 = .ok (.bipush 6, 2) := by decide +kernel
theorem dX12_cell_78 : decode cX12_cell 78 = .ok (.goto 5, 3) := by decide +kernel
theorem dX12_cell_81 : decode cX12_cell 81 = .ok (.bipush 12, 2) := by decide +kernel
theorem dX12_cell_83 : decode cX12_cell 83 = .ok (.iload_n 3, 1) := by decide +kernel
theorem dX12_cell_84 : decode cX12_cell 84 = .ok (.iadd, 1) := by decide +kernel
theorem dX12_cell_85 : decode cX12_cell 85 = .ok (.invokevirtual 161, 3) := by decide +kernel
theorem dX12_cell_88 : decode cX12_cell 88 = .ok (.ireturn, 1) := by decide +kernel
theorem dX12_waits_0 : decode cX12_waits 0 = .ok (.aload_n 0, 1) := by decide +kernel
theorem dX12_waits_1 : decode cX12_waits 1 = .ok (.iload_n 1, 1) := by decide +kernel
theorem dX12_waits_2 : decode cX12_waits 2 = .ok (.invokevirtual 313, 3) := by decide +kernel
theorem dX12_waits_5 : decode cX12_waits 5 = .ok (.ifCond .eq 21, 3) := by decide +kernel
theorem dX12_waits_8 : decode cX12_waits 8 = .ok (.iload_n 2, 1) := by decide +kernel
theorem dX12_waits_9 : decode cX12_waits 9 = .ok (.iconst 0, 1) := by decide +kernel
theorem dX12_waits_10 : decode cX12_waits 10 = .ok (.iconst 1, 1) := by decide +kernel
theorem dX12_waits_11 : decode cX12_waits 11 = .ok (.invokestatic 75, 3) := by decide +kernel
theorem dX12_waits_14 : decode cX12_waits 14 = .ok (.ifCond .eq 12, 3) := by decide +kernel
theorem dX12_waits_17 : decode cX12_waits 17 = .ok (.iload_n 3, 1) := by decide +kernel
theorem dX12_waits_18 : decode cX12_waits 18 = .ok (.iconst 0, 1) := by decide +kernel
theorem dX12_waits_19 : decode cX12_waits 19 = .ok (.iconst 2, 1) := by decide +kernel
theorem dX12_waits_20 : decode cX12_waits 20 = .ok (.invokestatic 75, 3) := by decide +kernel
theorem dX12_waits_23 : decode cX12_waits 23 = .ok (.ifCond .ne 5, 3) := by decide +kernel
theorem dX12_waits_26 : decode cX12_waits 26 = .ok (.iconst (-1), 1) := by decide +kernel
theorem dX12_waits_27 : decode cX12_waits 27 = .ok (.ireturn, 1) := by decide +kernel
theorem dX12_waits_28 : decode cX12_waits 28 = .ok (.aload_n 0, 1) := by decide +kernel
theorem dX12_waits_29 : decode cX12_waits 29 = .ok (.iload_n 1, 1) := by decide +kernel
theorem dX12_waits_30 : decode cX12_waits 30 = .ok (.bipush 28, 2) := by decide +kernel
theorem dX12_waits_32 : decode cX12_waits 32 = .ok (.iload_n 2, 1) := by decide +kernel
theorem dX12_waits_33 : decode cX12_waits 33 = .ok (.iadd, 1) := by decide +kernel
theorem dX12_waits_34 : decode cX12_waits 34 = .ok (.invokevirtual 161, 3) := by decide +kernel
theorem dX12_waits_37 : decode cX12_waits 37 = .ok (.iconst 1, 1) := by decide +kernel
theorem dX12_waits_38 : decode cX12_waits 38 = .ok (.if_icmp .ne 7, 3) := by decide +kernel
theorem dX12_waits_41 : decode cX12_waits 41 = .ok (.iconst 1, 1) := by decide +kernel
theorem dX12_waits_42 : decode cX12_waits 42 = .ok (.goto 4, 3) := by decide +kernel
theorem dX12_waits_45 : decode cX12_waits 45 = .ok (.iconst 0, 1) := by decide +kernel
theorem dX12_waits_46 : decode cX12_waits 46 = .ok (.istore 4, 2) := by decide +kernel
theorem dX12_waits_48 : decode cX12_waits 48 = .ok (.iload_n 3, 1) := by decide +kernel
theorem dX12_waits_49 : decode cX12_waits 49 = .ok (.ifCond .ne 16, 3) := by decide +kernel
theorem dX12_waits_52 : decode cX12_waits 52 = .ok (.iload 4, 2) := by decide +kernel
theorem dX12_waits_54 : decode cX12_waits 54 = .ok (.ifCond .eq 7, 3) := by decide +kernel
theorem dX12_waits_57 : decode cX12_waits 57 = .ok (.iconst 1, 1) := by decide +kernel
theorem dX12_waits_58 : decode cX12_waits 58 = .ok (.goto 42, 3) := by decide +kernel
theorem dX12_waits_61 : decode cX12_waits 61 = .ok (.iconst 0, 1) := by decide +kernel
theorem dX12_waits_62 : decode cX12_waits 62 = .ok (.goto 38, 3) := by decide +kernel
theorem dX12_waits_65 : decode cX12_waits 65 = .ok (.iload_n 3, 1) := by decide +kernel
theorem dX12_waits_66 : decode cX12_waits 66 = .ok (.iconst 1, 1) := by decide +kernel
theorem dX12_waits_67 : decode cX12_waits 67 = .ok (.if_icmp .ne 24, 3) := by decide +kernel
theorem dX12_waits_70 : decode cX12_waits 70 = .ok (.iload 4, 2) := by decide +kernel
theorem dX12_waits_72 : decode cX12_waits 72 = .ok (.ifCond .eq 15, 3) := by decide +kernel
theorem dX12_waits_75 : decode cX12_waits 75 = .ok (.aload_n 0, 1) := by decide +kernel
theorem dX12_waits_76 : decode cX12_waits 76 = .ok (.iload_n 1, 1) := by decide +kernel
theorem dX12_waits_77 : decode cX12_waits 77 = .ok (.bipush 30, 2) := by decide +kernel
theorem dX12_waits_79 : decode cX12_waits 79 = .ok (.iload_n 2, 1) := by decide +kernel
theorem dX12_waits_80 : decode cX12_waits 80 = .ok (.iadd, 1) := by decide +kernel
theorem dX12_waits_81 : decode cX12_waits 81 = .ok (.invokevirtual 161, 3) := by decide +kernel
theorem dX12_waits_84 : decode cX12_waits 84 = .ok (.goto 16, 3) := by decide +kernel
theorem dX12_waits_87 : decode cX12_waits 87 = .ok (.iconst (-1), 1) := by decide +kernel
theorem dX12_waits_88 : decode cX12_waits 88 = .ok (.goto 12, 3) := by decide +kernel
theorem dX12_waits_91 : decode cX12_waits 91 = .ok (.aload_n 0, 1) := by decide +kernel
theorem dX12_waits_92 : decode cX12_waits 92 = .ok (.iload_n 1, 1) := by decide +kernel
theorem dX12_waits_93 : decode cX12_waits 93 = .ok (.bipush 33, 2) := by decide +kernel
theorem dX12_waits_95 : decode cX12_waits 95 = .ok (.iload_n 2, 1) := by decide +kernel
theorem dX12_waits_96 : decode cX12_waits 96 = .ok (.iadd, 1) := by decide +kernel
theorem dX12_waits_97 : decode cX12_waits 97 = .ok (.invokevirtual 161, 3) := by decide +kernel
theorem dX12_waits_100 : decode cX12_waits 100 = .ok (.ireturn, 1) := by decide +kernel
theorem dX12_letter_0 : decode cX12_letter 0 = .ok (.aload_n 0, 1) := by decide +kernel
theorem dX12_letter_1 : decode cX12_letter 1 = .ok (.iload_n 1, 1) := by decide +kernel
theorem dX12_letter_2 : decode cX12_letter 2 = .ok (.invokevirtual 313, 3) := by decide +kernel
theorem dX12_letter_5 : decode cX12_letter 5 = .ok (.ifCond .eq 23, 3) := by decide +kernel
theorem dX12_letter_8 : decode cX12_letter 8 = .ok (.aload_n 0, 1) := by decide +kernel
theorem dX12_letter_9 : decode cX12_letter 9 = .ok (.iload_n 1, 1) := by decide +kernel
theorem dX12_letter_10 : decode cX12_letter 10 = .ok (.bipush 43, 2) := by decide +kernel
theorem dX12_letter_12 : decode cX12_letter 12 = .ok (.invokevirtual 161, 3) := by decide +kernel
theorem dX12_letter_15 : decode cX12_letter 15 = .ok (.ifCond .eq 13, 3) := by decide +kernel
theorem dX12_letter_18 : decode cX12_letter 18 = .ok (.iload_n 2, 1) := by decide +kernel
theorem dX12_letter_19 : decode cX12_letter 19 = .ok (.iconst 0, 1) := by decide +kernel
theorem dX12_letter_20 : decode cX12_letter 20 = .ok (.bipush 12, 2) := by decide +kernel
theorem dX12_letter_22 : decode cX12_letter 22 = .ok (.invokestatic 75, 3) := by decide +kernel
theorem dX12_letter_25 : decode cX12_letter 25 = .ok (.ifCond .ne 5, 3) := by decide +kernel
theorem dX12_letter_28 : decode cX12_letter 28 = .ok (.iconst (-1), 1) := by decide +kernel
theorem dX12_letter_29 : decode cX12_letter 29 = .ok (.ireturn, 1) := by decide +kernel
theorem dX12_letter_30 : decode cX12_letter 30 = .ok (.iload_n 2, 1) := by decide +kernel
theorem dX12_letter_31 : decode cX12_letter 31 = .ok (.tableswitch 85 0 5 #[37, 45, 53, 61, 69, 77], 37) := by decide +kernel
theorem dX12_letter_68 : decode cX12_letter 68 = .ok (.aload_n 0, 1) := by decide +kernel
theorem dX12_letter_69 : decode cX12_letter 69 = .ok (.iload_n 1, 1) := by decide +kernel
theorem dX12_letter_70 : decode cX12_letter 70 = .ok (.bipush 44, 2) := by decide +kernel
theorem dX12_letter_72 : decode cX12_letter 72 = .ok (.invokevirtual 161, 3) := by decide +kernel
theorem dX12_letter_75 : decode cX12_letter 75 = .ok (.ireturn, 1) := by decide +kernel
theorem dX12_letter_76 : decode cX12_letter 76 = .ok (.aload_n 0, 1) := by decide +kernel
theorem dX12_letter_77 : decode cX12_letter 77 = .ok (.iload_n 1, 1) := by decide +kernel
theorem dX12_letter_78 : decode cX12_letter 78 = .ok (.bipush 45, 2) := by decide +kernel
theorem dX12_letter_80 : decode cX12_letter 80 = .ok (.invokevirtual 161, 3) := by decide +kernel
theorem dX12_letter_83 : decode cX12_letter 83 = .ok (.ireturn, 1) := by decide +kernel
theorem dX12_letter_84 : decode cX12_letter 84 = .ok (.aload_n 0, 1) := by decide +kernel
theorem dX12_letter_85 : decode cX12_letter 85 = .ok (.iload_n 1, 1) := by decide +kernel
theorem dX12_letter_86 : decode cX12_letter 86 = .ok (.bipush 46, 2) := by decide +kernel
theorem dX12_letter_88 : decode cX12_letter 88 = .ok (.invokevirtual 161, 3) := by decide +kernel
theorem dX12_letter_91 : decode cX12_letter 91 = .ok (.ireturn, 1) := by decide +kernel
theorem dX12_letter_92 : decode cX12_letter 92 = .ok (.aload_n 0, 1) := by decide +kernel
theorem dX12_letter_93 : decode cX12_letter 93 = .ok (.iload_n 1, 1) := by decide +kernel
theorem dX12_letter_94 : decode cX12_letter 94 = .ok (.bipush 47, 2) := by decide +kernel
theorem dX12_letter_96 : decode cX12_letter 96 = .ok (.invokevirtual 161, 3) := by decide +kernel
theorem dX12_letter_99 : decode cX12_letter 99 = .ok (.ireturn, 1) := by decide +kernel
theorem dX12_letter_100 : decode cX12_letter 100 = .ok (.aload_n 0, 1) := by decide +kernel
theorem dX12_letter_101 : decode cX12_letter 101 = .ok (.iload_n 1, 1) := by decide +kernel
theorem dX12_letter_102 : decode cX12_letter 102 = .ok (.bipush 49, 2) := by decide +kernel
theorem dX12_letter_104 : decode cX12_letter 104 = .ok (.invokevirtual 161, 3) := by decide +kernel
theorem dX12_letter_107 : decode cX12_letter 107 = .ok (.ireturn, 1) := by decide +kernel
theorem dX12_letter_108 : decode cX12_letter 108 = .ok (.aload_n 0, 1) := by decide +kernel
theorem dX12_letter_109 : decode cX12_letter 109 = .ok (.iload_n 1, 1) := by decide +kernel
theorem dX12_letter_110 : decode cX12_letter 110 = .ok (.bipush 48, 2) := by decide +kernel
theorem dX12_letter_112 : decode cX12_letter 112 = .ok (.invokevirtual 161, 3) := by decide +kernel
theorem dX12_letter_115 : decode cX12_letter 115 = .ok (.ireturn, 1) := by decide +kernel
theorem dX12_letter_116 : decode cX12_letter 116 = .ok (.iload_n 2, 1) := by decide +kernel
theorem dX12_letter_117 : decode cX12_letter 117 = .ok (.bipush 6, 2) := by decide +kernel
theorem dX12_letter_119 : decode cX12_letter 119 = .ok (.isub, 1) := by decide +kernel
theorem dX12_letter_120 : decode cX12_letter 120 = .ok (.aload_n 0, 1) := by decide +kernel
theorem dX12_letter_121 : decode cX12_letter 121 = .ok (.iload_n 1, 1) := by decide +kernel
theorem dX12_letter_122 : decode cX12_letter 122 = .ok (.bipush 48, 2) := by decide +kernel
theorem dX12_letter_124 : decode cX12_letter 124 = .ok (.invokevirtual 161, 3) := by decide +kernel
theorem dX12_letter_127 : decode cX12_letter 127 = .ok (.if_icmp .ge 18, 3) := by decide +kernel
theorem dX12_letter_130 : decode cX12_letter 130 = .ok (.aload_n 0, 1) := by decide +kernel
theorem dX12_letter_131 : decode cX12_letter 131 = .ok (.iload_n 1, 1) := by decide +kernel
theorem dX12_letter_132 : decode cX12_letter 132 = .ok (.bipush 50, 2) := by decide +kernel
theorem dX12_letter_134 : decode cX12_letter 134 = .ok (.iload_n 2, 1) := by decide +kernel
theorem dX12_letter_135 : decode cX12_letter 135 = .ok (.iadd, 1) := by decide +kernel
theorem dX12_letter_136 : decode cX12_letter 136 = .ok (.bipush 6, 2) := by decide +kernel
theorem dX12_letter_138 : decode cX12_letter 138 = .ok (.isub, 1) := by decide +kernel
theorem dX12_letter_139 : decode cX12_letter 139 = .ok (.invokevirtual 161, 3) := by decide +kernel
theorem dX12_letter_142 : decode cX12_letter 142 = .ok (.goto 4, 3) := by decide +kernel
theorem dX12_letter_145 : decode cX12_letter 145 = .ok (.iconst (-1), 1) := by decide +kernel
theorem dX12_letter_146 : decode cX12_letter 146 = .ok (.ireturn, 1) := by decide +kernel
theorem dX12_isCell_0 : decode cX12_isCell 0 = .ok (.aload_n 0, 1) := by decide +kernel
theorem dX12_isCell_1 : decode cX12_isCell 1 = .ok (.getfield 138, 3) := by decide +kernel
theorem dX12_isCell_4 : decode cX12_isCell 4 = .ok (.ifCond .le 39, 3) := by decide +kernel
theorem dX12_isCell_7 : decode cX12_isCell 7 = .ok (.iload_n 1, 1) := by decide +kernel
theorem dX12_isCell_8 : decode cX12_isCell 8 = .ok (.iconst 0, 1) := by decide +kernel
theorem dX12_isCell_9 : decode cX12_isCell 9 = .ok (.bipush 10, 2) := by decide +kernel
theorem dX12_isCell_11 : decode cX12_isCell 11 = .ok (.aload_n 0, 1) := by decide +kernel
theorem dX12_isCell_12 : decode cX12_isCell 12 = .ok (.getfield 22, 3) := by decide +kernel
theorem dX12_isCell_15 : decode cX12_isCell 15 = .ok (.iconst 0, 1) := by decide +kernel
theorem dX12_isCell_16 : decode cX12_isCell 16 = .ok (.iaload, 1) := by decide +kernel
theorem dX12_isCell_17 : decode cX12_isCell 17 = .ok (.imul, 1) := by decide +kernel
theorem dX12_isCell_18 : decode cX12_isCell 18 = .ok (.iconst 1, 1) := by decide +kernel
theorem dX12_isCell_19 : decode cX12_isCell 19 = .ok (.isub, 1) := by decide +kernel
theorem dX12_isCell_20 : decode cX12_isCell 20 = .ok (.invokestatic 75, 3) := by decide +kernel
theorem dX12_isCell_23 : decode cX12_isCell 23 = .ok (.ifCond .eq 20, 3) := by decide +kernel
theorem dX12_isCell_26 : decode cX12_isCell 26 = .ok (.iload_n 1, 1) := by decide +kernel
theorem dX12_isCell_27 : decode cX12_isCell 27 = .ok (.bipush 10, 2) := by decide +kernel
theorem dX12_isCell_29 : decode cX12_isCell 29 = .ok (.irem, 1) := by decide +kernel
theorem dX12_isCell_30 : decode cX12_isCell 30 = .ok (.aload_n 0, 1) := by decide +kernel
theorem dX12_isCell_31 : decode cX12_isCell 31 = .ok (.getfield 22, 3) := by decide +kernel
theorem dX12_isCell_34 : decode cX12_isCell 34 = .ok (.iconst 1, 1) := by decide +kernel
theorem dX12_isCell_35 : decode cX12_isCell 35 = .ok (.iaload, 1) := by decide +kernel
theorem dX12_isCell_36 : decode cX12_isCell 36 = .ok (.if_icmp .ge 7, 3) := by decide +kernel
theorem dX12_isCell_39 : decode cX12_isCell 39 = .ok (.iconst 1, 1) := by decide +kernel
theorem dX12_isCell_40 : decode cX12_isCell 40 = .ok (.goto 4, 3) := by decide +kernel
theorem dX12_isCell_43 : decode cX12_isCell 43 = .ok (.iconst 0, 1) := by decide +kernel
theorem dX12_isCell_44 : decode cX12_isCell 44 = .ok (.ireturn, 1) := by decide +kernel
theorem dX12_channel_0 : decode cX12_channel 0 = .ok (.aload_n 0, 1) := by decide +kernel
theorem dX12_channel_1 : decode cX12_channel 1 = .ok (.iload_n 2, 1) := by decide +kernel
theorem dX12_channel_2 : decode cX12_channel 2 = .ok (.invokevirtual 316, 3) := by decide +kernel
theorem dX12_channel_5 : decode cX12_channel 5 = .ok (.ifCond .eq 23, 3) := by decide +kernel
theorem dX12_channel_8 : decode cX12_channel 8 = .ok (.iload_n 1, 1) := by decide +kernel
theorem dX12_channel_9 : decode cX12_channel 9 = .ok (.iconst 0, 1) := by decide +kernel
theorem dX12_channel_10 : decode cX12_channel 10 = .ok (.sipush 9999, 3) := by decide +kernel
theorem dX12_channel_13 : decode cX12_channel 13 = .ok (.invokestatic 75, 3) := by decide +kernel
theorem dX12_channel_16 : decode cX12_channel 16 = .ok (.ifCond .eq 12, 3) := by decide +kernel
theorem dX12_channel_19 : decode cX12_channel 19 = .ok (.aload_n 0, 1) := by decide +kernel
theorem dX12_channel_20 : decode cX12_channel 20 = .ok (.iload_n 1, 1) := by decide +kernel
theorem dX12_channel_21 : decode cX12_channel 21 = .ok (.iload_n 2, 1) := by decide +kernel
theorem dX12_channel_22 : decode cX12_channel 22 = .ok (.invokevirtual 268, 3) := by decide +kernel
theorem dX12_channel_25 : decode cX12_channel 25 = .ok (.goto 4, 3) := by decide +kernel
theorem dX12_channel_28 : decode cX12_channel 28 = .ok (.iconst (-1), 1) := by decide +kernel
theorem dX12_channel_29 : decode cX12_channel 29 = .ok (.ireturn, 1) := by decide +kernel
theorem dX12_loss_0 : decode cX12_loss 0 = .ok (.iload_n 1, 1) := by decide +kernel
theorem dX12_loss_1 : decode cX12_loss 1 = .ok (.iconst 0, 1) := by decide +kernel
theorem dX12_loss_2 : decode cX12_loss 2 = .ok (.bipush 9, 2) := by decide +kernel
theorem dX12_loss_4 : decode cX12_loss 4 = .ok (.invokestatic 75, 3) := by decide +kernel
theorem dX12_loss_7 : decode cX12_loss 7 = .ok (.ifCond .eq 11, 3) := by decide +kernel
theorem dX12_loss_10 : decode cX12_loss 10 = .ok (.iload_n 1, 1) := by decide +kernel
theorem dX12_loss_11 : decode cX12_loss 11 = .ok (.aload_n 0, 1) := by decide +kernel
theorem dX12_loss_12 : decode cX12_loss 12 = .ok (.getfield 37, 3) := by decide +kernel
theorem dX12_loss_15 : decode cX12_loss 15 = .ok (.if_icmp .ne 5, 3) := by decide +kernel
theorem dX12_loss_18 : decode cX12_loss 18 = .ok (.iconst 0, 1) := by decide +kernel
theorem dX12_loss_19 : decode cX12_loss 19 = .ok (.ireturn, 1) := by decide +kernel
theorem dX12_loss_20 : decode cX12_loss 20 = .ok (.aload_n 0, 1) := by decide +kernel
theorem dX12_loss_21 : decode cX12_loss 21 = .ok (.iload_n 1, 1) := by decide +kernel
theorem dX12_loss_22 : decode cX12_loss 22 = .ok (.putfield 37, 3) := by decide +kernel
theorem dX12_loss_25 : decode cX12_loss 25 = .ok (.iconst 1, 1) := by decide +kernel
theorem dX12_loss_26 : decode cX12_loss 26 = .ok (.ireturn, 1) := by decide +kernel
theorem dX12_keep_0 : decode cX12_keep 0 = .ok (.aload_n 0, 1) := by decide +kernel
theorem dX12_keep_1 : decode cX12_keep 1 = .ok (.getfield 145, 3) := by decide +kernel
theorem dX12_keep_4 : decode cX12_keep 4 = .ok (.bipush 40, 2) := by decide +kernel
theorem dX12_keep_6 : decode cX12_keep 6 = .ok (.if_icmp .ne 46, 3) := by decide +kernel
theorem dX12_keep_9 : decode cX12_keep 9 = .ok (.sipush 550, 3) := by decide +kernel
theorem dX12_keep_12 : decode cX12_keep 12 = .ok (.istore_n 1, 1) := by decide +kernel
theorem dX12_keep_13 : decode cX12_keep 13 = .ok (.iload_n 1, 1) := by decide +kernel
theorem dX12_keep_14 : decode cX12_keep 14 = .ok (.sipush 22000, 3) := by decide +kernel
theorem dX12_keep_17 : decode cX12_keep 17 = .ok (.if_icmp .ge 25, 3) := by decide +kernel
theorem dX12_keep_20 : decode cX12_keep 20 = .ok (.aload_n 0, 1) := by decide +kernel
theorem dX12_keep_21 : decode cX12_keep 21 = .ok (.getfield 53, 3) := by decide +kernel
theorem dX12_keep_24 : decode cX12_keep 24 = .ok (.iload_n 1, 1) := by decide +kernel
theorem dX12_keep_25 : decode cX12_keep 25 = .ok (.sipush 550, 3) := by decide +kernel
theorem dX12_keep_28 : decode cX12_keep 28 = .ok (.isub, 1) := by decide +kernel
theorem dX12_keep_29 : decode cX12_keep 29 = .ok (.aload_n 0, 1) := by decide +kernel
theorem dX12_keep_30 : decode cX12_keep 30 = .ok (.getfield 53, 3) := by decide +kernel
theorem dX12_keep_33 : decode cX12_keep 33 = .ok (.iload_n 1, 1) := by decide +kernel
theorem dX12_keep_34 : decode cX12_keep 34 = .ok (.iaload, 1) := by decide +kernel
theorem dX12_keep_35 : decode cX12_keep 35 = .ok (.iastore, 1) := by decide +kernel
theorem dX12_keep_36 : decode cX12_keep 36 = .ok (.iinc 1 1, 3) := by decide +kernel
theorem dX12_keep_39 : decode cX12_keep 39 = .ok (.goto (-26), 3) := by decide +kernel
theorem dX12_keep_42 : decode cX12_keep 42 = .ok (.aload_n 0, 1) := by decide +kernel
theorem dX12_keep_43 : decode cX12_keep 43 = .ok (.dup, 1) := by decide +kernel
theorem dX12_keep_44 : decode cX12_keep 44 = .ok (.getfield 145, 3) := by decide +kernel
theorem dX12_keep_47 : decode cX12_keep 47 = .ok (.iconst 1, 1) := by decide +kernel
theorem dX12_keep_48 : decode cX12_keep 48 = .ok (.isub, 1) := by decide +kernel
theorem dX12_keep_49 : decode cX12_keep 49 = .ok (.putfield 145, 3) := by decide +kernel
theorem dX12_keep_52 : decode cX12_keep 52 = .ok (.iconst 0, 1) := by decide +kernel
theorem dX12_keep_53 : decode cX12_keep 53 = .ok (.istore_n 1, 1) := by decide +kernel
theorem dX12_keep_54 : decode cX12_keep 54 = .ok (.iload_n 1, 1) := by decide +kernel
theorem dX12_keep_55 : decode cX12_keep 55 = .ok (.sipush 550, 3) := by decide +kernel
theorem dX12_keep_58 : decode cX12_keep 58 = .ok (.if_icmp .ge 30, 3) := by decide +kernel
theorem dX12_keep_61 : decode cX12_keep 61 = .ok (.aload_n 0, 1) := by decide +kernel
theorem dX12_keep_62 : decode cX12_keep 62 = .ok (.getfield 53, 3) := by decide +kernel
theorem dX12_keep_65 : decode cX12_keep 65 = .ok (.sipush 550, 3) := by decide +kernel
theorem dX12_keep_68 : decode cX12_keep 68 = .ok (.aload_n 0, 1) := by decide +kernel
theorem dX12_keep_69 : decode cX12_keep 69 = .ok (.getfield 145, 3) := by decide +kernel
theorem dX12_keep_72 : decode cX12_keep 72 = .ok (.imul, 1) := by decide +kernel
theorem dX12_keep_73 : decode cX12_keep 73 = .ok (.iload_n 1, 1) := by decide +kernel
theorem dX12_keep_74 : decode cX12_keep 74 = .ok (.iadd, 1) := by decide +kernel
theorem dX12_keep_75 : decode cX12_keep 75 = .ok (.aload_n 0, 1) := by decide +kernel
theorem dX12_keep_76 : decode cX12_keep 76 = .ok (.getfield 31, 3) := by decide +kernel
theorem dX12_keep_79 : decode cX12_keep 79 = .ok (.iload_n 1, 1) := by decide +kernel
theorem dX12_keep_80 : decode cX12_keep 80 = .ok (.iaload, 1) := by decide +kernel
theorem dX12_keep_81 : decode cX12_keep 81 = .ok (.iastore, 1) := by decide +kernel
theorem dX12_keep_82 : decode cX12_keep 82 = .ok (.iinc 1 1, 3) := by decide +kernel
theorem dX12_keep_85 : decode cX12_keep 85 = .ok (.goto (-31), 3) := by decide +kernel
theorem dX12_keep_88 : decode cX12_keep 88 = .ok (.aload_n 0, 1) := by decide +kernel
theorem dX12_keep_89 : decode cX12_keep 89 = .ok (.dup, 1) := by decide +kernel
theorem dX12_keep_90 : decode cX12_keep 90 = .ok (.getfield 145, 3) := by decide +kernel
theorem dX12_keep_93 : decode cX12_keep 93 = .ok (.iconst 1, 1) := by decide +kernel
theorem dX12_keep_94 : decode cX12_keep 94 = .ok (.iadd, 1) := by decide +kernel
theorem dX12_keep_95 : decode cX12_keep 95 = .ok (.putfield 145, 3) := by decide +kernel
theorem dX12_keep_98 : decode cX12_keep 98 = .ok (.return_, 1) := by decide +kernel
theorem dX12_isRefused_0 : decode cX12_isRefused 0 = .ok (.iload_n 1, 1) := by decide +kernel
theorem dX12_isRefused_1 : decode cX12_isRefused 1 = .ok (.iconst (-1), 1) := by decide +kernel
theorem dX12_isRefused_2 : decode cX12_isRefused 2 = .ok (.if_icmp .eq 13, 3) := by decide +kernel
theorem dX12_isRefused_5 : decode cX12_isRefused 5 = .ok (.aload_n 0, 1) := by decide +kernel
theorem dX12_isRefused_6 : decode cX12_isRefused 6 = .ok (.getfield 34, 3) := by decide +kernel
theorem dX12_isRefused_9 : decode cX12_isRefused 9 = .ok (.iload_n 1, 1) := by decide +kernel
theorem dX12_isRefused_10 : decode cX12_isRefused 10 = .ok (.dup2, 1) := by decide +kernel
theorem dX12_isRefused_11 : decode cX12_isRefused 11 = .ok (.iaload, 1) := by decide +kernel
theorem dX12_isRefused_12 : decode cX12_isRefused 12 = .ok (.iconst 1, 1) := by decide +kernel
theorem dX12_isRefused_13 : decode cX12_isRefused 13 = .ok (.iadd, 1) := by decide +kernel
theorem dX12_isRefused_14 : decode cX12_isRefused 14 = .ok (.iastore, 1) := by decide +kernel
theorem dX12_isRefused_15 : decode cX12_isRefused 15 = .ok (.iload_n 1, 1) := by decide +kernel
theorem dX12_isRefused_16 : decode cX12_isRefused 16 = .ok (.iconst (-1), 1) := by decide +kernel
theorem dX12_isRefused_17 : decode cX12_isRefused 17 = .ok (.if_icmp .eq 7, 3) := by decide +kernel
theorem dX12_isRefused_20 : decode cX12_isRefused 20 = .ok (.iconst 1, 1) := by decide +kernel
theorem dX12_isRefused_21 : decode cX12_isRefused 21 = .ok (.goto 4, 3) := by decide +kernel
theorem dX12_isRefused_24 : decode cX12_isRefused 24 = .ok (.iconst 0, 1) := by decide +kernel
theorem dX12_isRefused_25 : decode cX12_isRefused 25 = .ok (.ireturn, 1) := by decide +kernel
theorem dX12_areFrames_0 : decode cX12_areFrames 0 = .ok (.iload_n 1, 1) := by decide +kernel
theorem dX12_areFrames_1 : decode cX12_areFrames 1 = .ok (.iconst 1, 1) := by decide +kernel
theorem dX12_areFrames_2 : decode cX12_areFrames 2 = .ok (.bipush 40, 2) := by decide +kernel
theorem dX12_areFrames_4 : decode cX12_areFrames 4 = .ok (.invokestatic 75, 3) := by decide +kernel
theorem dX12_areFrames_7 : decode cX12_areFrames 7 = .ok (.ifCond .eq 23, 3) := by decide +kernel
theorem dX12_areFrames_10 : decode cX12_areFrames 10 = .ok (.aload_n 0, 1) := by decide +kernel
theorem dX12_areFrames_11 : decode cX12_areFrames 11 = .ok (.getfield 31, 3) := by decide +kernel
theorem dX12_areFrames_14 : decode cX12_areFrames 14 = .ok (.sipush 368, 3) := by decide +kernel
theorem dX12_areFrames_17 : decode cX12_areFrames 17 = .ok (.iaload, 1) := by decide +kernel
theorem dX12_areFrames_18 : decode cX12_areFrames 18 = .ok (.iload_n 1, 1) := by decide +kernel
theorem dX12_areFrames_19 : decode cX12_areFrames 19 = .ok (.iadd, 1) := by decide +kernel
theorem dX12_areFrames_20 : decode cX12_areFrames 20 = .ok (.sipush 9999, 3) := by decide +kernel
theorem dX12_areFrames_23 : decode cX12_areFrames 23 = .ok (.if_icmp .gt 7, 3) := by decide +kernel
theorem dX12_areFrames_26 : decode cX12_areFrames 26 = .ok (.iconst 1, 1) := by decide +kernel
theorem dX12_areFrames_27 : decode cX12_areFrames 27 = .ok (.goto 4, 3) := by decide +kernel
theorem dX12_areFrames_30 : decode cX12_areFrames 30 = .ok (.iconst 0, 1) := by decide +kernel
theorem dX12_areFrames_31 : decode cX12_areFrames 31 = .ok (.ireturn, 1) := by decide +kernel
theorem dX12_frames_0 : decode cX12_frames 0 = .ok (.aload_n 0, 1) := by decide +kernel
theorem dX12_frames_1 : decode cX12_frames 1 = .ok (.aload_n 0, 1) := by decide +kernel
theorem dX12_frames_2 : decode cX12_frames 2 = .ok (.getfield 138, 3) := by decide +kernel
theorem dX12_frames_5 : decode cX12_frames 5 = .ok (.ifCond .ne 7, 3) := by decide +kernel
theorem dX12_frames_8 : decode cX12_frames 8 = .ok (.iconst 0, 1) := by decide +kernel
theorem dX12_frames_9 : decode cX12_frames 9 = .ok (.goto 30, 3) := by decide +kernel
theorem dX12_frames_12 : decode cX12_frames 12 = .ok (.iload_n 1, 1) := by decide +kernel
theorem dX12_frames_13 : decode cX12_frames 13 = .ok (.iconst 1, 1) := by decide +kernel
theorem dX12_frames_14 : decode cX12_frames 14 = .ok (.bipush 40, 2) := by decide +kernel
theorem dX12_frames_16 : decode cX12_frames 16 = .ok (.invokestatic 75, 3) := by decide +kernel
theorem dX12_frames_19 : decode cX12_frames 19 = .ok (.ifCond .ne 7, 3) := by decide +kernel
theorem dX12_frames_22 : decode cX12_frames 22 = .ok (.iconst 1, 1) := by decide +kernel
theorem dX12_frames_23 : decode cX12_frames 23 = .ok (.goto 16, 3) := by decide +kernel
theorem dX12_frames_26 : decode cX12_frames 26 = .ok (.aload_n 0, 1) := by decide +kernel
theorem dX12_frames_27 : decode cX12_frames 27 = .ok (.iload_n 1, 1) := by decide +kernel
theorem dX12_frames_28 : decode cX12_frames 28 = .ok (.invokevirtual 319, 3) := by decide +kernel
theorem dX12_frames_31 : decode cX12_frames 31 = .ok (.ifCond .ne 7, 3) := by decide +kernel
theorem dX12_frames_34 : decode cX12_frames 34 = .ok (.iconst 4, 1) := by decide +kernel
theorem dX12_frames_35 : decode cX12_frames 35 = .ok (.goto 4, 3) := by decide +kernel
theorem dX12_frames_38 : decode cX12_frames 38 = .ok (.iconst (-1), 1) := by decide +kernel
theorem dX12_frames_39 : decode cX12_frames 39 = .ok (.invokevirtual 322, 3) := by decide +kernel
theorem dX12_frames_42 : decode cX12_frames 42 = .ok (.ifCond .eq 5, 3) := by decide +kernel
theorem dX12_frames_45 : decode cX12_frames 45 = .ok (.iconst (-1), 1) := by decide +kernel
theorem dX12_frames_46 : decode cX12_frames 46 = .ok (.ireturn, 1) := by decide +kernel
theorem dX12_frames_47 : decode cX12_frames 47 = .ok (.iconst 0, 1) := by decide +kernel
theorem dX12_frames_48 : decode cX12_frames 48 = .ok (.istore_n 2, 1) := by decide +kernel
theorem dX12_frames_49 : decode cX12_frames 49 = .ok (.iload_n 2, 1) := by decide +kernel
theorem dX12_frames_50 : decode cX12_frames 50 = .ok (.iload_n 1, 1) := by decide +kernel
theorem dX12_frames_51 : decode cX12_frames 51 = .ok (.if_icmp .ge 17, 3) := by decide +kernel
theorem dX12_frames_54 : decode cX12_frames 54 = .ok (.aload_n 0, 1) := by decide +kernel
theorem dX12_frames_55 : decode cX12_frames 55 = .ok (.invokevirtual 325, 3) := by decide +kernel
theorem dX12_frames_58 : decode cX12_frames 58 = .ok (.aload_n 0, 1) := by decide +kernel
theorem dX12_frames_59 : decode cX12_frames 59 = .ok (.invokevirtual 328, 3) := by decide +kernel
theorem dX12_frames_62 : decode cX12_frames 62 = .ok (.iinc 2 1, 3) := by decide +kernel
theorem dX12_frames_65 : decode cX12_frames 65 = .ok (.goto (-16), 3) := by decide +kernel
theorem dX12_frames_68 : decode cX12_frames 68 = .ok (.aload_n 0, 1) := by decide +kernel
theorem dX12_frames_69 : decode cX12_frames 69 = .ok (.getfield 31, 3) := by decide +kernel
theorem dX12_frames_72 : decode cX12_frames 72 = .ok (.sipush 368, 3) := by decide +kernel
theorem dX12_frames_75 : decode cX12_frames 75 = .ok (.iaload, 1) := by decide +kernel
theorem dX12_frames_76 : decode cX12_frames 76 = .ok (.ireturn, 1) := by decide +kernel
theorem dX12_isAsked_0 : decode cX12_isAsked 0 = .ok (.iload_n 0, 1) := by decide +kernel
theorem dX12_isAsked_1 : decode cX12_isAsked 1 = .ok (.iconst 3, 1) := by decide +kernel
theorem dX12_isAsked_2 : decode cX12_isAsked 2 = .ok (.if_icmp .ne 15, 3) := by decide +kernel
theorem dX12_isAsked_5 : decode cX12_isAsked 5 = .ok (.iload_n 1, 1) := by decide +kernel
theorem dX12_isAsked_6 : decode cX12_isAsked 6 = .ok (.ifCond .ne 7, 3) := by decide +kernel
theorem dX12_isAsked_9 : decode cX12_isAsked 9 = .ok (.iconst 1, 1) := by decide +kernel
theorem dX12_isAsked_10 : decode cX12_isAsked 10 = .ok (.goto 27, 3) := by decide +kernel
theorem dX12_isAsked_13 : decode cX12_isAsked 13 = .ok (.iconst 0, 1) := by decide +kernel
theorem dX12_isAsked_14 : decode cX12_isAsked 14 = .ok (.goto 23, 3) := by decide +kernel
theorem dX12_isAsked_17 : decode cX12_isAsked 17 = .ok (.iload_n 0, 1) := by decide +kernel
theorem dX12_isAsked_18 : decode cX12_isAsked 18 = .ok (.iconst 2, 1) := by decide +kernel
theorem dX12_isAsked_19 : decode cX12_isAsked 19 = .ok (.if_icmp .ne 12, 3) := by decide +kernel
theorem dX12_isAsked_22 : decode cX12_isAsked 22 = .ok (.iload_n 1, 1) := by decide +kernel
theorem dX12_isAsked_23 : decode cX12_isAsked 23 = .ok (.iconst 0, 1) := by decide +kernel
theorem dX12_isAsked_24 : decode cX12_isAsked 24 = .ok (.iconst 5, 1) := by decide +kernel
theorem dX12_isAsked_25 : decode cX12_isAsked 25 = .ok (.invokestatic 75, 3) := by decide +kernel
theorem dX12_isAsked_28 : decode cX12_isAsked 28 = .ok (.goto 9, 3) := by decide +kernel
theorem dX12_isAsked_31 : decode cX12_isAsked 31 = .ok (.iload_n 1, 1) := by decide +kernel
theorem dX12_isAsked_32 : decode cX12_isAsked 32 = .ok (.iconst 1, 1) := by decide +kernel
theorem dX12_isAsked_33 : decode cX12_isAsked 33 = .ok (.iconst 3, 1) := by decide +kernel
theorem dX12_isAsked_34 : decode cX12_isAsked 34 = .ok (.invokestatic 75, 3) := by decide +kernel
theorem dX12_isAsked_37 : decode cX12_isAsked 37 = .ok (.ireturn, 1) := by decide +kernel
theorem dX12_deal_0 : decode cX12_deal 0 = .ok (.aload_n 0, 1) := by decide +kernel
theorem dX12_deal_1 : decode cX12_deal 1 = .ok (.aload_n 0, 1) := by decide +kernel
theorem dX12_deal_2 : decode cX12_deal 2 = .ok (.iload_n 1, 1) := by decide +kernel
theorem dX12_deal_3 : decode cX12_deal 3 = .ok (.invokevirtual 313, 3) := by decide +kernel
theorem dX12_deal_6 : decode cX12_deal 6 = .ok (.ifCond .ne 7, 3) := by decide +kernel
theorem dX12_deal_9 : decode cX12_deal 9 = .ok (.iconst 0, 1) := by decide +kernel
theorem dX12_deal_10 : decode cX12_deal 10 = .ok (.goto 60, 3) := by decide +kernel
theorem dX12_deal_13 : decode cX12_deal 13 = .ok (.iload_n 2, 1) := by decide +kernel
theorem dX12_deal_14 : decode cX12_deal 14 = .ok (.iconst 0, 1) := by decide +kernel
theorem dX12_deal_15 : decode cX12_deal 15 = .ok (.iconst 3, 1) := by decide +kernel
theorem dX12_deal_16 : decode cX12_deal 16 = .ok (.invokestatic 75, 3) := by decide +kernel
theorem dX12_deal_19 : decode cX12_deal 19 = .ok (.ifCond .eq 11, 3) := by decide +kernel
theorem dX12_deal_22 : decode cX12_deal 22 = .ok (.iload_n 2, 1) := by decide +kernel
theorem dX12_deal_23 : decode cX12_deal 23 = .ok (.iload_n 3, 1) := by decide +kernel
theorem dX12_deal_24 : decode cX12_deal 24 = .ok (.invokestatic 331, 3) := by decide +kernel
theorem dX12_deal_27 : decode cX12_deal 27 = .ok (.ifCond .ne 7, 3) := by decide +kernel
theorem dX12_deal_30 : decode cX12_deal 30 = .ok (.iconst 1, 1) := by decide +kernel
theorem dX12_deal_31 : decode cX12_deal 31 = .ok (.goto 39, 3) := by decide +kernel
theorem dX12_deal_34 : decode cX12_deal 34 = .ok (.iload_n 2, 1) := by decide +kernel
theorem dX12_deal_35 : decode cX12_deal 35 = .ok (.iconst 2, 1) := by decide +kernel
theorem dX12_deal_36 : decode cX12_deal 36 = .ok (.if_icmp .ne 18, 3) := by decide +kernel
theorem dX12_deal_39 : decode cX12_deal 39 = .ok (.iload_n 3, 1) := by decide +kernel
theorem dX12_deal_40 : decode cX12_deal 40 = .ok (.aload_n 0, 1) := by decide +kernel
theorem dX12_deal_41 : decode cX12_deal 41 = .ok (.iload_n 1, 1) := by decide +kernel
theorem dX12_deal_42 : decode cX12_deal 42 = .ok (.bipush 18, 2) := by decide +kernel
theorem dX12_deal_44 : decode cX12_deal 44 = .ok (.invokevirtual 161, 3) := by decide +kernel
theorem dX12_deal_47 : decode cX12_deal 47 = .ok (.if_icmp .lt 7, 3) := by decide +kernel
theorem dX12_deal_50 : decode cX12_deal 50 = .ok (.iconst 2, 1) := by decide +kernel
theorem dX12_deal_51 : decode cX12_deal 51 = .ok (.goto 19, 3) := by decide +kernel
theorem dX12_deal_54 : decode cX12_deal 54 = .ok (.aload_n 0, 1) := by decide +kernel
theorem dX12_deal_55 : decode cX12_deal 55 = .ok (.iload_n 1, 1) := by decide +kernel
theorem dX12_deal_56 : decode cX12_deal 56 = .ok (.iload_n 2, 1) := by decide +kernel
theorem dX12_deal_57 : decode cX12_deal 57 = .ok (.iload_n 3, 1) := by decide +kernel
theorem dX12_deal_58 : decode cX12_deal 58 = .ok (.invokevirtual 202, 3) := by decide +kernel
theorem dX12_deal_61 : decode cX12_deal 61 = .ok (.iconst (-1), 1) := by decide +kernel
theorem dX12_deal_62 : decode cX12_deal 62 = .ok (.if_icmp .ne 7, 3) := by decide +kernel
theorem dX12_deal_65 : decode cX12_deal 65 = .ok (.iconst 3, 1) := by decide +kernel
theorem dX12_deal_66 : decode cX12_deal 66 = .ok (.goto 4, 3) := by decide +kernel
theorem dX12_deal_69 : decode cX12_deal 69 = .ok (.iconst (-1), 1) := by decide +kernel
theorem dX12_deal_70 : decode cX12_deal 70 = .ok (.invokevirtual 322, 3) := by decide +kernel
theorem dX12_deal_73 : decode cX12_deal 73 = .ok (.ifCond .eq 5, 3) := by decide +kernel
theorem dX12_deal_76 : decode cX12_deal 76 = .ok (.iconst (-1), 1) := by decide +kernel
theorem dX12_deal_77 : decode cX12_deal 77 = .ok (.ireturn, 1) := by decide +kernel
theorem dX12_deal_78 : decode cX12_deal 78 = .ok (.aload_n 0, 1) := by decide +kernel
theorem dX12_deal_79 : decode cX12_deal 79 = .ok (.invokevirtual 325, 3) := by decide +kernel
theorem dX12_deal_82 : decode cX12_deal 82 = .ok (.aload_n 0, 1) := by decide +kernel
theorem dX12_deal_83 : decode cX12_deal 83 = .ok (.iload_n 1, 1) := by decide +kernel
theorem dX12_deal_84 : decode cX12_deal 84 = .ok (.iload_n 2, 1) := by decide +kernel
theorem dX12_deal_85 : decode cX12_deal 85 = .ok (.iload_n 3, 1) := by decide +kernel
theorem dX12_deal_86 : decode cX12_deal 86 = .ok (.invokevirtual 253, 3) := by decide +kernel
theorem dX12_deal_89 : decode cX12_deal 89 = .ok (.aload_n 0, 1) := by decide +kernel
theorem dX12_deal_90 : decode cX12_deal 90 = .ok (.iload_n 1, 1) := by decide +kernel
theorem dX12_deal_91 : decode cX12_deal 91 = .ok (.bipush 48, 2) := by decide +kernel
theorem dX12_deal_93 : decode cX12_deal 93 = .ok (.invokevirtual 161, 3) := by decide +kernel
theorem dX12_deal_96 : decode cX12_deal 96 = .ok (.ireturn, 1) := by decide +kernel
theorem dX12_lose_0 : decode cX12_lose 0 = .ok (.aload_n 0, 1) := by decide +kernel
theorem dX12_lose_1 : decode cX12_lose 1 = .ok (.aload_n 0, 1) := by decide +kernel
theorem dX12_lose_2 : decode cX12_lose 2 = .ok (.iload_n 1, 1) := by decide +kernel
theorem dX12_lose_3 : decode cX12_lose 3 = .ok (.invokevirtual 313, 3) := by decide +kernel
theorem dX12_lose_6 : decode cX12_lose 6 = .ok (.ifCond .ne 7, 3) := by decide +kernel
theorem dX12_lose_9 : decode cX12_lose 9 = .ok (.iconst 0, 1) := by decide +kernel
theorem dX12_lose_10 : decode cX12_lose 10 = .ok (.goto 18, 3) := by decide +kernel
theorem dX12_lose_13 : decode cX12_lose 13 = .ok (.aload_n 0, 1) := by decide +kernel
theorem dX12_lose_14 : decode cX12_lose 14 = .ok (.iload_n 1, 1) := by decide +kernel
theorem dX12_lose_15 : decode cX12_lose 15 = .ok (.bipush 43, 2) := by decide +kernel
theorem dX12_lose_17 : decode cX12_lose 17 = .ok (.invokevirtual 161, 3) := by decide +kernel
theorem dX12_lose_20 : decode cX12_lose 20 = .ok (.ifCond .ne 7, 3) := by decide +kernel
theorem dX12_lose_23 : decode cX12_lose 23 = .ok (.iconst 2, 1) := by decide +kernel
theorem dX12_lose_24 : decode cX12_lose 24 = .ok (.goto 4, 3) := by decide +kernel
theorem dX12_lose_27 : decode cX12_lose 27 = .ok (.iconst (-1), 1) := by decide +kernel
theorem dX12_lose_28 : decode cX12_lose 28 = .ok (.invokevirtual 322, 3) := by decide +kernel
theorem dX12_lose_31 : decode cX12_lose 31 = .ok (.ifCond .eq 5, 3) := by decide +kernel
theorem dX12_lose_34 : decode cX12_lose 34 = .ok (.iconst (-1), 1) := by decide +kernel
theorem dX12_lose_35 : decode cX12_lose 35 = .ok (.ireturn, 1) := by decide +kernel
theorem dX12_lose_36 : decode cX12_lose 36 = .ok (.aload_n 0, 1) := by decide +kernel
theorem dX12_lose_37 : decode cX12_lose 37 = .ok (.invokevirtual 325, 3) := by decide +kernel
theorem dX12_lose_40 : decode cX12_lose 40 = .ok (.aload_n 0, 1) := by decide +kernel
theorem dX12_lose_41 : decode cX12_lose 41 = .ok (.iload_n 1, 1) := by decide +kernel
theorem dX12_lose_42 : decode cX12_lose 42 = .ok (.bipush 43, 2) := by decide +kernel
theorem dX12_lose_44 : decode cX12_lose 44 = .ok (.iconst 0, 1) := by decide +kernel
theorem dX12_lose_45 : decode cX12_lose 45 = .ok (.invokevirtual 141, 3) := by decide +kernel
theorem dX12_lose_48 : decode cX12_lose 48 = .ok (.aload_n 0, 1) := by decide +kernel
theorem dX12_lose_49 : decode cX12_lose 49 = .ok (.iload_n 1, 1) := by decide +kernel
theorem dX12_lose_50 : decode cX12_lose 50 = .ok (.bipush 44, 2) := by decide +kernel
theorem dX12_lose_52 : decode cX12_lose 52 = .ok (.invokevirtual 161, 3) := by decide +kernel
theorem dX12_lose_55 : decode cX12_lose 55 = .ok (.ireturn, 1) := by decide +kernel
theorem dX12_jam_0 : decode cX12_jam 0 = .ok (.aload_n 0, 1) := by decide +kernel
theorem dX12_jam_1 : decode cX12_jam 1 = .ok (.aload_n 0, 1) := by decide +kernel
theorem dX12_jam_2 : decode cX12_jam 2 = .ok (.getfield 138, 3) := by decide +kernel
theorem dX12_jam_5 : decode cX12_jam 5 = .ok (.ifCond .ne 7, 3) := by decide +kernel
theorem dX12_jam_8 : decode cX12_jam 8 = .ok (.iconst 0, 1) := by decide +kernel
theorem dX12_jam_9 : decode cX12_jam 9 = .ok (.goto 18, 3) := by decide +kernel
theorem dX12_jam_12 : decode cX12_jam 12 = .ok (.iload_n 1, 1) := by decide +kernel
theorem dX12_jam_13 : decode cX12_jam 13 = .ok (.iconst 0, 1) := by decide +kernel
theorem dX12_jam_14 : decode cX12_jam 14 = .ok (.bipush 15, 2) := by decide +kernel
theorem dX12_jam_16 : decode cX12_jam 16 = .ok (.invokestatic 75, 3) := by decide +kernel
theorem dX12_jam_19 : decode cX12_jam 19 = .ok (.ifCond .ne 7, 3) := by decide +kernel
theorem dX12_jam_22 : decode cX12_jam 22 = .ok (.iconst 1, 1) := by decide +kernel
theorem dX12_jam_23 : decode cX12_jam 23 = .ok (.goto 4, 3) := by decide +kernel
theorem dX12_jam_26 : decode cX12_jam 26 = .ok (.iconst (-1), 1) := by decide +kernel
theorem dX12_jam_27 : decode cX12_jam 27 = .ok (.invokevirtual 322, 3) := by decide +kernel
theorem dX12_jam_30 : decode cX12_jam 30 = .ok (.ifCond .eq 5, 3) := by decide +kernel
theorem dX12_jam_33 : decode cX12_jam 33 = .ok (.iconst (-1), 1) := by decide +kernel
theorem dX12_jam_34 : decode cX12_jam 34 = .ok (.ireturn, 1) := by decide +kernel
theorem dX12_jam_35 : decode cX12_jam 35 = .ok (.aload_n 0, 1) := by decide +kernel
theorem dX12_jam_36 : decode cX12_jam 36 = .ok (.invokevirtual 325, 3) := by decide +kernel
theorem dX12_jam_39 : decode cX12_jam 39 = .ok (.aload_n 0, 1) := by decide +kernel
theorem dX12_jam_40 : decode cX12_jam 40 = .ok (.getfield 31, 3) := by decide +kernel
theorem dX12_jam_43 : decode cX12_jam 43 = .ok (.sipush 366, 3) := by decide +kernel
theorem dX12_jam_46 : decode cX12_jam 46 = .ok (.dup2, 1) := by decide +kernel
theorem dX12_jam_47 : decode cX12_jam 47 = .ok (.iaload, 1) := by decide +kernel
theorem dX12_jam_48 : decode cX12_jam 48 = .ok (.iconst 1, 1) := by decide +kernel
theorem dX12_jam_49 : decode cX12_jam 49 = .ok (.iload_n 1, 1) := by decide +kernel
theorem dX12_jam_50 : decode cX12_jam 50 = .ok (.ishl, 1) := by decide +kernel
theorem dX12_jam_51 : decode cX12_jam 51 = .ok (.ixor, 1) := by decide +kernel
theorem dX12_jam_52 : decode cX12_jam 52 = .ok (.iastore, 1) := by decide +kernel
theorem dX12_jam_53 : decode cX12_jam 53 = .ok (.aload_n 0, 1) := by decide +kernel
theorem dX12_jam_54 : decode cX12_jam 54 = .ok (.getfield 31, 3) := by decide +kernel
theorem dX12_jam_57 : decode cX12_jam 57 = .ok (.sipush 366, 3) := by decide +kernel
theorem dX12_jam_60 : decode cX12_jam 60 = .ok (.iaload, 1) := by decide +kernel
theorem dX12_jam_61 : decode cX12_jam 61 = .ok (.iload_n 1, 1) := by decide +kernel
theorem dX12_jam_62 : decode cX12_jam 62 = .ok (.ishr, 1) := by decide +kernel
theorem dX12_jam_63 : decode cX12_jam 63 = .ok (.iconst 1, 1) := by decide +kernel
theorem dX12_jam_64 : decode cX12_jam 64 = .ok (.iand, 1) := by decide +kernel
theorem dX12_jam_65 : decode cX12_jam 65 = .ok (.ireturn, 1) := by decide +kernel
theorem dX12_load_0 : decode cX12_load 0 = .ok (.aload_n 0, 1) := by decide +kernel
theorem dX12_load_1 : decode cX12_load 1 = .ok (.aload_n 0, 1) := by decide +kernel
theorem dX12_load_2 : decode cX12_load 2 = .ok (.iload_n 1, 1) := by decide +kernel
theorem dX12_load_3 : decode cX12_load 3 = .ok (.invokevirtual 313, 3) := by decide +kernel
theorem dX12_load_6 : decode cX12_load 6 = .ok (.ifCond .ne 7, 3) := by decide +kernel
theorem dX12_load_9 : decode cX12_load 9 = .ok (.iconst 0, 1) := by decide +kernel
theorem dX12_load_10 : decode cX12_load 10 = .ok (.goto 33, 3) := by decide +kernel
theorem dX12_load_13 : decode cX12_load 13 = .ok (.iload_n 2, 1) := by decide +kernel
theorem dX12_load_14 : decode cX12_load 14 = .ok (.iconst 0, 1) := by decide +kernel
theorem dX12_load_15 : decode cX12_load 15 = .ok (.bipush 9, 2) := by decide +kernel
theorem dX12_load_17 : decode cX12_load 17 = .ok (.invokestatic 75, 3) := by decide +kernel
theorem dX12_load_20 : decode cX12_load 20 = .ok (.ifCond .ne 7, 3) := by decide +kernel
theorem dX12_load_23 : decode cX12_load 23 = .ok (.iconst 1, 1) := by decide +kernel
theorem dX12_load_24 : decode cX12_load 24 = .ok (.goto 19, 3) := by decide +kernel
theorem dX12_load_27 : decode cX12_load 27 = .ok (.iload_n 2, 1) := by decide +kernel
theorem dX12_load_28 : decode cX12_load 28 = .ok (.aload_n 0, 1) := by decide +kernel
theorem dX12_load_29 : decode cX12_load 29 = .ok (.iload_n 1, 1) := by decide +kernel
theorem dX12_load_30 : decode cX12_load 30 = .ok (.bipush 58, 2) := by decide +kernel
theorem dX12_load_32 : decode cX12_load 32 = .ok (.invokevirtual 161, 3) := by decide +kernel
theorem dX12_load_35 : decode cX12_load 35 = .ok (.if_icmp .ne 7, 3) := by decide +kernel
theorem dX12_load_38 : decode cX12_load 38 = .ok (.iconst 2, 1) := by decide +kernel
theorem dX12_load_39 : decode cX12_load 39 = .ok (.goto 4, 3) := by decide +kernel
theorem dX12_load_42 : decode cX12_load 42 = .ok (.iconst (-1), 1) := by decide +kernel
theorem dX12_load_43 : decode cX12_load 43 = .ok (.invokevirtual 322, 3) := by decide +kernel
theorem dX12_load_46 : decode cX12_load 46 = .ok (.ifCond .eq 5, 3) := by decide +kernel
theorem dX12_load_49 : decode cX12_load 49 = .ok (.iconst (-1), 1) := by decide +kernel
theorem dX12_load_50 : decode cX12_load 50 = .ok (.ireturn, 1) := by decide +kernel
theorem dX12_load_51 : decode cX12_load 51 = .ok (.aload_n 0, 1) := by decide +kernel
theorem dX12_load_52 : decode cX12_load 52 = .ok (.invokevirtual 325, 3) := by decide +kernel
theorem dX12_load_55 : decode cX12_load 55 = .ok (.aload_n 0, 1) := by decide +kernel
theorem dX12_load_56 : decode cX12_load 56 = .ok (.iload_n 1, 1) := by decide +kernel
theorem dX12_load_57 : decode cX12_load 57 = .ok (.bipush 58, 2) := by decide +kernel
theorem dX12_load_59 : decode cX12_load 59 = .ok (.invokevirtual 161, 3) := by decide +kernel
theorem dX12_load_62 : decode cX12_load 62 = .ok (.istore_n 3, 1) := by decide +kernel
theorem dX12_load_63 : decode cX12_load 63 = .ok (.aload_n 0, 1) := by decide +kernel
theorem dX12_load_64 : decode cX12_load 64 = .ok (.iload_n 1, 1) := by decide +kernel
theorem dX12_load_65 : decode cX12_load 65 = .ok (.bipush 58, 2) := by decide +kernel
theorem dX12_load_67 : decode cX12_load 67 = .ok (.iload_n 2, 1) := by decide +kernel
theorem dX12_load_68 : decode cX12_load 68 = .ok (.invokevirtual 141, 3) := by decide +kernel
theorem dX12_load_71 : decode cX12_load 71 = .ok (.iload_n 3, 1) := by decide +kernel
theorem dX12_load_72 : decode cX12_load 72 = .ok (.ireturn, 1) := by decide +kernel
theorem dX12_auto_0 : decode cX12_auto 0 = .ok (.aload_n 0, 1) := by decide +kernel
theorem dX12_auto_1 : decode cX12_auto 1 = .ok (.aload_n 0, 1) := by decide +kernel
theorem dX12_auto_2 : decode cX12_auto 2 = .ok (.getfield 138, 3) := by decide +kernel
theorem dX12_auto_5 : decode cX12_auto 5 = .ok (.ifCond .ne 7, 3) := by decide +kernel
theorem dX12_auto_8 : decode cX12_auto 8 = .ok (.iconst 0, 1) := by decide +kernel
theorem dX12_auto_9 : decode cX12_auto 9 = .ok (.goto 4, 3) := by decide +kernel
theorem dX12_auto_12 : decode cX12_auto 12 = .ok (.iconst (-1), 1) := by decide +kernel
theorem dX12_auto_13 : decode cX12_auto 13 = .ok (.invokevirtual 322, 3) := by decide +kernel
theorem dX12_auto_16 : decode cX12_auto 16 = .ok (.ifCond .eq 5, 3) := by decide +kernel
theorem dX12_auto_19 : decode cX12_auto 19 = .ok (.iconst (-1), 1) := by decide +kernel
theorem dX12_auto_20 : decode cX12_auto 20 = .ok (.ireturn, 1) := by decide +kernel
theorem dX12_auto_21 : decode cX12_auto 21 = .ok (.aload_n 0, 1) := by decide +kernel
theorem dX12_auto_22 : decode cX12_auto 22 = .ok (.invokevirtual 325, 3) := by decide +kernel
theorem dX12_auto_25 : decode cX12_auto 25 = .ok (.aload_n 0, 1) := by decide +kernel
theorem dX12_auto_26 : decode cX12_auto 26 = .ok (.getfield 31, 3) := by decide +kernel
theorem dX12_auto_29 : decode cX12_auto 29 = .ok (.sipush 367, 3) := by decide +kernel
theorem dX12_auto_32 : decode cX12_auto 32 = .ok (.iconst 1, 1) := by decide +kernel
theorem dX12_auto_33 : decode cX12_auto 33 = .ok (.aload_n 0, 1) := by decide +kernel
theorem dX12_auto_34 : decode cX12_auto 34 = .ok (.getfield 31, 3) := by decide +kernel
theorem dX12_auto_37 : decode cX12_auto 37 = .ok (.sipush 367, 3) := by decide +kernel
theorem dX12_auto_40 : decode cX12_auto 40 = .ok (.iaload, 1) := by decide +kernel
theorem dX12_auto_41 : decode cX12_auto 41 = .ok (.isub, 1) := by decide +kernel
theorem dX12_auto_42 : decode cX12_auto 42 = .ok (.iastore, 1) := by decide +kernel
theorem dX12_auto_43 : decode cX12_auto 43 = .ok (.aload_n 0, 1) := by decide +kernel
theorem dX12_auto_44 : decode cX12_auto 44 = .ok (.getfield 31, 3) := by decide +kernel
theorem dX12_auto_47 : decode cX12_auto 47 = .ok (.sipush 367, 3) := by decide +kernel
theorem dX12_auto_50 : decode cX12_auto 50 = .ok (.iaload, 1) := by decide +kernel
theorem dX12_auto_51 : decode cX12_auto 51 = .ok (.ireturn, 1) := by decide +kernel
theorem dX12_draw_0 : decode cX12_draw 0 = .ok (.aload_n 0, 1) := by decide +kernel
theorem dX12_draw_1 : decode cX12_draw 1 = .ok (.aload_n 0, 1) := by decide +kernel
theorem dX12_draw_2 : decode cX12_draw 2 = .ok (.getfield 334, 3) := by decide +kernel
theorem dX12_draw_5 : decode cX12_draw 5 = .ok (.ldc2_w 338, 3) := by decide +kernel
theorem dX12_draw_8 : decode cX12_draw 8 = .ok (.lmul, 1) := by decide +kernel
theorem dX12_draw_9 : decode cX12_draw 9 = .ok (.ldc2_w 340, 3) := by decide +kernel
theorem dX12_draw_12 : decode cX12_draw 12 = .ok (.ladd, 1) := by decide +kernel
theorem dX12_draw_13 : decode cX12_draw 13 = .ok (.putfield 334, 3) := by decide +kernel
theorem dX12_draw_16 : decode cX12_draw 16 = .ok (.aload_n 0, 1) := by decide +kernel
theorem dX12_draw_17 : decode cX12_draw 17 = .ok (.getfield 334, 3) := by decide +kernel
theorem dX12_draw_20 : decode cX12_draw 20 = .ok (.bipush 33, 2) := by decide +kernel
theorem dX12_draw_22 : decode cX12_draw 22 = .ok (.lushr, 1) := by decide +kernel
theorem dX12_draw_23 : decode cX12_draw 23 = .ok (.iload_n 1, 1) := by decide +kernel
theorem dX12_draw_24 : decode cX12_draw 24 = .ok (.i2l, 1) := by decide +kernel
theorem dX12_draw_25 : decode cX12_draw 25 = .ok (.lrem, 1) := by decide +kernel
theorem dX12_draw_26 : decode cX12_draw 26 = .ok (.l2i, 1) := by decide +kernel
theorem dX12_draw_27 : decode cX12_draw 27 = .ok (.ireturn, 1) := by decide +kernel
theorem dX12_drawFrame_0 : decode cX12_drawFrame 0 = .ok (.aload_n 0, 1) := by decide +kernel
theorem dX12_drawFrame_1 : decode cX12_drawFrame 1 = .ok (.bipush 10, 2) := by decide +kernel
theorem dX12_drawFrame_3 : decode cX12_drawFrame 3 = .ok (.invokevirtual 342, 3) := by decide +kernel
theorem dX12_drawFrame_6 : decode cX12_drawFrame 6 = .ok (.aload_n 0, 1) := by decide +kernel
theorem dX12_drawFrame_7 : decode cX12_drawFrame 7 = .ok (.getfield 37, 3) := by decide +kernel
theorem dX12_drawFrame_10 : decode cX12_drawFrame 10 = .ok (.if_icmp .ge 18, 3) := by decide +kernel
theorem dX12_drawFrame_13 : decode cX12_drawFrame 13 = .ok (.aload_n 0, 1) := by decide +kernel
theorem dX12_drawFrame_14 : decode cX12_drawFrame 14 = .ok (.aload_n 0, 1) := by decide +kernel
theorem dX12_drawFrame_15 : decode cX12_drawFrame 15 = .ok (.aload_n 0, 1) := by decide +kernel
theorem dX12_drawFrame_16 : decode cX12_drawFrame 16 = .ok (.getfield 138, 3) := by decide +kernel
theorem dX12_drawFrame_19 : decode cX12_drawFrame 19 = .ok (.invokevirtual 342, 3) := by decide +kernel
theorem dX12_drawFrame_22 : decode cX12_drawFrame 22 = .ok (.bipush 43, 2) := by decide +kernel
theorem dX12_drawFrame_24 : decode cX12_drawFrame 24 = .ok (.iconst 0, 1) := by decide +kernel
theorem dX12_drawFrame_25 : decode cX12_drawFrame 25 = .ok (.invokevirtual 141, 3) := by decide +kernel
theorem dX12_drawFrame_28 : decode cX12_drawFrame 28 = .ok (.aload_n 0, 1) := by decide +kernel
theorem dX12_drawFrame_29 : decode cX12_drawFrame 29 = .ok (.bipush 20, 2) := by decide +kernel
theorem dX12_drawFrame_31 : decode cX12_drawFrame 31 = .ok (.invokevirtual 342, 3) := by decide +kernel
theorem dX12_drawFrame_34 : decode cX12_drawFrame 34 = .ok (.iconst 1, 1) := by decide +kernel
theorem dX12_drawFrame_35 : decode cX12_drawFrame 35 = .ok (.if_icmp .ge 22, 3) := by decide +kernel
theorem dX12_drawFrame_38 : decode cX12_drawFrame 38 = .ok (.aload_n 0, 1) := by decide +kernel
theorem dX12_drawFrame_39 : decode cX12_drawFrame 39 = .ok (.getfield 31, 3) := by decide +kernel
theorem dX12_drawFrame_42 : decode cX12_drawFrame 42 = .ok (.sipush 366, 3) := by decide +kernel
theorem dX12_drawFrame_45 : decode cX12_drawFrame 45 = .ok (.dup2, 1) := by decide +kernel
theorem dX12_drawFrame_46 : decode cX12_drawFrame 46 = .ok (.iaload, 1) := by decide +kernel
theorem dX12_drawFrame_47 : decode cX12_drawFrame 47 = .ok (.iconst 1, 1) := by decide +kernel
theorem dX12_drawFrame_48 : decode cX12_drawFrame 48 = .ok (.aload_n 0, 1) := by decide +kernel
theorem dX12_drawFrame_49 : decode cX12_drawFrame 49 = .ok (.bipush 16, 2) := by decide +kernel
theorem dX12_drawFrame_51 : decode cX12_drawFrame 51 = .ok (.invokevirtual 342, 3) := by decide +kernel
theorem dX12_drawFrame_54 : decode cX12_drawFrame 54 = .ok (.ishl, 1) := by decide +kernel
theorem dX12_drawFrame_55 : decode cX12_drawFrame 55 = .ok (.ixor, 1) := by decide +kernel
theorem dX12_drawFrame_56 : decode cX12_drawFrame 56 = .ok (.iastore, 1) := by decide +kernel
theorem dX12_drawFrame_57 : decode cX12_drawFrame 57 = .ok (.return_, 1) := by decide +kernel
theorem dX12_years_0 : decode cX12_years 0 = .ok (.aload_n 0, 1) := by decide +kernel
theorem dX12_years_1 : decode cX12_years 1 = .ok (.getfield 138, 3) := by decide +kernel
theorem dX12_years_4 : decode cX12_years 4 = .ok (.ifCond .eq 11, 3) := by decide +kernel
theorem dX12_years_7 : decode cX12_years 7 = .ok (.aload_n 0, 1) := by decide +kernel
theorem dX12_years_8 : decode cX12_years 8 = .ok (.iload_n 1, 1) := by decide +kernel
theorem dX12_years_9 : decode cX12_years 9 = .ok (.invokevirtual 319, 3) := by decide +kernel
theorem dX12_years_12 : decode cX12_years 12 = .ok (.ifCond .ne 5, 3) := by decide +kernel
theorem dX12_years_15 : decode cX12_years 15 = .ok (.iconst (-1), 1) := by decide +kernel
theorem dX12_years_16 : decode cX12_years 16 = .ok (.ireturn, 1) := by decide +kernel
theorem dX12_years_17 : decode cX12_years 17 = .ok (.aload_n 0, 1) := by decide +kernel
theorem dX12_years_18 : decode cX12_years 18 = .ok (.lload_n 2, 1) := by decide +kernel
theorem dX12_years_19 : decode cX12_years 19 = .ok (.putfield 334, 3) := by decide +kernel
theorem dX12_years_22 : decode cX12_years 22 = .ok (.iconst 0, 1) := by decide +kernel
theorem dX12_years_23 : decode cX12_years 23 = .ok (.istore 4, 2) := by decide +kernel
theorem dX12_years_25 : decode cX12_years 25 = .ok (.iload 4, 2) := by decide +kernel
theorem dX12_years_27 : decode cX12_years 27 = .ok (.iload_n 1, 1) := by decide +kernel
theorem dX12_years_28 : decode cX12_years 28 = .ok (.if_icmp .ge 21, 3) := by decide +kernel
theorem dX12_years_31 : decode cX12_years 31 = .ok (.aload_n 0, 1) := by decide +kernel
theorem dX12_years_32 : decode cX12_years 32 = .ok (.invokevirtual 325, 3) := by decide +kernel
theorem dX12_years_35 : decode cX12_years 35 = .ok (.aload_n 0, 1) := by decide +kernel
theorem dX12_years_36 : decode cX12_years 36 = .ok (.invokevirtual 345, 3) := by decide +kernel
theorem dX12_years_39 : decode cX12_years 39 = .ok (.aload_n 0, 1) := by decide +kernel
theorem dX12_years_40 : decode cX12_years 40 = .ok (.invokevirtual 328, 3) := by decide +kernel
theorem dX12_years_43 : decode cX12_years 43 = .ok (.iinc 4 1, 3) := by decide +kernel
theorem dX12_years_46 : decode cX12_years 46 = .ok (.goto (-21), 3) := by decide +kernel
theorem dX12_years_49 : decode cX12_years 49 = .ok (.aload_n 0, 1) := by decide +kernel
theorem dX12_years_50 : decode cX12_years 50 = .ok (.getfield 31, 3) := by decide +kernel
theorem dX12_years_53 : decode cX12_years 53 = .ok (.sipush 368, 3) := by decide +kernel
theorem dX12_years_56 : decode cX12_years 56 = .ok (.iaload, 1) := by decide +kernel
theorem dX12_years_57 : decode cX12_years 57 = .ok (.ireturn, 1) := by decide +kernel
theorem dX12_status_0 : decode cX12_status 0 = .ok (.iload_n 1, 1) := by decide +kernel
theorem dX12_status_1 : decode cX12_status 1 = .ok (.iconst 0, 1) := by decide +kernel
theorem dX12_status_2 : decode cX12_status 2 = .ok (.iconst 4, 1) := by decide +kernel
theorem dX12_status_3 : decode cX12_status 3 = .ok (.invokestatic 75, 3) := by decide +kernel
theorem dX12_status_6 : decode cX12_status 6 = .ok (.ifCond .eq 12, 3) := by decide +kernel
theorem dX12_status_9 : decode cX12_status 9 = .ok (.aload_n 0, 1) := by decide +kernel
theorem dX12_status_10 : decode cX12_status 10 = .ok (.getfield 34, 3) := by decide +kernel
theorem dX12_status_13 : decode cX12_status 13 = .ok (.iload_n 1, 1) := by decide +kernel
theorem dX12_status_14 : decode cX12_status 14 = .ok (.iaload, 1) := by decide +kernel
theorem dX12_status_15 : decode cX12_status 15 = .ok (.goto 4, 3) := by decide +kernel
theorem dX12_status_18 : decode cX12_status 18 = .ok (.iconst (-1), 1) := by decide +kernel
theorem dX12_status_19 : decode cX12_status 19 = .ok (.ireturn, 1) := by decide +kernel
theorem dX12_undo_0 : decode cX12_undo 0 = .ok (.aload_n 0, 1) := by decide +kernel
theorem dX12_undo_1 : decode cX12_undo 1 = .ok (.getfield 145, 3) := by decide +kernel
theorem dX12_undo_4 : decode cX12_undo 4 = .ok (.ifCond .ne 5, 3) := by decide +kernel
theorem dX12_undo_7 : decode cX12_undo 7 = .ok (.iconst (-1), 1) := by decide +kernel
theorem dX12_undo_8 : decode cX12_undo 8 = .ok (.ireturn, 1) := by decide +kernel
theorem dX12_undo_9 : decode cX12_undo 9 = .ok (.aload_n 0, 1) := by decide +kernel
theorem dX12_undo_10 : decode cX12_undo 10 = .ok (.dup, 1) := by decide +kernel
theorem dX12_undo_11 : decode cX12_undo 11 = .ok (.getfield 145, 3) := by decide +kernel
theorem dX12_undo_14 : decode cX12_undo 14 = .ok (.iconst 1, 1) := by decide +kernel
theorem dX12_undo_15 : decode cX12_undo 15 = .ok (.isub, 1) := by decide +kernel
theorem dX12_undo_16 : decode cX12_undo 16 = .ok (.putfield 145, 3) := by decide +kernel
theorem dX12_undo_19 : decode cX12_undo 19 = .ok (.iconst 0, 1) := by decide +kernel
theorem dX12_undo_20 : decode cX12_undo 20 = .ok (.istore_n 1, 1) := by decide +kernel
theorem dX12_undo_21 : decode cX12_undo 21 = .ok (.iload_n 1, 1) := by decide +kernel
theorem dX12_undo_22 : decode cX12_undo 22 = .ok (.sipush 550, 3) := by decide +kernel
theorem dX12_undo_25 : decode cX12_undo 25 = .ok (.if_icmp .ge 30, 3) := by decide +kernel
theorem dX12_undo_28 : decode cX12_undo 28 = .ok (.aload_n 0, 1) := by decide +kernel
theorem dX12_undo_29 : decode cX12_undo 29 = .ok (.getfield 31, 3) := by decide +kernel
theorem dX12_undo_32 : decode cX12_undo 32 = .ok (.iload_n 1, 1) := by decide +kernel
theorem dX12_undo_33 : decode cX12_undo 33 = .ok (.aload_n 0, 1) := by decide +kernel
theorem dX12_undo_34 : decode cX12_undo 34 = .ok (.getfield 53, 3) := by decide +kernel
theorem dX12_undo_37 : decode cX12_undo 37 = .ok (.sipush 550, 3) := by decide +kernel
theorem dX12_undo_40 : decode cX12_undo 40 = .ok (.aload_n 0, 1) := by decide +kernel
theorem dX12_undo_41 : decode cX12_undo 41 = .ok (.getfield 145, 3) := by decide +kernel
theorem dX12_undo_44 : decode cX12_undo 44 = .ok (.imul, 1) := by decide +kernel
theorem dX12_undo_45 : decode cX12_undo 45 = .ok (.iload_n 1, 1) := by decide +kernel
theorem dX12_undo_46 : decode cX12_undo 46 = .ok (.iadd, 1) := by decide +kernel
theorem dX12_undo_47 : decode cX12_undo 47 = .ok (.iaload, 1) := by decide +kernel
theorem dX12_undo_48 : decode cX12_undo 48 = .ok (.iastore, 1) := by decide +kernel
theorem dX12_undo_49 : decode cX12_undo 49 = .ok (.iinc 1 1, 3) := by decide +kernel
theorem dX12_undo_52 : decode cX12_undo 52 = .ok (.goto (-31), 3) := by decide +kernel
theorem dX12_undo_55 : decode cX12_undo 55 = .ok (.aload_n 0, 1) := by decide +kernel
theorem dX12_undo_56 : decode cX12_undo 56 = .ok (.getfield 145, 3) := by decide +kernel
theorem dX12_undo_59 : decode cX12_undo 59 = .ok (.ireturn, 1) := by decide +kernel
theorem dX12_log_0 : decode cX12_log 0 = .ok (.iload_n 1, 1) := by decide +kernel
theorem dX12_log_1 : decode cX12_log 1 = .ok (.iconst 0, 1) := by decide +kernel
theorem dX12_log_2 : decode cX12_log 2 = .ok (.aload_n 0, 1) := by decide +kernel
theorem dX12_log_3 : decode cX12_log 3 = .ok (.getfield 31, 3) := by decide +kernel
theorem dX12_log_6 : decode cX12_log 6 = .ok (.sipush 369, 3) := by decide +kernel
theorem dX12_log_9 : decode cX12_log 9 = .ok (.iaload, 1) := by decide +kernel
theorem dX12_log_10 : decode cX12_log 10 = .ok (.iconst 1, 1) := by decide +kernel
theorem dX12_log_11 : decode cX12_log 11 = .ok (.isub, 1) := by decide +kernel
theorem dX12_log_12 : decode cX12_log 12 = .ok (.invokestatic 75, 3) := by decide +kernel
theorem dX12_log_15 : decode cX12_log 15 = .ok (.ifCond .eq 40, 3) := by decide +kernel
theorem dX12_log_18 : decode cX12_log 18 = .ok (.iload_n 2, 1) := by decide +kernel
theorem dX12_log_19 : decode cX12_log 19 = .ok (.iconst 0, 1) := by decide +kernel
theorem dX12_log_20 : decode cX12_log 20 = .ok (.iconst 2, 1) := by decide +kernel
theorem dX12_log_21 : decode cX12_log 21 = .ok (.invokestatic 75, 3) := by decide +kernel
theorem dX12_log_24 : decode cX12_log 24 = .ok (.ifCond .eq 31, 3) := by decide +kernel
theorem dX12_log_27 : decode cX12_log 27 = .ok (.aload_n 0, 1) := by decide +kernel
theorem dX12_log_28 : decode cX12_log 28 = .ok (.getfield 31, 3) := by decide +kernel
theorem dX12_log_31 : decode cX12_log 31 = .ok (.sipush 370, 3) := by decide +kernel
theorem dX12_log_34 : decode cX12_log 34 = .ok (.iconst 3, 1) := by decide +kernel
theorem dX12_log_35 : decode cX12_log 35 = .ok (.aload_n 0, 1) := by decide +kernel
theorem dX12_log_36 : decode cX12_log 36 = .ok (.getfield 31, 3) := by decide +kernel
theorem dX12_log_39 : decode cX12_log 39 = .ok (.sipush 369, 3) := by decide +kernel
theorem dX12_log_42 : decode cX12_log 42 = .ok (.iaload, 1) := by decide +kernel
theorem dX12_log_43 : decode cX12_log 43 = .ok (.iconst 1, 1) := by decide +kernel
theorem dX12_log_44 : decode cX12_log 44 = .ok (.isub, 1) := by decide +kernel
theorem dX12_log_45 : decode cX12_log 45 = .ok (.iload_n 1, 1) := by decide +kernel
theorem dX12_log_46 : decode cX12_log 46 = .ok (.isub, 1) := by decide +kernel
theorem dX12_log_47 : decode cX12_log 47 = .ok (.imul, 1) := by decide +kernel
theorem dX12_log_48 : decode cX12_log 48 = .ok (.iadd, 1) := by decide +kernel
theorem dX12_log_49 : decode cX12_log 49 = .ok (.iload_n 2, 1) := by decide +kernel
theorem dX12_log_50 : decode cX12_log 50 = .ok (.iadd, 1) := by decide +kernel
theorem dX12_log_51 : decode cX12_log 51 = .ok (.iaload, 1) := by decide +kernel
theorem dX12_log_52 : decode cX12_log 52 = .ok (.goto 4, 3) := by decide +kernel
theorem dX12_log_55 : decode cX12_log 55 = .ok (.iconst (-1), 1) := by decide +kernel
theorem dX12_log_56 : decode cX12_log 56 = .ok (.ireturn, 1) := by decide +kernel
theorem dX12_offer_0 : decode cX12_offer 0 = .ok (.aload_n 0, 1) := by decide +kernel
theorem dX12_offer_1 : decode cX12_offer 1 = .ok (.iload_n 1, 1) := by decide +kernel
theorem dX12_offer_2 : decode cX12_offer 2 = .ok (.invokevirtual 313, 3) := by decide +kernel
theorem dX12_offer_5 : decode cX12_offer 5 = .ok (.ifCond .eq 45, 3) := by decide +kernel
theorem dX12_offer_8 : decode cX12_offer 8 = .ok (.iload_n 2, 1) := by decide +kernel
theorem dX12_offer_9 : decode cX12_offer 9 = .ok (.aload_n 0, 1) := by decide +kernel
theorem dX12_offer_10 : decode cX12_offer 10 = .ok (.iload_n 1, 1) := by decide +kernel
theorem dX12_offer_11 : decode cX12_offer 11 = .ok (.iconst 0, 1) := by decide +kernel
theorem dX12_offer_12 : decode cX12_offer 12 = .ok (.invokevirtual 178, 3) := by decide +kernel
theorem dX12_offer_15 : decode cX12_offer 15 = .ok (.if_icmp .eq 13, 3) := by decide +kernel
theorem dX12_offer_18 : decode cX12_offer 18 = .ok (.iload_n 2, 1) := by decide +kernel
theorem dX12_offer_19 : decode cX12_offer 19 = .ok (.aload_n 0, 1) := by decide +kernel
theorem dX12_offer_20 : decode cX12_offer 20 = .ok (.iload_n 1, 1) := by decide +kernel
theorem dX12_offer_21 : decode cX12_offer 21 = .ok (.iconst 1, 1) := by decide +kernel
theorem dX12_offer_22 : decode cX12_offer 22 = .ok (.invokevirtual 178, 3) := by decide +kernel
theorem dX12_offer_25 : decode cX12_offer 25 = .ok (.if_icmp .ne 25, 3) := by decide +kernel
theorem dX12_offer_28 : decode cX12_offer 28 = .ok (.iload_n 3, 1) := by decide +kernel
theorem dX12_offer_29 : decode cX12_offer 29 = .ok (.iconst 0, 1) := by decide +kernel
theorem dX12_offer_30 : decode cX12_offer 30 = .ok (.aload_n 0, 1) := by decide +kernel
theorem dX12_offer_31 : decode cX12_offer 31 = .ok (.getfield 22, 3) := by decide +kernel
theorem dX12_offer_34 : decode cX12_offer 34 = .ok (.iconst 0, 1) := by decide +kernel
theorem dX12_offer_35 : decode cX12_offer 35 = .ok (.iaload, 1) := by decide +kernel
theorem dX12_offer_36 : decode cX12_offer 36 = .ok (.iconst 1, 1) := by decide +kernel
theorem dX12_offer_37 : decode cX12_offer 37 = .ok (.isub, 1) := by decide +kernel
theorem dX12_offer_38 : decode cX12_offer 38 = .ok (.invokestatic 75, 3) := by decide +kernel
theorem dX12_offer_41 : decode cX12_offer 41 = .ok (.ifCond .eq 9, 3) := by decide +kernel
theorem dX12_offer_44 : decode cX12_offer 44 = .ok (.iload 4, 2) := by decide +kernel
theorem dX12_offer_46 : decode cX12_offer 46 = .ok (.iconst (-1), 1) := by decide +kernel
theorem dX12_offer_47 : decode cX12_offer 47 = .ok (.if_icmp .ge 5, 3) := by decide +kernel
theorem dX12_offer_50 : decode cX12_offer 50 = .ok (.iconst (-1), 1) := by decide +kernel
theorem dX12_offer_51 : decode cX12_offer 51 = .ok (.ireturn, 1) := by decide +kernel
theorem dX12_offer_52 : decode cX12_offer 52 = .ok (.aload_n 0, 1) := by decide +kernel
theorem dX12_offer_53 : decode cX12_offer 53 = .ok (.iload_n 1, 1) := by decide +kernel
theorem dX12_offer_54 : decode cX12_offer 54 = .ok (.iload_n 2, 1) := by decide +kernel
theorem dX12_offer_55 : decode cX12_offer 55 = .ok (.iload_n 3, 1) := by decide +kernel
theorem dX12_offer_56 : decode cX12_offer 56 = .ok (.invokevirtual 199, 3) := by decide +kernel
theorem dX12_offer_59 : decode cX12_offer 59 = .ok (.istore 5, 2) := by decide +kernel
theorem dX12_offer_61 : decode cX12_offer 61 = .ok (.iload 4, 2) := by decide +kernel
theorem dX12_offer_63 : decode cX12_offer 63 = .ok (.iconst (-1), 1) := by decide +kernel
theorem dX12_offer_64 : decode cX12_offer 64 = .ok (.if_icmp .ne 8, 3) := by decide +kernel
theorem dX12_offer_67 : decode cX12_offer 67 = .ok (.iload 5, 2) := by decide +kernel
theorem dX12_offer_69 : decode cX12_offer 69 = .ok (.goto 21, 3) := by decide +kernel
theorem dX12_offer_72 : decode cX12_offer 72 = .ok (.iload 4, 2) := by decide +kernel
theorem dX12_offer_74 : decode cX12_offer 74 = .ok (.iload 5, 2) := by decide +kernel
theorem dX12_offer_76 : decode cX12_offer 76 = .ok (.if_icmp .ge 13, 3) := by decide +kernel
theorem dX12_offer_79 : decode cX12_offer 79 = .ok (.aload_n 0, 1) := by decide +kernel
theorem dX12_offer_80 : decode cX12_offer 80 = .ok (.getfield 44, 3) := by decide +kernel
theorem dX12_offer_83 : decode cX12_offer 83 = .ok (.iload 4, 2) := by decide +kernel
theorem dX12_offer_85 : decode cX12_offer 85 = .ok (.iaload, 1) := by decide +kernel
theorem dX12_offer_86 : decode cX12_offer 86 = .ok (.goto 4, 3) := by decide +kernel
theorem dX12_offer_89 : decode cX12_offer 89 = .ok (.iconst (-1), 1) := by decide +kernel
theorem dX12_offer_90 : decode cX12_offer 90 = .ok (.ireturn, 1) := by decide +kernel
theorem dX12_putAside_0 : decode cX12_putAside 0 = .ok (.iconst 0, 1) := by decide +kernel
theorem dX12_putAside_1 : decode cX12_putAside 1 = .ok (.istore_n 2, 1) := by decide +kernel
theorem dX12_putAside_2 : decode cX12_putAside 2 = .ok (.iload_n 2, 1) := by decide +kernel
theorem dX12_putAside_3 : decode cX12_putAside 3 = .ok (.sipush 369, 3) := by decide +kernel
theorem dX12_putAside_6 : decode cX12_putAside 6 = .ok (.if_icmp .ge 27, 3) := by decide +kernel
theorem dX12_putAside_9 : decode cX12_putAside 9 = .ok (.aload_n 0, 1) := by decide +kernel
theorem dX12_putAside_10 : decode cX12_putAside 10 = .ok (.getfield 56, 3) := by decide +kernel
theorem dX12_putAside_13 : decode cX12_putAside 13 = .ok (.sipush 369, 3) := by decide +kernel
theorem dX12_putAside_16 : decode cX12_putAside 16 = .ok (.iload_n 1, 1) := by decide +kernel
theorem dX12_putAside_17 : decode cX12_putAside 17 = .ok (.imul, 1) := by decide +kernel
theorem dX12_putAside_18 : decode cX12_putAside 18 = .ok (.iload_n 2, 1) := by decide +kernel
theorem dX12_putAside_19 : decode cX12_putAside 19 = .ok (.iadd, 1) := by decide +kernel
theorem dX12_putAside_20 : decode cX12_putAside 20 = .ok (.aload_n 0, 1) := by decide +kernel
theorem dX12_putAside_21 : decode cX12_putAside 21 = .ok (.getfield 31, 3) := by decide +kernel
theorem dX12_putAside_24 : decode cX12_putAside 24 = .ok (.iload_n 2, 1) := by decide +kernel
theorem dX12_putAside_25 : decode cX12_putAside 25 = .ok (.iaload, 1) := by decide +kernel
theorem dX12_putAside_26 : decode cX12_putAside 26 = .ok (.iastore, 1) := by decide +kernel
theorem dX12_putAside_27 : decode cX12_putAside 27 = .ok (.iinc 2 1, 3) := by decide +kernel
theorem dX12_putAside_30 : decode cX12_putAside 30 = .ok (.goto (-28), 3) := by decide +kernel
theorem dX12_putAside_33 : decode cX12_putAside 33 = .ok (.return_, 1) := by decide +kernel
theorem dX12_takeBack_0 : decode cX12_takeBack 0 = .ok (.iconst 0, 1) := by decide +kernel
theorem dX12_takeBack_1 : decode cX12_takeBack 1 = .ok (.istore_n 2, 1) := by decide +kernel
theorem dX12_takeBack_2 : decode cX12_takeBack 2 = .ok (.iload_n 2, 1) := by decide +kernel
theorem dX12_takeBack_3 : decode cX12_takeBack 3 = .ok (.sipush 369, 3) := by decide +kernel
theorem dX12_takeBack_6 : decode cX12_takeBack 6 = .ok (.if_icmp .ge 27, 3) := by decide +kernel
theorem dX12_takeBack_9 : decode cX12_takeBack 9 = .ok (.aload_n 0, 1) := by decide +kernel
theorem dX12_takeBack_10 : decode cX12_takeBack 10 = .ok (.getfield 31, 3) := by decide +kernel
theorem dX12_takeBack_13 : decode cX12_takeBack 13 = .ok (.iload_n 2, 1) := by decide +kernel
theorem dX12_takeBack_14 : decode cX12_takeBack 14 = .ok (.aload_n 0, 1) := by decide +kernel
theorem dX12_takeBack_15 : decode cX12_takeBack 15 = .ok (.getfield 56, 3) := by decide +kernel
theorem dX12_takeBack_18 : decode cX12_takeBack 18 = .ok (.sipush 369, 3) := by decide +kernel
theorem dX12_takeBack_21 : decode cX12_takeBack 21 = .ok (.iload_n 1, 1) := by decide +kernel
theorem dX12_takeBack_22 : decode cX12_takeBack 22 = .ok (.imul, 1) := by decide +kernel
theorem dX12_takeBack_23 : decode cX12_takeBack 23 = .ok (.iload_n 2, 1) := by decide +kernel
theorem dX12_takeBack_24 : decode cX12_takeBack 24 = .ok (.iadd, 1) := by decide +kernel
theorem dX12_takeBack_25 : decode cX12_takeBack 25 = .ok (.iaload, 1) := by decide +kernel
theorem dX12_takeBack_26 : decode cX12_takeBack 26 = .ok (.iastore, 1) := by decide +kernel
theorem dX12_takeBack_27 : decode cX12_takeBack 27 = .ok (.iinc 2 1, 3) := by decide +kernel
theorem dX12_takeBack_30 : decode cX12_takeBack 30 = .ok (.goto (-28), 3) := by decide +kernel
theorem dX12_takeBack_33 : decode cX12_takeBack 33 = .ok (.return_, 1) := by decide +kernel
theorem dX12_comes_0 : decode cX12_comes 0 = .ok (.aload_n 0, 1) := by decide +kernel
theorem dX12_comes_1 : decode cX12_comes 1 = .ok (.iload_n 1, 1) := by decide +kernel
theorem dX12_comes_2 : decode cX12_comes 2 = .ok (.invokevirtual 313, 3) := by decide +kernel
theorem dX12_comes_5 : decode cX12_comes 5 = .ok (.ifCond .eq 22, 3) := by decide +kernel
theorem dX12_comes_8 : decode cX12_comes 8 = .ok (.iload_n 2, 1) := by decide +kernel
theorem dX12_comes_9 : decode cX12_comes 9 = .ok (.iconst 0, 1) := by decide +kernel
theorem dX12_comes_10 : decode cX12_comes 10 = .ok (.bipush 60, 2) := by decide +kernel
theorem dX12_comes_12 : decode cX12_comes 12 = .ok (.invokestatic 75, 3) := by decide +kernel
theorem dX12_comes_15 : decode cX12_comes 15 = .ok (.ifCond .eq 12, 3) := by decide +kernel
theorem dX12_comes_18 : decode cX12_comes 18 = .ok (.iload_n 3, 1) := by decide +kernel
theorem dX12_comes_19 : decode cX12_comes 19 = .ok (.iconst 0, 1) := by decide +kernel
theorem dX12_comes_20 : decode cX12_comes 20 = .ok (.iconst 2, 1) := by decide +kernel
theorem dX12_comes_21 : decode cX12_comes 21 = .ok (.invokestatic 75, 3) := by decide +kernel
theorem dX12_comes_24 : decode cX12_comes 24 = .ok (.ifCond .ne 5, 3) := by decide +kernel
theorem dX12_comes_27 : decode cX12_comes 27 = .ok (.iconst (-1), 1) := by decide +kernel
theorem dX12_comes_28 : decode cX12_comes 28 = .ok (.ireturn, 1) := by decide +kernel
theorem dX12_comes_29 : decode cX12_comes 29 = .ok (.aload_n 0, 1) := by decide +kernel
theorem dX12_comes_30 : decode cX12_comes 30 = .ok (.iconst 0, 1) := by decide +kernel
theorem dX12_comes_31 : decode cX12_comes 31 = .ok (.invokevirtual 348, 3) := by decide +kernel
theorem dX12_comes_34 : decode cX12_comes 34 = .ok (.aload_n 0, 1) := by decide +kernel
theorem dX12_comes_35 : decode cX12_comes 35 = .ok (.getfield 41, 3) := by decide +kernel
theorem dX12_comes_38 : decode cX12_comes 38 = .ok (.iload_n 1, 1) := by decide +kernel
theorem dX12_comes_39 : decode cX12_comes 39 = .ok (.iconst 0, 1) := by decide +kernel
theorem dX12_comes_40 : decode cX12_comes 40 = .ok (.iastore, 1) := by decide +kernel
theorem dX12_comes_41 : decode cX12_comes 41 = .ok (.iconst 0, 1) := by decide +kernel
theorem dX12_comes_42 : decode cX12_comes 42 = .ok (.istore 4, 2) := by decide +kernel
theorem dX12_comes_44 : decode cX12_comes 44 = .ok (.iload 4, 2) := by decide +kernel
theorem dX12_comes_46 : decode cX12_comes 46 = .ok (.iload_n 2, 1) := by decide +kernel
theorem dX12_comes_47 : decode cX12_comes 47 = .ok (.if_icmp .ge 13, 3) := by decide +kernel
theorem dX12_comes_50 : decode cX12_comes 50 = .ok (.aload_n 0, 1) := by decide +kernel
theorem dX12_comes_51 : decode cX12_comes 51 = .ok (.invokevirtual 299, 3) := by decide +kernel
theorem dX12_comes_54 : decode cX12_comes 54 = .ok (.iinc 4 1, 3) := by decide +kernel
theorem dX12_comes_57 : decode cX12_comes 57 = .ok (.goto (-13), 3) := by decide +kernel
theorem dX12_comes_60 : decode cX12_comes 60 = .ok (.iload_n 3, 1) := by decide +kernel
theorem dX12_comes_61 : decode cX12_comes 61 = .ok (.ifCond .ne 12, 3) := by decide +kernel
theorem dX12_comes_64 : decode cX12_comes 64 = .ok (.aload_n 0, 1) := by decide +kernel
theorem dX12_comes_65 : decode cX12_comes 65 = .ok (.getfield 41, 3) := by decide +kernel
theorem dX12_comes_68 : decode cX12_comes 68 = .ok (.iload_n 1, 1) := by decide +kernel
theorem dX12_comes_69 : decode cX12_comes 69 = .ok (.iaload, 1) := by decide +kernel
theorem dX12_comes_70 : decode cX12_comes 70 = .ok (.goto 25, 3) := by decide +kernel
theorem dX12_comes_73 : decode cX12_comes 73 = .ok (.iload_n 3, 1) := by decide +kernel
theorem dX12_comes_74 : decode cX12_comes 74 = .ok (.iconst 1, 1) := by decide +kernel
theorem dX12_comes_75 : decode cX12_comes 75 = .ok (.if_icmp .ne 13, 3) := by decide +kernel
theorem dX12_comes_78 : decode cX12_comes 78 = .ok (.aload_n 0, 1) := by decide +kernel
theorem dX12_comes_79 : decode cX12_comes 79 = .ok (.iload_n 1, 1) := by decide +kernel
theorem dX12_comes_80 : decode cX12_comes 80 = .ok (.bipush 57, 2) := by decide +kernel
theorem dX12_comes_82 : decode cX12_comes 82 = .ok (.invokevirtual 161, 3) := by decide +kernel
theorem dX12_comes_85 : decode cX12_comes 85 = .ok (.goto 10, 3) := by decide +kernel
theorem dX12_comes_88 : decode cX12_comes 88 = .ok (.aload_n 0, 1) := by decide +kernel
theorem dX12_comes_89 : decode cX12_comes 89 = .ok (.iload_n 1, 1) := by decide +kernel
theorem dX12_comes_90 : decode cX12_comes 90 = .ok (.bipush 18, 2) := by decide +kernel
theorem dX12_comes_92 : decode cX12_comes 92 = .ok (.invokevirtual 161, 3) := by decide +kernel
theorem dX12_comes_95 : decode cX12_comes 95 = .ok (.istore 4, 2) := by decide +kernel
theorem dX12_comes_97 : decode cX12_comes 97 = .ok (.aload_n 0, 1) := by decide +kernel
theorem dX12_comes_98 : decode cX12_comes 98 = .ok (.iconst 0, 1) := by decide +kernel
theorem dX12_comes_99 : decode cX12_comes 99 = .ok (.invokevirtual 351, 3) := by decide +kernel
theorem dX12_comes_102 : decode cX12_comes 102 = .ok (.iload 4, 2) := by decide +kernel
theorem dX12_comes_104 : decode cX12_comes 104 = .ok (.ireturn, 1) := by decide +kernel
theorem dX12_doesAgree_0 : decode cX12_doesAgree 0 = .ok (.aload_n 0, 1) := by decide +kernel
theorem dX12_doesAgree_1 : decode cX12_doesAgree 1 = .ok (.iload_n 1, 1) := by decide +kernel
theorem dX12_doesAgree_2 : decode cX12_doesAgree 2 = .ok (.bipush 18, 2) := by decide +kernel
theorem dX12_doesAgree_4 : decode cX12_doesAgree 4 = .ok (.invokevirtual 161, 3) := by decide +kernel
theorem dX12_doesAgree_7 : decode cX12_doesAgree 7 = .ok (.aload_n 0, 1) := by decide +kernel
theorem dX12_doesAgree_8 : decode cX12_doesAgree 8 = .ok (.iload_n 1, 1) := by decide +kernel
theorem dX12_doesAgree_9 : decode cX12_doesAgree 9 = .ok (.bipush 25, 2) := by decide +kernel
theorem dX12_doesAgree_11 : decode cX12_doesAgree 11 = .ok (.invokevirtual 161, 3) := by decide +kernel
theorem dX12_doesAgree_14 : decode cX12_doesAgree 14 = .ok (.if_icmp .ne 24, 3) := by decide +kernel
theorem dX12_doesAgree_17 : decode cX12_doesAgree 17 = .ok (.aload_n 0, 1) := by decide +kernel
theorem dX12_doesAgree_18 : decode cX12_doesAgree 18 = .ok (.iload_n 1, 1) := by decide +kernel
theorem dX12_doesAgree_19 : decode cX12_doesAgree 19 = .ok (.bipush 26, 2) := by decide +kernel
theorem dX12_doesAgree_21 : decode cX12_doesAgree 21 = .ok (.invokevirtual 161, 3) := by decide +kernel
theorem dX12_doesAgree_24 : decode cX12_doesAgree 24 = .ok (.aload_n 0, 1) := by decide +kernel
theorem dX12_doesAgree_25 : decode cX12_doesAgree 25 = .ok (.iload_n 1, 1) := by decide +kernel
theorem dX12_doesAgree_26 : decode cX12_doesAgree 26 = .ok (.bipush 27, 2) := by decide +kernel
theorem dX12_doesAgree_28 : decode cX12_doesAgree 28 = .ok (.invokevirtual 161, 3) := by decide +kernel
theorem dX12_doesAgree_31 : decode cX12_doesAgree 31 = .ok (.if_icmp .ne 7, 3) := by decide +kernel
theorem dX12_doesAgree_34 : decode cX12_doesAgree 34 = .ok (.iconst 1, 1) := by decide +kernel
theorem dX12_doesAgree_35 : decode cX12_doesAgree 35 = .ok (.goto 4, 3) := by decide +kernel
theorem dX12_doesAgree_38 : decode cX12_doesAgree 38 = .ok (.iconst 0, 1) := by decide +kernel
theorem dX12_doesAgree_39 : decode cX12_doesAgree 39 = .ok (.istore_n 2, 1) := by decide +kernel
theorem dX12_doesAgree_40 : decode cX12_doesAgree 40 = .ok (.iconst 0, 1) := by decide +kernel
theorem dX12_doesAgree_41 : decode cX12_doesAgree 41 = .ok (.istore_n 3, 1) := by decide +kernel
theorem dX12_doesAgree_42 : decode cX12_doesAgree 42 = .ok (.iload_n 3, 1) := by decide +kernel
theorem dX12_doesAgree_43 : decode cX12_doesAgree 43 = .ok (.aload_n 0, 1) := by decide +kernel
theorem dX12_doesAgree_44 : decode cX12_doesAgree 44 = .ok (.iload_n 1, 1) := by decide +kernel
theorem dX12_doesAgree_45 : decode cX12_doesAgree 45 = .ok (.bipush 18, 2) := by decide +kernel
theorem dX12_doesAgree_47 : decode cX12_doesAgree 47 = .ok (.invokevirtual 161, 3) := by decide +kernel
theorem dX12_doesAgree_50 : decode cX12_doesAgree 50 = .ok (.if_icmp .ge 36, 3) := by decide +kernel
theorem dX12_doesAgree_53 : decode cX12_doesAgree 53 = .ok (.iload_n 2, 1) := by decide +kernel
theorem dX12_doesAgree_54 : decode cX12_doesAgree 54 = .ok (.ifCond .eq 24, 3) := by decide +kernel
theorem dX12_doesAgree_57 : decode cX12_doesAgree 57 = .ok (.aload_n 0, 1) := by decide +kernel
theorem dX12_doesAgree_58 : decode cX12_doesAgree 58 = .ok (.iload_n 1, 1) := by decide +kernel
theorem dX12_doesAgree_59 : decode cX12_doesAgree 59 = .ok (.iconst 1, 1) := by decide +kernel
theorem dX12_doesAgree_60 : decode cX12_doesAgree 60 = .ok (.aload_n 0, 1) := by decide +kernel
theorem dX12_doesAgree_61 : decode cX12_doesAgree 61 = .ok (.iload_n 1, 1) := by decide +kernel
theorem dX12_doesAgree_62 : decode cX12_doesAgree 62 = .ok (.iconst 0, 1) := by decide +kernel
theorem dX12_doesAgree_63 : decode cX12_doesAgree 63 = .ok (.iload_n 3, 1) := by decide +kernel
theorem dX12_doesAgree_64 : decode cX12_doesAgree 64 = .ok (.invokevirtual 167, 3) := by decide +kernel
theorem dX12_doesAgree_67 : decode cX12_doesAgree 67 = .ok (.invokevirtual 171, 3) := by decide +kernel
theorem dX12_doesAgree_70 : decode cX12_doesAgree 70 = .ok (.iconst (-1), 1) := by decide +kernel
theorem dX12_doesAgree_71 : decode cX12_doesAgree 71 = .ok (.if_icmp .eq 7, 3) := by decide +kernel
theorem dX12_doesAgree_74 : decode cX12_doesAgree 74 = .ok (.iconst 1, 1) := by decide +kernel
theorem dX12_doesAgree_75 : decode cX12_doesAgree 75 = .ok (.goto 4, 3) := by decide +kernel
theorem dX12_doesAgree_78 : decode cX12_doesAgree 78 = .ok (.iconst 0, 1) := by decide +kernel
theorem dX12_doesAgree_79 : decode cX12_doesAgree 79 = .ok (.istore_n 2, 1) := by decide +kernel
theorem dX12_doesAgree_80 : decode cX12_doesAgree 80 = .ok (.iinc 3 1, 3) := by decide +kernel
theorem dX12_doesAgree_83 : decode cX12_doesAgree 83 = .ok (.goto (-41), 3) := by decide +kernel
theorem dX12_doesAgree_86 : decode cX12_doesAgree 86 = .ok (.iload_n 2, 1) := by decide +kernel
theorem dX12_doesAgree_87 : decode cX12_doesAgree 87 = .ok (.ireturn, 1) := by decide +kernel
theorem dX12_atOdds_0 : decode cX12_atOdds 0 = .ok (.iconst 0, 1) := by decide +kernel
theorem dX12_atOdds_1 : decode cX12_atOdds 1 = .ok (.istore_n 1, 1) := by decide +kernel
theorem dX12_atOdds_2 : decode cX12_atOdds 2 = .ok (.iconst 0, 1) := by decide +kernel
theorem dX12_atOdds_3 : decode cX12_atOdds 3 = .ok (.istore_n 2, 1) := by decide +kernel
theorem dX12_atOdds_4 : decode cX12_atOdds 4 = .ok (.iload_n 2, 1) := by decide +kernel
theorem dX12_atOdds_5 : decode cX12_atOdds 5 = .ok (.aload_n 0, 1) := by decide +kernel
theorem dX12_atOdds_6 : decode cX12_atOdds 6 = .ok (.getfield 138, 3) := by decide +kernel
theorem dX12_atOdds_9 : decode cX12_atOdds 9 = .ok (.if_icmp .ge 27, 3) := by decide +kernel
theorem dX12_atOdds_12 : decode cX12_atOdds 12 = .ok (.iload_n 1, 1) := by decide +kernel
theorem dX12_atOdds_13 : decode cX12_atOdds 13 = .ok (.aload_n 0, 1) := by decide +kernel
theorem dX12_atOdds_14 : decode cX12_atOdds 14 = .ok (.iload_n 2, 1) := by decide +kernel
theorem dX12_atOdds_15 : decode cX12_atOdds 15 = .ok (.invokevirtual 354, 3) := by decide +kernel
theorem dX12_atOdds_18 : decode cX12_atOdds 18 = .ok (.ifCond .eq 7, 3) := by decide +kernel
theorem dX12_atOdds_21 : decode cX12_atOdds 21 = .ok (.iconst 0, 1) := by decide +kernel
theorem dX12_atOdds_22 : decode cX12_atOdds 22 = .ok (.goto 6, 3) := by decide +kernel
theorem dX12_atOdds_25 : decode cX12_atOdds 25 = .ok (.iconst 1, 1) := by decide +kernel
theorem dX12_atOdds_26 : decode cX12_atOdds 26 = .ok (.iload_n 2, 1) := by decide +kernel
theorem dX12_atOdds_27 : decode cX12_atOdds 27 = .ok (.ishl, 1) := by decide +kernel
theorem dX12_atOdds_28 : decode cX12_atOdds 28 = .ok (.ior, 1) := by decide +kernel
theorem dX12_atOdds_29 : decode cX12_atOdds 29 = .ok (.istore_n 1, 1) := by decide +kernel
theorem dX12_atOdds_30 : decode cX12_atOdds 30 = .ok (.iinc 2 1, 3) := by decide +kernel
theorem dX12_atOdds_33 : decode cX12_atOdds 33 = .ok (.goto (-29), 3) := by decide +kernel
theorem dX12_atOdds_36 : decode cX12_atOdds 36 = .ok (.iload_n 1, 1) := by decide +kernel
theorem dX12_atOdds_37 : decode cX12_atOdds 37 = .ok (.ireturn, 1) := by decide +kernel
theorem dX12_agree_0 : decode cX12_agree 0 = .ok (.aload_n 0, 1) := by decide +kernel
theorem dX12_agree_1 : decode cX12_agree 1 = .ok (.iload_n 1, 1) := by decide +kernel
theorem dX12_agree_2 : decode cX12_agree 2 = .ok (.invokevirtual 313, 3) := by decide +kernel
theorem dX12_agree_5 : decode cX12_agree 5 = .ok (.ifCond .ne 7, 3) := by decide +kernel
theorem dX12_agree_8 : decode cX12_agree 8 = .ok (.iconst (-1), 1) := by decide +kernel
theorem dX12_agree_9 : decode cX12_agree 9 = .ok (.goto 16, 3) := by decide +kernel
theorem dX12_agree_12 : decode cX12_agree 12 = .ok (.aload_n 0, 1) := by decide +kernel
theorem dX12_agree_13 : decode cX12_agree 13 = .ok (.iload_n 1, 1) := by decide +kernel
theorem dX12_agree_14 : decode cX12_agree 14 = .ok (.invokevirtual 354, 3) := by decide +kernel
theorem dX12_agree_17 : decode cX12_agree 17 = .ok (.ifCond .eq 7, 3) := by decide +kernel
theorem dX12_agree_20 : decode cX12_agree 20 = .ok (.iconst 1, 1) := by decide +kernel
theorem dX12_agree_21 : decode cX12_agree 21 = .ok (.goto 4, 3) := by decide +kernel
theorem dX12_agree_24 : decode cX12_agree 24 = .ok (.iconst 0, 1) := by decide +kernel
theorem dX12_agree_25 : decode cX12_agree 25 = .ok (.ireturn, 1) := by decide +kernel
theorem dX12_healed_0 : decode cX12_healed 0 = .ok (.aload_n 0, 1) := by decide +kernel
theorem dX12_healed_1 : decode cX12_healed 1 = .ok (.getfield 138, 3) := by decide +kernel
theorem dX12_healed_4 : decode cX12_healed 4 = .ok (.ifCond .ne 5, 3) := by decide +kernel
theorem dX12_healed_7 : decode cX12_healed 7 = .ok (.iconst (-1), 1) := by decide +kernel
theorem dX12_healed_8 : decode cX12_healed 8 = .ok (.ireturn, 1) := by decide +kernel
theorem dX12_healed_9 : decode cX12_healed 9 = .ok (.aload_n 0, 1) := by decide +kernel
theorem dX12_healed_10 : decode cX12_healed 10 = .ok (.iconst 0, 1) := by decide +kernel
theorem dX12_healed_11 : decode cX12_healed 11 = .ok (.invokevirtual 348, 3) := by decide +kernel
theorem dX12_healed_14 : decode cX12_healed 14 = .ok (.iconst 0, 1) := by decide +kernel
theorem dX12_healed_15 : decode cX12_healed 15 = .ok (.istore_n 1, 1) := by decide +kernel
theorem dX12_healed_16 : decode cX12_healed 16 = .ok (.iload_n 1, 1) := by decide +kernel
theorem dX12_healed_17 : decode cX12_healed 17 = .ok (.bipush 99, 2) := by decide +kernel
theorem dX12_healed_19 : decode cX12_healed 19 = .ok (.if_icmp .ge 20, 3) := by decide +kernel
theorem dX12_healed_22 : decode cX12_healed 22 = .ok (.aload_n 0, 1) := by decide +kernel
theorem dX12_healed_23 : decode cX12_healed 23 = .ok (.invokevirtual 357, 3) := by decide +kernel
theorem dX12_healed_26 : decode cX12_healed 26 = .ok (.ifCond .eq 13, 3) := by decide +kernel
theorem dX12_healed_29 : decode cX12_healed 29 = .ok (.aload_n 0, 1) := by decide +kernel
theorem dX12_healed_30 : decode cX12_healed 30 = .ok (.invokevirtual 299, 3) := by decide +kernel
theorem dX12_healed_33 : decode cX12_healed 33 = .ok (.iinc 1 1, 3) := by decide +kernel
theorem dX12_healed_36 : decode cX12_healed 36 = .ok (.goto (-20), 3) := by decide +kernel
theorem dX12_healed_39 : decode cX12_healed 39 = .ok (.aload_n 0, 1) := by decide +kernel
theorem dX12_healed_40 : decode cX12_healed 40 = .ok (.invokevirtual 357, 3) := by decide +kernel
theorem dX12_healed_43 : decode cX12_healed 43 = .ok (.ifCond .ne 7, 3) := by decide +kernel
theorem dX12_healed_46 : decode cX12_healed 46 = .ok (.iconst 1, 1) := by decide +kernel
theorem dX12_healed_47 : decode cX12_healed 47 = .ok (.goto 4, 3) := by decide +kernel
theorem dX12_healed_50 : decode cX12_healed 50 = .ok (.iconst 0, 1) := by decide +kernel
theorem dX12_healed_51 : decode cX12_healed 51 = .ok (.istore_n 2, 1) := by decide +kernel
theorem dX12_healed_52 : decode cX12_healed 52 = .ok (.aload_n 0, 1) := by decide +kernel
theorem dX12_healed_53 : decode cX12_healed 53 = .ok (.iconst 0, 1) := by decide +kernel
theorem dX12_healed_54 : decode cX12_healed 54 = .ok (.invokevirtual 351, 3) := by decide +kernel
theorem dX12_healed_57 : decode cX12_healed 57 = .ok (.iload_n 2, 1) := by decide +kernel
theorem dX12_healed_58 : decode cX12_healed 58 = .ok (.ifCond .eq 7, 3) := by decide +kernel
theorem dX12_healed_61 : decode cX12_healed 61 = .ok (.iload_n 1, 1) := by decide +kernel
theorem dX12_healed_62 : decode cX12_healed 62 = .ok (.goto 4, 3) := by decide +kernel
theorem dX12_healed_65 : decode cX12_healed 65 = .ok (.iconst (-1), 1) := by decide +kernel
theorem dX12_healed_66 : decode cX12_healed 66 = .ok (.ireturn, 1) := by decide +kernel
theorem dX12_cellRow_0 : decode cX12_cellRow 0 = .ok (.iconst 0, 1) := by decide +kernel
theorem dX12_cellRow_1 : decode cX12_cellRow 1 = .ok (.istore_n 1, 1) := by decide +kernel
theorem dX12_cellRow_2 : decode cX12_cellRow 2 = .ok (.iconst 0, 1) := by decide +kernel
theorem dX12_cellRow_3 : decode cX12_cellRow 3 = .ok (.istore_n 2, 1) := by decide +kernel
theorem dX12_cellRow_4 : decode cX12_cellRow 4 = .ok (.iload_n 2, 1) := by decide +kernel
theorem dX12_cellRow_5 : decode cX12_cellRow 5 = .ok (.aload_n 0, 1) := by decide +kernel
theorem dX12_cellRow_6 : decode cX12_cellRow 6 = .ok (.getfield 138, 3) := by decide +kernel
theorem dX12_cellRow_9 : decode cX12_cellRow 9 = .ok (.if_icmp .ge 22, 3) := by decide +kernel
theorem dX12_cellRow_12 : decode cX12_cellRow 12 = .ok (.bipush 10, 2) := by decide +kernel
theorem dX12_cellRow_14 : decode cX12_cellRow 14 = .ok (.iload_n 1, 1) := by decide +kernel
theorem dX12_cellRow_15 : decode cX12_cellRow 15 = .ok (.imul, 1) := by decide +kernel
theorem dX12_cellRow_16 : decode cX12_cellRow 16 = .ok (.aload_n 0, 1) := by decide +kernel
theorem dX12_cellRow_17 : decode cX12_cellRow 17 = .ok (.iload_n 2, 1) := by decide +kernel
theorem dX12_cellRow_18 : decode cX12_cellRow 18 = .ok (.bipush 18, 2) := by decide +kernel
theorem dX12_cellRow_20 : decode cX12_cellRow 20 = .ok (.invokevirtual 161, 3) := by decide +kernel
theorem dX12_cellRow_23 : decode cX12_cellRow 23 = .ok (.iadd, 1) := by decide +kernel
theorem dX12_cellRow_24 : decode cX12_cellRow 24 = .ok (.istore_n 1, 1) := by decide +kernel
theorem dX12_cellRow_25 : decode cX12_cellRow 25 = .ok (.iinc 2 1, 3) := by decide +kernel
theorem dX12_cellRow_28 : decode cX12_cellRow 28 = .ok (.goto (-24), 3) := by decide +kernel
theorem dX12_cellRow_31 : decode cX12_cellRow 31 = .ok (.iload_n 1, 1) := by decide +kernel
theorem dX12_cellRow_32 : decode cX12_cellRow 32 = .ok (.ireturn, 1) := by decide +kernel
theorem dX12_steady_0 : decode cX12_steady 0 = .ok (.aload_n 0, 1) := by decide +kernel
theorem dX12_steady_1 : decode cX12_steady 1 = .ok (.getfield 138, 3) := by decide +kernel
theorem dX12_steady_4 : decode cX12_steady 4 = .ok (.ifCond .ne 5, 3) := by decide +kernel
theorem dX12_steady_7 : decode cX12_steady 7 = .ok (.iconst (-1), 1) := by decide +kernel
theorem dX12_steady_8 : decode cX12_steady 8 = .ok (.ireturn, 1) := by decide +kernel
theorem dX12_steady_9 : decode cX12_steady 9 = .ok (.aload_n 0, 1) := by decide +kernel
theorem dX12_steady_10 : decode cX12_steady 10 = .ok (.iconst 0, 1) := by decide +kernel
theorem dX12_steady_11 : decode cX12_steady 11 = .ok (.invokevirtual 348, 3) := by decide +kernel
theorem dX12_steady_14 : decode cX12_steady 14 = .ok (.iconst 0, 1) := by decide +kernel
theorem dX12_steady_15 : decode cX12_steady 15 = .ok (.istore_n 1, 1) := by decide +kernel
theorem dX12_steady_16 : decode cX12_steady 16 = .ok (.iload_n 1, 1) := by decide +kernel
theorem dX12_steady_17 : decode cX12_steady 17 = .ok (.bipush 80, 2) := by decide +kernel
theorem dX12_steady_19 : decode cX12_steady 19 = .ok (.if_icmp .gt 23, 3) := by decide +kernel
theorem dX12_steady_22 : decode cX12_steady 22 = .ok (.aload_n 0, 1) := by decide +kernel
theorem dX12_steady_23 : decode cX12_steady 23 = .ok (.getfield 59, 3) := by decide +kernel
theorem dX12_steady_26 : decode cX12_steady 26 = .ok (.iload_n 1, 1) := by decide +kernel
theorem dX12_steady_27 : decode cX12_steady 27 = .ok (.aload_n 0, 1) := by decide +kernel
theorem dX12_steady_28 : decode cX12_steady 28 = .ok (.invokevirtual 360, 3) := by decide +kernel
theorem dX12_steady_31 : decode cX12_steady 31 = .ok (.iastore, 1) := by decide +kernel
theorem dX12_steady_32 : decode cX12_steady 32 = .ok (.aload_n 0, 1) := by decide +kernel
theorem dX12_steady_33 : decode cX12_steady 33 = .ok (.invokevirtual 299, 3) := by decide +kernel
theorem dX12_steady_36 : decode cX12_steady 36 = .ok (.iinc 1 1, 3) := by decide +kernel
theorem dX12_steady_39 : decode cX12_steady 39 = .ok (.goto (-23), 3) := by decide +kernel
theorem dX12_steady_42 : decode cX12_steady 42 = .ok (.aload_n 0, 1) := by decide +kernel
theorem dX12_steady_43 : decode cX12_steady 43 = .ok (.iconst 0, 1) := by decide +kernel
theorem dX12_steady_44 : decode cX12_steady 44 = .ok (.invokevirtual 351, 3) := by decide +kernel
theorem dX12_steady_47 : decode cX12_steady 47 = .ok (.iconst 0, 1) := by decide +kernel
theorem dX12_steady_48 : decode cX12_steady 48 = .ok (.istore_n 1, 1) := by decide +kernel
theorem dX12_steady_49 : decode cX12_steady 49 = .ok (.iload_n 1, 1) := by decide +kernel
theorem dX12_steady_50 : decode cX12_steady 50 = .ok (.bipush 40, 2) := by decide +kernel
theorem dX12_steady_52 : decode cX12_steady 52 = .ok (.if_icmp .gt 58, 3) := by decide +kernel
theorem dX12_steady_55 : decode cX12_steady 55 = .ok (.iconst 1, 1) := by decide +kernel
theorem dX12_steady_56 : decode cX12_steady 56 = .ok (.istore_n 2, 1) := by decide +kernel
theorem dX12_steady_57 : decode cX12_steady 57 = .ok (.iconst 1, 1) := by decide +kernel
theorem dX12_steady_58 : decode cX12_steady 58 = .ok (.istore_n 3, 1) := by decide +kernel
theorem dX12_steady_59 : decode cX12_steady 59 = .ok (.iload_n 3, 1) := by decide +kernel
theorem dX12_steady_60 : decode cX12_steady 60 = .ok (.bipush 40, 2) := by decide +kernel
theorem dX12_steady_62 : decode cX12_steady 62 = .ok (.if_icmp .gt 36, 3) := by decide +kernel
theorem dX12_steady_65 : decode cX12_steady 65 = .ok (.iload_n 2, 1) := by decide +kernel
theorem dX12_steady_66 : decode cX12_steady 66 = .ok (.ifCond .eq 24, 3) := by decide +kernel
theorem dX12_steady_69 : decode cX12_steady 69 = .ok (.aload_n 0, 1) := by decide +kernel
theorem dX12_steady_70 : decode cX12_steady 70 = .ok (.getfield 59, 3) := by decide +kernel
theorem dX12_steady_73 : decode cX12_steady 73 = .ok (.iload_n 1, 1) := by decide +kernel
theorem dX12_steady_74 : decode cX12_steady 74 = .ok (.iload_n 3, 1) := by decide +kernel
theorem dX12_steady_75 : decode cX12_steady 75 = .ok (.iadd, 1) := by decide +kernel
theorem dX12_steady_76 : decode cX12_steady 76 = .ok (.iaload, 1) := by decide +kernel
theorem dX12_steady_77 : decode cX12_steady 77 = .ok (.aload_n 0, 1) := by decide +kernel
theorem dX12_steady_78 : decode cX12_steady 78 = .ok (.getfield 59, 3) := by decide +kernel
theorem dX12_steady_81 : decode cX12_steady 81 = .ok (.iload_n 1, 1) := by decide +kernel
theorem dX12_steady_82 : decode cX12_steady 82 = .ok (.iaload, 1) := by decide +kernel
theorem dX12_steady_83 : decode cX12_steady 83 = .ok (.if_icmp .ne 7, 3) := by decide +kernel
theorem dX12_steady_86 : decode cX12_steady 86 = .ok (.iconst 1, 1) := by decide +kernel
theorem dX12_steady_87 : decode cX12_steady 87 = .ok (.goto 4, 3) := by decide +kernel
theorem dX12_steady_90 : decode cX12_steady 90 = .ok (.iconst 0, 1) := by decide +kernel
theorem dX12_steady_91 : decode cX12_steady 91 = .ok (.istore_n 2, 1) := by decide +kernel
theorem dX12_steady_92 : decode cX12_steady 92 = .ok (.iinc 3 1, 3) := by decide +kernel
theorem dX12_steady_95 : decode cX12_steady 95 = .ok (.goto (-36), 3) := by decide +kernel
theorem dX12_steady_98 : decode cX12_steady 98 = .ok (.iload_n 2, 1) := by decide +kernel
theorem dX12_steady_99 : decode cX12_steady 99 = .ok (.ifCond .eq 5, 3) := by decide +kernel
theorem dX12_steady_102 : decode cX12_steady 102 = .ok (.iload_n 1, 1) := by decide +kernel
theorem dX12_steady_103 : decode cX12_steady 103 = .ok (.ireturn, 1) := by decide +kernel
theorem dX12_steady_104 : decode cX12_steady 104 = .ok (.iinc 1 1, 3) := by decide +kernel
theorem dX12_steady_107 : decode cX12_steady 107 = .ok (.goto (-58), 3) := by decide +kernel
theorem dX12_steady_110 : decode cX12_steady 110 = .ok (.iconst (-1), 1) := by decide +kernel
theorem dX12_steady_111 : decode cX12_steady 111 = .ok (.ireturn, 1) := by decide +kernel
theorem dX12_harmOf_0 : decode cX12_harmOf 0 = .ok (.aload_n 0, 1) := by decide +kernel
theorem dX12_harmOf_1 : decode cX12_harmOf 1 = .ok (.iconst 0, 1) := by decide +kernel
theorem dX12_harmOf_2 : decode cX12_harmOf 2 = .ok (.invokevirtual 348, 3) := by decide +kernel
theorem dX12_harmOf_5 : decode cX12_harmOf 5 = .ok (.iconst 0, 1) := by decide +kernel
theorem dX12_harmOf_6 : decode cX12_harmOf 6 = .ok (.istore_n 3, 1) := by decide +kernel
theorem dX12_harmOf_7 : decode cX12_harmOf 7 = .ok (.iconst 1, 1) := by decide +kernel
theorem dX12_harmOf_8 : decode cX12_harmOf 8 = .ok (.istore 4, 2) := by decide +kernel
theorem dX12_harmOf_10 : decode cX12_harmOf 10 = .ok (.iconst 0, 1) := by decide +kernel
theorem dX12_harmOf_11 : decode cX12_harmOf 11 = .ok (.istore 5, 2) := by decide +kernel
theorem dX12_harmOf_13 : decode cX12_harmOf 13 = .ok (.iload 5, 2) := by decide +kernel
theorem dX12_harmOf_15 : decode cX12_harmOf 15 = .ok (.bipush 30, 2) := by decide +kernel
theorem dX12_harmOf_17 : decode cX12_harmOf 17 = .ok (.if_icmp .ge 60, 3) := by decide +kernel
theorem dX12_harmOf_20 : decode cX12_harmOf 20 = .ok (.iload 5, 2) := by decide +kernel
theorem dX12_harmOf_22 : decode cX12_harmOf 22 = .ok (.iload_n 1, 1) := by decide +kernel
theorem dX12_harmOf_23 : decode cX12_harmOf 23 = .ok (.if_icmp .ne 29, 3) := by decide +kernel
theorem dX12_harmOf_26 : decode cX12_harmOf 26 = .ok (.aload_n 0, 1) := by decide +kernel
theorem dX12_harmOf_27 : decode cX12_harmOf 27 = .ok (.iload_n 2, 1) := by decide +kernel
theorem dX12_harmOf_28 : decode cX12_harmOf 28 = .ok (.bipush 43, 2) := by decide +kernel
theorem dX12_harmOf_30 : decode cX12_harmOf 30 = .ok (.invokevirtual 161, 3) := by decide +kernel
theorem dX12_harmOf_33 : decode cX12_harmOf 33 = .ok (.iconst 1, 1) := by decide +kernel
theorem dX12_harmOf_34 : decode cX12_harmOf 34 = .ok (.if_icmp .ne 7, 3) := by decide +kernel
theorem dX12_harmOf_37 : decode cX12_harmOf 37 = .ok (.iconst 1, 1) := by decide +kernel
theorem dX12_harmOf_38 : decode cX12_harmOf 38 = .ok (.goto 4, 3) := by decide +kernel
theorem dX12_harmOf_41 : decode cX12_harmOf 41 = .ok (.iconst 0, 1) := by decide +kernel
theorem dX12_harmOf_42 : decode cX12_harmOf 42 = .ok (.istore 4, 2) := by decide +kernel
theorem dX12_harmOf_44 : decode cX12_harmOf 44 = .ok (.aload_n 0, 1) := by decide +kernel
theorem dX12_harmOf_45 : decode cX12_harmOf 45 = .ok (.iload_n 2, 1) := by decide +kernel
theorem dX12_harmOf_46 : decode cX12_harmOf 46 = .ok (.bipush 43, 2) := by decide +kernel
theorem dX12_harmOf_48 : decode cX12_harmOf 48 = .ok (.iconst 0, 1) := by decide +kernel
theorem dX12_harmOf_49 : decode cX12_harmOf 49 = .ok (.invokevirtual 141, 3) := by decide +kernel
theorem dX12_harmOf_52 : decode cX12_harmOf 52 = .ok (.aload_n 0, 1) := by decide +kernel
theorem dX12_harmOf_53 : decode cX12_harmOf 53 = .ok (.invokevirtual 299, 3) := by decide +kernel
theorem dX12_harmOf_56 : decode cX12_harmOf 56 = .ok (.iload_n 3, 1) := by decide +kernel
theorem dX12_harmOf_57 : decode cX12_harmOf 57 = .ok (.aload_n 0, 1) := by decide +kernel
theorem dX12_harmOf_58 : decode cX12_harmOf 58 = .ok (.invokevirtual 357, 3) := by decide +kernel
theorem dX12_harmOf_61 : decode cX12_harmOf 61 = .ok (.ifCond .eq 7, 3) := by decide +kernel
theorem dX12_harmOf_64 : decode cX12_harmOf 64 = .ok (.iconst 1, 1) := by decide +kernel
theorem dX12_harmOf_65 : decode cX12_harmOf 65 = .ok (.goto 4, 3) := by decide +kernel
theorem dX12_harmOf_68 : decode cX12_harmOf 68 = .ok (.iconst 0, 1) := by decide +kernel
theorem dX12_harmOf_69 : decode cX12_harmOf 69 = .ok (.iadd, 1) := by decide +kernel
theorem dX12_harmOf_70 : decode cX12_harmOf 70 = .ok (.istore_n 3, 1) := by decide +kernel
theorem dX12_harmOf_71 : decode cX12_harmOf 71 = .ok (.iinc 5 1, 3) := by decide +kernel
theorem dX12_harmOf_74 : decode cX12_harmOf 74 = .ok (.goto (-61), 3) := by decide +kernel
theorem dX12_harmOf_77 : decode cX12_harmOf 77 = .ok (.aload_n 0, 1) := by decide +kernel
theorem dX12_harmOf_78 : decode cX12_harmOf 78 = .ok (.iconst 0, 1) := by decide +kernel
theorem dX12_harmOf_79 : decode cX12_harmOf 79 = .ok (.invokevirtual 351, 3) := by decide +kernel
theorem dX12_harmOf_82 : decode cX12_harmOf 82 = .ok (.iload 4, 2) := by decide +kernel
theorem dX12_harmOf_84 : decode cX12_harmOf 84 = .ok (.ifCond .eq 7, 3) := by decide +kernel
theorem dX12_harmOf_87 : decode cX12_harmOf 87 = .ok (.iload_n 3, 1) := by decide +kernel
theorem dX12_harmOf_88 : decode cX12_harmOf 88 = .ok (.goto 4, 3) := by decide +kernel
theorem dX12_harmOf_91 : decode cX12_harmOf 91 = .ok (.iconst (-1), 1) := by decide +kernel
theorem dX12_harmOf_92 : decode cX12_harmOf 92 = .ok (.ireturn, 1) := by decide +kernel
theorem dX12_harm_0 : decode cX12_harm 0 = .ok (.aload_n 0, 1) := by decide +kernel
theorem dX12_harm_1 : decode cX12_harm 1 = .ok (.getfield 138, 3) := by decide +kernel
theorem dX12_harm_4 : decode cX12_harm 4 = .ok (.ifCond .eq 22, 3) := by decide +kernel
theorem dX12_harm_7 : decode cX12_harm 7 = .ok (.iload_n 1, 1) := by decide +kernel
theorem dX12_harm_8 : decode cX12_harm 8 = .ok (.iconst 1, 1) := by decide +kernel
theorem dX12_harm_9 : decode cX12_harm 9 = .ok (.bipush 6, 2) := by decide +kernel
theorem dX12_harm_11 : decode cX12_harm 11 = .ok (.invokestatic 75, 3) := by decide +kernel
theorem dX12_harm_14 : decode cX12_harm 14 = .ok (.ifCond .eq 12, 3) := by decide +kernel
theorem dX12_harm_17 : decode cX12_harm 17 = .ok (.iload_n 2, 1) := by decide +kernel
theorem dX12_harm_18 : decode cX12_harm 18 = .ok (.iconst 0, 1) := by decide +kernel
theorem dX12_harm_19 : decode cX12_harm 19 = .ok (.iconst 1, 1) := by decide +kernel
theorem dX12_harm_20 : decode cX12_harm 20 = .ok (.invokestatic 75, 3) := by decide +kernel
theorem dX12_harm_23 : decode cX12_harm 23 = .ok (.ifCond .ne 5, 3) := by decide +kernel
theorem dX12_harm_26 : decode cX12_harm 26 = .ok (.iconst (-1), 1) := by decide +kernel
theorem dX12_harm_27 : decode cX12_harm 27 = .ok (.ireturn, 1) := by decide +kernel
theorem dX12_harm_28 : decode cX12_harm 28 = .ok (.iconst (-1), 1) := by decide +kernel
theorem dX12_harm_29 : decode cX12_harm 29 = .ok (.istore_n 3, 1) := by decide +kernel
theorem dX12_harm_30 : decode cX12_harm 30 = .ok (.iconst (-1), 1) := by decide +kernel
theorem dX12_harm_31 : decode cX12_harm 31 = .ok (.istore 4, 2) := by decide +kernel
theorem dX12_harm_33 : decode cX12_harm 33 = .ok (.iconst 0, 1) := by decide +kernel
theorem dX12_harm_34 : decode cX12_harm 34 = .ok (.istore 5, 2) := by decide +kernel
theorem dX12_harm_36 : decode cX12_harm 36 = .ok (.iload 5, 2) := by decide +kernel
theorem dX12_harm_38 : decode cX12_harm 38 = .ok (.iload_n 1, 1) := by decide +kernel
theorem dX12_harm_39 : decode cX12_harm 39 = .ok (.if_icmp .ge 57, 3) := by decide +kernel
theorem dX12_harm_42 : decode cX12_harm 42 = .ok (.iconst 0, 1) := by decide +kernel
theorem dX12_harm_43 : decode cX12_harm 43 = .ok (.istore 6, 2) := by decide +kernel
theorem dX12_harm_45 : decode cX12_harm 45 = .ok (.iload 6, 2) := by decide +kernel
theorem dX12_harm_47 : decode cX12_harm 47 = .ok (.aload_n 0, 1) := by decide +kernel
theorem dX12_harm_48 : decode cX12_harm 48 = .ok (.getfield 138, 3) := by decide +kernel
theorem dX12_harm_51 : decode cX12_harm 51 = .ok (.if_icmp .ge 39, 3) := by decide +kernel
theorem dX12_harm_54 : decode cX12_harm 54 = .ok (.aload_n 0, 1) := by decide +kernel
theorem dX12_harm_55 : decode cX12_harm 55 = .ok (.iload 5, 2) := by decide +kernel
theorem dX12_harm_57 : decode cX12_harm 57 = .ok (.iload 6, 2) := by decide +kernel
theorem dX12_harm_59 : decode cX12_harm 59 = .ok (.invokevirtual 363, 3) := by decide +kernel
theorem dX12_harm_62 : decode cX12_harm 62 = .ok (.istore 7, 2) := by decide +kernel
theorem dX12_harm_64 : decode cX12_harm 64 = .ok (.iload 7, 2) := by decide +kernel
theorem dX12_harm_66 : decode cX12_harm 66 = .ok (.iload 4, 2) := by decide +kernel
theorem dX12_harm_68 : decode cX12_harm 68 = .ok (.if_icmp .le 16, 3) := by decide +kernel
theorem dX12_harm_71 : decode cX12_harm 71 = .ok (.bipush 10, 2) := by decide +kernel
theorem dX12_harm_73 : decode cX12_harm 73 = .ok (.iload 5, 2) := by decide +kernel
theorem dX12_harm_75 : decode cX12_harm 75 = .ok (.imul, 1) := by decide +kernel
theorem dX12_harm_76 : decode cX12_harm 76 = .ok (.iload 6, 2) := by decide +kernel
theorem dX12_harm_78 : decode cX12_harm 78 = .ok (.iadd, 1) := by decide +kernel
theorem dX12_harm_79 : decode cX12_harm 79 = .ok (.istore_n 3, 1) := by decide +kernel
theorem dX12_harm_80 : decode cX12_harm 80 = .ok (.iload 7, 2) := by decide +kernel
theorem dX12_harm_82 : decode cX12_harm 82 = .ok (.istore 4, 2) := by decide +kernel
theorem dX12_harm_84 : decode cX12_harm 84 = .ok (.iinc 6 1, 3) := by decide +kernel
theorem dX12_harm_87 : decode cX12_harm 87 = .ok (.goto (-42), 3) := by decide +kernel
theorem dX12_harm_90 : decode cX12_harm 90 = .ok (.iinc 5 1, 3) := by decide +kernel
theorem dX12_harm_93 : decode cX12_harm 93 = .ok (.goto (-57), 3) := by decide +kernel
theorem dX12_harm_96 : decode cX12_harm 96 = .ok (.iload_n 2, 1) := by decide +kernel
theorem dX12_harm_97 : decode cX12_harm 97 = .ok (.ifCond .ne 7, 3) := by decide +kernel
theorem dX12_harm_100 : decode cX12_harm 100 = .ok (.iload_n 3, 1) := by decide +kernel
theorem dX12_harm_101 : decode cX12_harm 101 = .ok (.goto 5, 3) := by decide +kernel
theorem dX12_harm_104 : decode cX12_harm 104 = .ok (.iload 4, 2) := by decide +kernel
theorem dX12_harm_106 : decode cX12_harm 106 = .ok (.ireturn, 1) := by decide +kernel
theorem dX12_oddsFrom_0 : decode cX12_oddsFrom 0 = .ok (.iload_n 2, 1) := by decide +kernel
theorem dX12_oddsFrom_1 : decode cX12_oddsFrom 1 = .ok (.ifCond .ne 17, 3) := by decide +kernel
theorem dX12_oddsFrom_4 : decode cX12_oddsFrom 4 = .ok (.aload_n 0, 1) := by decide +kernel
theorem dX12_oddsFrom_5 : decode cX12_oddsFrom 5 = .ok (.invokevirtual 357, 3) := by decide +kernel
theorem dX12_oddsFrom_8 : decode cX12_oddsFrom 8 = .ok (.ifCond .ne 8, 3) := by decide +kernel
theorem dX12_oddsFrom_11 : decode cX12_oddsFrom 11 = .ok (.iload 4, 2) := by decide +kernel
theorem dX12_oddsFrom_13 : decode cX12_oddsFrom 13 = .ok (.goto 4, 3) := by decide +kernel
theorem dX12_oddsFrom_16 : decode cX12_oddsFrom 16 = .ok (.iconst 0, 1) := by decide +kernel
theorem dX12_oddsFrom_17 : decode cX12_oddsFrom 17 = .ok (.ireturn, 1) := by decide +kernel
theorem dX12_oddsFrom_18 : decode cX12_oddsFrom 18 = .ok (.iload 4, 2) := by decide +kernel
theorem dX12_oddsFrom_20 : decode cX12_oddsFrom 20 = .ok (.i2l, 1) := by decide +kernel
theorem dX12_oddsFrom_21 : decode cX12_oddsFrom 21 = .ok (.iload_n 3, 1) := by decide +kernel
theorem dX12_oddsFrom_22 : decode cX12_oddsFrom 22 = .ok (.i2l, 1) := by decide +kernel
theorem dX12_oddsFrom_23 : decode cX12_oddsFrom 23 = .ok (.lmul, 1) := by decide +kernel
theorem dX12_oddsFrom_24 : decode cX12_oddsFrom 24 = .ok (.ldc2_w 366, 3) := by decide +kernel
theorem dX12_oddsFrom_27 : decode cX12_oddsFrom 27 = .ok (.ldiv, 1) := by decide +kernel
theorem dX12_oddsFrom_28 : decode cX12_oddsFrom 28 = .ok (.l2i, 1) := by decide +kernel
theorem dX12_oddsFrom_29 : decode cX12_oddsFrom 29 = .ok (.istore 5, 2) := by decide +kernel
theorem dX12_oddsFrom_31 : decode cX12_oddsFrom 31 = .ok (.iconst 0, 1) := by decide +kernel
theorem dX12_oddsFrom_32 : decode cX12_oddsFrom 32 = .ok (.istore 6, 2) := by decide +kernel
theorem dX12_oddsFrom_34 : decode cX12_oddsFrom 34 = .ok (.aload_n 0, 1) := by decide +kernel
theorem dX12_oddsFrom_35 : decode cX12_oddsFrom 35 = .ok (.iload_n 1, 1) := by decide +kernel
theorem dX12_oddsFrom_36 : decode cX12_oddsFrom 36 = .ok (.invokevirtual 348, 3) := by decide +kernel
theorem dX12_oddsFrom_39 : decode cX12_oddsFrom 39 = .ok (.iconst 0, 1) := by decide +kernel
theorem dX12_oddsFrom_40 : decode cX12_oddsFrom 40 = .ok (.istore 7, 2) := by decide +kernel
theorem dX12_oddsFrom_42 : decode cX12_oddsFrom 42 = .ok (.iload 7, 2) := by decide +kernel
theorem dX12_oddsFrom_44 : decode cX12_oddsFrom 44 = .ok (.iconst 2, 1) := by decide +kernel
theorem dX12_oddsFrom_45 : decode cX12_oddsFrom 45 = .ok (.if_icmp .ge 83, 3) := by decide +kernel
theorem dX12_oddsFrom_48 : decode cX12_oddsFrom 48 = .ok (.iconst 0, 1) := by decide +kernel
theorem dX12_oddsFrom_49 : decode cX12_oddsFrom 49 = .ok (.istore 8, 2) := by decide +kernel
theorem dX12_oddsFrom_51 : decode cX12_oddsFrom 51 = .ok (.iload 8, 2) := by decide +kernel
theorem dX12_oddsFrom_53 : decode cX12_oddsFrom 53 = .ok (.aload_n 0, 1) := by decide +kernel
theorem dX12_oddsFrom_54 : decode cX12_oddsFrom 54 = .ok (.getfield 138, 3) := by decide +kernel
theorem dX12_oddsFrom_57 : decode cX12_oddsFrom 57 = .ok (.if_icmp .ge 24, 3) := by decide +kernel
theorem dX12_oddsFrom_60 : decode cX12_oddsFrom 60 = .ok (.iload 7, 2) := by decide +kernel
theorem dX12_oddsFrom_62 : decode cX12_oddsFrom 62 = .ok (.iconst 1, 1) := by decide +kernel
theorem dX12_oddsFrom_63 : decode cX12_oddsFrom 63 = .ok (.if_icmp .ne 18, 3) := by decide +kernel
theorem dX12_oddsFrom_66 : decode cX12_oddsFrom 66 = .ok (.aload_n 0, 1) := by decide +kernel
theorem dX12_oddsFrom_67 : decode cX12_oddsFrom 67 = .ok (.iload 8, 2) := by decide +kernel
theorem dX12_oddsFrom_69 : decode cX12_oddsFrom 69 = .ok (.bipush 43, 2) := by decide +kernel
theorem dX12_oddsFrom_71 : decode cX12_oddsFrom 71 = .ok (.iconst 0, 1) := by decide +kernel
theorem dX12_oddsFrom_72 : decode cX12_oddsFrom 72 = .ok (.invokevirtual 141, 3) := by decide +kernel
theorem dX12_oddsFrom_75 : decode cX12_oddsFrom 75 = .ok (.iinc 8 1, 3) := by decide +kernel
theorem dX12_oddsFrom_78 : decode cX12_oddsFrom 78 = .ok (.goto (-27), 3) := by decide +kernel
theorem dX12_oddsFrom_81 : decode cX12_oddsFrom 81 = .ok (.aload_n 0, 1) := by decide +kernel
theorem dX12_oddsFrom_82 : decode cX12_oddsFrom 82 = .ok (.invokevirtual 299, 3) := by decide +kernel
theorem dX12_oddsFrom_85 : decode cX12_oddsFrom 85 = .ok (.iload 6, 2) := by decide +kernel
theorem dX12_oddsFrom_87 : decode cX12_oddsFrom 87 = .ok (.aload_n 0, 1) := by decide +kernel
theorem dX12_oddsFrom_88 : decode cX12_oddsFrom 88 = .ok (.iload_n 1, 1) := by decide +kernel
theorem dX12_oddsFrom_89 : decode cX12_oddsFrom 89 = .ok (.iconst 1, 1) := by decide +kernel
theorem dX12_oddsFrom_90 : decode cX12_oddsFrom 90 = .ok (.iadd, 1) := by decide +kernel
theorem dX12_oddsFrom_91 : decode cX12_oddsFrom 91 = .ok (.iload_n 2, 1) := by decide +kernel
theorem dX12_oddsFrom_92 : decode cX12_oddsFrom 92 = .ok (.iconst 1, 1) := by decide +kernel
theorem dX12_oddsFrom_93 : decode cX12_oddsFrom 93 = .ok (.isub, 1) := by decide +kernel
theorem dX12_oddsFrom_94 : decode cX12_oddsFrom 94 = .ok (.iload_n 3, 1) := by decide +kernel
theorem dX12_oddsFrom_95 : decode cX12_oddsFrom 95 = .ok (.iload 7, 2) := by decide +kernel
theorem dX12_oddsFrom_97 : decode cX12_oddsFrom 97 = .ok (.iconst 1, 1) := by decide +kernel
theorem dX12_oddsFrom_98 : decode cX12_oddsFrom 98 = .ok (.if_icmp .ne 8, 3) := by decide +kernel
theorem dX12_oddsFrom_101 : decode cX12_oddsFrom 101 = .ok (.iload 5, 2) := by decide +kernel
theorem dX12_oddsFrom_103 : decode cX12_oddsFrom 103 = .ok (.goto 8, 3) := by decide +kernel
theorem dX12_oddsFrom_106 : decode cX12_oddsFrom 106 = .ok (.iload 4, 2) := by decide +kernel
theorem dX12_oddsFrom_108 : decode cX12_oddsFrom 108 = .ok (.iload 5, 2) := by decide +kernel
theorem dX12_oddsFrom_110 : decode cX12_oddsFrom 110 = .ok (.isub, 1) := by decide +kernel
theorem dX12_oddsFrom_111 : decode cX12_oddsFrom 111 = .ok (.invokevirtual 368, 3) := by decide +kernel
theorem dX12_oddsFrom_114 : decode cX12_oddsFrom 114 = .ok (.iadd, 1) := by decide +kernel
theorem dX12_oddsFrom_115 : decode cX12_oddsFrom 115 = .ok (.istore 6, 2) := by decide +kernel
theorem dX12_oddsFrom_117 : decode cX12_oddsFrom 117 = .ok (.aload_n 0, 1) := by decide +kernel
theorem dX12_oddsFrom_118 : decode cX12_oddsFrom 118 = .ok (.iload_n 1, 1) := by decide +kernel
theorem dX12_oddsFrom_119 : decode cX12_oddsFrom 119 = .ok (.invokevirtual 351, 3) := by decide +kernel
theorem dX12_oddsFrom_122 : decode cX12_oddsFrom 122 = .ok (.iinc 7 1, 3) := by decide +kernel
theorem dX12_oddsFrom_125 : decode cX12_oddsFrom 125 = .ok (.goto (-83), 3) := by decide +kernel
theorem dX12_oddsFrom_128 : decode cX12_oddsFrom 128 = .ok (.iload 6, 2) := by decide +kernel
theorem dX12_oddsFrom_130 : decode cX12_oddsFrom 130 = .ok (.ireturn, 1) := by decide +kernel
theorem dX12_odds_0 : decode cX12_odds 0 = .ok (.aload_n 0, 1) := by decide +kernel
theorem dX12_odds_1 : decode cX12_odds 1 = .ok (.getfield 138, 3) := by decide +kernel
theorem dX12_odds_4 : decode cX12_odds 4 = .ok (.ifCond .le 36, 3) := by decide +kernel
theorem dX12_odds_7 : decode cX12_odds 7 = .ok (.iload_n 1, 1) := by decide +kernel
theorem dX12_odds_8 : decode cX12_odds 8 = .ok (.iconst 0, 1) := by decide +kernel
theorem dX12_odds_9 : decode cX12_odds 9 = .ok (.bipush 6, 2) := by decide +kernel
theorem dX12_odds_11 : decode cX12_odds 11 = .ok (.invokestatic 75, 3) := by decide +kernel
theorem dX12_odds_14 : decode cX12_odds 14 = .ok (.ifCond .eq 26, 3) := by decide +kernel
theorem dX12_odds_17 : decode cX12_odds 17 = .ok (.iload_n 2, 1) := by decide +kernel
theorem dX12_odds_18 : decode cX12_odds 18 = .ok (.iconst 0, 1) := by decide +kernel
theorem dX12_odds_19 : decode cX12_odds 19 = .ok (.bipush 100, 2) := by decide +kernel
theorem dX12_odds_21 : decode cX12_odds 21 = .ok (.invokestatic 75, 3) := by decide +kernel
theorem dX12_odds_24 : decode cX12_odds 24 = .ok (.ifCond .eq 16, 3) := by decide +kernel
theorem dX12_odds_27 : decode cX12_odds 27 = .ok (.aload_n 0, 1) := by decide +kernel
theorem dX12_odds_28 : decode cX12_odds 28 = .ok (.iconst 0, 1) := by decide +kernel
theorem dX12_odds_29 : decode cX12_odds 29 = .ok (.iload_n 1, 1) := by decide +kernel
theorem dX12_odds_30 : decode cX12_odds 30 = .ok (.iload_n 2, 1) := by decide +kernel
theorem dX12_odds_31 : decode cX12_odds 31 = .ok (.ldc_w 372, 3) := by decide +kernel
theorem dX12_odds_34 : decode cX12_odds 34 = .ok (.invokevirtual 368, 3) := by decide +kernel
theorem dX12_odds_37 : decode cX12_odds 37 = .ok (.goto 4, 3) := by decide +kernel
theorem dX12_odds_40 : decode cX12_odds 40 = .ok (.iconst (-1), 1) := by decide +kernel
theorem dX12_odds_41 : decode cX12_odds 41 = .ok (.ireturn, 1) := by decide +kernel
theorem dX12_gotOf_0 : decode cX12_gotOf 0 = .ok (.iconst 0, 1) := by decide +kernel
theorem dX12_gotOf_1 : decode cX12_gotOf 1 = .ok (.istore_n 2, 1) := by decide +kernel
theorem dX12_gotOf_2 : decode cX12_gotOf 2 = .ok (.iconst 0, 1) := by decide +kernel
theorem dX12_gotOf_3 : decode cX12_gotOf 3 = .ok (.istore_n 3, 1) := by decide +kernel
theorem dX12_gotOf_4 : decode cX12_gotOf 4 = .ok (.iload_n 3, 1) := by decide +kernel
theorem dX12_gotOf_5 : decode cX12_gotOf 5 = .ok (.aload_n 0, 1) := by decide +kernel
theorem dX12_gotOf_6 : decode cX12_gotOf 6 = .ok (.iload_n 1, 1) := by decide +kernel
theorem dX12_gotOf_7 : decode cX12_gotOf 7 = .ok (.bipush 18, 2) := by decide +kernel
theorem dX12_gotOf_9 : decode cX12_gotOf 9 = .ok (.invokevirtual 161, 3) := by decide +kernel
theorem dX12_gotOf_12 : decode cX12_gotOf 12 = .ok (.if_icmp .ge 21, 3) := by decide +kernel
theorem dX12_gotOf_15 : decode cX12_gotOf 15 = .ok (.iload_n 2, 1) := by decide +kernel
theorem dX12_gotOf_16 : decode cX12_gotOf 16 = .ok (.aload_n 0, 1) := by decide +kernel
theorem dX12_gotOf_17 : decode cX12_gotOf 17 = .ok (.iload_n 1, 1) := by decide +kernel
theorem dX12_gotOf_18 : decode cX12_gotOf 18 = .ok (.bipush 12, 2) := by decide +kernel
theorem dX12_gotOf_20 : decode cX12_gotOf 20 = .ok (.iload_n 3, 1) := by decide +kernel
theorem dX12_gotOf_21 : decode cX12_gotOf 21 = .ok (.iadd, 1) := by decide +kernel
theorem dX12_gotOf_22 : decode cX12_gotOf 22 = .ok (.invokevirtual 161, 3) := by decide +kernel
theorem dX12_gotOf_25 : decode cX12_gotOf 25 = .ok (.iadd, 1) := by decide +kernel
theorem dX12_gotOf_26 : decode cX12_gotOf 26 = .ok (.istore_n 2, 1) := by decide +kernel
theorem dX12_gotOf_27 : decode cX12_gotOf 27 = .ok (.iinc 3 1, 3) := by decide +kernel
theorem dX12_gotOf_30 : decode cX12_gotOf 30 = .ok (.goto (-26), 3) := by decide +kernel
theorem dX12_gotOf_33 : decode cX12_gotOf 33 = .ok (.iload_n 2, 1) := by decide +kernel
theorem dX12_gotOf_34 : decode cX12_gotOf 34 = .ok (.ireturn, 1) := by decide +kernel
theorem dX12_shares_0 : decode cX12_shares 0 = .ok (.aload_n 0, 1) := by decide +kernel
theorem dX12_shares_1 : decode cX12_shares 1 = .ok (.iload_n 1, 1) := by decide +kernel
theorem dX12_shares_2 : decode cX12_shares 2 = .ok (.invokevirtual 313, 3) := by decide +kernel
theorem dX12_shares_5 : decode cX12_shares 5 = .ok (.ifCond .eq 14, 3) := by decide +kernel
theorem dX12_shares_8 : decode cX12_shares 8 = .ok (.iload_n 2, 1) := by decide +kernel
theorem dX12_shares_9 : decode cX12_shares 9 = .ok (.iconst 0, 1) := by decide +kernel
theorem dX12_shares_10 : decode cX12_shares 10 = .ok (.sipush 999, 3) := by decide +kernel
theorem dX12_shares_13 : decode cX12_shares 13 = .ok (.invokestatic 75, 3) := by decide +kernel
theorem dX12_shares_16 : decode cX12_shares 16 = .ok (.ifCond .ne 5, 3) := by decide +kernel
theorem dX12_shares_19 : decode cX12_shares 19 = .ok (.iconst (-1), 1) := by decide +kernel
theorem dX12_shares_20 : decode cX12_shares 20 = .ok (.ireturn, 1) := by decide +kernel
theorem dX12_shares_21 : decode cX12_shares 21 = .ok (.iconst 0, 1) := by decide +kernel
theorem dX12_shares_22 : decode cX12_shares 22 = .ok (.istore_n 3, 1) := by decide +kernel
theorem dX12_shares_23 : decode cX12_shares 23 = .ok (.iconst 0, 1) := by decide +kernel
theorem dX12_shares_24 : decode cX12_shares 24 = .ok (.istore 4, 2) := by decide +kernel
theorem dX12_shares_26 : decode cX12_shares 26 = .ok (.iload 4, 2) := by decide +kernel
theorem dX12_shares_28 : decode cX12_shares 28 = .ok (.aload_n 0, 1) := by decide +kernel
theorem dX12_shares_29 : decode cX12_shares 29 = .ok (.getfield 138, 3) := by decide +kernel
theorem dX12_shares_32 : decode cX12_shares 32 = .ok (.if_icmp .ge 18, 3) := by decide +kernel
theorem dX12_shares_35 : decode cX12_shares 35 = .ok (.iload_n 3, 1) := by decide +kernel
theorem dX12_shares_36 : decode cX12_shares 36 = .ok (.aload_n 0, 1) := by decide +kernel
theorem dX12_shares_37 : decode cX12_shares 37 = .ok (.iload 4, 2) := by decide +kernel
theorem dX12_shares_39 : decode cX12_shares 39 = .ok (.invokevirtual 373, 3) := by decide +kernel
theorem dX12_shares_42 : decode cX12_shares 42 = .ok (.iadd, 1) := by decide +kernel
theorem dX12_shares_43 : decode cX12_shares 43 = .ok (.istore_n 3, 1) := by decide +kernel
theorem dX12_shares_44 : decode cX12_shares 44 = .ok (.iinc 4 1, 3) := by decide +kernel
theorem dX12_shares_47 : decode cX12_shares 47 = .ok (.goto (-21), 3) := by decide +kernel
theorem dX12_shares_50 : decode cX12_shares 50 = .ok (.iload_n 3, 1) := by decide +kernel
theorem dX12_shares_51 : decode cX12_shares 51 = .ok (.ifCond .ne 7, 3) := by decide +kernel
theorem dX12_shares_54 : decode cX12_shares 54 = .ok (.iconst 0, 1) := by decide +kernel
theorem dX12_shares_55 : decode cX12_shares 55 = .ok (.goto 12, 3) := by decide +kernel
theorem dX12_shares_58 : decode cX12_shares 58 = .ok (.iload_n 2, 1) := by decide +kernel
theorem dX12_shares_59 : decode cX12_shares 59 = .ok (.aload_n 0, 1) := by decide +kernel
theorem dX12_shares_60 : decode cX12_shares 60 = .ok (.iload_n 1, 1) := by decide +kernel
theorem dX12_shares_61 : decode cX12_shares 61 = .ok (.invokevirtual 373, 3) := by decide +kernel
theorem dX12_shares_64 : decode cX12_shares 64 = .ok (.imul, 1) := by decide +kernel
theorem dX12_shares_65 : decode cX12_shares 65 = .ok (.iload_n 3, 1) := by decide +kernel
theorem dX12_shares_66 : decode cX12_shares 66 = .ok (.idiv, 1) := by decide +kernel
theorem dX12_shares_67 : decode cX12_shares 67 = .ok (.ireturn, 1) := by decide +kernel
theorem dX12_cellsAt_0 : decode cX12_cellsAt 0 = .ok (.iconst 0, 1) := by decide +kernel
theorem dX12_cellsAt_1 : decode cX12_cellsAt 1 = .ok (.istore_n 3, 1) := by decide +kernel
theorem dX12_cellsAt_2 : decode cX12_cellsAt 2 = .ok (.iconst 0, 1) := by decide +kernel
theorem dX12_cellsAt_3 : decode cX12_cellsAt 3 = .ok (.istore 4, 2) := by decide +kernel
theorem dX12_cellsAt_5 : decode cX12_cellsAt 5 = .ok (.iload 4, 2) := by decide +kernel
theorem dX12_cellsAt_7 : decode cX12_cellsAt 7 = .ok (.aload_n 0, 1) := by decide +kernel
theorem dX12_cellsAt_8 : decode cX12_cellsAt 8 = .ok (.getfield 138, 3) := by decide +kernel
theorem dX12_cellsAt_11 : decode cX12_cellsAt 11 = .ok (.if_icmp .ge 83, 3) := by decide +kernel
theorem dX12_cellsAt_14 : decode cX12_cellsAt 14 = .ok (.iconst 0, 1) := by decide +kernel
theorem dX12_cellsAt_15 : decode cX12_cellsAt 15 = .ok (.istore 5, 2) := by decide +kernel
theorem dX12_cellsAt_17 : decode cX12_cellsAt 17 = .ok (.iload 5, 2) := by decide +kernel
theorem dX12_cellsAt_19 : decode cX12_cellsAt 19 = .ok (.iconst 2, 1) := by decide +kernel
theorem dX12_cellsAt_20 : decode cX12_cellsAt 20 = .ok (.if_icmp .ge 68, 3) := by decide +kernel
theorem dX12_cellsAt_23 : decode cX12_cellsAt 23 = .ok (.iconst 0, 1) := by decide +kernel
theorem dX12_cellsAt_24 : decode cX12_cellsAt 24 = .ok (.istore 6, 2) := by decide +kernel
theorem dX12_cellsAt_26 : decode cX12_cellsAt 26 = .ok (.iload 6, 2) := by decide +kernel
theorem dX12_cellsAt_28 : decode cX12_cellsAt 28 = .ok (.aload_n 0, 1) := by decide +kernel
theorem dX12_cellsAt_29 : decode cX12_cellsAt 29 = .ok (.iload 4, 2) := by decide +kernel
theorem dX12_cellsAt_31 : decode cX12_cellsAt 31 = .ok (.iload 5, 2) := by decide +kernel
theorem dX12_cellsAt_33 : decode cX12_cellsAt 33 = .ok (.invokevirtual 164, 3) := by decide +kernel
theorem dX12_cellsAt_36 : decode cX12_cellsAt 36 = .ok (.if_icmp .ge 46, 3) := by decide +kernel
theorem dX12_cellsAt_39 : decode cX12_cellsAt 39 = .ok (.aload_n 0, 1) := by decide +kernel
theorem dX12_cellsAt_40 : decode cX12_cellsAt 40 = .ok (.iload 4, 2) := by decide +kernel
theorem dX12_cellsAt_42 : decode cX12_cellsAt 42 = .ok (.iload 5, 2) := by decide +kernel
theorem dX12_cellsAt_44 : decode cX12_cellsAt 44 = .ok (.invokevirtual 178, 3) := by decide +kernel
theorem dX12_cellsAt_47 : decode cX12_cellsAt 47 = .ok (.iload_n 1, 1) := by decide +kernel
theorem dX12_cellsAt_48 : decode cX12_cellsAt 48 = .ok (.if_icmp .ne 34, 3) := by decide +kernel
theorem dX12_cellsAt_51 : decode cX12_cellsAt 51 = .ok (.iload_n 3, 1) := by decide +kernel
theorem dX12_cellsAt_52 : decode cX12_cellsAt 52 = .ok (.aload_n 0, 1) := by decide +kernel
theorem dX12_cellsAt_53 : decode cX12_cellsAt 53 = .ok (.iload 4, 2) := by decide +kernel
theorem dX12_cellsAt_55 : decode cX12_cellsAt 55 = .ok (.iload 5, 2) := by decide +kernel
theorem dX12_cellsAt_57 : decode cX12_cellsAt 57 = .ok (.iload 6, 2) := by decide +kernel
theorem dX12_cellsAt_59 : decode cX12_cellsAt 59 = .ok (.invokevirtual 167, 3) := by decide +kernel
theorem dX12_cellsAt_62 : decode cX12_cellsAt 62 = .ok (.bipush 10, 2) := by decide +kernel
theorem dX12_cellsAt_64 : decode cX12_cellsAt 64 = .ok (.idiv, 1) := by decide +kernel
theorem dX12_cellsAt_65 : decode cX12_cellsAt 65 = .ok (.iload_n 2, 1) := by decide +kernel
theorem dX12_cellsAt_66 : decode cX12_cellsAt 66 = .ok (.if_icmp .ne 7, 3) := by decide +kernel
theorem dX12_cellsAt_69 : decode cX12_cellsAt 69 = .ok (.iconst 1, 1) := by decide +kernel
theorem dX12_cellsAt_70 : decode cX12_cellsAt 70 = .ok (.goto 4, 3) := by decide +kernel
theorem dX12_cellsAt_73 : decode cX12_cellsAt 73 = .ok (.iconst 0, 1) := by decide +kernel
theorem dX12_cellsAt_74 : decode cX12_cellsAt 74 = .ok (.iadd, 1) := by decide +kernel
theorem dX12_cellsAt_75 : decode cX12_cellsAt 75 = .ok (.istore_n 3, 1) := by decide +kernel
theorem dX12_cellsAt_76 : decode cX12_cellsAt 76 = .ok (.iinc 6 1, 3) := by decide +kernel
theorem dX12_cellsAt_79 : decode cX12_cellsAt 79 = .ok (.goto (-53), 3) := by decide +kernel
theorem dX12_cellsAt_82 : decode cX12_cellsAt 82 = .ok (.iinc 5 1, 3) := by decide +kernel
theorem dX12_cellsAt_85 : decode cX12_cellsAt 85 = .ok (.goto (-68), 3) := by decide +kernel
theorem dX12_cellsAt_88 : decode cX12_cellsAt 88 = .ok (.iinc 4 1, 3) := by decide +kernel
theorem dX12_cellsAt_91 : decode cX12_cellsAt 91 = .ok (.goto (-86), 3) := by decide +kernel
theorem dX12_cellsAt_94 : decode cX12_cellsAt 94 = .ok (.iload_n 3, 1) := by decide +kernel
theorem dX12_cellsAt_95 : decode cX12_cellsAt 95 = .ok (.ireturn, 1) := by decide +kernel
theorem dX12_node_0 : decode cX12_node 0 = .ok (.aload_n 0, 1) := by decide +kernel
theorem dX12_node_1 : decode cX12_node 1 = .ok (.getfield 138, 3) := by decide +kernel
theorem dX12_node_4 : decode cX12_node 4 = .ok (.ifCond .eq 21, 3) := by decide +kernel
theorem dX12_node_7 : decode cX12_node 7 = .ok (.iload_n 1, 1) := by decide +kernel
theorem dX12_node_8 : decode cX12_node 8 = .ok (.iconst 0, 1) := by decide +kernel
theorem dX12_node_9 : decode cX12_node 9 = .ok (.iconst 5, 1) := by decide +kernel
theorem dX12_node_10 : decode cX12_node 10 = .ok (.invokestatic 75, 3) := by decide +kernel
theorem dX12_node_13 : decode cX12_node 13 = .ok (.ifCond .eq 12, 3) := by decide +kernel
theorem dX12_node_16 : decode cX12_node 16 = .ok (.iload_n 2, 1) := by decide +kernel
theorem dX12_node_17 : decode cX12_node 17 = .ok (.iconst 0, 1) := by decide +kernel
theorem dX12_node_18 : decode cX12_node 18 = .ok (.iconst 1, 1) := by decide +kernel
theorem dX12_node_19 : decode cX12_node 19 = .ok (.invokestatic 75, 3) := by decide +kernel
theorem dX12_node_22 : decode cX12_node 22 = .ok (.ifCond .ne 5, 3) := by decide +kernel
theorem dX12_node_25 : decode cX12_node 25 = .ok (.iconst (-1), 1) := by decide +kernel
theorem dX12_node_26 : decode cX12_node 26 = .ok (.ireturn, 1) := by decide +kernel
theorem dX12_node_27 : decode cX12_node 27 = .ok (.iconst 0, 1) := by decide +kernel
theorem dX12_node_28 : decode cX12_node 28 = .ok (.istore_n 3, 1) := by decide +kernel
theorem dX12_node_29 : decode cX12_node 29 = .ok (.iconst 0, 1) := by decide +kernel
theorem dX12_node_30 : decode cX12_node 30 = .ok (.istore 4, 2) := by decide +kernel
theorem dX12_node_32 : decode cX12_node 32 = .ok (.iload 4, 2) := by decide +kernel
theorem dX12_node_34 : decode cX12_node 34 = .ok (.aload_n 0, 1) := by decide +kernel
theorem dX12_node_35 : decode cX12_node 35 = .ok (.getfield 22, 3) := by decide +kernel
theorem dX12_node_38 : decode cX12_node 38 = .ok (.iconst 0, 1) := by decide +kernel
theorem dX12_node_39 : decode cX12_node 39 = .ok (.iaload, 1) := by decide +kernel
theorem dX12_node_40 : decode cX12_node 40 = .ok (.if_icmp .ge 57, 3) := by decide +kernel
theorem dX12_node_43 : decode cX12_node 43 = .ok (.iload_n 2, 1) := by decide +kernel
theorem dX12_node_44 : decode cX12_node 44 = .ok (.ifCond .ne 13, 3) := by decide +kernel
theorem dX12_node_47 : decode cX12_node 47 = .ok (.aload_n 0, 1) := by decide +kernel
theorem dX12_node_48 : decode cX12_node 48 = .ok (.iload_n 1, 1) := by decide +kernel
theorem dX12_node_49 : decode cX12_node 49 = .ok (.iload 4, 2) := by decide +kernel
theorem dX12_node_51 : decode cX12_node 51 = .ok (.invokevirtual 181, 3) := by decide +kernel
theorem dX12_node_54 : decode cX12_node 54 = .ok (.goto 19, 3) := by decide +kernel
theorem dX12_node_57 : decode cX12_node 57 = .ok (.aload_n 0, 1) := by decide +kernel
theorem dX12_node_58 : decode cX12_node 58 = .ok (.iload_n 1, 1) := by decide +kernel
theorem dX12_node_59 : decode cX12_node 59 = .ok (.iload 4, 2) := by decide +kernel
theorem dX12_node_61 : decode cX12_node 61 = .ok (.invokevirtual 376, 3) := by decide +kernel
theorem dX12_node_64 : decode cX12_node 64 = .ok (.iconst 1, 1) := by decide +kernel
theorem dX12_node_65 : decode cX12_node 65 = .ok (.if_icmp .le 7, 3) := by decide +kernel
theorem dX12_node_68 : decode cX12_node 68 = .ok (.iconst 1, 1) := by decide +kernel
theorem dX12_node_69 : decode cX12_node 69 = .ok (.goto 4, 3) := by decide +kernel
theorem dX12_node_72 : decode cX12_node 72 = .ok (.iconst 0, 1) := by decide +kernel
theorem dX12_node_73 : decode cX12_node 73 = .ok (.istore 5, 2) := by decide +kernel
theorem dX12_node_75 : decode cX12_node 75 = .ok (.iload_n 3, 1) := by decide +kernel
theorem dX12_node_76 : decode cX12_node 76 = .ok (.iload 5, 2) := by decide +kernel
theorem dX12_node_78 : decode cX12_node 78 = .ok (.ifCond .eq 10, 3) := by decide +kernel
theorem dX12_node_81 : decode cX12_node 81 = .ok (.iconst 1, 1) := by decide +kernel
theorem dX12_node_82 : decode cX12_node 82 = .ok (.iload 4, 2) := by decide +kernel
theorem dX12_node_84 : decode cX12_node 84 = .ok (.ishl, 1) := by decide +kernel
theorem dX12_node_85 : decode cX12_node 85 = .ok (.goto 4, 3) := by decide +kernel
theorem dX12_node_88 : decode cX12_node 88 = .ok (.iconst 0, 1) := by decide +kernel
theorem dX12_node_89 : decode cX12_node 89 = .ok (.ior, 1) := by decide +kernel
theorem dX12_node_90 : decode cX12_node 90 = .ok (.istore_n 3, 1) := by decide +kernel
theorem dX12_node_91 : decode cX12_node 91 = .ok (.iinc 4 1, 3) := by decide +kernel
theorem dX12_node_94 : decode cX12_node 94 = .ok (.goto (-62), 3) := by decide +kernel
theorem dX12_node_97 : decode cX12_node 97 = .ok (.iload_n 3, 1) := by decide +kernel
theorem dX12_node_98 : decode cX12_node 98 = .ok (.ireturn, 1) := by decide +kernel
theorem dX12_doesCollide_0 : decode cX12_doesCollide 0 = .ok (.iconst 0, 1) := by decide +kernel
theorem dX12_doesCollide_1 : decode cX12_doesCollide 1 = .ok (.istore_n 2, 1) := by decide +kernel
theorem dX12_doesCollide_2 : decode cX12_doesCollide 2 = .ok (.iload_n 2, 1) := by decide +kernel
theorem dX12_doesCollide_3 : decode cX12_doesCollide 3 = .ok (.aload_n 0, 1) := by decide +kernel
theorem dX12_doesCollide_4 : decode cX12_doesCollide 4 = .ok (.iload_n 1, 1) := by decide +kernel
theorem dX12_doesCollide_5 : decode cX12_doesCollide 5 = .ok (.bipush 18, 2) := by decide +kernel
theorem dX12_doesCollide_7 : decode cX12_doesCollide 7 = .ok (.invokevirtual 161, 3) := by decide +kernel
theorem dX12_doesCollide_10 : decode cX12_doesCollide 10 = .ok (.if_icmp .ge 49, 3) := by decide +kernel
theorem dX12_doesCollide_13 : decode cX12_doesCollide 13 = .ok (.iconst 0, 1) := by decide +kernel
theorem dX12_doesCollide_14 : decode cX12_doesCollide 14 = .ok (.istore_n 3, 1) := by decide +kernel
theorem dX12_doesCollide_15 : decode cX12_doesCollide 15 = .ok (.iload_n 3, 1) := by decide +kernel
theorem dX12_doesCollide_16 : decode cX12_doesCollide 16 = .ok (.aload_n 0, 1) := by decide +kernel
theorem dX12_doesCollide_17 : decode cX12_doesCollide 17 = .ok (.getfield 138, 3) := by decide +kernel
theorem dX12_doesCollide_20 : decode cX12_doesCollide 20 = .ok (.if_icmp .ge 33, 3) := by decide +kernel
theorem dX12_doesCollide_23 : decode cX12_doesCollide 23 = .ok (.iload_n 3, 1) := by decide +kernel
theorem dX12_doesCollide_24 : decode cX12_doesCollide 24 = .ok (.iload_n 1, 1) := by decide +kernel
theorem dX12_doesCollide_25 : decode cX12_doesCollide 25 = .ok (.if_icmp .eq 22, 3) := by decide +kernel
theorem dX12_doesCollide_28 : decode cX12_doesCollide 28 = .ok (.aload_n 0, 1) := by decide +kernel
theorem dX12_doesCollide_29 : decode cX12_doesCollide 29 = .ok (.iload_n 3, 1) := by decide +kernel
theorem dX12_doesCollide_30 : decode cX12_doesCollide 30 = .ok (.iconst 0, 1) := by decide +kernel
theorem dX12_doesCollide_31 : decode cX12_doesCollide 31 = .ok (.aload_n 0, 1) := by decide +kernel
theorem dX12_doesCollide_32 : decode cX12_doesCollide 32 = .ok (.iload_n 1, 1) := by decide +kernel
theorem dX12_doesCollide_33 : decode cX12_doesCollide 33 = .ok (.iconst 0, 1) := by decide +kernel
theorem dX12_doesCollide_34 : decode cX12_doesCollide 34 = .ok (.iload_n 2, 1) := by decide +kernel
theorem dX12_doesCollide_35 : decode cX12_doesCollide 35 = .ok (.invokevirtual 167, 3) := by decide +kernel
theorem dX12_doesCollide_38 : decode cX12_doesCollide 38 = .ok (.invokevirtual 171, 3) := by decide +kernel
theorem dX12_doesCollide_41 : decode cX12_doesCollide 41 = .ok (.iconst (-1), 1) := by decide +kernel
theorem dX12_doesCollide_42 : decode cX12_doesCollide 42 = .ok (.if_icmp .eq 5, 3) := by decide +kernel
theorem dX12_doesCollide_45 : decode cX12_doesCollide 45 = .ok (.iconst 1, 1) := by decide +kernel
theorem dX12_doesCollide_46 : decode cX12_doesCollide 46 = .ok (.ireturn, 1) := by decide +kernel
theorem dX12_doesCollide_47 : decode cX12_doesCollide 47 = .ok (.iinc 3 1, 3) := by decide +kernel
theorem dX12_doesCollide_50 : decode cX12_doesCollide 50 = .ok (.goto (-35), 3) := by decide +kernel
theorem dX12_doesCollide_53 : decode cX12_doesCollide 53 = .ok (.iinc 2 1, 3) := by decide +kernel
theorem dX12_doesCollide_56 : decode cX12_doesCollide 56 = .ok (.goto (-54), 3) := by decide +kernel
theorem dX12_doesCollide_59 : decode cX12_doesCollide 59 = .ok (.iconst 0, 1) := by decide +kernel
theorem dX12_doesCollide_60 : decode cX12_doesCollide 60 = .ok (.ireturn, 1) := by decide +kernel
theorem dX12_onesWho_0 : decode cX12_onesWho 0 = .ok (.iconst 0, 1) := by decide +kernel
theorem dX12_onesWho_1 : decode cX12_onesWho 1 = .ok (.istore_n 2, 1) := by decide +kernel
theorem dX12_onesWho_2 : decode cX12_onesWho 2 = .ok (.iconst 0, 1) := by decide +kernel
theorem dX12_onesWho_3 : decode cX12_onesWho 3 = .ok (.istore_n 3, 1) := by decide +kernel
theorem dX12_onesWho_4 : decode cX12_onesWho 4 = .ok (.iload_n 3, 1) := by decide +kernel
theorem dX12_onesWho_5 : decode cX12_onesWho 5 = .ok (.aload_n 0, 1) := by decide +kernel
theorem dX12_onesWho_6 : decode cX12_onesWho 6 = .ok (.getfield 138, 3) := by decide +kernel
theorem dX12_onesWho_9 : decode cX12_onesWho 9 = .ok (.if_icmp .ge 58, 3) := by decide +kernel
theorem dX12_onesWho_12 : decode cX12_onesWho 12 = .ok (.iload_n 1, 1) := by decide +kernel
theorem dX12_onesWho_13 : decode cX12_onesWho 13 = .ok (.ifCond .ne 11, 3) := by decide +kernel
theorem dX12_onesWho_16 : decode cX12_onesWho 16 = .ok (.aload_n 0, 1) := by decide +kernel
theorem dX12_onesWho_17 : decode cX12_onesWho 17 = .ok (.iload_n 3, 1) := by decide +kernel
theorem dX12_onesWho_18 : decode cX12_onesWho 18 = .ok (.invokevirtual 379, 3) := by decide +kernel
theorem dX12_onesWho_21 : decode cX12_onesWho 21 = .ok (.goto 23, 3) := by decide +kernel
theorem dX12_onesWho_24 : decode cX12_onesWho 24 = .ok (.aload_n 0, 1) := by decide +kernel
theorem dX12_onesWho_25 : decode cX12_onesWho 25 = .ok (.iload_n 3, 1) := by decide +kernel
theorem dX12_onesWho_26 : decode cX12_onesWho 26 = .ok (.bipush 28, 2) := by decide +kernel
theorem dX12_onesWho_28 : decode cX12_onesWho 28 = .ok (.iload_n 1, 1) := by decide +kernel
theorem dX12_onesWho_29 : decode cX12_onesWho 29 = .ok (.iadd, 1) := by decide +kernel
theorem dX12_onesWho_30 : decode cX12_onesWho 30 = .ok (.iconst 1, 1) := by decide +kernel
theorem dX12_onesWho_31 : decode cX12_onesWho 31 = .ok (.isub, 1) := by decide +kernel
theorem dX12_onesWho_32 : decode cX12_onesWho 32 = .ok (.invokevirtual 161, 3) := by decide +kernel
theorem dX12_onesWho_35 : decode cX12_onesWho 35 = .ok (.iconst 1, 1) := by decide +kernel
theorem dX12_onesWho_36 : decode cX12_onesWho 36 = .ok (.if_icmp .ne 7, 3) := by decide +kernel
theorem dX12_onesWho_39 : decode cX12_onesWho 39 = .ok (.iconst 1, 1) := by decide +kernel
theorem dX12_onesWho_40 : decode cX12_onesWho 40 = .ok (.goto 4, 3) := by decide +kernel
theorem dX12_onesWho_43 : decode cX12_onesWho 43 = .ok (.iconst 0, 1) := by decide +kernel
theorem dX12_onesWho_44 : decode cX12_onesWho 44 = .ok (.istore 4, 2) := by decide +kernel
theorem dX12_onesWho_46 : decode cX12_onesWho 46 = .ok (.iload_n 2, 1) := by decide +kernel
theorem dX12_onesWho_47 : decode cX12_onesWho 47 = .ok (.iload 4, 2) := by decide +kernel
theorem dX12_onesWho_49 : decode cX12_onesWho 49 = .ok (.ifCond .eq 9, 3) := by decide +kernel
theorem dX12_onesWho_52 : decode cX12_onesWho 52 = .ok (.iconst 1, 1) := by decide +kernel
theorem dX12_onesWho_53 : decode cX12_onesWho 53 = .ok (.iload_n 3, 1) := by decide +kernel
theorem dX12_onesWho_54 : decode cX12_onesWho 54 = .ok (.ishl, 1) := by decide +kernel
theorem dX12_onesWho_55 : decode cX12_onesWho 55 = .ok (.goto 4, 3) := by decide +kernel
theorem dX12_onesWho_58 : decode cX12_onesWho 58 = .ok (.iconst 0, 1) := by decide +kernel
theorem dX12_onesWho_59 : decode cX12_onesWho 59 = .ok (.ior, 1) := by decide +kernel
theorem dX12_onesWho_60 : decode cX12_onesWho 60 = .ok (.istore_n 2, 1) := by decide +kernel
theorem dX12_onesWho_61 : decode cX12_onesWho 61 = .ok (.iinc 3 1, 3) := by decide +kernel
theorem dX12_onesWho_64 : decode cX12_onesWho 64 = .ok (.goto (-60), 3) := by decide +kernel
theorem dX12_onesWho_67 : decode cX12_onesWho 67 = .ok (.iload_n 2, 1) := by decide +kernel
theorem dX12_onesWho_68 : decode cX12_onesWho 68 = .ok (.ireturn, 1) := by decide +kernel
theorem dX12_topBy_0 : decode cX12_topBy 0 = .ok (.iconst 0, 1) := by decide +kernel
theorem dX12_topBy_1 : decode cX12_topBy 1 = .ok (.istore_n 2, 1) := by decide +kernel
theorem dX12_topBy_2 : decode cX12_topBy 2 = .ok (.iconst 1, 1) := by decide +kernel
theorem dX12_topBy_3 : decode cX12_topBy 3 = .ok (.istore_n 3, 1) := by decide +kernel
theorem dX12_topBy_4 : decode cX12_topBy 4 = .ok (.iload_n 3, 1) := by decide +kernel
theorem dX12_topBy_5 : decode cX12_topBy 5 = .ok (.aload_n 0, 1) := by decide +kernel
theorem dX12_topBy_6 : decode cX12_topBy 6 = .ok (.getfield 138, 3) := by decide +kernel
theorem dX12_topBy_9 : decode cX12_topBy 9 = .ok (.if_icmp .ge 30, 3) := by decide +kernel
theorem dX12_topBy_12 : decode cX12_topBy 12 = .ok (.aload_n 0, 1) := by decide +kernel
theorem dX12_topBy_13 : decode cX12_topBy 13 = .ok (.iload_n 3, 1) := by decide +kernel
theorem dX12_topBy_14 : decode cX12_topBy 14 = .ok (.iload_n 1, 1) := by decide +kernel
theorem dX12_topBy_15 : decode cX12_topBy 15 = .ok (.invokevirtual 161, 3) := by decide +kernel
theorem dX12_topBy_18 : decode cX12_topBy 18 = .ok (.aload_n 0, 1) := by decide +kernel
theorem dX12_topBy_19 : decode cX12_topBy 19 = .ok (.iload_n 2, 1) := by decide +kernel
theorem dX12_topBy_20 : decode cX12_topBy 20 = .ok (.iload_n 1, 1) := by decide +kernel
theorem dX12_topBy_21 : decode cX12_topBy 21 = .ok (.invokevirtual 161, 3) := by decide +kernel
theorem dX12_topBy_24 : decode cX12_topBy 24 = .ok (.if_icmp .le 7, 3) := by decide +kernel
theorem dX12_topBy_27 : decode cX12_topBy 27 = .ok (.iload_n 3, 1) := by decide +kernel
theorem dX12_topBy_28 : decode cX12_topBy 28 = .ok (.goto 4, 3) := by decide +kernel
theorem dX12_topBy_31 : decode cX12_topBy 31 = .ok (.iload_n 2, 1) := by decide +kernel
theorem dX12_topBy_32 : decode cX12_topBy 32 = .ok (.istore_n 2, 1) := by decide +kernel
theorem dX12_topBy_33 : decode cX12_topBy 33 = .ok (.iinc 3 1, 3) := by decide +kernel
theorem dX12_topBy_36 : decode cX12_topBy 36 = .ok (.goto (-32), 3) := by decide +kernel
theorem dX12_topBy_39 : decode cX12_topBy 39 = .ok (.iload_n 2, 1) := by decide +kernel
theorem dX12_topBy_40 : decode cX12_topBy 40 = .ok (.ireturn, 1) := by decide +kernel
theorem dX12_firstBad_0 : decode cX12_firstBad 0 = .ok (.iconst 0, 1) := by decide +kernel
theorem dX12_firstBad_1 : decode cX12_firstBad 1 = .ok (.istore_n 1, 1) := by decide +kernel
theorem dX12_firstBad_2 : decode cX12_firstBad 2 = .ok (.iload_n 1, 1) := by decide +kernel
theorem dX12_firstBad_3 : decode cX12_firstBad 3 = .ok (.aload_n 0, 1) := by decide +kernel
theorem dX12_firstBad_4 : decode cX12_firstBad 4 = .ok (.getfield 138, 3) := by decide +kernel
theorem dX12_firstBad_7 : decode cX12_firstBad 7 = .ok (.if_icmp .ge 28, 3) := by decide +kernel
theorem dX12_firstBad_10 : decode cX12_firstBad 10 = .ok (.aload_n 0, 1) := by decide +kernel
theorem dX12_firstBad_11 : decode cX12_firstBad 11 = .ok (.iload_n 1, 1) := by decide +kernel
theorem dX12_firstBad_12 : decode cX12_firstBad 12 = .ok (.invokevirtual 284, 3) := by decide +kernel
theorem dX12_firstBad_15 : decode cX12_firstBad 15 = .ok (.istore_n 2, 1) := by decide +kernel
theorem dX12_firstBad_16 : decode cX12_firstBad 16 = .ok (.iload_n 2, 1) := by decide +kernel
theorem dX12_firstBad_17 : decode cX12_firstBad 17 = .ok (.iconst (-1), 1) := by decide +kernel
theorem dX12_firstBad_18 : decode cX12_firstBad 18 = .ok (.if_icmp .eq 11, 3) := by decide +kernel
theorem dX12_firstBad_21 : decode cX12_firstBad 21 = .ok (.aload_n 0, 1) := by decide +kernel
theorem dX12_firstBad_22 : decode cX12_firstBad 22 = .ok (.iload_n 1, 1) := by decide +kernel
theorem dX12_firstBad_23 : decode cX12_firstBad 23 = .ok (.iconst 0, 1) := by decide +kernel
theorem dX12_firstBad_24 : decode cX12_firstBad 24 = .ok (.iload_n 2, 1) := by decide +kernel
theorem dX12_firstBad_25 : decode cX12_firstBad 25 = .ok (.invokevirtual 167, 3) := by decide +kernel
theorem dX12_firstBad_28 : decode cX12_firstBad 28 = .ok (.ireturn, 1) := by decide +kernel
theorem dX12_firstBad_29 : decode cX12_firstBad 29 = .ok (.iinc 1 1, 3) := by decide +kernel
theorem dX12_firstBad_32 : decode cX12_firstBad 32 = .ok (.goto (-30), 3) := by decide +kernel
theorem dX12_firstBad_35 : decode cX12_firstBad 35 = .ok (.iconst (-1), 1) := by decide +kernel
theorem dX12_firstBad_36 : decode cX12_firstBad 36 = .ok (.ireturn, 1) := by decide +kernel
theorem dX12_most_0 : decode cX12_most 0 = .ok (.aload_n 0, 1) := by decide +kernel
theorem dX12_most_1 : decode cX12_most 1 = .ok (.getfield 138, 3) := by decide +kernel
theorem dX12_most_4 : decode cX12_most 4 = .ok (.ifCond .eq 13, 3) := by decide +kernel
theorem dX12_most_7 : decode cX12_most 7 = .ok (.iload_n 1, 1) := by decide +kernel
theorem dX12_most_8 : decode cX12_most 8 = .ok (.iconst 0, 1) := by decide +kernel
theorem dX12_most_9 : decode cX12_most 9 = .ok (.bipush 9, 2) := by decide +kernel
theorem dX12_most_11 : decode cX12_most 11 = .ok (.invokestatic 75, 3) := by decide +kernel
theorem dX12_most_14 : decode cX12_most 14 = .ok (.ifCond .ne 7, 3) := by decide +kernel
theorem dX12_most_17 : decode cX12_most 17 = .ok (.ldc_w 382, 3) := by decide +kernel
theorem dX12_most_20 : decode cX12_most 20 = .ok (.ireturn, 1) := by decide +kernel
theorem dX12_most_21 : decode cX12_most 21 = .ok (.iload_n 1, 1) := by decide +kernel
theorem dX12_most_22 : decode cX12_most 22 = .ok (.tableswitch 87 3 9 #[42, 47, 52, 59, 66, 73, 82], 42) := by decide +kernel
theorem dX12_most_64 : decode cX12_most 64 = .ok (.aload_n 0, 1) := by decide +kernel
theorem dX12_most_65 : decode cX12_most 65 = .ok (.invokevirtual 302, 3) := by decide +kernel
theorem dX12_most_68 : decode cX12_most 68 = .ok (.ireturn, 1) := by decide +kernel
theorem dX12_most_69 : decode cX12_most 69 = .ok (.aload_n 0, 1) := by decide +kernel
theorem dX12_most_70 : decode cX12_most 70 = .ok (.invokevirtual 357, 3) := by decide +kernel
theorem dX12_most_73 : decode cX12_most 73 = .ok (.ireturn, 1) := by decide +kernel
theorem dX12_most_74 : decode cX12_most 74 = .ok (.aload_n 0, 1) := by decide +kernel
theorem dX12_most_75 : decode cX12_most 75 = .ok (.bipush 18, 2) := by decide +kernel
theorem dX12_most_77 : decode cX12_most 77 = .ok (.invokevirtual 383, 3) := by decide +kernel
theorem dX12_most_80 : decode cX12_most 80 = .ok (.ireturn, 1) := by decide +kernel
theorem dX12_most_81 : decode cX12_most 81 = .ok (.aload_n 0, 1) := by decide +kernel
theorem dX12_most_82 : decode cX12_most 82 = .ok (.bipush 57, 2) := by decide +kernel
theorem dX12_most_84 : decode cX12_most 84 = .ok (.invokevirtual 383, 3) := by decide +kernel
theorem dX12_most_87 : decode cX12_most 87 = .ok (.ireturn, 1) := by decide +kernel
theorem dX12_most_88 : decode cX12_most 88 = .ok (.aload_n 0, 1) := by decide +kernel
theorem dX12_most_89 : decode cX12_most 89 = .ok (.bipush 58, 2) := by decide +kernel
theorem dX12_most_91 : decode cX12_most 91 = .ok (.invokevirtual 383, 3) := by decide +kernel
theorem dX12_most_94 : decode cX12_most 94 = .ok (.ireturn, 1) := by decide +kernel
theorem dX12_most_95 : decode cX12_most 95 = .ok (.aload_n 0, 1) := by decide +kernel
theorem dX12_most_96 : decode cX12_most 96 = .ok (.getfield 31, 3) := by decide +kernel
theorem dX12_most_99 : decode cX12_most 99 = .ok (.sipush 366, 3) := by decide +kernel
theorem dX12_most_102 : decode cX12_most 102 = .ok (.iaload, 1) := by decide +kernel
theorem dX12_most_103 : decode cX12_most 103 = .ok (.ireturn, 1) := by decide +kernel
theorem dX12_most_104 : decode cX12_most 104 = .ok (.aload_n 0, 1) := by decide +kernel
theorem dX12_most_105 : decode cX12_most 105 = .ok (.invokevirtual 386, 3) := by decide +kernel
theorem dX12_most_108 : decode cX12_most 108 = .ok (.ireturn, 1) := by decide +kernel
theorem dX12_most_109 : decode cX12_most 109 = .ok (.aload_n 0, 1) := by decide +kernel
theorem dX12_most_110 : decode cX12_most 110 = .ok (.iload_n 1, 1) := by decide +kernel
theorem dX12_most_111 : decode cX12_most 111 = .ok (.invokevirtual 389, 3) := by decide +kernel
theorem dX12_most_114 : decode cX12_most 114 = .ok (.ireturn, 1) := by decide +kernel
theorem dX12_image_0 : decode cX12_image 0 = .ok (.aload_n 0, 1) := by decide +kernel
theorem dX12_image_1 : decode cX12_image 1 = .ok (.getfield 138, 3) := by decide +kernel
theorem dX12_image_4 : decode cX12_image 4 = .ok (.ifCond .ne 5, 3) := by decide +kernel
theorem dX12_image_7 : decode cX12_image 7 = .ok (.iconst (-1), 1) := by decide +kernel
theorem dX12_image_8 : decode cX12_image 8 = .ok (.ireturn, 1) := by decide +kernel
theorem dX12_image_9 : decode cX12_image 9 = .ok (.iconst 0, 1) := by decide +kernel
theorem dX12_image_10 : decode cX12_image 10 = .ok (.istore_n 1, 1) := by decide +kernel
theorem dX12_image_11 : decode cX12_image 11 = .ok (.iload_n 1, 1) := by decide +kernel
theorem dX12_image_12 : decode cX12_image 12 = .ok (.sipush 550, 3) := by decide +kernel
theorem dX12_image_15 : decode cX12_image 15 = .ok (.if_icmp .ge 21, 3) := by decide +kernel
theorem dX12_image_18 : decode cX12_image 18 = .ok (.aload_n 0, 1) := by decide +kernel
theorem dX12_image_19 : decode cX12_image 19 = .ok (.getfield 62, 3) := by decide +kernel
theorem dX12_image_22 : decode cX12_image 22 = .ok (.iload_n 1, 1) := by decide +kernel
theorem dX12_image_23 : decode cX12_image 23 = .ok (.aload_n 0, 1) := by decide +kernel
theorem dX12_image_24 : decode cX12_image 24 = .ok (.getfield 31, 3) := by decide +kernel
theorem dX12_image_27 : decode cX12_image 27 = .ok (.iload_n 1, 1) := by decide +kernel
theorem dX12_image_28 : decode cX12_image 28 = .ok (.iaload, 1) := by decide +kernel
theorem dX12_image_29 : decode cX12_image 29 = .ok (.iastore, 1) := by decide +kernel
theorem dX12_image_30 : decode cX12_image 30 = .ok (.iinc 1 1, 3) := by decide +kernel
theorem dX12_image_33 : decode cX12_image 33 = .ok (.goto (-22), 3) := by decide +kernel
theorem dX12_image_36 : decode cX12_image 36 = .ok (.aload_n 0, 1) := by decide +kernel
theorem dX12_image_37 : decode cX12_image 37 = .ok (.iconst 1, 1) := by decide +kernel
theorem dX12_image_38 : decode cX12_image 38 = .ok (.putfield 148, 3) := by decide +kernel
theorem dX12_image_41 : decode cX12_image 41 = .ok (.aload_n 0, 1) := by decide +kernel
theorem dX12_image_42 : decode cX12_image 42 = .ok (.getfield 31, 3) := by decide +kernel
theorem dX12_image_45 : decode cX12_image 45 = .ok (.sipush 368, 3) := by decide +kernel
theorem dX12_image_48 : decode cX12_image 48 = .ok (.iaload, 1) := by decide +kernel
theorem dX12_image_49 : decode cX12_image 49 = .ok (.ireturn, 1) := by decide +kernel
theorem dX12_back_0 : decode cX12_back 0 = .ok (.aload_n 0, 1) := by decide +kernel
theorem dX12_back_1 : decode cX12_back 1 = .ok (.getfield 148, 3) := by decide +kernel
theorem dX12_back_4 : decode cX12_back 4 = .ok (.ifCond .ne 5, 3) := by decide +kernel
theorem dX12_back_7 : decode cX12_back 7 = .ok (.iconst (-1), 1) := by decide +kernel
theorem dX12_back_8 : decode cX12_back 8 = .ok (.ireturn, 1) := by decide +kernel
theorem dX12_back_9 : decode cX12_back 9 = .ok (.iconst 0, 1) := by decide +kernel
theorem dX12_back_10 : decode cX12_back 10 = .ok (.istore_n 1, 1) := by decide +kernel
theorem dX12_back_11 : decode cX12_back 11 = .ok (.iload_n 1, 1) := by decide +kernel
theorem dX12_back_12 : decode cX12_back 12 = .ok (.sipush 550, 3) := by decide +kernel
theorem dX12_back_15 : decode cX12_back 15 = .ok (.if_icmp .ge 21, 3) := by decide +kernel
theorem dX12_back_18 : decode cX12_back 18 = .ok (.aload_n 0, 1) := by decide +kernel
theorem dX12_back_19 : decode cX12_back 19 = .ok (.getfield 31, 3) := by decide +kernel
theorem dX12_back_22 : decode cX12_back 22 = .ok (.iload_n 1, 1) := by decide +kernel
theorem dX12_back_23 : decode cX12_back 23 = .ok (.aload_n 0, 1) := by decide +kernel
theorem dX12_back_24 : decode cX12_back 24 = .ok (.getfield 62, 3) := by decide +kernel
theorem dX12_back_27 : decode cX12_back 27 = .ok (.iload_n 1, 1) := by decide +kernel
theorem dX12_back_28 : decode cX12_back 28 = .ok (.iaload, 1) := by decide +kernel
theorem dX12_back_29 : decode cX12_back 29 = .ok (.iastore, 1) := by decide +kernel
theorem dX12_back_30 : decode cX12_back 30 = .ok (.iinc 1 1, 3) := by decide +kernel
theorem dX12_back_33 : decode cX12_back 33 = .ok (.goto (-22), 3) := by decide +kernel
theorem dX12_back_36 : decode cX12_back 36 = .ok (.aload_n 0, 1) := by decide +kernel
theorem dX12_back_37 : decode cX12_back 37 = .ok (.iconst 0, 1) := by decide +kernel
theorem dX12_back_38 : decode cX12_back 38 = .ok (.putfield 145, 3) := by decide +kernel
theorem dX12_back_41 : decode cX12_back 41 = .ok (.aload_n 0, 1) := by decide +kernel
theorem dX12_back_42 : decode cX12_back 42 = .ok (.getfield 31, 3) := by decide +kernel
theorem dX12_back_45 : decode cX12_back 45 = .ok (.sipush 368, 3) := by decide +kernel
theorem dX12_back_48 : decode cX12_back 48 = .ok (.iaload, 1) := by decide +kernel
theorem dX12_back_49 : decode cX12_back 49 = .ok (.ireturn, 1) := by decide +kernel
theorem dX12_count_0 : decode cX12_count 0 = .ok (.iload_n 1, 1) := by decide +kernel
theorem dX12_count_1 : decode cX12_count 1 = .ok (.tableswitch 86 0 6 #[43, 48, 53, 58, 67, 72, 81], 43) := by decide +kernel
theorem dX12_count_44 : decode cX12_count 44 = .ok (.aload_n 0, 1) := by decide +kernel
theorem dX12_count_45 : decode cX12_count 45 = .ok (.getfield 138, 3) := by decide +kernel
theorem dX12_count_48 : decode cX12_count 48 = .ok (.ireturn, 1) := by decide +kernel
theorem dX12_count_49 : decode cX12_count 49 = .ok (.aload_n 0, 1) := by decide +kernel
theorem dX12_count_50 : decode cX12_count 50 = .ok (.getfield 152, 3) := by decide +kernel
theorem dX12_count_53 : decode cX12_count 53 = .ok (.ireturn, 1) := by decide +kernel
theorem dX12_count_54 : decode cX12_count 54 = .ok (.aload_n 0, 1) := by decide +kernel
theorem dX12_count_55 : decode cX12_count 55 = .ok (.getfield 72, 3) := by decide +kernel
theorem dX12_count_58 : decode cX12_count 58 = .ok (.ireturn, 1) := by decide +kernel
theorem dX12_count_59 : decode cX12_count 59 = .ok (.aload_n 0, 1) := by decide +kernel
theorem dX12_count_60 : decode cX12_count 60 = .ok (.getfield 31, 3) := by decide +kernel
theorem dX12_count_63 : decode cX12_count 63 = .ok (.sipush 368, 3) := by decide +kernel
theorem dX12_count_66 : decode cX12_count 66 = .ok (.iaload, 1) := by decide +kernel
theorem dX12_count_67 : decode cX12_count 67 = .ok (.ireturn, 1) := by decide +kernel
theorem dX12_count_68 : decode cX12_count 68 = .ok (.aload_n 0, 1) := by decide +kernel
theorem dX12_count_69 : decode cX12_count 69 = .ok (.getfield 37, 3) := by decide +kernel
theorem dX12_count_72 : decode cX12_count 72 = .ok (.ireturn, 1) := by decide +kernel
theorem dX12_count_73 : decode cX12_count 73 = .ok (.aload_n 0, 1) := by decide +kernel
theorem dX12_count_74 : decode cX12_count 74 = .ok (.getfield 31, 3) := by decide +kernel
theorem dX12_count_77 : decode cX12_count 77 = .ok (.sipush 369, 3) := by decide +kernel
theorem dX12_count_80 : decode cX12_count 80 = .ok (.iaload, 1) := by decide +kernel
theorem dX12_count_81 : decode cX12_count 81 = .ok (.ireturn, 1) := by decide +kernel
theorem dX12_count_82 : decode cX12_count 82 = .ok (.aload_n 0, 1) := by decide +kernel
theorem dX12_count_83 : decode cX12_count 83 = .ok (.getfield 145, 3) := by decide +kernel
theorem dX12_count_86 : decode cX12_count 86 = .ok (.ireturn, 1) := by decide +kernel
theorem dX12_count_87 : decode cX12_count 87 = .ok (.ldc_w 382, 3) := by decide +kernel
theorem dX12_count_90 : decode cX12_count 90 = .ok (.ireturn, 1) := by decide +kernel
