theorem dX0_init_0 : decode cX0_init 0 = .ok (.aload_n 0, 1) := by decide +kernel
theorem dX0_init_1 : decode cX0_init 1 = .ok (.invokespecial 3, 3) := by decide +kernel
theorem dX0_init_4 : decode cX0_init 4 = .ok (.aload_n 0, 1) := by decide +kernel
theorem dX0_init_5 : decode cX0_init 5 = .ok (.sipush 160, 3) := by decide +kernel
theorem dX0_init_8 : decode cX0_init 8 = .ok (.newarray .int, 2) := by decide +kernel
theorem dX0_init_10 : decode cX0_init 10 = .ok (.putfield 11, 3) := by decide +kernel
theorem dX0_init_13 : decode cX0_init 13 = .ok (.aload_n 0, 1) := by decide +kernel
theorem dX0_init_14 : decode cX0_init 14 = .ok (.bipush 6, 2) := by decide +kernel
theorem dX0_init_16 : decode cX0_init 16 = .ok (.newarray .int, 2) := by decide +kernel
theorem dX0_init_18 : decode cX0_init 18 = .ok (.putfield 15, 3) := by decide +kernel
theorem dX0_init_21 : decode cX0_init 21 = .ok (.aload_n 0, 1) := by decide +kernel
theorem dX0_init_22 : decode cX0_init 22 = .ok (.bipush 6, 2) := by decide +kernel
theorem dX0_init_24 : decode cX0_init 24 = .ok (.newarray .int, 2) := by decide +kernel
theorem dX0_init_26 : decode cX0_init 26 = .ok (.putfield 18, 3) := by decide +kernel
theorem dX0_init_29 : decode cX0_init 29 = .ok (.aload_n 0, 1) := by decide +kernel
theorem dX0_init_30 : decode cX0_init 30 = .ok (.aload_n 1, 1) := by decide +kernel
theorem dX0_init_31 : decode cX0_init 31 = .ok (.putfield 21, 3) := by decide +kernel
theorem dX0_init_34 : decode cX0_init 34 = .ok (.aload_n 0, 1) := by decide +kernel
theorem dX0_init_35 : decode cX0_init 35 = .ok (.aload_n 1, 1) := by decide +kernel
theorem dX0_init_36 : decode cX0_init 36 = .ok (.getfield 25, 3) := by decide +kernel
theorem dX0_init_39 : decode cX0_init 39 = .ok (.putfield 31, 3) := by decide +kernel
theorem dX0_init_42 : decode cX0_init 42 = .ok (.aload_n 0, 1) := by decide +kernel
theorem dX0_init_43 : decode cX0_init 43 = .ok (.aload_n 2, 1) := by decide +kernel
theorem dX0_init_44 : decode cX0_init 44 = .ok (.putfield 32, 3) := by decide +kernel
theorem dX0_init_47 : decode cX0_init 47 = .ok (.return_, 1) := by decide +kernel
theorem dX0_passFrame_0 : decode cX0_passFrame 0 = .ok (.aload_n 0, 1) := by decide +kernel
theorem dX0_passFrame_1 : decode cX0_passFrame 1 = .ok (.getfield 31, 3) := by decide +kernel
theorem dX0_passFrame_4 : decode cX0_passFrame 4 = .ok (.invokevirtual 36, 3) := by decide +kernel
theorem dX0_passFrame_7 : decode cX0_passFrame 7 = .ok (.istore_n 1, 1) := by decide +kernel
theorem dX0_passFrame_8 : decode cX0_passFrame 8 = .ok (.iconst 0, 1) := by decide +kernel
theorem dX0_passFrame_9 : decode cX0_passFrame 9 = .ok (.istore_n 2, 1) := by decide +kernel
theorem dX0_passFrame_10 : decode cX0_passFrame 10 = .ok (.iload_n 2, 1) := by decide +kernel
theorem dX0_passFrame_11 : decode cX0_passFrame 11 = .ok (.iload_n 1, 1) := by decide +kernel
theorem dX0_passFrame_12 : decode cX0_passFrame 12 = .ok (.if_icmp .ge 90, 3) := by decide +kernel
theorem dX0_passFrame_15 : decode cX0_passFrame 15 = .ok (.aload_n 0, 1) := by decide +kernel
theorem dX0_passFrame_16 : decode cX0_passFrame 16 = .ok (.getfield 21, 3) := by decide +kernel
theorem dX0_passFrame_19 : decode cX0_passFrame 19 = .ok (.getfield 42, 3) := by decide +kernel
theorem dX0_passFrame_22 : decode cX0_passFrame 22 = .ok (.iload_n 2, 1) := by decide +kernel
theorem dX0_passFrame_23 : decode cX0_passFrame 23 = .ok (.aaload, 1) := by decide +kernel
theorem dX0_passFrame_24 : decode cX0_passFrame 24 = .ok (.astore_n 3, 1) := by decide +kernel
theorem dX0_passFrame_25 : decode cX0_passFrame 25 = .ok (.aload_n 3, 1) := by decide +kernel
theorem dX0_passFrame_26 : decode cX0_passFrame 26 = .ok (.getfield 46, 3) := by decide +kernel
theorem dX0_passFrame_29 : decode cX0_passFrame 29 = .ok (.invokevirtual 52, 3) := by decide +kernel
theorem dX0_passFrame_32 : decode cX0_passFrame 32 = .ok (.ifCond .eq 14, 3) := by decide +kernel
theorem dX0_passFrame_35 : decode cX0_passFrame 35 = .ok (.aload_n 0, 1) := by decide +kernel
theorem dX0_passFrame_36 : decode cX0_passFrame 36 = .ok (.getfield 32, 3) := by decide +kernel
theorem dX0_passFrame_39 : decode cX0_passFrame 39 = .ok (.aload_n 3, 1) := by decide +kernel
theorem dX0_passFrame_40 : decode cX0_passFrame 40 = .ok (.invokevirtual 58, 3) := by decide +kernel
theorem dX0_passFrame_43 : decode cX0_passFrame 43 = .ok (.goto 4, 3) := by decide +kernel
theorem dX0_passFrame_46 : decode cX0_passFrame 46 = .ok (.iconst (-1), 1) := by decide +kernel
theorem dX0_passFrame_47 : decode cX0_passFrame 47 = .ok (.istore 4, 2) := by decide +kernel
theorem dX0_passFrame_49 : decode cX0_passFrame 49 = .ok (.iload 4, 2) := by decide +kernel
theorem dX0_passFrame_51 : decode cX0_passFrame 51 = .ok (.ifCond .ne 14, 3) := by decide +kernel
theorem dX0_passFrame_54 : decode cX0_passFrame 54 = .ok (.aload_n 0, 1) := by decide +kernel
theorem dX0_passFrame_55 : decode cX0_passFrame 55 = .ok (.getfield 32, 3) := by decide +kernel
theorem dX0_passFrame_58 : decode cX0_passFrame 58 = .ok (.aload_n 3, 1) := by decide +kernel
theorem dX0_passFrame_59 : decode cX0_passFrame 59 = .ok (.invokevirtual 64, 3) := by decide +kernel
theorem dX0_passFrame_62 : decode cX0_passFrame 62 = .ok (.goto 34, 3) := by decide +kernel
theorem dX0_passFrame_65 : decode cX0_passFrame 65 = .ok (.iload 4, 2) := by decide +kernel
theorem dX0_passFrame_67 : decode cX0_passFrame 67 = .ok (.iconst 1, 1) := by decide +kernel
theorem dX0_passFrame_68 : decode cX0_passFrame 68 = .ok (.if_icmp .ne 14, 3) := by decide +kernel
theorem dX0_passFrame_71 : decode cX0_passFrame 71 = .ok (.aload_n 0, 1) := by decide +kernel
theorem dX0_passFrame_72 : decode cX0_passFrame 72 = .ok (.getfield 32, 3) := by decide +kernel
theorem dX0_passFrame_75 : decode cX0_passFrame 75 = .ok (.aload_n 3, 1) := by decide +kernel
theorem dX0_passFrame_76 : decode cX0_passFrame 76 = .ok (.invokevirtual 68, 3) := by decide +kernel
theorem dX0_passFrame_79 : decode cX0_passFrame 79 = .ok (.goto 17, 3) := by decide +kernel
theorem dX0_passFrame_82 : decode cX0_passFrame 82 = .ok (.iload 4, 2) := by decide +kernel
theorem dX0_passFrame_84 : decode cX0_passFrame 84 = .ok (.iconst 2, 1) := by decide +kernel
theorem dX0_passFrame_85 : decode cX0_passFrame 85 = .ok (.if_icmp .ne 11, 3) := by decide +kernel
theorem dX0_passFrame_88 : decode cX0_passFrame 88 = .ok (.aload_n 0, 1) := by decide +kernel
theorem dX0_passFrame_89 : decode cX0_passFrame 89 = .ok (.getfield 32, 3) := by decide +kernel
theorem dX0_passFrame_92 : decode cX0_passFrame 92 = .ok (.aload_n 3, 1) := by decide +kernel
theorem dX0_passFrame_93 : decode cX0_passFrame 93 = .ok (.invokevirtual 71, 3) := by decide +kernel
theorem dX0_passFrame_96 : decode cX0_passFrame 96 = .ok (.iinc 2 1, 3) := by decide +kernel
theorem dX0_passFrame_99 : decode cX0_passFrame 99 = .ok (.goto (-89), 3) := by decide +kernel
theorem dX0_passFrame_102 : decode cX0_passFrame 102 = .ok (.iconst 0, 1) := by decide +kernel
theorem dX0_passFrame_103 : decode cX0_passFrame 103 = .ok (.istore_n 2, 1) := by decide +kernel
theorem dX0_passFrame_104 : decode cX0_passFrame 104 = .ok (.iload_n 2, 1) := by decide +kernel
theorem dX0_passFrame_105 : decode cX0_passFrame 105 = .ok (.iload_n 1, 1) := by decide +kernel
theorem dX0_passFrame_106 : decode cX0_passFrame 106 = .ok (.if_icmp .ge 25, 3) := by decide +kernel
theorem dX0_passFrame_109 : decode cX0_passFrame 109 = .ok (.aload_n 0, 1) := by decide +kernel
theorem dX0_passFrame_110 : decode cX0_passFrame 110 = .ok (.getfield 32, 3) := by decide +kernel
theorem dX0_passFrame_113 : decode cX0_passFrame 113 = .ok (.aload_n 0, 1) := by decide +kernel
theorem dX0_passFrame_114 : decode cX0_passFrame 114 = .ok (.getfield 21, 3) := by decide +kernel
theorem dX0_passFrame_117 : decode cX0_passFrame 117 = .ok (.getfield 42, 3) := by decide +kernel
theorem dX0_passFrame_120 : decode cX0_passFrame 120 = .ok (.iload_n 2, 1) := by decide +kernel
theorem dX0_passFrame_121 : decode cX0_passFrame 121 = .ok (.aaload, 1) := by decide +kernel
theorem dX0_passFrame_122 : decode cX0_passFrame 122 = .ok (.invokevirtual 74, 3) := by decide +kernel
theorem dX0_passFrame_125 : decode cX0_passFrame 125 = .ok (.iinc 2 1, 3) := by decide +kernel
theorem dX0_passFrame_128 : decode cX0_passFrame 128 = .ok (.goto (-24), 3) := by decide +kernel
theorem dX0_passFrame_131 : decode cX0_passFrame 131 = .ok (.aload_n 0, 1) := by decide +kernel
theorem dX0_passFrame_132 : decode cX0_passFrame 132 = .ok (.invokevirtual 77, 3) := by decide +kernel
theorem dX0_passFrame_135 : decode cX0_passFrame 135 = .ok (.aload_n 0, 1) := by decide +kernel
theorem dX0_passFrame_136 : decode cX0_passFrame 136 = .ok (.getfield 31, 3) := by decide +kernel
theorem dX0_passFrame_139 : decode cX0_passFrame 139 = .ok (.aload_n 0, 1) := by decide +kernel
theorem dX0_passFrame_140 : decode cX0_passFrame 140 = .ok (.getfield 21, 3) := by decide +kernel
theorem dX0_passFrame_143 : decode cX0_passFrame 143 = .ok (.invokevirtual 80, 3) := by decide +kernel
theorem dX0_passFrame_146 : decode cX0_passFrame 146 = .ok (.invokevirtual 83, 3) := by decide +kernel
theorem dX0_passFrame_149 : decode cX0_passFrame 149 = .ok (.ifCond .eq 29, 3) := by decide +kernel
theorem dX0_passFrame_152 : decode cX0_passFrame 152 = .ok (.iconst 0, 1) := by decide +kernel
theorem dX0_passFrame_153 : decode cX0_passFrame 153 = .ok (.istore_n 2, 1) := by decide +kernel
theorem dX0_passFrame_154 : decode cX0_passFrame 154 = .ok (.iload_n 2, 1) := by decide +kernel
theorem dX0_passFrame_155 : decode cX0_passFrame 155 = .ok (.iload_n 1, 1) := by decide +kernel
theorem dX0_passFrame_156 : decode cX0_passFrame 156 = .ok (.if_icmp .ge 22, 3) := by decide +kernel
theorem dX0_passFrame_159 : decode cX0_passFrame 159 = .ok (.aload_n 0, 1) := by decide +kernel
theorem dX0_passFrame_160 : decode cX0_passFrame 160 = .ok (.aload_n 0, 1) := by decide +kernel
theorem dX0_passFrame_161 : decode cX0_passFrame 161 = .ok (.getfield 21, 3) := by decide +kernel
theorem dX0_passFrame_164 : decode cX0_passFrame 164 = .ok (.getfield 42, 3) := by decide +kernel
theorem dX0_passFrame_167 : decode cX0_passFrame 167 = .ok (.iload_n 2, 1) := by decide +kernel
theorem dX0_passFrame_168 : decode cX0_passFrame 168 = .ok (.aaload, 1) := by decide +kernel
theorem dX0_passFrame_169 : decode cX0_passFrame 169 = .ok (.invokevirtual 87, 3) := by decide +kernel
theorem dX0_passFrame_172 : decode cX0_passFrame 172 = .ok (.iinc 2 1, 3) := by decide +kernel
theorem dX0_passFrame_175 : decode cX0_passFrame 175 = .ok (.goto (-21), 3) := by decide +kernel
theorem dX0_passFrame_178 : decode cX0_passFrame 178 = .ok (.aload_n 0, 1) := by decide +kernel
theorem dX0_passFrame_179 : decode cX0_passFrame 179 = .ok (.getfield 21, 3) := by decide +kernel
theorem dX0_passFrame_182 : decode cX0_passFrame 182 = .ok (.invokevirtual 90, 3) := by decide +kernel
theorem dX0_passFrame_185 : decode cX0_passFrame 185 = .ok (.return_, 1) := by decide +kernel
theorem dX0_cameOf_0 : decode cX0_cameOf 0 = .ok (.iload_n 1, 1) := by decide +kernel
theorem dX0_cameOf_1 : decode cX0_cameOf 1 = .ok (.ifCond .lt 18, 3) := by decide +kernel
theorem dX0_cameOf_4 : decode cX0_cameOf 4 = .ok (.iload_n 1, 1) := by decide +kernel
theorem dX0_cameOf_5 : decode cX0_cameOf 5 = .ok (.bipush 6, 2) := by decide +kernel
theorem dX0_cameOf_7 : decode cX0_cameOf 7 = .ok (.if_icmp .ge 12, 3) := by decide +kernel
theorem dX0_cameOf_10 : decode cX0_cameOf 10 = .ok (.aload_n 0, 1) := by decide +kernel
theorem dX0_cameOf_11 : decode cX0_cameOf 11 = .ok (.getfield 18, 3) := by decide +kernel
theorem dX0_cameOf_14 : decode cX0_cameOf 14 = .ok (.iload_n 1, 1) := by decide +kernel
theorem dX0_cameOf_15 : decode cX0_cameOf 15 = .ok (.iaload, 1) := by decide +kernel
theorem dX0_cameOf_16 : decode cX0_cameOf 16 = .ok (.goto 4, 3) := by decide +kernel
theorem dX0_cameOf_19 : decode cX0_cameOf 19 = .ok (.iconst 0, 1) := by decide +kernel
theorem dX0_cameOf_20 : decode cX0_cameOf 20 = .ok (.ireturn, 1) := by decide +kernel
theorem dX0_cameInAll_0 : decode cX0_cameInAll 0 = .ok (.iconst 0, 1) := by decide +kernel
theorem dX0_cameInAll_1 : decode cX0_cameInAll 1 = .ok (.istore_n 1, 1) := by decide +kernel
theorem dX0_cameInAll_2 : decode cX0_cameInAll 2 = .ok (.iconst 0, 1) := by decide +kernel
theorem dX0_cameInAll_3 : decode cX0_cameInAll 3 = .ok (.istore_n 2, 1) := by decide +kernel
theorem dX0_cameInAll_4 : decode cX0_cameInAll 4 = .ok (.iload_n 2, 1) := by decide +kernel
theorem dX0_cameInAll_5 : decode cX0_cameInAll 5 = .ok (.aload_n 0, 1) := by decide +kernel
theorem dX0_cameInAll_6 : decode cX0_cameInAll 6 = .ok (.getfield 31, 3) := by decide +kernel
theorem dX0_cameInAll_9 : decode cX0_cameInAll 9 = .ok (.invokevirtual 36, 3) := by decide +kernel
theorem dX0_cameInAll_12 : decode cX0_cameInAll 12 = .ok (.if_icmp .ge 18, 3) := by decide +kernel
theorem dX0_cameInAll_15 : decode cX0_cameInAll 15 = .ok (.iload_n 1, 1) := by decide +kernel
theorem dX0_cameInAll_16 : decode cX0_cameInAll 16 = .ok (.aload_n 0, 1) := by decide +kernel
theorem dX0_cameInAll_17 : decode cX0_cameInAll 17 = .ok (.getfield 18, 3) := by decide +kernel
theorem dX0_cameInAll_20 : decode cX0_cameInAll 20 = .ok (.iload_n 2, 1) := by decide +kernel
theorem dX0_cameInAll_21 : decode cX0_cameInAll 21 = .ok (.iaload, 1) := by decide +kernel
theorem dX0_cameInAll_22 : decode cX0_cameInAll 22 = .ok (.iadd, 1) := by decide +kernel
theorem dX0_cameInAll_23 : decode cX0_cameInAll 23 = .ok (.istore_n 1, 1) := by decide +kernel
theorem dX0_cameInAll_24 : decode cX0_cameInAll 24 = .ok (.iinc 2 1, 3) := by decide +kernel
theorem dX0_cameInAll_27 : decode cX0_cameInAll 27 = .ok (.goto (-23), 3) := by decide +kernel
theorem dX0_cameInAll_30 : decode cX0_cameInAll 30 = .ok (.iload_n 1, 1) := by decide +kernel
theorem dX0_cameInAll_31 : decode cX0_cameInAll 31 = .ok (.ireturn, 1) := by decide +kernel
theorem dX0_sendAll_0 : decode cX0_sendAll 0 = .ok (.aload_n 0, 1) := by decide +kernel
theorem dX0_sendAll_1 : decode cX0_sendAll 1 = .ok (.getfield 31, 3) := by decide +kernel
theorem dX0_sendAll_4 : decode cX0_sendAll 4 = .ok (.invokevirtual 36, 3) := by decide +kernel
theorem dX0_sendAll_7 : decode cX0_sendAll 7 = .ok (.istore_n 1, 1) := by decide +kernel
theorem dX0_sendAll_8 : decode cX0_sendAll 8 = .ok (.iconst 0, 1) := by decide +kernel
theorem dX0_sendAll_9 : decode cX0_sendAll 9 = .ok (.istore_n 2, 1) := by decide +kernel
theorem dX0_sendAll_10 : decode cX0_sendAll 10 = .ok (.iload_n 2, 1) := by decide +kernel
theorem dX0_sendAll_11 : decode cX0_sendAll 11 = .ok (.iload_n 1, 1) := by decide +kernel
theorem dX0_sendAll_12 : decode cX0_sendAll 12 = .ok (.if_icmp .ge 58, 3) := by decide +kernel
theorem dX0_sendAll_15 : decode cX0_sendAll 15 = .ok (.aload_n 0, 1) := by decide +kernel
theorem dX0_sendAll_16 : decode cX0_sendAll 16 = .ok (.getfield 21, 3) := by decide +kernel
theorem dX0_sendAll_19 : decode cX0_sendAll 19 = .ok (.getfield 42, 3) := by decide +kernel
theorem dX0_sendAll_22 : decode cX0_sendAll 22 = .ok (.iload_n 2, 1) := by decide +kernel
theorem dX0_sendAll_23 : decode cX0_sendAll 23 = .ok (.aaload, 1) := by decide +kernel
theorem dX0_sendAll_24 : decode cX0_sendAll 24 = .ok (.astore_n 3, 1) := by decide +kernel
theorem dX0_sendAll_25 : decode cX0_sendAll 25 = .ok (.aload_n 3, 1) := by decide +kernel
theorem dX0_sendAll_26 : decode cX0_sendAll 26 = .ok (.invokevirtual 93, 3) := by decide +kernel
theorem dX0_sendAll_29 : decode cX0_sendAll 29 = .ok (.aload_n 0, 1) := by decide +kernel
theorem dX0_sendAll_30 : decode cX0_sendAll 30 = .ok (.getfield 15, 3) := by decide +kernel
theorem dX0_sendAll_33 : decode cX0_sendAll 33 = .ok (.iload_n 2, 1) := by decide +kernel
theorem dX0_sendAll_34 : decode cX0_sendAll 34 = .ok (.aload_n 3, 1) := by decide +kernel
theorem dX0_sendAll_35 : decode cX0_sendAll 35 = .ok (.invokevirtual 96, 3) := by decide +kernel
theorem dX0_sendAll_38 : decode cX0_sendAll 38 = .ok (.aload_n 3, 1) := by decide +kernel
theorem dX0_sendAll_39 : decode cX0_sendAll 39 = .ok (.getfield 99, 3) := by decide +kernel
theorem dX0_sendAll_42 : decode cX0_sendAll 42 = .ok (.invokevirtual 103, 3) := by decide +kernel
theorem dX0_sendAll_45 : decode cX0_sendAll 45 = .ok (.invokestatic 108, 3) := by decide +kernel
theorem dX0_sendAll_48 : decode cX0_sendAll 48 = .ok (.iastore, 1) := by decide +kernel
theorem dX0_sendAll_49 : decode cX0_sendAll 49 = .ok (.aload_n 0, 1) := by decide +kernel
theorem dX0_sendAll_50 : decode cX0_sendAll 50 = .ok (.aload_n 3, 1) := by decide +kernel
theorem dX0_sendAll_51 : decode cX0_sendAll 51 = .ok (.getfield 99, 3) := by decide +kernel
theorem dX0_sendAll_54 : decode cX0_sendAll 54 = .ok (.aload_n 0, 1) := by decide +kernel
theorem dX0_sendAll_55 : decode cX0_sendAll 55 = .ok (.getfield 15, 3) := by decide +kernel
theorem dX0_sendAll_58 : decode cX0_sendAll 58 = .ok (.iload_n 2, 1) := by decide +kernel
theorem dX0_sendAll_59 : decode cX0_sendAll 59 = .ok (.iaload, 1) := by decide +kernel
theorem dX0_sendAll_60 : decode cX0_sendAll 60 = .ok (.iconst 1, 1) := by decide +kernel
theorem dX0_sendAll_61 : decode cX0_sendAll 61 = .ok (.invokevirtual 114, 3) := by decide +kernel
theorem dX0_sendAll_64 : decode cX0_sendAll 64 = .ok (.iinc 2 1, 3) := by decide +kernel
theorem dX0_sendAll_67 : decode cX0_sendAll 67 = .ok (.goto (-57), 3) := by decide +kernel
theorem dX0_sendAll_70 : decode cX0_sendAll 70 = .ok (.iconst 0, 1) := by decide +kernel
theorem dX0_sendAll_71 : decode cX0_sendAll 71 = .ok (.istore_n 2, 1) := by decide +kernel
theorem dX0_sendAll_72 : decode cX0_sendAll 72 = .ok (.iload_n 2, 1) := by decide +kernel
theorem dX0_sendAll_73 : decode cX0_sendAll 73 = .ok (.iload_n 1, 1) := by decide +kernel
theorem dX0_sendAll_74 : decode cX0_sendAll 74 = .ok (.if_icmp .ge 34, 3) := by decide +kernel
theorem dX0_sendAll_77 : decode cX0_sendAll 77 = .ok (.aload_n 0, 1) := by decide +kernel
theorem dX0_sendAll_78 : decode cX0_sendAll 78 = .ok (.getfield 18, 3) := by decide +kernel
theorem dX0_sendAll_81 : decode cX0_sendAll 81 = .ok (.iload_n 2, 1) := by decide +kernel
theorem dX0_sendAll_82 : decode cX0_sendAll 82 = .ok (.aload_n 0, 1) := by decide +kernel
theorem dX0_sendAll_83 : decode cX0_sendAll 83 = .ok (.aload_n 0, 1) := by decide +kernel
theorem dX0_sendAll_84 : decode cX0_sendAll 84 = .ok (.getfield 21, 3) := by decide +kernel
theorem dX0_sendAll_87 : decode cX0_sendAll 87 = .ok (.getfield 42, 3) := by decide +kernel
theorem dX0_sendAll_90 : decode cX0_sendAll 90 = .ok (.iload_n 2, 1) := by decide +kernel
theorem dX0_sendAll_91 : decode cX0_sendAll 91 = .ok (.aaload, 1) := by decide +kernel
theorem dX0_sendAll_92 : decode cX0_sendAll 92 = .ok (.aload_n 0, 1) := by decide +kernel
theorem dX0_sendAll_93 : decode cX0_sendAll 93 = .ok (.getfield 15, 3) := by decide +kernel
theorem dX0_sendAll_96 : decode cX0_sendAll 96 = .ok (.iload_n 2, 1) := by decide +kernel
theorem dX0_sendAll_97 : decode cX0_sendAll 97 = .ok (.iaload, 1) := by decide +kernel
theorem dX0_sendAll_98 : decode cX0_sendAll 98 = .ok (.invokevirtual 118, 3) := by decide +kernel
theorem dX0_sendAll_101 : decode cX0_sendAll 101 = .ok (.iastore, 1) := by decide +kernel
theorem dX0_sendAll_102 : decode cX0_sendAll 102 = .ok (.iinc 2 1, 3) := by decide +kernel
theorem dX0_sendAll_105 : decode cX0_sendAll 105 = .ok (.goto (-33), 3) := by decide +kernel
theorem dX0_sendAll_108 : decode cX0_sendAll 108 = .ok (.iconst 0, 1) := by decide +kernel
theorem dX0_sendAll_109 : decode cX0_sendAll 109 = .ok (.istore_n 2, 1) := by decide +kernel
theorem dX0_sendAll_110 : decode cX0_sendAll 110 = .ok (.iload_n 2, 1) := by decide +kernel
theorem dX0_sendAll_111 : decode cX0_sendAll 111 = .ok (.iload_n 1, 1) := by decide +kernel
theorem dX0_sendAll_112 : decode cX0_sendAll 112 = .ok (.if_icmp .ge 32, 3) := by decide +kernel
theorem dX0_sendAll_115 : decode cX0_sendAll 115 = .ok (.aload_n 0, 1) := by decide +kernel
theorem dX0_sendAll_116 : decode cX0_sendAll 116 = .ok (.aload_n 0, 1) := by decide +kernel
theorem dX0_sendAll_117 : decode cX0_sendAll 117 = .ok (.getfield 21, 3) := by decide +kernel
theorem dX0_sendAll_120 : decode cX0_sendAll 120 = .ok (.getfield 42, 3) := by decide +kernel
theorem dX0_sendAll_123 : decode cX0_sendAll 123 = .ok (.iload_n 2, 1) := by decide +kernel
theorem dX0_sendAll_124 : decode cX0_sendAll 124 = .ok (.aaload, 1) := by decide +kernel
theorem dX0_sendAll_125 : decode cX0_sendAll 125 = .ok (.getfield 99, 3) := by decide +kernel
theorem dX0_sendAll_128 : decode cX0_sendAll 128 = .ok (.aload_n 0, 1) := by decide +kernel
theorem dX0_sendAll_129 : decode cX0_sendAll 129 = .ok (.getfield 15, 3) := by decide +kernel
theorem dX0_sendAll_132 : decode cX0_sendAll 132 = .ok (.iload_n 2, 1) := by decide +kernel
theorem dX0_sendAll_133 : decode cX0_sendAll 133 = .ok (.iaload, 1) := by decide +kernel
theorem dX0_sendAll_134 : decode cX0_sendAll 134 = .ok (.iconst (-1), 1) := by decide +kernel
theorem dX0_sendAll_135 : decode cX0_sendAll 135 = .ok (.invokevirtual 114, 3) := by decide +kernel
theorem dX0_sendAll_138 : decode cX0_sendAll 138 = .ok (.iinc 2 1, 3) := by decide +kernel
theorem dX0_sendAll_141 : decode cX0_sendAll 141 = .ok (.goto (-31), 3) := by decide +kernel
theorem dX0_sendAll_144 : decode cX0_sendAll 144 = .ok (.return_, 1) := by decide +kernel
theorem dX0_markCells_0 : decode cX0_markCells 0 = .ok (.iconst 0, 1) := by decide +kernel
theorem dX0_markCells_1 : decode cX0_markCells 1 = .ok (.istore 4, 2) := by decide +kernel
theorem dX0_markCells_3 : decode cX0_markCells 3 = .ok (.iload 4, 2) := by decide +kernel
theorem dX0_markCells_5 : decode cX0_markCells 5 = .ok (.iload_n 2, 1) := by decide +kernel
theorem dX0_markCells_6 : decode cX0_markCells 6 = .ok (.if_icmp .ge 41, 3) := by decide +kernel
theorem dX0_markCells_9 : decode cX0_markCells 9 = .ok (.aload_n 1, 1) := by decide +kernel
theorem dX0_markCells_10 : decode cX0_markCells 10 = .ok (.iload 4, 2) := by decide +kernel
theorem dX0_markCells_12 : decode cX0_markCells 12 = .ok (.invokevirtual 122, 3) := by decide +kernel
theorem dX0_markCells_15 : decode cX0_markCells 15 = .ok (.istore 5, 2) := by decide +kernel
theorem dX0_markCells_17 : decode cX0_markCells 17 = .ok (.iload 5, 2) := by decide +kernel
theorem dX0_markCells_19 : decode cX0_markCells 19 = .ok (.ifCond .lt 22, 3) := by decide +kernel
theorem dX0_markCells_22 : decode cX0_markCells 22 = .ok (.iload 5, 2) := by decide +kernel
theorem dX0_markCells_24 : decode cX0_markCells 24 = .ok (.sipush 160, 3) := by decide +kernel
theorem dX0_markCells_27 : decode cX0_markCells 27 = .ok (.if_icmp .ge 14, 3) := by decide +kernel
theorem dX0_markCells_30 : decode cX0_markCells 30 = .ok (.aload_n 0, 1) := by decide +kernel
theorem dX0_markCells_31 : decode cX0_markCells 31 = .ok (.getfield 11, 3) := by decide +kernel
theorem dX0_markCells_34 : decode cX0_markCells 34 = .ok (.iload 5, 2) := by decide +kernel
theorem dX0_markCells_36 : decode cX0_markCells 36 = .ok (.dup2, 1) := by decide +kernel
theorem dX0_markCells_37 : decode cX0_markCells 37 = .ok (.iaload, 1) := by decide +kernel
theorem dX0_markCells_38 : decode cX0_markCells 38 = .ok (.iload_n 3, 1) := by decide +kernel
theorem dX0_markCells_39 : decode cX0_markCells 39 = .ok (.iadd, 1) := by decide +kernel
theorem dX0_markCells_40 : decode cX0_markCells 40 = .ok (.iastore, 1) := by decide +kernel
theorem dX0_markCells_41 : decode cX0_markCells 41 = .ok (.iinc 4 1, 3) := by decide +kernel
theorem dX0_markCells_44 : decode cX0_markCells 44 = .ok (.goto (-41), 3) := by decide +kernel
theorem dX0_markCells_47 : decode cX0_markCells 47 = .ok (.return_, 1) := by decide +kernel
theorem dX0_sendOf_0 : decode cX0_sendOf 0 = .ok (.iconst 0, 1) := by decide +kernel
theorem dX0_sendOf_1 : decode cX0_sendOf 1 = .ok (.istore_n 3, 1) := by decide +kernel
theorem dX0_sendOf_2 : decode cX0_sendOf 2 = .ok (.iconst 0, 1) := by decide +kernel
theorem dX0_sendOf_3 : decode cX0_sendOf 3 = .ok (.istore 4, 2) := by decide +kernel
theorem dX0_sendOf_5 : decode cX0_sendOf 5 = .ok (.iload 4, 2) := by decide +kernel
theorem dX0_sendOf_7 : decode cX0_sendOf 7 = .ok (.iload_n 2, 1) := by decide +kernel
theorem dX0_sendOf_8 : decode cX0_sendOf 8 = .ok (.if_icmp .ge 47, 3) := by decide +kernel
theorem dX0_sendOf_11 : decode cX0_sendOf 11 = .ok (.aload_n 1, 1) := by decide +kernel
theorem dX0_sendOf_12 : decode cX0_sendOf 12 = .ok (.getfield 99, 3) := by decide +kernel
theorem dX0_sendOf_15 : decode cX0_sendOf 15 = .ok (.iload 4, 2) := by decide +kernel
theorem dX0_sendOf_17 : decode cX0_sendOf 17 = .ok (.invokevirtual 126, 3) := by decide +kernel
theorem dX0_sendOf_20 : decode cX0_sendOf 20 = .ok (.aload_n 0, 1) := by decide +kernel
theorem dX0_sendOf_21 : decode cX0_sendOf 21 = .ok (.aload_n 1, 1) := by decide +kernel
theorem dX0_sendOf_22 : decode cX0_sendOf 22 = .ok (.aload_n 1, 1) := by decide +kernel
theorem dX0_sendOf_23 : decode cX0_sendOf 23 = .ok (.getfield 99, 3) := by decide +kernel
theorem dX0_sendOf_26 : decode cX0_sendOf 26 = .ok (.iload 4, 2) := by decide +kernel
theorem dX0_sendOf_28 : decode cX0_sendOf 28 = .ok (.invokevirtual 122, 3) := by decide +kernel
theorem dX0_sendOf_31 : decode cX0_sendOf 31 = .ok (.invokevirtual 130, 3) := by decide +kernel
theorem dX0_sendOf_34 : decode cX0_sendOf 34 = .ok (.ifCond .eq 15, 3) := by decide +kernel
theorem dX0_sendOf_37 : decode cX0_sendOf 37 = .ok (.aload_n 1, 1) := by decide +kernel
theorem dX0_sendOf_38 : decode cX0_sendOf 38 = .ok (.getfield 99, 3) := by decide +kernel
theorem dX0_sendOf_41 : decode cX0_sendOf 41 = .ok (.iload 4, 2) := by decide +kernel
theorem dX0_sendOf_43 : decode cX0_sendOf 43 = .ok (.invokevirtual 134, 3) := by decide +kernel
theorem dX0_sendOf_46 : decode cX0_sendOf 46 = .ok (.iinc 3 1, 3) := by decide +kernel
theorem dX0_sendOf_49 : decode cX0_sendOf 49 = .ok (.iinc 4 1, 3) := by decide +kernel
theorem dX0_sendOf_52 : decode cX0_sendOf 52 = .ok (.goto (-47), 3) := by decide +kernel
theorem dX0_sendOf_55 : decode cX0_sendOf 55 = .ok (.aload_n 1, 1) := by decide +kernel
theorem dX0_sendOf_56 : decode cX0_sendOf 56 = .ok (.iload_n 2, 1) := by decide +kernel
theorem dX0_sendOf_57 : decode cX0_sendOf 57 = .ok (.iload_n 3, 1) := by decide +kernel
theorem dX0_sendOf_58 : decode cX0_sendOf 58 = .ok (.invokevirtual 137, 3) := by decide +kernel
theorem dX0_sendOf_61 : decode cX0_sendOf 61 = .ok (.iload_n 3, 1) := by decide +kernel
theorem dX0_sendOf_62 : decode cX0_sendOf 62 = .ok (.ireturn, 1) := by decide +kernel
theorem dX0_comesOver_0 : decode cX0_comesOver 0 = .ok (.iload_n 2, 1) := by decide +kernel
theorem dX0_comesOver_1 : decode cX0_comesOver 1 = .ok (.ifCond .lt 61, 3) := by decide +kernel
theorem dX0_comesOver_4 : decode cX0_comesOver 4 = .ok (.iload_n 2, 1) := by decide +kernel
theorem dX0_comesOver_5 : decode cX0_comesOver 5 = .ok (.sipush 160, 3) := by decide +kernel
theorem dX0_comesOver_8 : decode cX0_comesOver 8 = .ok (.if_icmp .ge 54, 3) := by decide +kernel
theorem dX0_comesOver_11 : decode cX0_comesOver 11 = .ok (.aload_n 0, 1) := by decide +kernel
theorem dX0_comesOver_12 : decode cX0_comesOver 12 = .ok (.getfield 11, 3) := by decide +kernel
theorem dX0_comesOver_15 : decode cX0_comesOver 15 = .ok (.iload_n 2, 1) := by decide +kernel
theorem dX0_comesOver_16 : decode cX0_comesOver 16 = .ok (.iaload, 1) := by decide +kernel
theorem dX0_comesOver_17 : decode cX0_comesOver 17 = .ok (.iconst 1, 1) := by decide +kernel
theorem dX0_comesOver_18 : decode cX0_comesOver 18 = .ok (.if_icmp .ne 44, 3) := by decide +kernel
theorem dX0_comesOver_21 : decode cX0_comesOver 21 = .ok (.aload_n 1, 1) := by decide +kernel
theorem dX0_comesOver_22 : decode cX0_comesOver 22 = .ok (.getfield 141, 3) := by decide +kernel
theorem dX0_comesOver_25 : decode cX0_comesOver 25 = .ok (.iload_n 2, 1) := by decide +kernel
theorem dX0_comesOver_26 : decode cX0_comesOver 26 = .ok (.invokevirtual 144, 3) := by decide +kernel
theorem dX0_comesOver_29 : decode cX0_comesOver 29 = .ok (.iconst (-1), 1) := by decide +kernel
theorem dX0_comesOver_30 : decode cX0_comesOver 30 = .ok (.if_icmp .eq 32, 3) := by decide +kernel
theorem dX0_comesOver_33 : decode cX0_comesOver 33 = .ok (.aload_n 0, 1) := by decide +kernel
theorem dX0_comesOver_34 : decode cX0_comesOver 34 = .ok (.getfield 21, 3) := by decide +kernel
theorem dX0_comesOver_37 : decode cX0_comesOver 37 = .ok (.aload_n 0, 1) := by decide +kernel
theorem dX0_comesOver_38 : decode cX0_comesOver 38 = .ok (.getfield 31, 3) := by decide +kernel
theorem dX0_comesOver_41 : decode cX0_comesOver 41 = .ok (.aload_n 0, 1) := by decide +kernel
theorem dX0_comesOver_42 : decode cX0_comesOver 42 = .ok (.getfield 21, 3) := by decide +kernel
theorem dX0_comesOver_45 : decode cX0_comesOver 45 = .ok (.invokevirtual 80, 3) := by decide +kernel
theorem dX0_comesOver_48 : decode cX0_comesOver 48 = .ok (.iload_n 2, 1) := by decide +kernel
theorem dX0_comesOver_49 : decode cX0_comesOver 49 = .ok (.invokevirtual 147, 3) := by decide +kernel
theorem dX0_comesOver_52 : decode cX0_comesOver 52 = .ok (.invokevirtual 150, 3) := by decide +kernel
theorem dX0_comesOver_55 : decode cX0_comesOver 55 = .ok (.ifCond .ne 7, 3) := by decide +kernel
theorem dX0_comesOver_58 : decode cX0_comesOver 58 = .ok (.iconst 1, 1) := by decide +kernel
theorem dX0_comesOver_59 : decode cX0_comesOver 59 = .ok (.goto 4, 3) := by decide +kernel
theorem dX0_comesOver_62 : decode cX0_comesOver 62 = .ok (.iconst 0, 1) := by decide +kernel
theorem dX0_comesOver_63 : decode cX0_comesOver 63 = .ok (.ireturn, 1) := by decide +kernel
theorem dX0_followLoad_0 : decode cX0_followLoad 0 = .ok (.aload_n 1, 1) := by decide +kernel
theorem dX0_followLoad_1 : decode cX0_followLoad 1 = .ok (.getfield 99, 3) := by decide +kernel
theorem dX0_followLoad_4 : decode cX0_followLoad 4 = .ok (.invokevirtual 153, 3) := by decide +kernel
theorem dX0_followLoad_7 : decode cX0_followLoad 7 = .ok (.istore_n 2, 1) := by decide +kernel
theorem dX0_followLoad_8 : decode cX0_followLoad 8 = .ok (.aload_n 1, 1) := by decide +kernel
theorem dX0_followLoad_9 : decode cX0_followLoad 9 = .ok (.invokevirtual 156, 3) := by decide +kernel
theorem dX0_followLoad_12 : decode cX0_followLoad 12 = .ok (.ifCond .eq 7, 3) := by decide +kernel
theorem dX0_followLoad_15 : decode cX0_followLoad 15 = .ok (.iconst 0, 1) := by decide +kernel
theorem dX0_followLoad_16 : decode cX0_followLoad 16 = .ok (.goto 24, 3) := by decide +kernel
theorem dX0_followLoad_19 : decode cX0_followLoad 19 = .ok (.aload_n 1, 1) := by decide +kernel
theorem dX0_followLoad_20 : decode cX0_followLoad 20 = .ok (.invokevirtual 159, 3) := by decide +kernel
theorem dX0_followLoad_23 : decode cX0_followLoad 23 = .ok (.ifCond .eq 7, 3) := by decide +kernel
theorem dX0_followLoad_26 : decode cX0_followLoad 26 = .ok (.iconst 1, 1) := by decide +kernel
theorem dX0_followLoad_27 : decode cX0_followLoad 27 = .ok (.goto 13, 3) := by decide +kernel
theorem dX0_followLoad_30 : decode cX0_followLoad 30 = .ok (.iload_n 2, 1) := by decide +kernel
theorem dX0_followLoad_31 : decode cX0_followLoad 31 = .ok (.iconst (-1), 1) := by decide +kernel
theorem dX0_followLoad_32 : decode cX0_followLoad 32 = .ok (.if_icmp .eq 7, 3) := by decide +kernel
theorem dX0_followLoad_35 : decode cX0_followLoad 35 = .ok (.iconst 2, 1) := by decide +kernel
theorem dX0_followLoad_36 : decode cX0_followLoad 36 = .ok (.goto 4, 3) := by decide +kernel
theorem dX0_followLoad_39 : decode cX0_followLoad 39 = .ok (.iconst (-1), 1) := by decide +kernel
theorem dX0_followLoad_40 : decode cX0_followLoad 40 = .ok (.istore_n 3, 1) := by decide +kernel
theorem dX0_followLoad_41 : decode cX0_followLoad 41 = .ok (.aload_n 0, 1) := by decide +kernel
theorem dX0_followLoad_42 : decode cX0_followLoad 42 = .ok (.getfield 21, 3) := by decide +kernel
theorem dX0_followLoad_45 : decode cX0_followLoad 45 = .ok (.invokevirtual 162, 3) := by decide +kernel
theorem dX0_followLoad_48 : decode cX0_followLoad 48 = .ok (.iconst 1, 1) := by decide +kernel
theorem dX0_followLoad_49 : decode cX0_followLoad 49 = .ok (.if_icmp .ne 40, 3) := by decide +kernel
theorem dX0_followLoad_52 : decode cX0_followLoad 52 = .ok (.iload_n 3, 1) := by decide +kernel
theorem dX0_followLoad_53 : decode cX0_followLoad 53 = .ok (.iconst (-1), 1) := by decide +kernel
theorem dX0_followLoad_54 : decode cX0_followLoad 54 = .ok (.if_icmp .eq 35, 3) := by decide +kernel
theorem dX0_followLoad_57 : decode cX0_followLoad 57 = .ok (.aload_n 0, 1) := by decide +kernel
theorem dX0_followLoad_58 : decode cX0_followLoad 58 = .ok (.getfield 32, 3) := by decide +kernel
theorem dX0_followLoad_61 : decode cX0_followLoad 61 = .ok (.aload_n 1, 1) := by decide +kernel
theorem dX0_followLoad_62 : decode cX0_followLoad 62 = .ok (.iload_n 3, 1) := by decide +kernel
theorem dX0_followLoad_63 : decode cX0_followLoad 63 = .ok (.invokevirtual 165, 3) := by decide +kernel
theorem dX0_followLoad_66 : decode cX0_followLoad 66 = .ok (.ifCond .eq 23, 3) := by decide +kernel
theorem dX0_followLoad_69 : decode cX0_followLoad 69 = .ok (.aload_n 0, 1) := by decide +kernel
theorem dX0_followLoad_70 : decode cX0_followLoad 70 = .ok (.getfield 32, 3) := by decide +kernel
theorem dX0_followLoad_73 : decode cX0_followLoad 73 = .ok (.aload_n 1, 1) := by decide +kernel
theorem dX0_followLoad_74 : decode cX0_followLoad 74 = .ok (.iload_n 3, 1) := by decide +kernel
theorem dX0_followLoad_75 : decode cX0_followLoad 75 = .ok (.iload_n 3, 1) := by decide +kernel
theorem dX0_followLoad_76 : decode cX0_followLoad 76 = .ok (.iconst 2, 1) := by decide +kernel
theorem dX0_followLoad_77 : decode cX0_followLoad 77 = .ok (.if_icmp .ne 7, 3) := by decide +kernel
theorem dX0_followLoad_80 : decode cX0_followLoad 80 = .ok (.iload_n 2, 1) := by decide +kernel
theorem dX0_followLoad_81 : decode cX0_followLoad 81 = .ok (.goto 4, 3) := by decide +kernel
theorem dX0_followLoad_84 : decode cX0_followLoad 84 = .ok (.iconst 1, 1) := by decide +kernel
theorem dX0_followLoad_85 : decode cX0_followLoad 85 = .ok (.invokevirtual 168, 3) := by decide +kernel
theorem dX0_followLoad_88 : decode cX0_followLoad 88 = .ok (.pop, 1) := by decide +kernel
theorem dX0_followLoad_89 : decode cX0_followLoad 89 = .ok (.aload_n 1, 1) := by decide +kernel
theorem dX0_followLoad_90 : decode cX0_followLoad 90 = .ok (.invokevirtual 172, 3) := by decide +kernel
theorem dX0_followLoad_93 : decode cX0_followLoad 93 = .ok (.return_, 1) := by decide +kernel
theorem dX1_init_0 : decode cX1_init 0 = .ok (.aload_n 0, 1) := by decide +kernel
theorem dX1_init_1 : decode cX1_init 1 = .ok (.invokespecial 3, 3) := by decide +kernel
theorem dX1_init_4 : decode cX1_init 4 = .ok (.aload_n 0, 1) := by decide +kernel
theorem dX1_init_5 : decode cX1_init 5 = .ok (.bipush 16, 2) := by decide +kernel
theorem dX1_init_7 : decode cX1_init 7 = .ok (.newarray .int, 2) := by decide +kernel
theorem dX1_init_9 : decode cX1_init 9 = .ok (.putfield 9, 3) := by decide +kernel
theorem dX1_init_12 : decode cX1_init 12 = .ok (.aload_n 0, 1) := by decide +kernel
theorem dX1_init_13 : decode cX1_init 13 = .ok (.iconst 4, 1) := by decide +kernel
theorem dX1_init_14 : decode cX1_init 14 = .ok (.newarray .int, 2) := by decide +kernel
theorem dX1_init_16 : decode cX1_init 16 = .ok (.putfield 17, 3) := by decide +kernel
theorem dX1_init_19 : decode cX1_init 19 = .ok (.aload_n 0, 1) := by decide +kernel
theorem dX1_init_20 : decode cX1_init 20 = .ok (.aload_n 1, 1) := by decide +kernel
theorem dX1_init_21 : decode cX1_init 21 = .ok (.putfield 20, 3) := by decide +kernel
theorem dX1_init_24 : decode cX1_init 24 = .ok (.aload_n 0, 1) := by decide +kernel
theorem dX1_init_25 : decode cX1_init 25 = .ok (.aload_n 1, 1) := by decide +kernel
theorem dX1_init_26 : decode cX1_init 26 = .ok (.getfield 24, 3) := by decide +kernel
theorem dX1_init_29 : decode cX1_init 29 = .ok (.putfield 30, 3) := by decide +kernel
theorem dX1_init_32 : decode cX1_init 32 = .ok (.return_, 1) := by decide +kernel
theorem dX1_gatherOffers_0 : decode cX1_gatherOffers 0 = .ok (.aload_n 0, 1) := by decide +kernel
theorem dX1_gatherOffers_1 : decode cX1_gatherOffers 1 = .ok (.getfield 30, 3) := by decide +kernel
theorem dX1_gatherOffers_4 : decode cX1_gatherOffers 4 = .ok (.invokevirtual 31, 3) := by decide +kernel
theorem dX1_gatherOffers_7 : decode cX1_gatherOffers 7 = .ok (.istore 5, 2) := by decide +kernel
theorem dX1_gatherOffers_9 : decode cX1_gatherOffers 9 = .ok (.aload_n 0, 1) := by decide +kernel
theorem dX1_gatherOffers_10 : decode cX1_gatherOffers 10 = .ok (.iconst 0, 1) := by decide +kernel
theorem dX1_gatherOffers_11 : decode cX1_gatherOffers 11 = .ok (.putfield 37, 3) := by decide +kernel
theorem dX1_gatherOffers_14 : decode cX1_gatherOffers 14 = .ok (.iconst 0, 1) := by decide +kernel
theorem dX1_gatherOffers_15 : decode cX1_gatherOffers 15 = .ok (.istore 6, 2) := by decide +kernel
theorem dX1_gatherOffers_17 : decode cX1_gatherOffers 17 = .ok (.iload 6, 2) := by decide +kernel
theorem dX1_gatherOffers_19 : decode cX1_gatherOffers 19 = .ok (.iload 5, 2) := by decide +kernel
theorem dX1_gatherOffers_21 : decode cX1_gatherOffers 21 = .ok (.if_icmp .ge 88, 3) := by decide +kernel
theorem dX1_gatherOffers_24 : decode cX1_gatherOffers 24 = .ok (.iload 6, 2) := by decide +kernel
theorem dX1_gatherOffers_26 : decode cX1_gatherOffers 26 = .ok (.bipush 16, 2) := by decide +kernel
theorem dX1_gatherOffers_28 : decode cX1_gatherOffers 28 = .ok (.if_icmp .ge 81, 3) := by decide +kernel
theorem dX1_gatherOffers_31 : decode cX1_gatherOffers 31 = .ok (.aload_n 0, 1) := by decide +kernel
theorem dX1_gatherOffers_32 : decode cX1_gatherOffers 32 = .ok (.getfield 37, 3) := by decide +kernel
theorem dX1_gatherOffers_35 : decode cX1_gatherOffers 35 = .ok (.iload 4, 2) := by decide +kernel
theorem dX1_gatherOffers_37 : decode cX1_gatherOffers 37 = .ok (.if_icmp .ge 72, 3) := by decide +kernel
theorem dX1_gatherOffers_40 : decode cX1_gatherOffers 40 = .ok (.iload_n 3, 1) := by decide +kernel
theorem dX1_gatherOffers_41 : decode cX1_gatherOffers 41 = .ok (.iload 6, 2) := by decide +kernel
theorem dX1_gatherOffers_43 : decode cX1_gatherOffers 43 = .ok (.iadd, 1) := by decide +kernel
theorem dX1_gatherOffers_44 : decode cX1_gatherOffers 44 = .ok (.iload 5, 2) := by decide +kernel
theorem dX1_gatherOffers_46 : decode cX1_gatherOffers 46 = .ok (.if_icmp .ge 10, 3) := by decide +kernel
theorem dX1_gatherOffers_49 : decode cX1_gatherOffers 49 = .ok (.iload_n 3, 1) := by decide +kernel
theorem dX1_gatherOffers_50 : decode cX1_gatherOffers 50 = .ok (.iload 6, 2) := by decide +kernel
theorem dX1_gatherOffers_52 : decode cX1_gatherOffers 52 = .ok (.iadd, 1) := by decide +kernel
theorem dX1_gatherOffers_53 : decode cX1_gatherOffers 53 = .ok (.goto 10, 3) := by decide +kernel
theorem dX1_gatherOffers_56 : decode cX1_gatherOffers 56 = .ok (.iload_n 3, 1) := by decide +kernel
theorem dX1_gatherOffers_57 : decode cX1_gatherOffers 57 = .ok (.iload 6, 2) := by decide +kernel
theorem dX1_gatherOffers_59 : decode cX1_gatherOffers 59 = .ok (.iadd, 1) := by decide +kernel
theorem dX1_gatherOffers_60 : decode cX1_gatherOffers 60 = .ok (.iload 5, 2) := by decide +kernel
theorem dX1_gatherOffers_62 : decode cX1_gatherOffers 62 = .ok (.isub, 1) := by decide +kernel
theorem dX1_gatherOffers_63 : decode cX1_gatherOffers 63 = .ok (.istore 7, 2) := by decide +kernel
theorem dX1_gatherOffers_65 : decode cX1_gatherOffers 65 = .ok (.iload_n 2, 1) := by decide +kernel
theorem dX1_gatherOffers_66 : decode cX1_gatherOffers 66 = .ok (.iload 7, 2) := by decide +kernel
theorem dX1_gatherOffers_68 : decode cX1_gatherOffers 68 = .ok (.ishr, 1) := by decide +kernel
theorem dX1_gatherOffers_69 : decode cX1_gatherOffers 69 = .ok (.iconst 1, 1) := by decide +kernel
theorem dX1_gatherOffers_70 : decode cX1_gatherOffers 70 = .ok (.iand, 1) := by decide +kernel
theorem dX1_gatherOffers_71 : decode cX1_gatherOffers 71 = .ok (.ifCond .ne 32, 3) := by decide +kernel
theorem dX1_gatherOffers_74 : decode cX1_gatherOffers 74 = .ok (.aload_n 0, 1) := by decide +kernel
theorem dX1_gatherOffers_75 : decode cX1_gatherOffers 75 = .ok (.getfield 9, 3) := by decide +kernel
theorem dX1_gatherOffers_78 : decode cX1_gatherOffers 78 = .ok (.aload_n 0, 1) := by decide +kernel
theorem dX1_gatherOffers_79 : decode cX1_gatherOffers 79 = .ok (.getfield 37, 3) := by decide +kernel
theorem dX1_gatherOffers_82 : decode cX1_gatherOffers 82 = .ok (.aload_n 0, 1) := by decide +kernel
theorem dX1_gatherOffers_83 : decode cX1_gatherOffers 83 = .ok (.getfield 30, 3) := by decide +kernel
theorem dX1_gatherOffers_86 : decode cX1_gatherOffers 86 = .ok (.iload 7, 2) := by decide +kernel
theorem dX1_gatherOffers_88 : decode cX1_gatherOffers 88 = .ok (.iload_n 1, 1) := by decide +kernel
theorem dX1_gatherOffers_89 : decode cX1_gatherOffers 89 = .ok (.invokevirtual 41, 3) := by decide +kernel
theorem dX1_gatherOffers_92 : decode cX1_gatherOffers 92 = .ok (.iastore, 1) := by decide +kernel
theorem dX1_gatherOffers_93 : decode cX1_gatherOffers 93 = .ok (.aload_n 0, 1) := by decide +kernel
theorem dX1_gatherOffers_94 : decode cX1_gatherOffers 94 = .ok (.dup, 1) := by decide +kernel
theorem dX1_gatherOffers_95 : decode cX1_gatherOffers 95 = .ok (.getfield 37, 3) := by decide +kernel
theorem dX1_gatherOffers_98 : decode cX1_gatherOffers 98 = .ok (.iconst 1, 1) := by decide +kernel
theorem dX1_gatherOffers_99 : decode cX1_gatherOffers 99 = .ok (.iadd, 1) := by decide +kernel
theorem dX1_gatherOffers_100 : decode cX1_gatherOffers 100 = .ok (.putfield 37, 3) := by decide +kernel
theorem dX1_gatherOffers_103 : decode cX1_gatherOffers 103 = .ok (.iinc 6 1, 3) := by decide +kernel
theorem dX1_gatherOffers_106 : decode cX1_gatherOffers 106 = .ok (.goto (-89), 3) := by decide +kernel
theorem dX1_gatherOffers_109 : decode cX1_gatherOffers 109 = .ok (.aload_n 0, 1) := by decide +kernel
theorem dX1_gatherOffers_110 : decode cX1_gatherOffers 110 = .ok (.getfield 37, 3) := by decide +kernel
theorem dX1_gatherOffers_113 : decode cX1_gatherOffers 113 = .ok (.ireturn, 1) := by decide +kernel
theorem dX1_offerAt_0 : decode cX1_offerAt 0 = .ok (.iload_n 1, 1) := by decide +kernel
theorem dX1_offerAt_1 : decode cX1_offerAt 1 = .ok (.ifCond .lt 20, 3) := by decide +kernel
theorem dX1_offerAt_4 : decode cX1_offerAt 4 = .ok (.iload_n 1, 1) := by decide +kernel
theorem dX1_offerAt_5 : decode cX1_offerAt 5 = .ok (.aload_n 0, 1) := by decide +kernel
theorem dX1_offerAt_6 : decode cX1_offerAt 6 = .ok (.getfield 37, 3) := by decide +kernel
theorem dX1_offerAt_9 : decode cX1_offerAt 9 = .ok (.if_icmp .ge 12, 3) := by decide +kernel
theorem dX1_offerAt_12 : decode cX1_offerAt 12 = .ok (.aload_n 0, 1) := by decide +kernel
theorem dX1_offerAt_13 : decode cX1_offerAt 13 = .ok (.getfield 9, 3) := by decide +kernel
theorem dX1_offerAt_16 : decode cX1_offerAt 16 = .ok (.iload_n 1, 1) := by decide +kernel
theorem dX1_offerAt_17 : decode cX1_offerAt 17 = .ok (.iaload, 1) := by decide +kernel
theorem dX1_offerAt_18 : decode cX1_offerAt 18 = .ok (.goto 4, 3) := by decide +kernel
theorem dX1_offerAt_21 : decode cX1_offerAt 21 = .ok (.iconst (-1), 1) := by decide +kernel
theorem dX1_offerAt_22 : decode cX1_offerAt 22 = .ok (.ireturn, 1) := by decide +kernel
theorem dX1_canBegin_0 : decode cX1_canBegin 0 = .ok (.aload_n 1, 1) := by decide +kernel
theorem dX1_canBegin_1 : decode cX1_canBegin 1 = .ok (.invokevirtual 45, 3) := by decide +kernel
theorem dX1_canBegin_4 : decode cX1_canBegin 4 = .ok (.ifCond .ne 5, 3) := by decide +kernel
theorem dX1_canBegin_7 : decode cX1_canBegin 7 = .ok (.iconst 0, 1) := by decide +kernel
theorem dX1_canBegin_8 : decode cX1_canBegin 8 = .ok (.ireturn, 1) := by decide +kernel
theorem dX1_canBegin_9 : decode cX1_canBegin 9 = .ok (.aload_n 0, 1) := by decide +kernel
theorem dX1_canBegin_10 : decode cX1_canBegin 10 = .ok (.getfield 20, 3) := by decide +kernel
theorem dX1_canBegin_13 : decode cX1_canBegin 13 = .ok (.aload_n 0, 1) := by decide +kernel
theorem dX1_canBegin_14 : decode cX1_canBegin 14 = .ok (.aload_n 1, 1) := by decide +kernel
theorem dX1_canBegin_15 : decode cX1_canBegin 15 = .ok (.invokevirtual 51, 3) := by decide +kernel
theorem dX1_canBegin_18 : decode cX1_canBegin 18 = .ok (.invokevirtual 55, 3) := by decide +kernel
theorem dX1_canBegin_21 : decode cX1_canBegin 21 = .ok (.iconst 1, 1) := by decide +kernel
theorem dX1_canBegin_22 : decode cX1_canBegin 22 = .ok (.aload_n 0, 1) := by decide +kernel
theorem dX1_canBegin_23 : decode cX1_canBegin 23 = .ok (.getfield 30, 3) := by decide +kernel
theorem dX1_canBegin_26 : decode cX1_canBegin 26 = .ok (.invokevirtual 31, 3) := by decide +kernel
theorem dX1_canBegin_29 : decode cX1_canBegin 29 = .ok (.ishl, 1) := by decide +kernel
theorem dX1_canBegin_30 : decode cX1_canBegin 30 = .ok (.iconst 1, 1) := by decide +kernel
theorem dX1_canBegin_31 : decode cX1_canBegin 31 = .ok (.isub, 1) := by decide +kernel
theorem dX1_canBegin_32 : decode cX1_canBegin 32 = .ok (.if_icmp .eq 7, 3) := by decide +kernel
theorem dX1_canBegin_35 : decode cX1_canBegin 35 = .ok (.iconst 1, 1) := by decide +kernel
theorem dX1_canBegin_36 : decode cX1_canBegin 36 = .ok (.goto 4, 3) := by decide +kernel
theorem dX1_canBegin_39 : decode cX1_canBegin 39 = .ok (.iconst 0, 1) := by decide +kernel
theorem dX1_canBegin_40 : decode cX1_canBegin 40 = .ok (.istore_n 3, 1) := by decide +kernel
theorem dX1_canBegin_41 : decode cX1_canBegin 41 = .ok (.iload_n 2, 1) := by decide +kernel
theorem dX1_canBegin_42 : decode cX1_canBegin 42 = .ok (.tableswitch 62 0 2 #[26, 44, 60], 26) := by decide +kernel
theorem dX1_canBegin_68 : decode cX1_canBegin 68 = .ok (.iload_n 3, 1) := by decide +kernel
theorem dX1_canBegin_69 : decode cX1_canBegin 69 = .ok (.ifCond .ne 11, 3) := by decide +kernel
theorem dX1_canBegin_72 : decode cX1_canBegin 72 = .ok (.aload_n 0, 1) := by decide +kernel
theorem dX1_canBegin_73 : decode cX1_canBegin 73 = .ok (.aload_n 1, 1) := by decide +kernel
theorem dX1_canBegin_74 : decode cX1_canBegin 74 = .ok (.invokevirtual 59, 3) := by decide +kernel
theorem dX1_canBegin_77 : decode cX1_canBegin 77 = .ok (.ifCond .ne 7, 3) := by decide +kernel
theorem dX1_canBegin_80 : decode cX1_canBegin 80 = .ok (.iconst 1, 1) := by decide +kernel
theorem dX1_canBegin_81 : decode cX1_canBegin 81 = .ok (.goto 4, 3) := by decide +kernel
theorem dX1_canBegin_84 : decode cX1_canBegin 84 = .ok (.iconst 0, 1) := by decide +kernel
theorem dX1_canBegin_85 : decode cX1_canBegin 85 = .ok (.ireturn, 1) := by decide +kernel
theorem dX1_canBegin_86 : decode cX1_canBegin 86 = .ok (.aload_n 1, 1) := by decide +kernel
theorem dX1_canBegin_87 : decode cX1_canBegin 87 = .ok (.getfield 63, 3) := by decide +kernel
theorem dX1_canBegin_90 : decode cX1_canBegin 90 = .ok (.invokevirtual 67, 3) := by decide +kernel
theorem dX1_canBegin_93 : decode cX1_canBegin 93 = .ok (.ifCond .le 7, 3) := by decide +kernel
theorem dX1_canBegin_96 : decode cX1_canBegin 96 = .ok (.iconst 1, 1) := by decide +kernel
theorem dX1_canBegin_97 : decode cX1_canBegin 97 = .ok (.goto 4, 3) := by decide +kernel
theorem dX1_canBegin_100 : decode cX1_canBegin 100 = .ok (.iconst 0, 1) := by decide +kernel
theorem dX1_canBegin_101 : decode cX1_canBegin 101 = .ok (.ireturn, 1) := by decide +kernel
theorem dX1_canBegin_102 : decode cX1_canBegin 102 = .ok (.iload_n 3, 1) := by decide +kernel
theorem dX1_canBegin_103 : decode cX1_canBegin 103 = .ok (.ireturn, 1) := by decide +kernel
theorem dX1_canBegin_104 : decode cX1_canBegin 104 = .ok (.iconst 1, 1) := by decide +kernel
theorem dX1_canBegin_105 : decode cX1_canBegin 105 = .ok (.ireturn, 1) := by decide +kernel
theorem dX1_begin_0 : decode cX1_begin 0 = .ok (.iload_n 2, 1) := by decide +kernel
theorem dX1_begin_1 : decode cX1_begin 1 = .ok (.ifCond .eq 8, 3) := by decide +kernel
theorem dX1_begin_4 : decode cX1_begin 4 = .ok (.iload_n 2, 1) := by decide +kernel
theorem dX1_begin_5 : decode cX1_begin 5 = .ok (.iconst 1, 1) := by decide +kernel
theorem dX1_begin_6 : decode cX1_begin 6 = .ok (.if_icmp .ne 7, 3) := by decide +kernel
theorem dX1_begin_9 : decode cX1_begin 9 = .ok (.iload_n 3, 1) := by decide +kernel
theorem dX1_begin_10 : decode cX1_begin 10 = .ok (.goto 4, 3) := by decide +kernel
theorem dX1_begin_13 : decode cX1_begin 13 = .ok (.iconst (-1), 1) := by decide +kernel
theorem dX1_begin_14 : decode cX1_begin 14 = .ok (.istore 4, 2) := by decide +kernel
theorem dX1_begin_16 : decode cX1_begin 16 = .ok (.aload_n 1, 1) := by decide +kernel
theorem dX1_begin_17 : decode cX1_begin 17 = .ok (.getfield 72, 3) := by decide +kernel
theorem dX1_begin_20 : decode cX1_begin 20 = .ok (.iconst 0, 1) := by decide +kernel
theorem dX1_begin_21 : decode cX1_begin 21 = .ok (.iload_n 2, 1) := by decide +kernel
theorem dX1_begin_22 : decode cX1_begin 22 = .ok (.iconst (-1), 1) := by decide +kernel
theorem dX1_begin_23 : decode cX1_begin 23 = .ok (.aload_n 1, 1) := by decide +kernel
theorem dX1_begin_24 : decode cX1_begin 24 = .ok (.getfield 63, 3) := by decide +kernel
theorem dX1_begin_27 : decode cX1_begin 27 = .ok (.invokevirtual 76, 3) := by decide +kernel
theorem dX1_begin_30 : decode cX1_begin 30 = .ok (.iload 4, 2) := by decide +kernel
theorem dX1_begin_32 : decode cX1_begin 32 = .ok (.invokevirtual 79, 3) := by decide +kernel
theorem dX1_begin_35 : decode cX1_begin 35 = .ok (.aload_n 1, 1) := by decide +kernel
theorem dX1_begin_36 : decode cX1_begin 36 = .ok (.getfield 63, 3) := by decide +kernel
theorem dX1_begin_39 : decode cX1_begin 39 = .ok (.aload_n 0, 1) := by decide +kernel
theorem dX1_begin_40 : decode cX1_begin 40 = .ok (.getfield 20, 3) := by decide +kernel
theorem dX1_begin_43 : decode cX1_begin 43 = .ok (.invokevirtual 83, 3) := by decide +kernel
theorem dX1_begin_46 : decode cX1_begin 46 = .ok (.iload_n 2, 1) := by decide +kernel
theorem dX1_begin_47 : decode cX1_begin 47 = .ok (.invokevirtual 86, 3) := by decide +kernel
theorem dX1_begin_50 : decode cX1_begin 50 = .ok (.iload_n 2, 1) := by decide +kernel
theorem dX1_begin_51 : decode cX1_begin 51 = .ok (.ifCond .ne 23, 3) := by decide +kernel
theorem dX1_begin_54 : decode cX1_begin 54 = .ok (.aload_n 0, 1) := by decide +kernel
theorem dX1_begin_55 : decode cX1_begin 55 = .ok (.aload_n 1, 1) := by decide +kernel
theorem dX1_begin_56 : decode cX1_begin 56 = .ok (.invokevirtual 59, 3) := by decide +kernel
theorem dX1_begin_59 : decode cX1_begin 59 = .ok (.ifCond .eq 15, 3) := by decide +kernel
theorem dX1_begin_62 : decode cX1_begin 62 = .ok (.aload_n 0, 1) := by decide +kernel
theorem dX1_begin_63 : decode cX1_begin 63 = .ok (.aload_n 1, 1) := by decide +kernel
theorem dX1_begin_64 : decode cX1_begin 64 = .ok (.iconst 0, 1) := by decide +kernel
theorem dX1_begin_65 : decode cX1_begin 65 = .ok (.iload_n 3, 1) := by decide +kernel
theorem dX1_begin_66 : decode cX1_begin 66 = .ok (.iconst 1, 1) := by decide +kernel
theorem dX1_begin_67 : decode cX1_begin 67 = .ok (.iadd, 1) := by decide +kernel
theorem dX1_begin_68 : decode cX1_begin 68 = .ok (.invokevirtual 90, 3) := by decide +kernel
theorem dX1_begin_71 : decode cX1_begin 71 = .ok (.goto 96, 3) := by decide +kernel
theorem dX1_begin_74 : decode cX1_begin 74 = .ok (.iload_n 2, 1) := by decide +kernel
theorem dX1_begin_75 : decode cX1_begin 75 = .ok (.iconst 1, 1) := by decide +kernel
theorem dX1_begin_76 : decode cX1_begin 76 = .ok (.if_icmp .ne 54, 3) := by decide +kernel
theorem dX1_begin_79 : decode cX1_begin 79 = .ok (.aload_n 1, 1) := by decide +kernel
theorem dX1_begin_80 : decode cX1_begin 80 = .ok (.getfield 63, 3) := by decide +kernel
theorem dX1_begin_83 : decode cX1_begin 83 = .ok (.invokevirtual 67, 3) := by decide +kernel
theorem dX1_begin_86 : decode cX1_begin 86 = .ok (.istore 5, 2) := by decide +kernel
theorem dX1_begin_88 : decode cX1_begin 88 = .ok (.iconst 0, 1) := by decide +kernel
theorem dX1_begin_89 : decode cX1_begin 89 = .ok (.iload 5, 2) := by decide +kernel
theorem dX1_begin_91 : decode cX1_begin 91 = .ok (.iload_n 3, 1) := by decide +kernel
theorem dX1_begin_92 : decode cX1_begin 92 = .ok (.isub, 1) := by decide +kernel
theorem dX1_begin_93 : decode cX1_begin 93 = .ok (.invokestatic 94, 3) := by decide +kernel
theorem dX1_begin_96 : decode cX1_begin 96 = .ok (.istore 6, 2) := by decide +kernel
theorem dX1_begin_98 : decode cX1_begin 98 = .ok (.iload 6, 2) := by decide +kernel
theorem dX1_begin_100 : decode cX1_begin 100 = .ok (.iload 5, 2) := by decide +kernel
theorem dX1_begin_102 : decode cX1_begin 102 = .ok (.if_icmp .ge 25, 3) := by decide +kernel
theorem dX1_begin_105 : decode cX1_begin 105 = .ok (.aload_n 1, 1) := by decide +kernel
theorem dX1_begin_106 : decode cX1_begin 106 = .ok (.getfield 72, 3) := by decide +kernel
theorem dX1_begin_109 : decode cX1_begin 109 = .ok (.aload_n 1, 1) := by decide +kernel
theorem dX1_begin_110 : decode cX1_begin 110 = .ok (.getfield 63, 3) := by decide +kernel
theorem dX1_begin_113 : decode cX1_begin 113 = .ok (.iload 6, 2) := by decide +kernel
theorem dX1_begin_115 : decode cX1_begin 115 = .ok (.invokevirtual 99, 3) := by decide +kernel
theorem dX1_begin_118 : decode cX1_begin 118 = .ok (.invokevirtual 102, 3) := by decide +kernel
theorem dX1_begin_121 : decode cX1_begin 121 = .ok (.iinc 6 1, 3) := by decide +kernel
theorem dX1_begin_124 : decode cX1_begin 124 = .ok (.goto (-26), 3) := by decide +kernel
theorem dX1_begin_127 : decode cX1_begin 127 = .ok (.goto 40, 3) := by decide +kernel
theorem dX1_begin_130 : decode cX1_begin 130 = .ok (.iload_n 2, 1) := by decide +kernel
theorem dX1_begin_131 : decode cX1_begin 131 = .ok (.iconst 2, 1) := by decide +kernel
theorem dX1_begin_132 : decode cX1_begin 132 = .ok (.if_icmp .ne 35, 3) := by decide +kernel
theorem dX1_begin_135 : decode cX1_begin 135 = .ok (.aload_n 1, 1) := by decide +kernel
theorem dX1_begin_136 : decode cX1_begin 136 = .ok (.getfield 63, 3) := by decide +kernel
theorem dX1_begin_139 : decode cX1_begin 139 = .ok (.iload_n 3, 1) := by decide +kernel
theorem dX1_begin_140 : decode cX1_begin 140 = .ok (.invokevirtual 99, 3) := by decide +kernel
theorem dX1_begin_143 : decode cX1_begin 143 = .ok (.istore 5, 2) := by decide +kernel
theorem dX1_begin_145 : decode cX1_begin 145 = .ok (.aload_n 1, 1) := by decide +kernel
theorem dX1_begin_146 : decode cX1_begin 146 = .ok (.getfield 72, 3) := by decide +kernel
theorem dX1_begin_149 : decode cX1_begin 149 = .ok (.iload 5, 2) := by decide +kernel
theorem dX1_begin_151 : decode cX1_begin 151 = .ok (.invokevirtual 102, 3) := by decide +kernel
theorem dX1_begin_154 : decode cX1_begin 154 = .ok (.aload_n 0, 1) := by decide +kernel
theorem dX1_begin_155 : decode cX1_begin 155 = .ok (.aload_n 1, 1) := by decide +kernel
theorem dX1_begin_156 : decode cX1_begin 156 = .ok (.iload 5, 2) := by decide +kernel
theorem dX1_begin_158 : decode cX1_begin 158 = .ok (.bipush 10, 2) := by decide +kernel
theorem dX1_begin_160 : decode cX1_begin 160 = .ok (.idiv, 1) := by decide +kernel
theorem dX1_begin_161 : decode cX1_begin 161 = .ok (.iconst 1, 1) := by decide +kernel
theorem dX1_begin_162 : decode cX1_begin 162 = .ok (.iadd, 1) := by decide +kernel
theorem dX1_begin_163 : decode cX1_begin 163 = .ok (.iconst 2, 1) := by decide +kernel
theorem dX1_begin_164 : decode cX1_begin 164 = .ok (.invokevirtual 90, 3) := by decide +kernel
theorem dX1_begin_167 : decode cX1_begin 167 = .ok (.aload_n 1, 1) := by decide +kernel
theorem dX1_begin_168 : decode cX1_begin 168 = .ok (.getfield 72, 3) := by decide +kernel
theorem dX1_begin_171 : decode cX1_begin 171 = .ok (.invokevirtual 106, 3) := by decide +kernel
theorem dX1_begin_174 : decode cX1_begin 174 = .ok (.ireturn, 1) := by decide +kernel
theorem dX1_open_0 : decode cX1_open 0 = .ok (.aload_n 0, 1) := by decide +kernel
theorem dX1_open_1 : decode cX1_open 1 = .ok (.aload_n 1, 1) := by decide +kernel
theorem dX1_open_2 : decode cX1_open 2 = .ok (.getfield 72, 3) := by decide +kernel
theorem dX1_open_5 : decode cX1_open 5 = .ok (.invokevirtual 106, 3) := by decide +kernel
theorem dX1_open_8 : decode cX1_open 8 = .ok (.iconst 4, 1) := by decide +kernel
theorem dX1_open_9 : decode cX1_open 9 = .ok (.invokestatic 109, 3) := by decide +kernel
theorem dX1_open_12 : decode cX1_open 12 = .ok (.putfield 112, 3) := by decide +kernel
theorem dX1_open_15 : decode cX1_open 15 = .ok (.iconst 0, 1) := by decide +kernel
theorem dX1_open_16 : decode cX1_open 16 = .ok (.istore_n 2, 1) := by decide +kernel
theorem dX1_open_17 : decode cX1_open 17 = .ok (.iload_n 2, 1) := by decide +kernel
theorem dX1_open_18 : decode cX1_open 18 = .ok (.aload_n 0, 1) := by decide +kernel
theorem dX1_open_19 : decode cX1_open 19 = .ok (.getfield 112, 3) := by decide +kernel
theorem dX1_open_22 : decode cX1_open 22 = .ok (.if_icmp .ge 23, 3) := by decide +kernel
theorem dX1_open_25 : decode cX1_open 25 = .ok (.aload_n 0, 1) := by decide +kernel
theorem dX1_open_26 : decode cX1_open 26 = .ok (.getfield 17, 3) := by decide +kernel
theorem dX1_open_29 : decode cX1_open 29 = .ok (.iload_n 2, 1) := by decide +kernel
theorem dX1_open_30 : decode cX1_open 30 = .ok (.aload_n 1, 1) := by decide +kernel
theorem dX1_open_31 : decode cX1_open 31 = .ok (.getfield 72, 3) := by decide +kernel
theorem dX1_open_34 : decode cX1_open 34 = .ok (.iload_n 2, 1) := by decide +kernel
theorem dX1_open_35 : decode cX1_open 35 = .ok (.invokevirtual 115, 3) := by decide +kernel
theorem dX1_open_38 : decode cX1_open 38 = .ok (.iastore, 1) := by decide +kernel
theorem dX1_open_39 : decode cX1_open 39 = .ok (.iinc 2 1, 3) := by decide +kernel
theorem dX1_open_42 : decode cX1_open 42 = .ok (.goto (-25), 3) := by decide +kernel
theorem dX1_open_45 : decode cX1_open 45 = .ok (.aload_n 1, 1) := by decide +kernel
theorem dX1_open_46 : decode cX1_open 46 = .ok (.getfield 72, 3) := by decide +kernel
theorem dX1_open_49 : decode cX1_open 49 = .ok (.invokevirtual 116, 3) := by decide +kernel
theorem dX1_open_52 : decode cX1_open 52 = .ok (.aload_n 1, 1) := by decide +kernel
theorem dX1_open_53 : decode cX1_open 53 = .ok (.getfield 72, 3) := by decide +kernel
theorem dX1_open_56 : decode cX1_open 56 = .ok (.invokevirtual 119, 3) := by decide +kernel
theorem dX1_open_59 : decode cX1_open 59 = .ok (.ireturn, 1) := by decide +kernel
theorem dX1_readRequest_0 : decode cX1_readRequest 0 = .ok (.aload_n 1, 1) := by decide +kernel
theorem dX1_readRequest_1 : decode cX1_readRequest 1 = .ok (.getfield 122, 3) := by decide +kernel
theorem dX1_readRequest_4 : decode cX1_readRequest 4 = .ok (.invokevirtual 125, 3) := by decide +kernel
theorem dX1_readRequest_7 : decode cX1_readRequest 7 = .ok (.aload_n 1, 1) := by decide +kernel
theorem dX1_readRequest_8 : decode cX1_readRequest 8 = .ok (.getfield 72, 3) := by decide +kernel
theorem dX1_readRequest_11 : decode cX1_readRequest 11 = .ok (.invokevirtual 128, 3) := by decide +kernel
theorem dX1_readRequest_14 : decode cX1_readRequest 14 = .ok (.istore_n 2, 1) := by decide +kernel
theorem dX1_readRequest_15 : decode cX1_readRequest 15 = .ok (.iload_n 2, 1) := by decide +kernel
theorem dX1_readRequest_16 : decode cX1_readRequest 16 = .ok (.iconst 3, 1) := by decide +kernel
theorem dX1_readRequest_17 : decode cX1_readRequest 17 = .ok (.if_icmp .ne 19, 3) := by decide +kernel
theorem dX1_readRequest_20 : decode cX1_readRequest 20 = .ok (.aload_n 1, 1) := by decide +kernel
theorem dX1_readRequest_21 : decode cX1_readRequest 21 = .ok (.getfield 122, 3) := by decide +kernel
theorem dX1_readRequest_24 : decode cX1_readRequest 24 = .ok (.invokevirtual 131, 3) := by decide +kernel
theorem dX1_readRequest_27 : decode cX1_readRequest 27 = .ok (.aload_n 0, 1) := by decide +kernel
theorem dX1_readRequest_28 : decode cX1_readRequest 28 = .ok (.aload_n 1, 1) := by decide +kernel
theorem dX1_readRequest_29 : decode cX1_readRequest 29 = .ok (.iconst 0, 1) := by decide +kernel
theorem dX1_readRequest_30 : decode cX1_readRequest 30 = .ok (.invokevirtual 134, 3) := by decide +kernel
theorem dX1_readRequest_33 : decode cX1_readRequest 33 = .ok (.goto 79, 3) := by decide +kernel
theorem dX1_readRequest_36 : decode cX1_readRequest 36 = .ok (.aload_n 1, 1) := by decide +kernel
theorem dX1_readRequest_37 : decode cX1_readRequest 37 = .ok (.getfield 122, 3) := by decide +kernel
theorem dX1_readRequest_40 : decode cX1_readRequest 40 = .ok (.invokevirtual 76, 3) := by decide +kernel
theorem dX1_readRequest_43 : decode cX1_readRequest 43 = .ok (.aload_n 1, 1) := by decide +kernel
theorem dX1_readRequest_44 : decode cX1_readRequest 44 = .ok (.getfield 72, 3) := by decide +kernel
theorem dX1_readRequest_47 : decode cX1_readRequest 47 = .ok (.invokevirtual 138, 3) := by decide +kernel
theorem dX1_readRequest_50 : decode cX1_readRequest 50 = .ok (.if_icmp .eq 12, 3) := by decide +kernel
theorem dX1_readRequest_53 : decode cX1_readRequest 53 = .ok (.aload_n 0, 1) := by decide +kernel
theorem dX1_readRequest_54 : decode cX1_readRequest 54 = .ok (.aload_n 1, 1) := by decide +kernel
theorem dX1_readRequest_55 : decode cX1_readRequest 55 = .ok (.iconst 2, 1) := by decide +kernel
theorem dX1_readRequest_56 : decode cX1_readRequest 56 = .ok (.invokevirtual 134, 3) := by decide +kernel
theorem dX1_readRequest_59 : decode cX1_readRequest 59 = .ok (.goto 53, 3) := by decide +kernel
theorem dX1_readRequest_62 : decode cX1_readRequest 62 = .ok (.iload_n 2, 1) := by decide +kernel
theorem dX1_readRequest_63 : decode cX1_readRequest 63 = .ok (.ifCond .ne 19, 3) := by decide +kernel
theorem dX1_readRequest_66 : decode cX1_readRequest 66 = .ok (.aload_n 0, 1) := by decide +kernel
theorem dX1_readRequest_67 : decode cX1_readRequest 67 = .ok (.aload_n 1, 1) := by decide +kernel
theorem dX1_readRequest_68 : decode cX1_readRequest 68 = .ok (.invokevirtual 59, 3) := by decide +kernel
theorem dX1_readRequest_71 : decode cX1_readRequest 71 = .ok (.ifCond .eq 11, 3) := by decide +kernel
theorem dX1_readRequest_74 : decode cX1_readRequest 74 = .ok (.aload_n 0, 1) := by decide +kernel
theorem dX1_readRequest_75 : decode cX1_readRequest 75 = .ok (.aload_n 1, 1) := by decide +kernel
theorem dX1_readRequest_76 : decode cX1_readRequest 76 = .ok (.invokevirtual 139, 3) := by decide +kernel
theorem dX1_readRequest_79 : decode cX1_readRequest 79 = .ok (.goto 33, 3) := by decide +kernel
theorem dX1_readRequest_82 : decode cX1_readRequest 82 = .ok (.iload_n 2, 1) := by decide +kernel
theorem dX1_readRequest_83 : decode cX1_readRequest 83 = .ok (.ifCond .ne 11, 3) := by decide +kernel
theorem dX1_readRequest_86 : decode cX1_readRequest 86 = .ok (.aload_n 0, 1) := by decide +kernel
theorem dX1_readRequest_87 : decode cX1_readRequest 87 = .ok (.aload_n 1, 1) := by decide +kernel
theorem dX1_readRequest_88 : decode cX1_readRequest 88 = .ok (.invokevirtual 143, 3) := by decide +kernel
theorem dX1_readRequest_91 : decode cX1_readRequest 91 = .ok (.goto 21, 3) := by decide +kernel
theorem dX1_readRequest_94 : decode cX1_readRequest 94 = .ok (.iload_n 2, 1) := by decide +kernel
theorem dX1_readRequest_95 : decode cX1_readRequest 95 = .ok (.iconst 1, 1) := by decide +kernel
theorem dX1_readRequest_96 : decode cX1_readRequest 96 = .ok (.if_icmp .ne 11, 3) := by decide +kernel
theorem dX1_readRequest_99 : decode cX1_readRequest 99 = .ok (.aload_n 0, 1) := by decide +kernel
theorem dX1_readRequest_100 : decode cX1_readRequest 100 = .ok (.aload_n 1, 1) := by decide +kernel
theorem dX1_readRequest_101 : decode cX1_readRequest 101 = .ok (.invokevirtual 146, 3) := by decide +kernel
theorem dX1_readRequest_104 : decode cX1_readRequest 104 = .ok (.goto 8, 3) := by decide +kernel
theorem dX1_readRequest_107 : decode cX1_readRequest 107 = .ok (.aload_n 0, 1) := by decide +kernel
theorem dX1_readRequest_108 : decode cX1_readRequest 108 = .ok (.aload_n 1, 1) := by decide +kernel
theorem dX1_readRequest_109 : decode cX1_readRequest 109 = .ok (.invokevirtual 149, 3) := by decide +kernel
theorem dX1_readRequest_112 : decode cX1_readRequest 112 = .ok (.return_, 1) := by decide +kernel
theorem dX1_readAnswer_0 : decode cX1_readAnswer 0 = .ok (.aload_n 1, 1) := by decide +kernel
theorem dX1_readAnswer_1 : decode cX1_readAnswer 1 = .ok (.getfield 63, 3) := by decide +kernel
theorem dX1_readAnswer_4 : decode cX1_readAnswer 4 = .ok (.astore_n 2, 1) := by decide +kernel
theorem dX1_readAnswer_5 : decode cX1_readAnswer 5 = .ok (.aload_n 1, 1) := by decide +kernel
theorem dX1_readAnswer_6 : decode cX1_readAnswer 6 = .ok (.getfield 72, 3) := by decide +kernel
theorem dX1_readAnswer_9 : decode cX1_readAnswer 9 = .ok (.invokevirtual 152, 3) := by decide +kernel
theorem dX1_readAnswer_12 : decode cX1_readAnswer 12 = .ok (.istore_n 3, 1) := by decide +kernel
theorem dX1_readAnswer_13 : decode cX1_readAnswer 13 = .ok (.aload_n 2, 1) := by decide +kernel
theorem dX1_readAnswer_14 : decode cX1_readAnswer 14 = .ok (.invokevirtual 125, 3) := by decide +kernel
theorem dX1_readAnswer_17 : decode cX1_readAnswer 17 = .ok (.iload_n 3, 1) := by decide +kernel
theorem dX1_readAnswer_18 : decode cX1_readAnswer 18 = .ok (.iconst 2, 1) := by decide +kernel
theorem dX1_readAnswer_19 : decode cX1_readAnswer 19 = .ok (.if_icmp .ne 11, 3) := by decide +kernel
theorem dX1_readAnswer_22 : decode cX1_readAnswer 22 = .ok (.aload_n 0, 1) := by decide +kernel
theorem dX1_readAnswer_23 : decode cX1_readAnswer 23 = .ok (.aload_n 1, 1) := by decide +kernel
theorem dX1_readAnswer_24 : decode cX1_readAnswer 24 = .ok (.iconst 3, 1) := by decide +kernel
theorem dX1_readAnswer_25 : decode cX1_readAnswer 25 = .ok (.iconst 0, 1) := by decide +kernel
theorem dX1_readAnswer_26 : decode cX1_readAnswer 26 = .ok (.invokevirtual 155, 3) := by decide +kernel
theorem dX1_readAnswer_29 : decode cX1_readAnswer 29 = .ok (.pop, 1) := by decide +kernel
theorem dX1_readAnswer_30 : decode cX1_readAnswer 30 = .ok (.iload_n 3, 1) := by decide +kernel
theorem dX1_readAnswer_31 : decode cX1_readAnswer 31 = .ok (.ifCond .eq 4, 3) := by decide +kernel
theorem dX1_readAnswer_34 : decode cX1_readAnswer 34 = .ok (.return_, 1) := by decide +kernel
theorem dX1_readAnswer_35 : decode cX1_readAnswer 35 = .ok (.aload_n 1, 1) := by decide +kernel
theorem dX1_readAnswer_36 : decode cX1_readAnswer 36 = .ok (.getfield 72, 3) := by decide +kernel
theorem dX1_readAnswer_39 : decode cX1_readAnswer 39 = .ok (.invokevirtual 128, 3) := by decide +kernel
theorem dX1_readAnswer_42 : decode cX1_readAnswer 42 = .ok (.tableswitch 115 0 2 #[26, 48, 81], 26) := by decide +kernel
theorem dX1_readAnswer_68 : decode cX1_readAnswer 68 = .ok (.aload_n 0, 1) := by decide +kernel
theorem dX1_readAnswer_69 : decode cX1_readAnswer 69 = .ok (.aload_n 1, 1) := by decide +kernel
theorem dX1_readAnswer_70 : decode cX1_readAnswer 70 = .ok (.invokevirtual 59, 3) := by decide +kernel
theorem dX1_readAnswer_73 : decode cX1_readAnswer 73 = .ok (.ifCond .ne 9, 3) := by decide +kernel
theorem dX1_readAnswer_76 : decode cX1_readAnswer 76 = .ok (.aload_n 0, 1) := by decide +kernel
theorem dX1_readAnswer_77 : decode cX1_readAnswer 77 = .ok (.aload_n 1, 1) := by decide +kernel
theorem dX1_readAnswer_78 : decode cX1_readAnswer 78 = .ok (.invokevirtual 159, 3) := by decide +kernel
theorem dX1_readAnswer_81 : decode cX1_readAnswer 81 = .ok (.return_, 1) := by decide +kernel
theorem dX1_readAnswer_82 : decode cX1_readAnswer 82 = .ok (.aload_n 0, 1) := by decide +kernel
theorem dX1_readAnswer_83 : decode cX1_readAnswer 83 = .ok (.aload_n 2, 1) := by decide +kernel
theorem dX1_readAnswer_84 : decode cX1_readAnswer 84 = .ok (.invokevirtual 162, 3) := by decide +kernel
theorem dX1_readAnswer_87 : decode cX1_readAnswer 87 = .ok (.goto 75, 3) := by decide +kernel
theorem dX1_readAnswer_90 : decode cX1_readAnswer 90 = .ok (.iconst 0, 1) := by decide +kernel
theorem dX1_readAnswer_91 : decode cX1_readAnswer 91 = .ok (.istore 4, 2) := by decide +kernel
theorem dX1_readAnswer_93 : decode cX1_readAnswer 93 = .ok (.iload 4, 2) := by decide +kernel
theorem dX1_readAnswer_95 : decode cX1_readAnswer 95 = .ok (.aload_n 0, 1) := by decide +kernel
theorem dX1_readAnswer_96 : decode cX1_readAnswer 96 = .ok (.getfield 112, 3) := by decide +kernel
theorem dX1_readAnswer_99 : decode cX1_readAnswer 99 = .ok (.if_icmp .ge 21, 3) := by decide +kernel
theorem dX1_readAnswer_102 : decode cX1_readAnswer 102 = .ok (.aload_n 2, 1) := by decide +kernel
theorem dX1_readAnswer_103 : decode cX1_readAnswer 103 = .ok (.aload_n 0, 1) := by decide +kernel
theorem dX1_readAnswer_104 : decode cX1_readAnswer 104 = .ok (.getfield 17, 3) := by decide +kernel
theorem dX1_readAnswer_107 : decode cX1_readAnswer 107 = .ok (.iload 4, 2) := by decide +kernel
theorem dX1_readAnswer_109 : decode cX1_readAnswer 109 = .ok (.iaload, 1) := by decide +kernel
theorem dX1_readAnswer_110 : decode cX1_readAnswer 110 = .ok (.invokevirtual 166, 3) := by decide +kernel
theorem dX1_readAnswer_113 : decode cX1_readAnswer 113 = .ok (.pop, 1) := by decide +kernel
theorem dX1_readAnswer_114 : decode cX1_readAnswer 114 = .ok (.iinc 4 1, 3) := by decide +kernel
theorem dX1_readAnswer_117 : decode cX1_readAnswer 117 = .ok (.goto (-24), 3) := by decide +kernel
theorem dX1_readAnswer_120 : decode cX1_readAnswer 120 = .ok (.goto 42, 3) := by decide +kernel
theorem dX1_readAnswer_123 : decode cX1_readAnswer 123 = .ok (.aload_n 0, 1) := by decide +kernel
theorem dX1_readAnswer_124 : decode cX1_readAnswer 124 = .ok (.getfield 112, 3) := by decide +kernel
theorem dX1_readAnswer_127 : decode cX1_readAnswer 127 = .ok (.iconst 1, 1) := by decide +kernel
theorem dX1_readAnswer_128 : decode cX1_readAnswer 128 = .ok (.if_icmp .le 34, 3) := by decide +kernel
theorem dX1_readAnswer_131 : decode cX1_readAnswer 131 = .ok (.aload_n 2, 1) := by decide +kernel
theorem dX1_readAnswer_132 : decode cX1_readAnswer 132 = .ok (.aload_n 0, 1) := by decide +kernel
theorem dX1_readAnswer_133 : decode cX1_readAnswer 133 = .ok (.getfield 17, 3) := by decide +kernel
theorem dX1_readAnswer_136 : decode cX1_readAnswer 136 = .ok (.iconst 0, 1) := by decide +kernel
theorem dX1_readAnswer_137 : decode cX1_readAnswer 137 = .ok (.iaload, 1) := by decide +kernel
theorem dX1_readAnswer_138 : decode cX1_readAnswer 138 = .ok (.invokevirtual 166, 3) := by decide +kernel
theorem dX1_readAnswer_141 : decode cX1_readAnswer 141 = .ok (.ifCond .eq 21, 3) := by decide +kernel
theorem dX1_readAnswer_144 : decode cX1_readAnswer 144 = .ok (.aload_n 2, 1) := by decide +kernel
theorem dX1_readAnswer_145 : decode cX1_readAnswer 145 = .ok (.aload_n 0, 1) := by decide +kernel
theorem dX1_readAnswer_146 : decode cX1_readAnswer 146 = .ok (.getfield 17, 3) := by decide +kernel
theorem dX1_readAnswer_149 : decode cX1_readAnswer 149 = .ok (.iconst 1, 1) := by decide +kernel
theorem dX1_readAnswer_150 : decode cX1_readAnswer 150 = .ok (.iaload, 1) := by decide +kernel
theorem dX1_readAnswer_151 : decode cX1_readAnswer 151 = .ok (.invokevirtual 170, 3) := by decide +kernel
theorem dX1_readAnswer_154 : decode cX1_readAnswer 154 = .ok (.goto 8, 3) := by decide +kernel
theorem dX1_readAnswer_157 : decode cX1_readAnswer 157 = .ok (.aload_n 2, 1) := by decide +kernel
theorem dX1_readAnswer_158 : decode cX1_readAnswer 158 = .ok (.invokevirtual 131, 3) := by decide +kernel
theorem dX1_readAnswer_161 : decode cX1_readAnswer 161 = .ok (.return_, 1) := by decide +kernel
theorem dX1_readAnswer_162 : decode cX1_readAnswer 162 = .ok (.aload_n 2, 1) := by decide +kernel
theorem dX1_readAnswer_163 : decode cX1_readAnswer 163 = .ok (.invokevirtual 173, 3) := by decide +kernel
theorem dX1_readAnswer_166 : decode cX1_readAnswer 166 = .ok (.return_, 1) := by decide +kernel
theorem dX1_readConfirm_0 : decode cX1_readConfirm 0 = .ok (.aload_n 1, 1) := by decide +kernel
theorem dX1_readConfirm_1 : decode cX1_readConfirm 1 = .ok (.getfield 122, 3) := by decide +kernel
theorem dX1_readConfirm_4 : decode cX1_readConfirm 4 = .ok (.astore_n 2, 1) := by decide +kernel
theorem dX1_readConfirm_5 : decode cX1_readConfirm 5 = .ok (.aload_n 2, 1) := by decide +kernel
theorem dX1_readConfirm_6 : decode cX1_readConfirm 6 = .ok (.invokevirtual 176, 3) := by decide +kernel
theorem dX1_readConfirm_9 : decode cX1_readConfirm 9 = .ok (.ifCond .ne 4, 3) := by decide +kernel
theorem dX1_readConfirm_12 : decode cX1_readConfirm 12 = .ok (.return_, 1) := by decide +kernel
theorem dX1_readConfirm_13 : decode cX1_readConfirm 13 = .ok (.aload_n 0, 1) := by decide +kernel
theorem dX1_readConfirm_14 : decode cX1_readConfirm 14 = .ok (.aload_n 2, 1) := by decide +kernel
theorem dX1_readConfirm_15 : decode cX1_readConfirm 15 = .ok (.invokevirtual 162, 3) := by decide +kernel
theorem dX1_readConfirm_18 : decode cX1_readConfirm 18 = .ok (.aload_n 0, 1) := by decide +kernel
theorem dX1_readConfirm_19 : decode cX1_readConfirm 19 = .ok (.getfield 112, 3) := by decide +kernel
theorem dX1_readConfirm_22 : decode cX1_readConfirm 22 = .ok (.ifCond .le 7, 3) := by decide +kernel
theorem dX1_readConfirm_25 : decode cX1_readConfirm 25 = .ok (.aload_n 2, 1) := by decide +kernel
theorem dX1_readConfirm_26 : decode cX1_readConfirm 26 = .ok (.invokevirtual 173, 3) := by decide +kernel
theorem dX1_readConfirm_29 : decode cX1_readConfirm 29 = .ok (.aload_n 2, 1) := by decide +kernel
theorem dX1_readConfirm_30 : decode cX1_readConfirm 30 = .ok (.invokevirtual 125, 3) := by decide +kernel
theorem dX1_readConfirm_33 : decode cX1_readConfirm 33 = .ok (.return_, 1) := by decide +kernel
theorem dX1_runOut_0 : decode cX1_runOut 0 = .ok (.aload_n 1, 1) := by decide +kernel
theorem dX1_runOut_1 : decode cX1_runOut 1 = .ok (.getfield 72, 3) := by decide +kernel
theorem dX1_runOut_4 : decode cX1_runOut 4 = .ok (.invokevirtual 179, 3) := by decide +kernel
theorem dX1_runOut_7 : decode cX1_runOut 7 = .ok (.ifCond .eq 4, 3) := by decide +kernel
theorem dX1_runOut_10 : decode cX1_runOut 10 = .ok (.return_, 1) := by decide +kernel
theorem dX1_runOut_11 : decode cX1_runOut 11 = .ok (.aload_n 1, 1) := by decide +kernel
theorem dX1_runOut_12 : decode cX1_runOut 12 = .ok (.getfield 63, 3) := by decide +kernel
theorem dX1_runOut_15 : decode cX1_runOut 15 = .ok (.aload_n 0, 1) := by decide +kernel
theorem dX1_runOut_16 : decode cX1_runOut 16 = .ok (.getfield 20, 3) := by decide +kernel
theorem dX1_runOut_19 : decode cX1_runOut 19 = .ok (.invokevirtual 83, 3) := by decide +kernel
theorem dX1_runOut_22 : decode cX1_runOut 22 = .ok (.aload_n 0, 1) := by decide +kernel
theorem dX1_runOut_23 : decode cX1_runOut 23 = .ok (.getfield 30, 3) := by decide +kernel
theorem dX1_runOut_26 : decode cX1_runOut 26 = .ok (.invokevirtual 182, 3) := by decide +kernel
theorem dX1_runOut_29 : decode cX1_runOut 29 = .ok (.invokevirtual 185, 3) := by decide +kernel
theorem dX1_runOut_32 : decode cX1_runOut 32 = .ok (.ifCond .eq 28, 3) := by decide +kernel
theorem dX1_runOut_35 : decode cX1_runOut 35 = .ok (.aload_n 1, 1) := by decide +kernel
theorem dX1_runOut_36 : decode cX1_runOut 36 = .ok (.getfield 63, 3) := by decide +kernel
theorem dX1_runOut_39 : decode cX1_runOut 39 = .ok (.iconst 3, 1) := by decide +kernel
theorem dX1_runOut_40 : decode cX1_runOut 40 = .ok (.invokevirtual 189, 3) := by decide +kernel
theorem dX1_runOut_43 : decode cX1_runOut 43 = .ok (.ifCond .eq 10, 3) := by decide +kernel
theorem dX1_runOut_46 : decode cX1_runOut 46 = .ok (.aload_n 1, 1) := by decide +kernel
theorem dX1_runOut_47 : decode cX1_runOut 47 = .ok (.getfield 63, 3) := by decide +kernel
theorem dX1_runOut_50 : decode cX1_runOut 50 = .ok (.invokevirtual 131, 3) := by decide +kernel
theorem dX1_runOut_53 : decode cX1_runOut 53 = .ok (.aload_n 1, 1) := by decide +kernel
theorem dX1_runOut_54 : decode cX1_runOut 54 = .ok (.getfield 63, 3) := by decide +kernel
theorem dX1_runOut_57 : decode cX1_runOut 57 = .ok (.invokevirtual 125, 3) := by decide +kernel
theorem dX1_runOut_60 : decode cX1_runOut 60 = .ok (.aload_n 1, 1) := by decide +kernel
theorem dX1_runOut_61 : decode cX1_runOut 61 = .ok (.getfield 122, 3) := by decide +kernel
theorem dX1_runOut_64 : decode cX1_runOut 64 = .ok (.aload_n 0, 1) := by decide +kernel
theorem dX1_runOut_65 : decode cX1_runOut 65 = .ok (.getfield 20, 3) := by decide +kernel
theorem dX1_runOut_68 : decode cX1_runOut 68 = .ok (.invokevirtual 83, 3) := by decide +kernel
theorem dX1_runOut_71 : decode cX1_runOut 71 = .ok (.aload_n 0, 1) := by decide +kernel
theorem dX1_runOut_72 : decode cX1_runOut 72 = .ok (.getfield 30, 3) := by decide +kernel
theorem dX1_runOut_75 : decode cX1_runOut 75 = .ok (.invokevirtual 182, 3) := by decide +kernel
theorem dX1_runOut_78 : decode cX1_runOut 78 = .ok (.invokevirtual 185, 3) := by decide +kernel
theorem dX1_runOut_81 : decode cX1_runOut 81 = .ok (.ifCond .eq 10, 3) := by decide +kernel
theorem dX1_runOut_84 : decode cX1_runOut 84 = .ok (.aload_n 1, 1) := by decide +kernel
theorem dX1_runOut_85 : decode cX1_runOut 85 = .ok (.getfield 122, 3) := by decide +kernel
theorem dX1_runOut_88 : decode cX1_runOut 88 = .ok (.invokevirtual 125, 3) := by decide +kernel
theorem dX1_runOut_91 : decode cX1_runOut 91 = .ok (.return_, 1) := by decide +kernel
theorem dX1_isTwoSteps_0 : decode cX1_isTwoSteps 0 = .ok (.aload_n 0, 1) := by decide +kernel
theorem dX1_isTwoSteps_1 : decode cX1_isTwoSteps 1 = .ok (.getfield 30, 3) := by decide +kernel
theorem dX1_isTwoSteps_4 : decode cX1_isTwoSteps 4 = .ok (.aload_n 1, 1) := by decide +kernel
theorem dX1_isTwoSteps_5 : decode cX1_isTwoSteps 5 = .ok (.getfield 192, 3) := by decide +kernel
theorem dX1_isTwoSteps_8 : decode cX1_isTwoSteps 8 = .ok (.iconst 2, 1) := by decide +kernel
theorem dX1_isTwoSteps_9 : decode cX1_isTwoSteps 9 = .ok (.invokevirtual 195, 3) := by decide +kernel
theorem dX1_isTwoSteps_12 : decode cX1_isTwoSteps 12 = .ok (.iconst 2, 1) := by decide +kernel
theorem dX1_isTwoSteps_13 : decode cX1_isTwoSteps 13 = .ok (.if_icmp .ne 7, 3) := by decide +kernel
theorem dX1_isTwoSteps_16 : decode cX1_isTwoSteps 16 = .ok (.iconst 1, 1) := by decide +kernel
theorem dX1_isTwoSteps_17 : decode cX1_isTwoSteps 17 = .ok (.goto 4, 3) := by decide +kernel
theorem dX1_isTwoSteps_20 : decode cX1_isTwoSteps 20 = .ok (.iconst 0, 1) := by decide +kernel
theorem dX1_isTwoSteps_21 : decode cX1_isTwoSteps 21 = .ok (.ireturn, 1) := by decide +kernel
theorem dX1_senderOf_0 : decode cX1_senderOf 0 = .ok (.aload_n 0, 1) := by decide +kernel
theorem dX1_senderOf_1 : decode cX1_senderOf 1 = .ok (.getfield 30, 3) := by decide +kernel
theorem dX1_senderOf_4 : decode cX1_senderOf 4 = .ok (.aload_n 1, 1) := by decide +kernel
theorem dX1_senderOf_5 : decode cX1_senderOf 5 = .ok (.getfield 192, 3) := by decide +kernel
theorem dX1_senderOf_8 : decode cX1_senderOf 8 = .ok (.iconst 0, 1) := by decide +kernel
theorem dX1_senderOf_9 : decode cX1_senderOf 9 = .ok (.invokevirtual 195, 3) := by decide +kernel
theorem dX1_senderOf_12 : decode cX1_senderOf 12 = .ok (.ireturn, 1) := by decide +kernel
theorem dX1_receiverOf_0 : decode cX1_receiverOf 0 = .ok (.aload_n 0, 1) := by decide +kernel
theorem dX1_receiverOf_1 : decode cX1_receiverOf 1 = .ok (.getfield 30, 3) := by decide +kernel
theorem dX1_receiverOf_4 : decode cX1_receiverOf 4 = .ok (.aload_n 1, 1) := by decide +kernel
theorem dX1_receiverOf_5 : decode cX1_receiverOf 5 = .ok (.getfield 192, 3) := by decide +kernel
theorem dX1_receiverOf_8 : decode cX1_receiverOf 8 = .ok (.iconst 1, 1) := by decide +kernel
theorem dX1_receiverOf_9 : decode cX1_receiverOf 9 = .ok (.invokevirtual 195, 3) := by decide +kernel
theorem dX1_receiverOf_12 : decode cX1_receiverOf 12 = .ok (.ireturn, 1) := by decide +kernel
theorem dX1_promiseFreeSlots_0 : decode cX1_promiseFreeSlots 0 = .ok (.aload_n 0, 1) := by decide +kernel
theorem dX1_promiseFreeSlots_1 : decode cX1_promiseFreeSlots 1 = .ok (.aload_n 1, 1) := by decide +kernel
theorem dX1_promiseFreeSlots_2 : decode cX1_promiseFreeSlots 2 = .ok (.getfield 192, 3) := by decide +kernel
theorem dX1_promiseFreeSlots_5 : decode cX1_promiseFreeSlots 5 = .ok (.aload_n 0, 1) := by decide +kernel
theorem dX1_promiseFreeSlots_6 : decode cX1_promiseFreeSlots 6 = .ok (.getfield 20, 3) := by decide +kernel
theorem dX1_promiseFreeSlots_9 : decode cX1_promiseFreeSlots 9 = .ok (.aload_n 0, 1) := by decide +kernel
theorem dX1_promiseFreeSlots_10 : decode cX1_promiseFreeSlots 10 = .ok (.aload_n 1, 1) := by decide +kernel
theorem dX1_promiseFreeSlots_11 : decode cX1_promiseFreeSlots 11 = .ok (.invokevirtual 51, 3) := by decide +kernel
theorem dX1_promiseFreeSlots_14 : decode cX1_promiseFreeSlots 14 = .ok (.invokevirtual 55, 3) := by decide +kernel
theorem dX1_promiseFreeSlots_17 : decode cX1_promiseFreeSlots 17 = .ok (.iload_n 2, 1) := by decide +kernel
theorem dX1_promiseFreeSlots_18 : decode cX1_promiseFreeSlots 18 = .ok (.iload_n 3, 1) := by decide +kernel
theorem dX1_promiseFreeSlots_19 : decode cX1_promiseFreeSlots 19 = .ok (.invokevirtual 198, 3) := by decide +kernel
theorem dX1_promiseFreeSlots_22 : decode cX1_promiseFreeSlots 22 = .ok (.pop, 1) := by decide +kernel
theorem dX1_promiseFreeSlots_23 : decode cX1_promiseFreeSlots 23 = .ok (.aload_n 0, 1) := by decide +kernel
theorem dX1_promiseFreeSlots_24 : decode cX1_promiseFreeSlots 24 = .ok (.aload_n 1, 1) := by decide +kernel
theorem dX1_promiseFreeSlots_25 : decode cX1_promiseFreeSlots 25 = .ok (.getfield 63, 3) := by decide +kernel
theorem dX1_promiseFreeSlots_28 : decode cX1_promiseFreeSlots 28 = .ok (.aload_n 1, 1) := by decide +kernel
theorem dX1_promiseFreeSlots_29 : decode cX1_promiseFreeSlots 29 = .ok (.getfield 72, 3) := by decide +kernel
theorem dX1_promiseFreeSlots_32 : decode cX1_promiseFreeSlots 32 = .ok (.invokevirtual 202, 3) := by decide +kernel
theorem dX1_promiseFreeSlots_35 : decode cX1_promiseFreeSlots 35 = .ok (.return_, 1) := by decide +kernel
theorem dX1_answer_0 : decode cX1_answer 0 = .ok (.aload_n 1, 1) := by decide +kernel
theorem dX1_answer_1 : decode cX1_answer 1 = .ok (.getfield 72, 3) := by decide +kernel
theorem dX1_answer_4 : decode cX1_answer 4 = .ok (.iconst 1, 1) := by decide +kernel
theorem dX1_answer_5 : decode cX1_answer 5 = .ok (.aload_n 1, 1) := by decide +kernel
theorem dX1_answer_6 : decode cX1_answer 6 = .ok (.getfield 72, 3) := by decide +kernel
theorem dX1_answer_9 : decode cX1_answer 9 = .ok (.invokevirtual 128, 3) := by decide +kernel
theorem dX1_answer_12 : decode cX1_answer 12 = .ok (.iload_n 2, 1) := by decide +kernel
theorem dX1_answer_13 : decode cX1_answer 13 = .ok (.iconst (-1), 1) := by decide +kernel
theorem dX1_answer_14 : decode cX1_answer 14 = .ok (.aload_n 1, 1) := by decide +kernel
theorem dX1_answer_15 : decode cX1_answer 15 = .ok (.getfield 72, 3) := by decide +kernel
theorem dX1_answer_18 : decode cX1_answer 18 = .ok (.invokevirtual 206, 3) := by decide +kernel
theorem dX1_answer_21 : decode cX1_answer 21 = .ok (.invokevirtual 79, 3) := by decide +kernel
theorem dX1_answer_24 : decode cX1_answer 24 = .ok (.return_, 1) := by decide +kernel
theorem dX1_promiseOffers_0 : decode cX1_promiseOffers 0 = .ok (.iconst 0, 1) := by decide +kernel
theorem dX1_promiseOffers_1 : decode cX1_promiseOffers 1 = .ok (.istore_n 3, 1) := by decide +kernel
theorem dX1_promiseOffers_2 : decode cX1_promiseOffers 2 = .ok (.iload_n 3, 1) := by decide +kernel
theorem dX1_promiseOffers_3 : decode cX1_promiseOffers 3 = .ok (.aload_n 0, 1) := by decide +kernel
theorem dX1_promiseOffers_4 : decode cX1_promiseOffers 4 = .ok (.getfield 37, 3) := by decide +kernel
theorem dX1_promiseOffers_7 : decode cX1_promiseOffers 7 = .ok (.if_icmp .ge 29, 3) := by decide +kernel
theorem dX1_promiseOffers_10 : decode cX1_promiseOffers 10 = .ok (.aload_n 1, 1) := by decide +kernel
theorem dX1_promiseOffers_11 : decode cX1_promiseOffers 11 = .ok (.aload_n 0, 1) := by decide +kernel
theorem dX1_promiseOffers_12 : decode cX1_promiseOffers 12 = .ok (.getfield 9, 3) := by decide +kernel
theorem dX1_promiseOffers_15 : decode cX1_promiseOffers 15 = .ok (.iload_n 3, 1) := by decide +kernel
theorem dX1_promiseOffers_16 : decode cX1_promiseOffers 16 = .ok (.iaload, 1) := by decide +kernel
theorem dX1_promiseOffers_17 : decode cX1_promiseOffers 17 = .ok (.invokevirtual 209, 3) := by decide +kernel
theorem dX1_promiseOffers_20 : decode cX1_promiseOffers 20 = .ok (.aload_n 2, 1) := by decide +kernel
theorem dX1_promiseOffers_21 : decode cX1_promiseOffers 21 = .ok (.aload_n 0, 1) := by decide +kernel
theorem dX1_promiseOffers_22 : decode cX1_promiseOffers 22 = .ok (.getfield 9, 3) := by decide +kernel
theorem dX1_promiseOffers_25 : decode cX1_promiseOffers 25 = .ok (.iload_n 3, 1) := by decide +kernel
theorem dX1_promiseOffers_26 : decode cX1_promiseOffers 26 = .ok (.iaload, 1) := by decide +kernel
theorem dX1_promiseOffers_27 : decode cX1_promiseOffers 27 = .ok (.invokevirtual 102, 3) := by decide +kernel
theorem dX1_promiseOffers_30 : decode cX1_promiseOffers 30 = .ok (.iinc 3 1, 3) := by decide +kernel
theorem dX1_promiseOffers_33 : decode cX1_promiseOffers 33 = .ok (.goto (-31), 3) := by decide +kernel
theorem dX1_promiseOffers_36 : decode cX1_promiseOffers 36 = .ok (.return_, 1) := by decide +kernel
theorem dX1_putAllTold_0 : decode cX1_putAllTold 0 = .ok (.iconst 0, 1) := by decide +kernel
theorem dX1_putAllTold_1 : decode cX1_putAllTold 1 = .ok (.istore_n 2, 1) := by decide +kernel
theorem dX1_putAllTold_2 : decode cX1_putAllTold 2 = .ok (.iload_n 2, 1) := by decide +kernel
theorem dX1_putAllTold_3 : decode cX1_putAllTold 3 = .ok (.aload_n 0, 1) := by decide +kernel
theorem dX1_putAllTold_4 : decode cX1_putAllTold 4 = .ok (.getfield 112, 3) := by decide +kernel
theorem dX1_putAllTold_7 : decode cX1_putAllTold 7 = .ok (.if_icmp .ge 19, 3) := by decide +kernel
theorem dX1_putAllTold_10 : decode cX1_putAllTold 10 = .ok (.aload_n 1, 1) := by decide +kernel
theorem dX1_putAllTold_11 : decode cX1_putAllTold 11 = .ok (.aload_n 0, 1) := by decide +kernel
theorem dX1_putAllTold_12 : decode cX1_putAllTold 12 = .ok (.getfield 17, 3) := by decide +kernel
theorem dX1_putAllTold_15 : decode cX1_putAllTold 15 = .ok (.iload_n 2, 1) := by decide +kernel
theorem dX1_putAllTold_16 : decode cX1_putAllTold 16 = .ok (.iaload, 1) := by decide +kernel
theorem dX1_putAllTold_17 : decode cX1_putAllTold 17 = .ok (.invokevirtual 170, 3) := by decide +kernel
theorem dX1_putAllTold_20 : decode cX1_putAllTold 20 = .ok (.iinc 2 1, 3) := by decide +kernel
theorem dX1_putAllTold_23 : decode cX1_putAllTold 23 = .ok (.goto (-21), 3) := by decide +kernel
theorem dX1_putAllTold_26 : decode cX1_putAllTold 26 = .ok (.return_, 1) := by decide +kernel
theorem dX1_putFreeTold_0 : decode cX1_putFreeTold 0 = .ok (.aload_n 2, 1) := by decide +kernel
theorem dX1_putFreeTold_1 : decode cX1_putFreeTold 1 = .ok (.invokevirtual 206, 3) := by decide +kernel
theorem dX1_putFreeTold_4 : decode cX1_putFreeTold 4 = .ok (.istore 4, 2) := by decide +kernel
theorem dX1_putFreeTold_6 : decode cX1_putFreeTold 6 = .ok (.iconst 0, 1) := by decide +kernel
theorem dX1_putFreeTold_7 : decode cX1_putFreeTold 7 = .ok (.istore 5, 2) := by decide +kernel
theorem dX1_putFreeTold_9 : decode cX1_putFreeTold 9 = .ok (.iload 5, 2) := by decide +kernel
theorem dX1_putFreeTold_11 : decode cX1_putFreeTold 11 = .ok (.aload_n 0, 1) := by decide +kernel
theorem dX1_putFreeTold_12 : decode cX1_putFreeTold 12 = .ok (.getfield 112, 3) := by decide +kernel
theorem dX1_putFreeTold_15 : decode cX1_putFreeTold 15 = .ok (.if_icmp .ge 63, 3) := by decide +kernel
theorem dX1_putFreeTold_18 : decode cX1_putFreeTold 18 = .ok (.iload 4, 2) := by decide +kernel
theorem dX1_putFreeTold_20 : decode cX1_putFreeTold 20 = .ok (.ifCond .le 58, 3) := by decide +kernel
theorem dX1_putFreeTold_23 : decode cX1_putFreeTold 23 = .ok (.aload_n 1, 1) := by decide +kernel
theorem dX1_putFreeTold_24 : decode cX1_putFreeTold 24 = .ok (.invokevirtual 212, 3) := by decide +kernel
theorem dX1_putFreeTold_27 : decode cX1_putFreeTold 27 = .ok (.ifCond .eq 51, 3) := by decide +kernel
theorem dX1_putFreeTold_30 : decode cX1_putFreeTold 30 = .ok (.iload_n 3, 1) := by decide +kernel
theorem dX1_putFreeTold_31 : decode cX1_putFreeTold 31 = .ok (.aload_n 0, 1) := by decide +kernel
theorem dX1_putFreeTold_32 : decode cX1_putFreeTold 32 = .ok (.getfield 17, 3) := by decide +kernel
theorem dX1_putFreeTold_35 : decode cX1_putFreeTold 35 = .ok (.iload 5, 2) := by decide +kernel
theorem dX1_putFreeTold_37 : decode cX1_putFreeTold 37 = .ok (.iaload, 1) := by decide +kernel
theorem dX1_putFreeTold_38 : decode cX1_putFreeTold 38 = .ok (.bipush 10, 2) := by decide +kernel
theorem dX1_putFreeTold_40 : decode cX1_putFreeTold 40 = .ok (.idiv, 1) := by decide +kernel
theorem dX1_putFreeTold_41 : decode cX1_putFreeTold 41 = .ok (.ishr, 1) := by decide +kernel
theorem dX1_putFreeTold_42 : decode cX1_putFreeTold 42 = .ok (.iconst 1, 1) := by decide +kernel
theorem dX1_putFreeTold_43 : decode cX1_putFreeTold 43 = .ok (.iand, 1) := by decide +kernel
theorem dX1_putFreeTold_44 : decode cX1_putFreeTold 44 = .ok (.ifCond .ne 28, 3) := by decide +kernel
theorem dX1_putFreeTold_47 : decode cX1_putFreeTold 47 = .ok (.aload_n 1, 1) := by decide +kernel
theorem dX1_putFreeTold_48 : decode cX1_putFreeTold 48 = .ok (.aload_n 0, 1) := by decide +kernel
theorem dX1_putFreeTold_49 : decode cX1_putFreeTold 49 = .ok (.getfield 17, 3) := by decide +kernel
theorem dX1_putFreeTold_52 : decode cX1_putFreeTold 52 = .ok (.iload 5, 2) := by decide +kernel
theorem dX1_putFreeTold_54 : decode cX1_putFreeTold 54 = .ok (.iaload, 1) := by decide +kernel
theorem dX1_putFreeTold_55 : decode cX1_putFreeTold 55 = .ok (.invokevirtual 170, 3) := by decide +kernel
theorem dX1_putFreeTold_58 : decode cX1_putFreeTold 58 = .ok (.aload_n 2, 1) := by decide +kernel
theorem dX1_putFreeTold_59 : decode cX1_putFreeTold 59 = .ok (.aload_n 0, 1) := by decide +kernel
theorem dX1_putFreeTold_60 : decode cX1_putFreeTold 60 = .ok (.getfield 17, 3) := by decide +kernel
theorem dX1_putFreeTold_63 : decode cX1_putFreeTold 63 = .ok (.iload 5, 2) := by decide +kernel
theorem dX1_putFreeTold_65 : decode cX1_putFreeTold 65 = .ok (.iaload, 1) := by decide +kernel
theorem dX1_putFreeTold_66 : decode cX1_putFreeTold 66 = .ok (.invokevirtual 102, 3) := by decide +kernel
theorem dX1_putFreeTold_69 : decode cX1_putFreeTold 69 = .ok (.iinc 4 (-1), 3) := by decide +kernel
theorem dX1_putFreeTold_72 : decode cX1_putFreeTold 72 = .ok (.iinc 5 1, 3) := by decide +kernel
theorem dX1_putFreeTold_75 : decode cX1_putFreeTold 75 = .ok (.goto (-66), 3) := by decide +kernel
theorem dX1_putFreeTold_78 : decode cX1_putFreeTold 78 = .ok (.return_, 1) := by decide +kernel
theorem dX1_acceptCells_0 : decode cX1_acceptCells 0 = .ok (.aload_n 0, 1) := by decide +kernel
theorem dX1_acceptCells_1 : decode cX1_acceptCells 1 = .ok (.getfield 20, 3) := by decide +kernel
theorem dX1_acceptCells_4 : decode cX1_acceptCells 4 = .ok (.aload_n 0, 1) := by decide +kernel
theorem dX1_acceptCells_5 : decode cX1_acceptCells 5 = .ok (.aload_n 1, 1) := by decide +kernel
theorem dX1_acceptCells_6 : decode cX1_acceptCells 6 = .ok (.invokevirtual 215, 3) := by decide +kernel
theorem dX1_acceptCells_9 : decode cX1_acceptCells 9 = .ok (.invokevirtual 55, 3) := by decide +kernel
theorem dX1_acceptCells_12 : decode cX1_acceptCells 12 = .ok (.istore_n 2, 1) := by decide +kernel
theorem dX1_acceptCells_13 : decode cX1_acceptCells 13 = .ok (.aload_n 0, 1) := by decide +kernel
theorem dX1_acceptCells_14 : decode cX1_acceptCells 14 = .ok (.aload_n 1, 1) := by decide +kernel
theorem dX1_acceptCells_15 : decode cX1_acceptCells 15 = .ok (.iconst 0, 1) := by decide +kernel
theorem dX1_acceptCells_16 : decode cX1_acceptCells 16 = .ok (.invokevirtual 134, 3) := by decide +kernel
theorem dX1_acceptCells_19 : decode cX1_acceptCells 19 = .ok (.aload_n 0, 1) := by decide +kernel
theorem dX1_acceptCells_20 : decode cX1_acceptCells 20 = .ok (.aload_n 1, 1) := by decide +kernel
theorem dX1_acceptCells_21 : decode cX1_acceptCells 21 = .ok (.getfield 122, 3) := by decide +kernel
theorem dX1_acceptCells_24 : decode cX1_acceptCells 24 = .ok (.aload_n 1, 1) := by decide +kernel
theorem dX1_acceptCells_25 : decode cX1_acceptCells 25 = .ok (.getfield 72, 3) := by decide +kernel
theorem dX1_acceptCells_28 : decode cX1_acceptCells 28 = .ok (.iload_n 2, 1) := by decide +kernel
theorem dX1_acceptCells_29 : decode cX1_acceptCells 29 = .ok (.invokevirtual 218, 3) := by decide +kernel
theorem dX1_acceptCells_32 : decode cX1_acceptCells 32 = .ok (.aload_n 0, 1) := by decide +kernel
theorem dX1_acceptCells_33 : decode cX1_acceptCells 33 = .ok (.aload_n 1, 1) := by decide +kernel
theorem dX1_acceptCells_34 : decode cX1_acceptCells 34 = .ok (.invokevirtual 222, 3) := by decide +kernel
theorem dX1_acceptCells_37 : decode cX1_acceptCells 37 = .ok (.return_, 1) := by decide +kernel
theorem dX1_offerCells_0 : decode cX1_offerCells 0 = .ok (.aload_n 1, 1) := by decide +kernel
theorem dX1_offerCells_1 : decode cX1_offerCells 1 = .ok (.getfield 72, 3) := by decide +kernel
theorem dX1_offerCells_4 : decode cX1_offerCells 4 = .ok (.invokevirtual 206, 3) := by decide +kernel
theorem dX1_offerCells_7 : decode cX1_offerCells 7 = .ok (.istore_n 2, 1) := by decide +kernel
theorem dX1_offerCells_8 : decode cX1_offerCells 8 = .ok (.aload_n 0, 1) := by decide +kernel
theorem dX1_offerCells_9 : decode cX1_offerCells 9 = .ok (.aload_n 1, 1) := by decide +kernel
theorem dX1_offerCells_10 : decode cX1_offerCells 10 = .ok (.getfield 192, 3) := by decide +kernel
theorem dX1_offerCells_13 : decode cX1_offerCells 13 = .ok (.aload_n 0, 1) := by decide +kernel
theorem dX1_offerCells_14 : decode cX1_offerCells 14 = .ok (.getfield 20, 3) := by decide +kernel
theorem dX1_offerCells_17 : decode cX1_offerCells 17 = .ok (.aload_n 0, 1) := by decide +kernel
theorem dX1_offerCells_18 : decode cX1_offerCells 18 = .ok (.aload_n 1, 1) := by decide +kernel
theorem dX1_offerCells_19 : decode cX1_offerCells 19 = .ok (.invokevirtual 215, 3) := by decide +kernel
theorem dX1_offerCells_22 : decode cX1_offerCells 22 = .ok (.invokevirtual 55, 3) := by decide +kernel
theorem dX1_offerCells_25 : decode cX1_offerCells 25 = .ok (.iconst 0, 1) := by decide +kernel
theorem dX1_offerCells_26 : decode cX1_offerCells 26 = .ok (.iload_n 2, 1) := by decide +kernel
theorem dX1_offerCells_27 : decode cX1_offerCells 27 = .ok (.iconst 1, 1) := by decide +kernel
theorem dX1_offerCells_28 : decode cX1_offerCells 28 = .ok (.iadd, 1) := by decide +kernel
theorem dX1_offerCells_29 : decode cX1_offerCells 29 = .ok (.invokevirtual 198, 3) := by decide +kernel
theorem dX1_offerCells_32 : decode cX1_offerCells 32 = .ok (.istore_n 3, 1) := by decide +kernel
theorem dX1_offerCells_33 : decode cX1_offerCells 33 = .ok (.iload_n 3, 1) := by decide +kernel
theorem dX1_offerCells_34 : decode cX1_offerCells 34 = .ok (.ifCond .ne 10, 3) := by decide +kernel
theorem dX1_offerCells_37 : decode cX1_offerCells 37 = .ok (.aload_n 0, 1) := by decide +kernel
theorem dX1_offerCells_38 : decode cX1_offerCells 38 = .ok (.aload_n 1, 1) := by decide +kernel
theorem dX1_offerCells_39 : decode cX1_offerCells 39 = .ok (.iconst 1, 1) := by decide +kernel
theorem dX1_offerCells_40 : decode cX1_offerCells 40 = .ok (.invokevirtual 134, 3) := by decide +kernel
theorem dX1_offerCells_43 : decode cX1_offerCells 43 = .ok (.return_, 1) := by decide +kernel
theorem dX1_offerCells_44 : decode cX1_offerCells 44 = .ok (.aload_n 0, 1) := by decide +kernel
theorem dX1_offerCells_45 : decode cX1_offerCells 45 = .ok (.aload_n 1, 1) := by decide +kernel
theorem dX1_offerCells_46 : decode cX1_offerCells 46 = .ok (.iconst 0, 1) := by decide +kernel
theorem dX1_offerCells_47 : decode cX1_offerCells 47 = .ok (.invokevirtual 134, 3) := by decide +kernel
theorem dX1_offerCells_50 : decode cX1_offerCells 50 = .ok (.aload_n 0, 1) := by decide +kernel
theorem dX1_offerCells_51 : decode cX1_offerCells 51 = .ok (.aload_n 1, 1) := by decide +kernel
theorem dX1_offerCells_52 : decode cX1_offerCells 52 = .ok (.getfield 122, 3) := by decide +kernel
theorem dX1_offerCells_55 : decode cX1_offerCells 55 = .ok (.aload_n 1, 1) := by decide +kernel
theorem dX1_offerCells_56 : decode cX1_offerCells 56 = .ok (.getfield 72, 3) := by decide +kernel
theorem dX1_offerCells_59 : decode cX1_offerCells 59 = .ok (.invokevirtual 202, 3) := by decide +kernel
theorem dX1_offerCells_62 : decode cX1_offerCells 62 = .ok (.aload_n 1, 1) := by decide +kernel
theorem dX1_offerCells_63 : decode cX1_offerCells 63 = .ok (.getfield 122, 3) := by decide +kernel
theorem dX1_offerCells_66 : decode cX1_offerCells 66 = .ok (.aload_n 0, 1) := by decide +kernel
theorem dX1_offerCells_67 : decode cX1_offerCells 67 = .ok (.getfield 20, 3) := by decide +kernel
theorem dX1_offerCells_70 : decode cX1_offerCells 70 = .ok (.invokevirtual 83, 3) := by decide +kernel
theorem dX1_offerCells_73 : decode cX1_offerCells 73 = .ok (.iconst 0, 1) := by decide +kernel
theorem dX1_offerCells_74 : decode cX1_offerCells 74 = .ok (.invokevirtual 86, 3) := by decide +kernel
theorem dX1_offerCells_77 : decode cX1_offerCells 77 = .ok (.return_, 1) := by decide +kernel
theorem dX1_giveUpCells_0 : decode cX1_giveUpCells 0 = .ok (.aload_n 0, 1) := by decide +kernel
theorem dX1_giveUpCells_1 : decode cX1_giveUpCells 1 = .ok (.aload_n 1, 1) := by decide +kernel
theorem dX1_giveUpCells_2 : decode cX1_giveUpCells 2 = .ok (.iconst 0, 1) := by decide +kernel
theorem dX1_giveUpCells_3 : decode cX1_giveUpCells 3 = .ok (.invokevirtual 134, 3) := by decide +kernel
theorem dX1_giveUpCells_6 : decode cX1_giveUpCells 6 = .ok (.iconst 0, 1) := by decide +kernel
theorem dX1_giveUpCells_7 : decode cX1_giveUpCells 7 = .ok (.istore_n 2, 1) := by decide +kernel
theorem dX1_giveUpCells_8 : decode cX1_giveUpCells 8 = .ok (.iload_n 2, 1) := by decide +kernel
theorem dX1_giveUpCells_9 : decode cX1_giveUpCells 9 = .ok (.aload_n 0, 1) := by decide +kernel
theorem dX1_giveUpCells_10 : decode cX1_giveUpCells 10 = .ok (.getfield 112, 3) := by decide +kernel
theorem dX1_giveUpCells_13 : decode cX1_giveUpCells 13 = .ok (.if_icmp .ge 38, 3) := by decide +kernel
theorem dX1_giveUpCells_16 : decode cX1_giveUpCells 16 = .ok (.aload_n 1, 1) := by decide +kernel
theorem dX1_giveUpCells_17 : decode cX1_giveUpCells 17 = .ok (.getfield 122, 3) := by decide +kernel
theorem dX1_giveUpCells_20 : decode cX1_giveUpCells 20 = .ok (.aload_n 0, 1) := by decide +kernel
theorem dX1_giveUpCells_21 : decode cX1_giveUpCells 21 = .ok (.getfield 17, 3) := by decide +kernel
theorem dX1_giveUpCells_24 : decode cX1_giveUpCells 24 = .ok (.iload_n 2, 1) := by decide +kernel
theorem dX1_giveUpCells_25 : decode cX1_giveUpCells 25 = .ok (.iaload, 1) := by decide +kernel
theorem dX1_giveUpCells_26 : decode cX1_giveUpCells 26 = .ok (.invokevirtual 166, 3) := by decide +kernel
theorem dX1_giveUpCells_29 : decode cX1_giveUpCells 29 = .ok (.ifCond .eq 16, 3) := by decide +kernel
theorem dX1_giveUpCells_32 : decode cX1_giveUpCells 32 = .ok (.aload_n 1, 1) := by decide +kernel
theorem dX1_giveUpCells_33 : decode cX1_giveUpCells 33 = .ok (.getfield 72, 3) := by decide +kernel
theorem dX1_giveUpCells_36 : decode cX1_giveUpCells 36 = .ok (.aload_n 0, 1) := by decide +kernel
theorem dX1_giveUpCells_37 : decode cX1_giveUpCells 37 = .ok (.getfield 17, 3) := by decide +kernel
theorem dX1_giveUpCells_40 : decode cX1_giveUpCells 40 = .ok (.iload_n 2, 1) := by decide +kernel
theorem dX1_giveUpCells_41 : decode cX1_giveUpCells 41 = .ok (.iaload, 1) := by decide +kernel
theorem dX1_giveUpCells_42 : decode cX1_giveUpCells 42 = .ok (.invokevirtual 102, 3) := by decide +kernel
theorem dX1_giveUpCells_45 : decode cX1_giveUpCells 45 = .ok (.iinc 2 1, 3) := by decide +kernel
theorem dX1_giveUpCells_48 : decode cX1_giveUpCells 48 = .ok (.goto (-40), 3) := by decide +kernel
theorem dX1_giveUpCells_51 : decode cX1_giveUpCells 51 = .ok (.aload_n 0, 1) := by decide +kernel
theorem dX1_giveUpCells_52 : decode cX1_giveUpCells 52 = .ok (.aload_n 1, 1) := by decide +kernel
theorem dX1_giveUpCells_53 : decode cX1_giveUpCells 53 = .ok (.invokevirtual 222, 3) := by decide +kernel
theorem dX1_giveUpCells_56 : decode cX1_giveUpCells 56 = .ok (.return_, 1) := by decide +kernel
theorem dX1_moveCell_0 : decode cX1_moveCell 0 = .ok (.aload_n 0, 1) := by decide +kernel
theorem dX1_moveCell_1 : decode cX1_moveCell 1 = .ok (.getfield 20, 3) := by decide +kernel
theorem dX1_moveCell_4 : decode cX1_moveCell 4 = .ok (.aload_n 0, 1) := by decide +kernel
theorem dX1_moveCell_5 : decode cX1_moveCell 5 = .ok (.aload_n 1, 1) := by decide +kernel
theorem dX1_moveCell_6 : decode cX1_moveCell 6 = .ok (.invokevirtual 215, 3) := by decide +kernel
theorem dX1_moveCell_9 : decode cX1_moveCell 9 = .ok (.invokevirtual 55, 3) := by decide +kernel
theorem dX1_moveCell_12 : decode cX1_moveCell 12 = .ok (.istore_n 2, 1) := by decide +kernel
theorem dX1_moveCell_13 : decode cX1_moveCell 13 = .ok (.aload_n 0, 1) := by decide +kernel
theorem dX1_moveCell_14 : decode cX1_moveCell 14 = .ok (.aload_n 1, 1) := by decide +kernel
theorem dX1_moveCell_15 : decode cX1_moveCell 15 = .ok (.iconst 0, 1) := by decide +kernel
theorem dX1_moveCell_16 : decode cX1_moveCell 16 = .ok (.invokevirtual 134, 3) := by decide +kernel
theorem dX1_moveCell_19 : decode cX1_moveCell 19 = .ok (.aload_n 0, 1) := by decide +kernel
theorem dX1_moveCell_20 : decode cX1_moveCell 20 = .ok (.getfield 112, 3) := by decide +kernel
theorem dX1_moveCell_23 : decode cX1_moveCell 23 = .ok (.ifCond .le 108, 3) := by decide +kernel
theorem dX1_moveCell_26 : decode cX1_moveCell 26 = .ok (.aload_n 1, 1) := by decide +kernel
theorem dX1_moveCell_27 : decode cX1_moveCell 27 = .ok (.getfield 122, 3) := by decide +kernel
theorem dX1_moveCell_30 : decode cX1_moveCell 30 = .ok (.aload_n 0, 1) := by decide +kernel
theorem dX1_moveCell_31 : decode cX1_moveCell 31 = .ok (.getfield 17, 3) := by decide +kernel
theorem dX1_moveCell_34 : decode cX1_moveCell 34 = .ok (.iconst 0, 1) := by decide +kernel
theorem dX1_moveCell_35 : decode cX1_moveCell 35 = .ok (.iaload, 1) := by decide +kernel
theorem dX1_moveCell_36 : decode cX1_moveCell 36 = .ok (.invokevirtual 225, 3) := by decide +kernel
theorem dX1_moveCell_39 : decode cX1_moveCell 39 = .ok (.iconst (-1), 1) := by decide +kernel
theorem dX1_moveCell_40 : decode cX1_moveCell 40 = .ok (.if_icmp .eq 91, 3) := by decide +kernel
theorem dX1_moveCell_43 : decode cX1_moveCell 43 = .ok (.iconst 1, 1) := by decide +kernel
theorem dX1_moveCell_44 : decode cX1_moveCell 44 = .ok (.istore_n 3, 1) := by decide +kernel
theorem dX1_moveCell_45 : decode cX1_moveCell 45 = .ok (.iload_n 3, 1) := by decide +kernel
theorem dX1_moveCell_46 : decode cX1_moveCell 46 = .ok (.aload_n 0, 1) := by decide +kernel
theorem dX1_moveCell_47 : decode cX1_moveCell 47 = .ok (.getfield 112, 3) := by decide +kernel
theorem dX1_moveCell_50 : decode cX1_moveCell 50 = .ok (.if_icmp .ge 81, 3) := by decide +kernel
theorem dX1_moveCell_53 : decode cX1_moveCell 53 = .ok (.iload_n 2, 1) := by decide +kernel
theorem dX1_moveCell_54 : decode cX1_moveCell 54 = .ok (.aload_n 0, 1) := by decide +kernel
theorem dX1_moveCell_55 : decode cX1_moveCell 55 = .ok (.getfield 17, 3) := by decide +kernel
theorem dX1_moveCell_58 : decode cX1_moveCell 58 = .ok (.iload_n 3, 1) := by decide +kernel
theorem dX1_moveCell_59 : decode cX1_moveCell 59 = .ok (.iaload, 1) := by decide +kernel
theorem dX1_moveCell_60 : decode cX1_moveCell 60 = .ok (.bipush 10, 2) := by decide +kernel
theorem dX1_moveCell_62 : decode cX1_moveCell 62 = .ok (.idiv, 1) := by decide +kernel
theorem dX1_moveCell_63 : decode cX1_moveCell 63 = .ok (.ishr, 1) := by decide +kernel
theorem dX1_moveCell_64 : decode cX1_moveCell 64 = .ok (.iconst 1, 1) := by decide +kernel
theorem dX1_moveCell_65 : decode cX1_moveCell 65 = .ok (.iand, 1) := by decide +kernel
theorem dX1_moveCell_66 : decode cX1_moveCell 66 = .ok (.ifCond .ne 59, 3) := by decide +kernel
theorem dX1_moveCell_69 : decode cX1_moveCell 69 = .ok (.aload_n 1, 1) := by decide +kernel
theorem dX1_moveCell_70 : decode cX1_moveCell 70 = .ok (.getfield 122, 3) := by decide +kernel
theorem dX1_moveCell_73 : decode cX1_moveCell 73 = .ok (.aload_n 0, 1) := by decide +kernel
theorem dX1_moveCell_74 : decode cX1_moveCell 74 = .ok (.getfield 17, 3) := by decide +kernel
theorem dX1_moveCell_77 : decode cX1_moveCell 77 = .ok (.iconst 0, 1) := by decide +kernel
theorem dX1_moveCell_78 : decode cX1_moveCell 78 = .ok (.iaload, 1) := by decide +kernel
theorem dX1_moveCell_79 : decode cX1_moveCell 79 = .ok (.invokevirtual 166, 3) := by decide +kernel
theorem dX1_moveCell_82 : decode cX1_moveCell 82 = .ok (.pop, 1) := by decide +kernel
theorem dX1_moveCell_83 : decode cX1_moveCell 83 = .ok (.aload_n 1, 1) := by decide +kernel
theorem dX1_moveCell_84 : decode cX1_moveCell 84 = .ok (.getfield 122, 3) := by decide +kernel
theorem dX1_moveCell_87 : decode cX1_moveCell 87 = .ok (.aload_n 0, 1) := by decide +kernel
theorem dX1_moveCell_88 : decode cX1_moveCell 88 = .ok (.getfield 17, 3) := by decide +kernel
theorem dX1_moveCell_91 : decode cX1_moveCell 91 = .ok (.iload_n 3, 1) := by decide +kernel
theorem dX1_moveCell_92 : decode cX1_moveCell 92 = .ok (.iaload, 1) := by decide +kernel
theorem dX1_moveCell_93 : decode cX1_moveCell 93 = .ok (.invokevirtual 170, 3) := by decide +kernel
theorem dX1_moveCell_96 : decode cX1_moveCell 96 = .ok (.aload_n 1, 1) := by decide +kernel
theorem dX1_moveCell_97 : decode cX1_moveCell 97 = .ok (.getfield 72, 3) := by decide +kernel
theorem dX1_moveCell_100 : decode cX1_moveCell 100 = .ok (.aload_n 0, 1) := by decide +kernel
theorem dX1_moveCell_101 : decode cX1_moveCell 101 = .ok (.getfield 17, 3) := by decide +kernel
theorem dX1_moveCell_104 : decode cX1_moveCell 104 = .ok (.iconst 0, 1) := by decide +kernel
theorem dX1_moveCell_105 : decode cX1_moveCell 105 = .ok (.iaload, 1) := by decide +kernel
theorem dX1_moveCell_106 : decode cX1_moveCell 106 = .ok (.invokevirtual 102, 3) := by decide +kernel
theorem dX1_moveCell_109 : decode cX1_moveCell 109 = .ok (.aload_n 1, 1) := by decide +kernel
theorem dX1_moveCell_110 : decode cX1_moveCell 110 = .ok (.getfield 72, 3) := by decide +kernel
theorem dX1_moveCell_113 : decode cX1_moveCell 113 = .ok (.aload_n 0, 1) := by decide +kernel
theorem dX1_moveCell_114 : decode cX1_moveCell 114 = .ok (.getfield 17, 3) := by decide +kernel
theorem dX1_moveCell_117 : decode cX1_moveCell 117 = .ok (.iload_n 3, 1) := by decide +kernel
theorem dX1_moveCell_118 : decode cX1_moveCell 118 = .ok (.iaload, 1) := by decide +kernel
theorem dX1_moveCell_119 : decode cX1_moveCell 119 = .ok (.invokevirtual 102, 3) := by decide +kernel
theorem dX1_moveCell_122 : decode cX1_moveCell 122 = .ok (.goto 9, 3) := by decide +kernel
theorem dX1_moveCell_125 : decode cX1_moveCell 125 = .ok (.iinc 3 1, 3) := by decide +kernel
theorem dX1_moveCell_128 : decode cX1_moveCell 128 = .ok (.goto (-83), 3) := by decide +kernel
theorem dX1_moveCell_131 : decode cX1_moveCell 131 = .ok (.aload_n 0, 1) := by decide +kernel
theorem dX1_moveCell_132 : decode cX1_moveCell 132 = .ok (.aload_n 1, 1) := by decide +kernel
theorem dX1_moveCell_133 : decode cX1_moveCell 133 = .ok (.invokevirtual 222, 3) := by decide +kernel
theorem dX1_moveCell_136 : decode cX1_moveCell 136 = .ok (.return_, 1) := by decide +kernel
theorem dX1_endAnswer_0 : decode cX1_endAnswer 0 = .ok (.aload_n 1, 1) := by decide +kernel
theorem dX1_endAnswer_1 : decode cX1_endAnswer 1 = .ok (.getfield 72, 3) := by decide +kernel
theorem dX1_endAnswer_4 : decode cX1_endAnswer 4 = .ok (.invokevirtual 106, 3) := by decide +kernel
theorem dX1_endAnswer_7 : decode cX1_endAnswer 7 = .ok (.ifCond .ne 12, 3) := by decide +kernel
theorem dX1_endAnswer_10 : decode cX1_endAnswer 10 = .ok (.aload_n 0, 1) := by decide +kernel
theorem dX1_endAnswer_11 : decode cX1_endAnswer 11 = .ok (.aload_n 1, 1) := by decide +kernel
theorem dX1_endAnswer_12 : decode cX1_endAnswer 12 = .ok (.iconst 1, 1) := by decide +kernel
theorem dX1_endAnswer_13 : decode cX1_endAnswer 13 = .ok (.invokevirtual 134, 3) := by decide +kernel
theorem dX1_endAnswer_16 : decode cX1_endAnswer 16 = .ok (.goto 10, 3) := by decide +kernel
theorem dX1_endAnswer_19 : decode cX1_endAnswer 19 = .ok (.aload_n 1, 1) := by decide +kernel
theorem dX1_endAnswer_20 : decode cX1_endAnswer 20 = .ok (.getfield 122, 3) := by decide +kernel
theorem dX1_endAnswer_23 : decode cX1_endAnswer 23 = .ok (.invokevirtual 173, 3) := by decide +kernel
theorem dX1_endAnswer_26 : decode cX1_endAnswer 26 = .ok (.return_, 1) := by decide +kernel
theorem dX1_confirmCells_0 : decode cX1_confirmCells 0 = .ok (.aload_n 0, 1) := by decide +kernel
theorem dX1_confirmCells_1 : decode cX1_confirmCells 1 = .ok (.getfield 20, 3) := by decide +kernel
theorem dX1_confirmCells_4 : decode cX1_confirmCells 4 = .ok (.aload_n 0, 1) := by decide +kernel
theorem dX1_confirmCells_5 : decode cX1_confirmCells 5 = .ok (.aload_n 1, 1) := by decide +kernel
theorem dX1_confirmCells_6 : decode cX1_confirmCells 6 = .ok (.invokevirtual 51, 3) := by decide +kernel
theorem dX1_confirmCells_9 : decode cX1_confirmCells 9 = .ok (.invokevirtual 55, 3) := by decide +kernel
theorem dX1_confirmCells_12 : decode cX1_confirmCells 12 = .ok (.istore_n 2, 1) := by decide +kernel
theorem dX1_confirmCells_13 : decode cX1_confirmCells 13 = .ok (.aload_n 1, 1) := by decide +kernel
theorem dX1_confirmCells_14 : decode cX1_confirmCells 14 = .ok (.getfield 72, 3) := by decide +kernel
theorem dX1_confirmCells_17 : decode cX1_confirmCells 17 = .ok (.iconst 2, 1) := by decide +kernel
theorem dX1_confirmCells_18 : decode cX1_confirmCells 18 = .ok (.iconst 0, 1) := by decide +kernel
theorem dX1_confirmCells_19 : decode cX1_confirmCells 19 = .ok (.iconst (-1), 1) := by decide +kernel
theorem dX1_confirmCells_20 : decode cX1_confirmCells 20 = .ok (.iconst (-1), 1) := by decide +kernel
theorem dX1_confirmCells_21 : decode cX1_confirmCells 21 = .ok (.aload_n 1, 1) := by decide +kernel
theorem dX1_confirmCells_22 : decode cX1_confirmCells 22 = .ok (.getfield 72, 3) := by decide +kernel
theorem dX1_confirmCells_25 : decode cX1_confirmCells 25 = .ok (.invokevirtual 206, 3) := by decide +kernel
theorem dX1_confirmCells_28 : decode cX1_confirmCells 28 = .ok (.invokevirtual 79, 3) := by decide +kernel
theorem dX1_confirmCells_31 : decode cX1_confirmCells 31 = .ok (.aload_n 0, 1) := by decide +kernel
theorem dX1_confirmCells_32 : decode cX1_confirmCells 32 = .ok (.aload_n 1, 1) := by decide +kernel
theorem dX1_confirmCells_33 : decode cX1_confirmCells 33 = .ok (.getfield 63, 3) := by decide +kernel
theorem dX1_confirmCells_36 : decode cX1_confirmCells 36 = .ok (.aload_n 1, 1) := by decide +kernel
theorem dX1_confirmCells_37 : decode cX1_confirmCells 37 = .ok (.getfield 72, 3) := by decide +kernel
theorem dX1_confirmCells_40 : decode cX1_confirmCells 40 = .ok (.iload_n 2, 1) := by decide +kernel
theorem dX1_confirmCells_41 : decode cX1_confirmCells 41 = .ok (.invokevirtual 218, 3) := by decide +kernel
theorem dX1_confirmCells_44 : decode cX1_confirmCells 44 = .ok (.aload_n 1, 1) := by decide +kernel
theorem dX1_confirmCells_45 : decode cX1_confirmCells 45 = .ok (.getfield 72, 3) := by decide +kernel
theorem dX1_confirmCells_48 : decode cX1_confirmCells 48 = .ok (.invokevirtual 106, 3) := by decide +kernel
theorem dX1_confirmCells_51 : decode cX1_confirmCells 51 = .ok (.ifCond .le 10, 3) := by decide +kernel
theorem dX1_confirmCells_54 : decode cX1_confirmCells 54 = .ok (.aload_n 1, 1) := by decide +kernel
theorem dX1_confirmCells_55 : decode cX1_confirmCells 55 = .ok (.getfield 63, 3) := by decide +kernel
theorem dX1_confirmCells_58 : decode cX1_confirmCells 58 = .ok (.invokevirtual 173, 3) := by decide +kernel
theorem dX1_confirmCells_61 : decode cX1_confirmCells 61 = .ok (.return_, 1) := by decide +kernel
theorem dX2_init_0 : decode cX2_init 0 = .ok (.aload_n 0, 1) := by decide +kernel
theorem dX2_init_1 : decode cX2_init 1 = .ok (.invokespecial 5, 3) := by decide +kernel
theorem dX2_init_4 : decode cX2_init 4 = .ok (.aload_n 0, 1) := by decide +kernel
theorem dX2_init_5 : decode cX2_init 5 = .ok (.aload_n 1, 1) := by decide +kernel
theorem dX2_init_6 : decode cX2_init 6 = .ok (.putfield 11, 3) := by decide +kernel
theorem dX2_init_9 : decode cX2_init 9 = .ok (.aload_n 0, 1) := by decide +kernel
theorem dX2_init_10 : decode cX2_init 10 = .ok (.iload_n 2, 1) := by decide +kernel
theorem dX2_init_11 : decode cX2_init 11 = .ok (.putfield 15, 3) := by decide +kernel
theorem dX2_init_14 : decode cX2_init 14 = .ok (.return_, 1) := by decide +kernel
theorem dX2_isUnderWay_0 : decode cX2_isUnderWay 0 = .ok (.aload_n 0, 1) := by decide +kernel
theorem dX2_isUnderWay_1 : decode cX2_isUnderWay 1 = .ok (.getfield 11, 3) := by decide +kernel
theorem dX2_isUnderWay_4 : decode cX2_isUnderWay 4 = .ok (.aload_n 0, 1) := by decide +kernel
theorem dX2_isUnderWay_5 : decode cX2_isUnderWay 5 = .ok (.getfield 15, 3) := by decide +kernel
theorem dX2_isUnderWay_8 : decode cX2_isUnderWay 8 = .ok (.iconst 0, 1) := by decide +kernel
theorem dX2_isUnderWay_9 : decode cX2_isUnderWay 9 = .ok (.iadd, 1) := by decide +kernel
theorem dX2_isUnderWay_10 : decode cX2_isUnderWay 10 = .ok (.iaload, 1) := by decide +kernel
theorem dX2_isUnderWay_11 : decode cX2_isUnderWay 11 = .ok (.iconst 1, 1) := by decide +kernel
theorem dX2_isUnderWay_12 : decode cX2_isUnderWay 12 = .ok (.if_icmp .ne 7, 3) := by decide +kernel
theorem dX2_isUnderWay_15 : decode cX2_isUnderWay 15 = .ok (.iconst 1, 1) := by decide +kernel
theorem dX2_isUnderWay_16 : decode cX2_isUnderWay 16 = .ok (.goto 4, 3) := by decide +kernel
theorem dX2_isUnderWay_19 : decode cX2_isUnderWay 19 = .ok (.iconst 0, 1) := by decide +kernel
theorem dX2_isUnderWay_20 : decode cX2_isUnderWay 20 = .ok (.ireturn, 1) := by decide +kernel
theorem dX2_drop_0 : decode cX2_drop 0 = .ok (.aload_n 0, 1) := by decide +kernel
theorem dX2_drop_1 : decode cX2_drop 1 = .ok (.getfield 11, 3) := by decide +kernel
theorem dX2_drop_4 : decode cX2_drop 4 = .ok (.aload_n 0, 1) := by decide +kernel
theorem dX2_drop_5 : decode cX2_drop 5 = .ok (.getfield 15, 3) := by decide +kernel
theorem dX2_drop_8 : decode cX2_drop 8 = .ok (.iconst 0, 1) := by decide +kernel
theorem dX2_drop_9 : decode cX2_drop 9 = .ok (.iadd, 1) := by decide +kernel
theorem dX2_drop_10 : decode cX2_drop 10 = .ok (.iconst 0, 1) := by decide +kernel
theorem dX2_drop_11 : decode cX2_drop 11 = .ok (.iastore, 1) := by decide +kernel
theorem dX2_drop_12 : decode cX2_drop 12 = .ok (.return_, 1) := by decide +kernel
theorem dX2_sort_0 : decode cX2_sort 0 = .ok (.aload_n 0, 1) := by decide +kernel
theorem dX2_sort_1 : decode cX2_sort 1 = .ok (.getfield 11, 3) := by decide +kernel
theorem dX2_sort_4 : decode cX2_sort 4 = .ok (.aload_n 0, 1) := by decide +kernel
theorem dX2_sort_5 : decode cX2_sort 5 = .ok (.getfield 15, 3) := by decide +kernel
theorem dX2_sort_8 : decode cX2_sort 8 = .ok (.iconst 1, 1) := by decide +kernel
theorem dX2_sort_9 : decode cX2_sort 9 = .ok (.iadd, 1) := by decide +kernel
theorem dX2_sort_10 : decode cX2_sort 10 = .ok (.iaload, 1) := by decide +kernel
theorem dX2_sort_11 : decode cX2_sort 11 = .ok (.ireturn, 1) := by decide +kernel
theorem dX2_kind_0 : decode cX2_kind 0 = .ok (.aload_n 0, 1) := by decide +kernel
theorem dX2_kind_1 : decode cX2_kind 1 = .ok (.getfield 11, 3) := by decide +kernel
theorem dX2_kind_4 : decode cX2_kind 4 = .ok (.aload_n 0, 1) := by decide +kernel
theorem dX2_kind_5 : decode cX2_kind 5 = .ok (.getfield 15, 3) := by decide +kernel
theorem dX2_kind_8 : decode cX2_kind 8 = .ok (.iconst 2, 1) := by decide +kernel
theorem dX2_kind_9 : decode cX2_kind 9 = .ok (.iadd, 1) := by decide +kernel
theorem dX2_kind_10 : decode cX2_kind 10 = .ok (.iaload, 1) := by decide +kernel
theorem dX2_kind_11 : decode cX2_kind 11 = .ok (.ireturn, 1) := by decide +kernel
theorem dX2_result_0 : decode cX2_result 0 = .ok (.aload_n 0, 1) := by decide +kernel
theorem dX2_result_1 : decode cX2_result 1 = .ok (.getfield 11, 3) := by decide +kernel
theorem dX2_result_4 : decode cX2_result 4 = .ok (.aload_n 0, 1) := by decide +kernel
theorem dX2_result_5 : decode cX2_result 5 = .ok (.getfield 15, 3) := by decide +kernel
theorem dX2_result_8 : decode cX2_result 8 = .ok (.iconst 3, 1) := by decide +kernel
theorem dX2_result_9 : decode cX2_result 9 = .ok (.iadd, 1) := by decide +kernel
theorem dX2_result_10 : decode cX2_result 10 = .ok (.iaload, 1) := by decide +kernel
theorem dX2_result_11 : decode cX2_result 11 = .ok (.ireturn, 1) := by decide +kernel
theorem dX2_seq_0 : decode cX2_seq 0 = .ok (.aload_n 0, 1) := by decide +kernel
theorem dX2_seq_1 : decode cX2_seq 1 = .ok (.getfield 11, 3) := by decide +kernel
theorem dX2_seq_4 : decode cX2_seq 4 = .ok (.aload_n 0, 1) := by decide +kernel
theorem dX2_seq_5 : decode cX2_seq 5 = .ok (.getfield 15, 3) := by decide +kernel
theorem dX2_seq_8 : decode cX2_seq 8 = .ok (.iconst 4, 1) := by decide +kernel
theorem dX2_seq_9 : decode cX2_seq 9 = .ok (.iadd, 1) := by decide +kernel
theorem dX2_seq_10 : decode cX2_seq 10 = .ok (.iaload, 1) := by decide +kernel
theorem dX2_seq_11 : decode cX2_seq 11 = .ok (.ireturn, 1) := by decide +kernel
theorem dX2_amount_0 : decode cX2_amount 0 = .ok (.aload_n 0, 1) := by decide +kernel
theorem dX2_amount_1 : decode cX2_amount 1 = .ok (.getfield 11, 3) := by decide +kernel
theorem dX2_amount_4 : decode cX2_amount 4 = .ok (.aload_n 0, 1) := by decide +kernel
theorem dX2_amount_5 : decode cX2_amount 5 = .ok (.getfield 15, 3) := by decide +kernel
theorem dX2_amount_8 : decode cX2_amount 8 = .ok (.iconst 5, 1) := by decide +kernel
theorem dX2_amount_9 : decode cX2_amount 9 = .ok (.iadd, 1) := by decide +kernel
theorem dX2_amount_10 : decode cX2_amount 10 = .ok (.iaload, 1) := by decide +kernel
theorem dX2_amount_11 : decode cX2_amount 11 = .ok (.ireturn, 1) := by decide +kernel
theorem dX2_send_0 : decode cX2_send 0 = .ok (.aload_n 0, 1) := by decide +kernel
theorem dX2_send_1 : decode cX2_send 1 = .ok (.getfield 11, 3) := by decide +kernel
theorem dX2_send_4 : decode cX2_send 4 = .ok (.aload_n 0, 1) := by decide +kernel
theorem dX2_send_5 : decode cX2_send 5 = .ok (.getfield 15, 3) := by decide +kernel
theorem dX2_send_8 : decode cX2_send 8 = .ok (.iconst 0, 1) := by decide +kernel
theorem dX2_send_9 : decode cX2_send 9 = .ok (.iadd, 1) := by decide +kernel
theorem dX2_send_10 : decode cX2_send 10 = .ok (.iconst 1, 1) := by decide +kernel
theorem dX2_send_11 : decode cX2_send 11 = .ok (.iastore, 1) := by decide +kernel
theorem dX2_send_12 : decode cX2_send 12 = .ok (.aload_n 0, 1) := by decide +kernel
theorem dX2_send_13 : decode cX2_send 13 = .ok (.getfield 11, 3) := by decide +kernel
theorem dX2_send_16 : decode cX2_send 16 = .ok (.aload_n 0, 1) := by decide +kernel
theorem dX2_send_17 : decode cX2_send 17 = .ok (.getfield 15, 3) := by decide +kernel
theorem dX2_send_20 : decode cX2_send 20 = .ok (.iconst 1, 1) := by decide +kernel
theorem dX2_send_21 : decode cX2_send 21 = .ok (.iadd, 1) := by decide +kernel
theorem dX2_send_22 : decode cX2_send 22 = .ok (.iload_n 1, 1) := by decide +kernel
theorem dX2_send_23 : decode cX2_send 23 = .ok (.iastore, 1) := by decide +kernel
theorem dX2_send_24 : decode cX2_send 24 = .ok (.aload_n 0, 1) := by decide +kernel
theorem dX2_send_25 : decode cX2_send 25 = .ok (.getfield 11, 3) := by decide +kernel
theorem dX2_send_28 : decode cX2_send 28 = .ok (.aload_n 0, 1) := by decide +kernel
theorem dX2_send_29 : decode cX2_send 29 = .ok (.getfield 15, 3) := by decide +kernel
theorem dX2_send_32 : decode cX2_send 32 = .ok (.iconst 2, 1) := by decide +kernel
theorem dX2_send_33 : decode cX2_send 33 = .ok (.iadd, 1) := by decide +kernel
theorem dX2_send_34 : decode cX2_send 34 = .ok (.iload_n 2, 1) := by decide +kernel
theorem dX2_send_35 : decode cX2_send 35 = .ok (.iastore, 1) := by decide +kernel
theorem dX2_send_36 : decode cX2_send 36 = .ok (.aload_n 0, 1) := by decide +kernel
theorem dX2_send_37 : decode cX2_send 37 = .ok (.getfield 11, 3) := by decide +kernel
theorem dX2_send_40 : decode cX2_send 40 = .ok (.aload_n 0, 1) := by decide +kernel
theorem dX2_send_41 : decode cX2_send 41 = .ok (.getfield 15, 3) := by decide +kernel
theorem dX2_send_44 : decode cX2_send 44 = .ok (.iconst 3, 1) := by decide +kernel
theorem dX2_send_45 : decode cX2_send 45 = .ok (.iadd, 1) := by decide +kernel
theorem dX2_send_46 : decode cX2_send 46 = .ok (.iload_n 3, 1) := by decide +kernel
theorem dX2_send_47 : decode cX2_send 47 = .ok (.iastore, 1) := by decide +kernel
theorem dX2_send_48 : decode cX2_send 48 = .ok (.aload_n 0, 1) := by decide +kernel
theorem dX2_send_49 : decode cX2_send 49 = .ok (.getfield 11, 3) := by decide +kernel
theorem dX2_send_52 : decode cX2_send 52 = .ok (.aload_n 0, 1) := by decide +kernel
theorem dX2_send_53 : decode cX2_send 53 = .ok (.getfield 15, 3) := by decide +kernel
theorem dX2_send_56 : decode cX2_send 56 = .ok (.iconst 4, 1) := by decide +kernel
theorem dX2_send_57 : decode cX2_send 57 = .ok (.iadd, 1) := by decide +kernel
theorem dX2_send_58 : decode cX2_send 58 = .ok (.iload 4, 2) := by decide +kernel
theorem dX2_send_60 : decode cX2_send 60 = .ok (.iastore, 1) := by decide +kernel
theorem dX2_send_61 : decode cX2_send 61 = .ok (.aload_n 0, 1) := by decide +kernel
theorem dX2_send_62 : decode cX2_send 62 = .ok (.getfield 11, 3) := by decide +kernel
theorem dX2_send_65 : decode cX2_send 65 = .ok (.aload_n 0, 1) := by decide +kernel
theorem dX2_send_66 : decode cX2_send 66 = .ok (.getfield 15, 3) := by decide +kernel
theorem dX2_send_69 : decode cX2_send 69 = .ok (.iconst 5, 1) := by decide +kernel
theorem dX2_send_70 : decode cX2_send 70 = .ok (.iadd, 1) := by decide +kernel
theorem dX2_send_71 : decode cX2_send 71 = .ok (.iload 5, 2) := by decide +kernel
theorem dX2_send_73 : decode cX2_send 73 = .ok (.iastore, 1) := by decide +kernel
theorem dX2_send_74 : decode cX2_send 74 = .ok (.aload_n 0, 1) := by decide +kernel
theorem dX2_send_75 : decode cX2_send 75 = .ok (.getfield 11, 3) := by decide +kernel
theorem dX2_send_78 : decode cX2_send 78 = .ok (.aload_n 0, 1) := by decide +kernel
theorem dX2_send_79 : decode cX2_send 79 = .ok (.getfield 15, 3) := by decide +kernel
theorem dX2_send_82 : decode cX2_send 82 = .ok (.bipush 6, 2) := by decide +kernel
theorem dX2_send_84 : decode cX2_send 84 = .ok (.iadd, 1) := by decide +kernel
theorem dX2_send_85 : decode cX2_send 85 = .ok (.iconst 0, 1) := by decide +kernel
theorem dX2_send_86 : decode cX2_send 86 = .ok (.iastore, 1) := by decide +kernel
theorem dX2_send_87 : decode cX2_send 87 = .ok (.return_, 1) := by decide +kernel
theorem dX2_enclose_0 : decode cX2_enclose 0 = .ok (.aload_n 0, 1) := by decide +kernel
theorem dX2_enclose_1 : decode cX2_enclose 1 = .ok (.getfield 11, 3) := by decide +kernel
theorem dX2_enclose_4 : decode cX2_enclose 4 = .ok (.aload_n 0, 1) := by decide +kernel
theorem dX2_enclose_5 : decode cX2_enclose 5 = .ok (.getfield 15, 3) := by decide +kernel
theorem dX2_enclose_8 : decode cX2_enclose 8 = .ok (.bipush 6, 2) := by decide +kernel
theorem dX2_enclose_10 : decode cX2_enclose 10 = .ok (.iadd, 1) := by decide +kernel
theorem dX2_enclose_11 : decode cX2_enclose 11 = .ok (.iaload, 1) := by decide +kernel
theorem dX2_enclose_12 : decode cX2_enclose 12 = .ok (.istore_n 2, 1) := by decide +kernel
theorem dX2_enclose_13 : decode cX2_enclose 13 = .ok (.iload_n 2, 1) := by decide +kernel
theorem dX2_enclose_14 : decode cX2_enclose 14 = .ok (.ifCond .lt 38, 3) := by decide +kernel
theorem dX2_enclose_17 : decode cX2_enclose 17 = .ok (.iload_n 2, 1) := by decide +kernel
theorem dX2_enclose_18 : decode cX2_enclose 18 = .ok (.iconst 4, 1) := by decide +kernel
theorem dX2_enclose_19 : decode cX2_enclose 19 = .ok (.if_icmp .ge 33, 3) := by decide +kernel
theorem dX2_enclose_22 : decode cX2_enclose 22 = .ok (.aload_n 0, 1) := by decide +kernel
theorem dX2_enclose_23 : decode cX2_enclose 23 = .ok (.getfield 11, 3) := by decide +kernel
theorem dX2_enclose_26 : decode cX2_enclose 26 = .ok (.aload_n 0, 1) := by decide +kernel
theorem dX2_enclose_27 : decode cX2_enclose 27 = .ok (.getfield 15, 3) := by decide +kernel
theorem dX2_enclose_30 : decode cX2_enclose 30 = .ok (.bipush 7, 2) := by decide +kernel
theorem dX2_enclose_32 : decode cX2_enclose 32 = .ok (.iadd, 1) := by decide +kernel
theorem dX2_enclose_33 : decode cX2_enclose 33 = .ok (.iload_n 2, 1) := by decide +kernel
theorem dX2_enclose_34 : decode cX2_enclose 34 = .ok (.iadd, 1) := by decide +kernel
theorem dX2_enclose_35 : decode cX2_enclose 35 = .ok (.iload_n 1, 1) := by decide +kernel
theorem dX2_enclose_36 : decode cX2_enclose 36 = .ok (.iastore, 1) := by decide +kernel
theorem dX2_enclose_37 : decode cX2_enclose 37 = .ok (.aload_n 0, 1) := by decide +kernel
theorem dX2_enclose_38 : decode cX2_enclose 38 = .ok (.getfield 11, 3) := by decide +kernel
theorem dX2_enclose_41 : decode cX2_enclose 41 = .ok (.aload_n 0, 1) := by decide +kernel
theorem dX2_enclose_42 : decode cX2_enclose 42 = .ok (.getfield 15, 3) := by decide +kernel
theorem dX2_enclose_45 : decode cX2_enclose 45 = .ok (.bipush 6, 2) := by decide +kernel
theorem dX2_enclose_47 : decode cX2_enclose 47 = .ok (.iadd, 1) := by decide +kernel
theorem dX2_enclose_48 : decode cX2_enclose 48 = .ok (.iload_n 2, 1) := by decide +kernel
theorem dX2_enclose_49 : decode cX2_enclose 49 = .ok (.iconst 1, 1) := by decide +kernel
theorem dX2_enclose_50 : decode cX2_enclose 50 = .ok (.iadd, 1) := by decide +kernel
theorem dX2_enclose_51 : decode cX2_enclose 51 = .ok (.iastore, 1) := by decide +kernel
theorem dX2_enclose_52 : decode cX2_enclose 52 = .ok (.return_, 1) := by decide +kernel
theorem dX2_cells_0 : decode cX2_cells 0 = .ok (.aload_n 0, 1) := by decide +kernel
theorem dX2_cells_1 : decode cX2_cells 1 = .ok (.getfield 11, 3) := by decide +kernel
theorem dX2_cells_4 : decode cX2_cells 4 = .ok (.aload_n 0, 1) := by decide +kernel
theorem dX2_cells_5 : decode cX2_cells 5 = .ok (.getfield 15, 3) := by decide +kernel
theorem dX2_cells_8 : decode cX2_cells 8 = .ok (.bipush 6, 2) := by decide +kernel
theorem dX2_cells_10 : decode cX2_cells 10 = .ok (.iadd, 1) := by decide +kernel
theorem dX2_cells_11 : decode cX2_cells 11 = .ok (.iaload, 1) := by decide +kernel
theorem dX2_cells_12 : decode cX2_cells 12 = .ok (.ireturn, 1) := by decide +kernel
theorem dX2_numberAt_0 : decode cX2_numberAt 0 = .ok (.iload_n 1, 1) := by decide +kernel
theorem dX2_numberAt_1 : decode cX2_numberAt 1 = .ok (.ifCond .lt 36, 3) := by decide +kernel
theorem dX2_numberAt_4 : decode cX2_numberAt 4 = .ok (.iload_n 1, 1) := by decide +kernel
theorem dX2_numberAt_5 : decode cX2_numberAt 5 = .ok (.aload_n 0, 1) := by decide +kernel
theorem dX2_numberAt_6 : decode cX2_numberAt 6 = .ok (.getfield 11, 3) := by decide +kernel
theorem dX2_numberAt_9 : decode cX2_numberAt 9 = .ok (.aload_n 0, 1) := by decide +kernel
theorem dX2_numberAt_10 : decode cX2_numberAt 10 = .ok (.getfield 15, 3) := by decide +kernel
theorem dX2_numberAt_13 : decode cX2_numberAt 13 = .ok (.bipush 6, 2) := by decide +kernel
theorem dX2_numberAt_15 : decode cX2_numberAt 15 = .ok (.iadd, 1) := by decide +kernel
theorem dX2_numberAt_16 : decode cX2_numberAt 16 = .ok (.iaload, 1) := by decide +kernel
theorem dX2_numberAt_17 : decode cX2_numberAt 17 = .ok (.if_icmp .ge 20, 3) := by decide +kernel
theorem dX2_numberAt_20 : decode cX2_numberAt 20 = .ok (.aload_n 0, 1) := by decide +kernel
theorem dX2_numberAt_21 : decode cX2_numberAt 21 = .ok (.getfield 11, 3) := by decide +kernel
theorem dX2_numberAt_24 : decode cX2_numberAt 24 = .ok (.aload_n 0, 1) := by decide +kernel
theorem dX2_numberAt_25 : decode cX2_numberAt 25 = .ok (.getfield 15, 3) := by decide +kernel
theorem dX2_numberAt_28 : decode cX2_numberAt 28 = .ok (.bipush 7, 2) := by decide +kernel
theorem dX2_numberAt_30 : decode cX2_numberAt 30 = .ok (.iadd, 1) := by decide +kernel
theorem dX2_numberAt_31 : decode cX2_numberAt 31 = .ok (.iload_n 1, 1) := by decide +kernel
theorem dX2_numberAt_32 : decode cX2_numberAt 32 = .ok (.iadd, 1) := by decide +kernel
theorem dX2_numberAt_33 : decode cX2_numberAt 33 = .ok (.iaload, 1) := by decide +kernel
theorem dX2_numberAt_34 : decode cX2_numberAt 34 = .ok (.goto 4, 3) := by decide +kernel
theorem dX2_numberAt_37 : decode cX2_numberAt 37 = .ok (.iconst (-1), 1) := by decide +kernel
theorem dX2_numberAt_38 : decode cX2_numberAt 38 = .ok (.ireturn, 1) := by decide +kernel
theorem dX2_tell_0 : decode cX2_tell 0 = .ok (.aload_n 0, 1) := by decide +kernel
theorem dX2_tell_1 : decode cX2_tell 1 = .ok (.invokevirtual 19, 3) := by decide +kernel
theorem dX2_tell_4 : decode cX2_tell 4 = .ok (.ifCond .eq 7, 3) := by decide +kernel
theorem dX2_tell_7 : decode cX2_tell 7 = .ok (.iload_n 1, 1) := by decide +kernel
theorem dX2_tell_8 : decode cX2_tell 8 = .ok (.ifCond .ge 5, 3) := by decide +kernel
theorem dX2_tell_11 : decode cX2_tell 11 = .ok (.iconst (-1), 1) := by decide +kernel
theorem dX2_tell_12 : decode cX2_tell 12 = .ok (.ireturn, 1) := by decide +kernel
theorem dX2_tell_13 : decode cX2_tell 13 = .ok (.iload_n 1, 1) := by decide +kernel
theorem dX2_tell_14 : decode cX2_tell 14 = .ok (.iconst 5, 1) := by decide +kernel
theorem dX2_tell_15 : decode cX2_tell 15 = .ok (.if_icmp .gt 19, 3) := by decide +kernel
theorem dX2_tell_18 : decode cX2_tell 18 = .ok (.aload_n 0, 1) := by decide +kernel
theorem dX2_tell_19 : decode cX2_tell 19 = .ok (.getfield 11, 3) := by decide +kernel
theorem dX2_tell_22 : decode cX2_tell 22 = .ok (.aload_n 0, 1) := by decide +kernel
theorem dX2_tell_23 : decode cX2_tell 23 = .ok (.getfield 15, 3) := by decide +kernel
theorem dX2_tell_26 : decode cX2_tell 26 = .ok (.iconst 1, 1) := by decide +kernel
theorem dX2_tell_27 : decode cX2_tell 27 = .ok (.iadd, 1) := by decide +kernel
theorem dX2_tell_28 : decode cX2_tell 28 = .ok (.iload_n 1, 1) := by decide +kernel
theorem dX2_tell_29 : decode cX2_tell 29 = .ok (.iadd, 1) := by decide +kernel
theorem dX2_tell_30 : decode cX2_tell 30 = .ok (.iaload, 1) := by decide +kernel
theorem dX2_tell_31 : decode cX2_tell 31 = .ok (.goto 11, 3) := by decide +kernel
theorem dX2_tell_34 : decode cX2_tell 34 = .ok (.aload_n 0, 1) := by decide +kernel
theorem dX2_tell_35 : decode cX2_tell 35 = .ok (.iload_n 1, 1) := by decide +kernel
theorem dX2_tell_36 : decode cX2_tell 36 = .ok (.bipush 6, 2) := by decide +kernel
theorem dX2_tell_38 : decode cX2_tell 38 = .ok (.isub, 1) := by decide +kernel
theorem dX2_tell_39 : decode cX2_tell 39 = .ok (.invokevirtual 23, 3) := by decide +kernel
theorem dX2_tell_42 : decode cX2_tell 42 = .ok (.ireturn, 1) := by decide +kernel
theorem dX3_init_0 : decode cX3_init 0 = .ok (.aload_n 0, 1) := by decide +kernel
theorem dX3_init_1 : decode cX3_init 1 = .ok (.invokespecial 9, 3) := by decide +kernel
theorem dX3_init_4 : decode cX3_init 4 = .ok (.aload_n 0, 1) := by decide +kernel
theorem dX3_init_5 : decode cX3_init 5 = .ok (.iload_n 1, 1) := by decide +kernel
theorem dX3_init_6 : decode cX3_init 6 = .ok (.putfield 15, 3) := by decide +kernel
theorem dX3_init_9 : decode cX3_init 9 = .ok (.aload_n 0, 1) := by decide +kernel
theorem dX3_init_10 : decode cX3_init 10 = .ok (.aload_n 2, 1) := by decide +kernel
theorem dX3_init_11 : decode cX3_init 11 = .ok (.putfield 19, 3) := by decide +kernel
theorem dX3_init_14 : decode cX3_init 14 = .ok (.aload_n 0, 1) := by decide +kernel
theorem dX3_init_15 : decode cX3_init 15 = .ok (.iload_n 3, 1) := by decide +kernel
theorem dX3_init_16 : decode cX3_init 16 = .ok (.putfield 23, 3) := by decide +kernel
theorem dX3_init_19 : decode cX3_init 19 = .ok (.aload_n 0, 1) := by decide +kernel
theorem dX3_init_20 : decode cX3_init 20 = .ok (.new 3, 3) := by decide +kernel
theorem dX3_init_23 : decode cX3_init 23 = .ok (.dup, 1) := by decide +kernel
theorem dX3_init_24 : decode cX3_init 24 = .ok (.aload_n 2, 1) := by decide +kernel
theorem dX3_init_25 : decode cX3_init 25 = .ok (.iload_n 3, 1) := by decide +kernel
theorem dX3_init_26 : decode cX3_init 26 = .ok (.iconst 4, 1) := by decide +kernel
theorem dX3_init_27 : decode cX3_init 27 = .ok (.iadd, 1) := by decide +kernel
theorem dX3_init_28 : decode cX3_init 28 = .ok (.invokespecial 26, 3) := by decide +kernel
theorem dX3_init_31 : decode cX3_init 31 = .ok (.putfield 29, 3) := by decide +kernel
theorem dX3_init_34 : decode cX3_init 34 = .ok (.aload_n 0, 1) := by decide +kernel
theorem dX3_init_35 : decode cX3_init 35 = .ok (.new 3, 3) := by decide +kernel
theorem dX3_init_38 : decode cX3_init 38 = .ok (.dup, 1) := by decide +kernel
theorem dX3_init_39 : decode cX3_init 39 = .ok (.aload_n 2, 1) := by decide +kernel
theorem dX3_init_40 : decode cX3_init 40 = .ok (.iload_n 3, 1) := by decide +kernel
theorem dX3_init_41 : decode cX3_init 41 = .ok (.iconst 4, 1) := by decide +kernel
theorem dX3_init_42 : decode cX3_init 42 = .ok (.iadd, 1) := by decide +kernel
theorem dX3_init_43 : decode cX3_init 43 = .ok (.bipush 28, 2) := by decide +kernel
theorem dX3_init_45 : decode cX3_init 45 = .ok (.iadd, 1) := by decide +kernel
theorem dX3_init_46 : decode cX3_init 46 = .ok (.invokespecial 26, 3) := by decide +kernel
theorem dX3_init_49 : decode cX3_init 49 = .ok (.putfield 33, 3) := by decide +kernel
theorem dX3_init_52 : decode cX3_init 52 = .ok (.aload_n 0, 1) := by decide +kernel
theorem dX3_init_53 : decode cX3_init 53 = .ok (.new 5, 3) := by decide +kernel
theorem dX3_init_56 : decode cX3_init 56 = .ok (.dup, 1) := by decide +kernel
theorem dX3_init_57 : decode cX3_init 57 = .ok (.aload_n 2, 1) := by decide +kernel
theorem dX3_init_58 : decode cX3_init 58 = .ok (.iload_n 3, 1) := by decide +kernel
theorem dX3_init_59 : decode cX3_init 59 = .ok (.iconst 4, 1) := by decide +kernel
theorem dX3_init_60 : decode cX3_init 60 = .ok (.iadd, 1) := by decide +kernel
theorem dX3_init_61 : decode cX3_init 61 = .ok (.bipush 56, 2) := by decide +kernel
theorem dX3_init_63 : decode cX3_init 63 = .ok (.iadd, 1) := by decide +kernel
theorem dX3_init_64 : decode cX3_init 64 = .ok (.invokespecial 36, 3) := by decide +kernel
theorem dX3_init_67 : decode cX3_init 67 = .ok (.putfield 37, 3) := by decide +kernel
theorem dX3_init_70 : decode cX3_init 70 = .ok (.return_, 1) := by decide +kernel
theorem dX3_tell_0 : decode cX3_tell 0 = .ok (.iload_n 1, 1) := by decide +kernel
theorem dX3_tell_1 : decode cX3_tell 1 = .ok (.tableswitch 127 3 10 #[47, 59, 71, 83, 95, 103, 111, 119], 47) := by decide +kernel
theorem dX3_tell_48 : decode cX3_tell 48 = .ok (.aload_n 0, 1) := by decide +kernel
theorem dX3_tell_49 : decode cX3_tell 49 = .ok (.getfield 19, 3) := by decide +kernel
theorem dX3_tell_52 : decode cX3_tell 52 = .ok (.aload_n 0, 1) := by decide +kernel
theorem dX3_tell_53 : decode cX3_tell 53 = .ok (.getfield 23, 3) := by decide +kernel
theorem dX3_tell_56 : decode cX3_tell 56 = .ok (.iconst 0, 1) := by decide +kernel
theorem dX3_tell_57 : decode cX3_tell 57 = .ok (.iadd, 1) := by decide +kernel
theorem dX3_tell_58 : decode cX3_tell 58 = .ok (.iaload, 1) := by decide +kernel
theorem dX3_tell_59 : decode cX3_tell 59 = .ok (.ireturn, 1) := by decide +kernel
theorem dX3_tell_60 : decode cX3_tell 60 = .ok (.aload_n 0, 1) := by decide +kernel
theorem dX3_tell_61 : decode cX3_tell 61 = .ok (.getfield 19, 3) := by decide +kernel
theorem dX3_tell_64 : decode cX3_tell 64 = .ok (.aload_n 0, 1) := by decide +kernel
theorem dX3_tell_65 : decode cX3_tell 65 = .ok (.getfield 23, 3) := by decide +kernel
theorem dX3_tell_68 : decode cX3_tell 68 = .ok (.iconst 1, 1) := by decide +kernel
theorem dX3_tell_69 : decode cX3_tell 69 = .ok (.iadd, 1) := by decide +kernel
theorem dX3_tell_70 : decode cX3_tell 70 = .ok (.iaload, 1) := by decide +kernel
theorem dX3_tell_71 : decode cX3_tell 71 = .ok (.ireturn, 1) := by decide +kernel
theorem dX3_tell_72 : decode cX3_tell 72 = .ok (.aload_n 0, 1) := by decide +kernel
theorem dX3_tell_73 : decode cX3_tell 73 = .ok (.getfield 19, 3) := by decide +kernel
theorem dX3_tell_76 : decode cX3_tell 76 = .ok (.aload_n 0, 1) := by decide +kernel
theorem dX3_tell_77 : decode cX3_tell 77 = .ok (.getfield 23, 3) := by decide +kernel
theorem dX3_tell_80 : decode cX3_tell 80 = .ok (.iconst 2, 1) := by decide +kernel
theorem dX3_tell_81 : decode cX3_tell 81 = .ok (.iadd, 1) := by decide +kernel
theorem dX3_tell_82 : decode cX3_tell 82 = .ok (.iaload, 1) := by decide +kernel
theorem dX3_tell_83 : decode cX3_tell 83 = .ok (.ireturn, 1) := by decide +kernel
theorem dX3_tell_84 : decode cX3_tell 84 = .ok (.aload_n 0, 1) := by decide +kernel
theorem dX3_tell_85 : decode cX3_tell 85 = .ok (.getfield 19, 3) := by decide +kernel
theorem dX3_tell_88 : decode cX3_tell 88 = .ok (.aload_n 0, 1) := by decide +kernel
theorem dX3_tell_89 : decode cX3_tell 89 = .ok (.getfield 23, 3) := by decide +kernel
theorem dX3_tell_92 : decode cX3_tell 92 = .ok (.iconst 3, 1) := by decide +kernel
theorem dX3_tell_93 : decode cX3_tell 93 = .ok (.iadd, 1) := by decide +kernel
theorem dX3_tell_94 : decode cX3_tell 94 = .ok (.iaload, 1) := by decide +kernel
theorem dX3_tell_95 : decode cX3_tell 95 = .ok (.ireturn, 1) := by decide +kernel
theorem dX3_tell_96 : decode cX3_tell 96 = .ok (.aload_n 0, 1) := by decide +kernel
theorem dX3_tell_97 : decode cX3_tell 97 = .ok (.getfield 29, 3) := by decide +kernel
theorem dX3_tell_100 : decode cX3_tell 100 = .ok (.invokevirtual 41, 3) := by decide +kernel
theorem dX3_tell_103 : decode cX3_tell 103 = .ok (.ireturn, 1) := by decide +kernel
theorem dX3_tell_104 : decode cX3_tell 104 = .ok (.aload_n 0, 1) := by decide +kernel
theorem dX3_tell_105 : decode cX3_tell 105 = .ok (.getfield 33, 3) := by decide +kernel
theorem dX3_tell_108 : decode cX3_tell 108 = .ok (.invokevirtual 41, 3) := by decide +kernel
theorem dX3_tell_111 : decode cX3_tell 111 = .ok (.ireturn, 1) := by decide +kernel
theorem dX3_tell_112 : decode cX3_tell 112 = .ok (.aload_n 0, 1) := by decide +kernel
theorem dX3_tell_113 : decode cX3_tell 113 = .ok (.getfield 29, 3) := by decide +kernel
theorem dX3_tell_116 : decode cX3_tell 116 = .ok (.invokevirtual 45, 3) := by decide +kernel
theorem dX3_tell_119 : decode cX3_tell 119 = .ok (.ireturn, 1) := by decide +kernel
theorem dX3_tell_120 : decode cX3_tell 120 = .ok (.aload_n 0, 1) := by decide +kernel
theorem dX3_tell_121 : decode cX3_tell 121 = .ok (.getfield 33, 3) := by decide +kernel
theorem dX3_tell_124 : decode cX3_tell 124 = .ok (.invokevirtual 45, 3) := by decide +kernel
theorem dX3_tell_127 : decode cX3_tell 127 = .ok (.ireturn, 1) := by decide +kernel
theorem dX3_tell_128 : decode cX3_tell 128 = .ok (.iconst (-1), 1) := by decide +kernel
theorem dX3_tell_129 : decode cX3_tell 129 = .ok (.ireturn, 1) := by decide +kernel
theorem dX3_setLoad_0 : decode cX3_setLoad 0 = .ok (.aload_n 0, 1) := by decide +kernel
theorem dX3_setLoad_1 : decode cX3_setLoad 1 = .ok (.getfield 19, 3) := by decide +kernel
theorem dX3_setLoad_4 : decode cX3_setLoad 4 = .ok (.aload_n 0, 1) := by decide +kernel
theorem dX3_setLoad_5 : decode cX3_setLoad 5 = .ok (.getfield 23, 3) := by decide +kernel
theorem dX3_setLoad_8 : decode cX3_setLoad 8 = .ok (.iconst 0, 1) := by decide +kernel
theorem dX3_setLoad_9 : decode cX3_setLoad 9 = .ok (.iadd, 1) := by decide +kernel
theorem dX3_setLoad_10 : decode cX3_setLoad 10 = .ok (.iload_n 1, 1) := by decide +kernel
theorem dX3_setLoad_11 : decode cX3_setLoad 11 = .ok (.iastore, 1) := by decide +kernel
theorem dX3_setLoad_12 : decode cX3_setLoad 12 = .ok (.return_, 1) := by decide +kernel
theorem dX3_queue_0 : decode cX3_queue 0 = .ok (.aload_n 0, 1) := by decide +kernel
theorem dX3_queue_1 : decode cX3_queue 1 = .ok (.getfield 19, 3) := by decide +kernel
theorem dX3_queue_4 : decode cX3_queue 4 = .ok (.aload_n 0, 1) := by decide +kernel
theorem dX3_queue_5 : decode cX3_queue 5 = .ok (.getfield 23, 3) := by decide +kernel
theorem dX3_queue_8 : decode cX3_queue 8 = .ok (.iconst 1, 1) := by decide +kernel
theorem dX3_queue_9 : decode cX3_queue 9 = .ok (.iadd, 1) := by decide +kernel
theorem dX3_queue_10 : decode cX3_queue 10 = .ok (.iaload, 1) := by decide +kernel
theorem dX3_queue_11 : decode cX3_queue 11 = .ok (.ireturn, 1) := by decide +kernel
theorem dX3_growQueue_0 : decode cX3_growQueue 0 = .ok (.aload_n 0, 1) := by decide +kernel
theorem dX3_growQueue_1 : decode cX3_growQueue 1 = .ok (.getfield 19, 3) := by decide +kernel
theorem dX3_growQueue_4 : decode cX3_growQueue 4 = .ok (.aload_n 0, 1) := by decide +kernel
theorem dX3_growQueue_5 : decode cX3_growQueue 5 = .ok (.getfield 23, 3) := by decide +kernel
theorem dX3_growQueue_8 : decode cX3_growQueue 8 = .ok (.iconst 1, 1) := by decide +kernel
theorem dX3_growQueue_9 : decode cX3_growQueue 9 = .ok (.iadd, 1) := by decide +kernel
theorem dX3_growQueue_10 : decode cX3_growQueue 10 = .ok (.bipush 99, 2) := by decide +kernel
theorem dX3_growQueue_12 : decode cX3_growQueue 12 = .ok (.aload_n 0, 1) := by decide +kernel
theorem dX3_growQueue_13 : decode cX3_growQueue 13 = .ok (.getfield 19, 3) := by decide +kernel
theorem dX3_growQueue_16 : decode cX3_growQueue 16 = .ok (.aload_n 0, 1) := by decide +kernel
theorem dX3_growQueue_17 : decode cX3_growQueue 17 = .ok (.getfield 23, 3) := by decide +kernel
theorem dX3_growQueue_20 : decode cX3_growQueue 20 = .ok (.iconst 1, 1) := by decide +kernel
theorem dX3_growQueue_21 : decode cX3_growQueue 21 = .ok (.iadd, 1) := by decide +kernel
theorem dX3_growQueue_22 : decode cX3_growQueue 22 = .ok (.iaload, 1) := by decide +kernel
theorem dX3_growQueue_23 : decode cX3_growQueue 23 = .ok (.aload_n 0, 1) := by decide +kernel
theorem dX3_growQueue_24 : decode cX3_growQueue 24 = .ok (.getfield 19, 3) := by decide +kernel
theorem dX3_growQueue_27 : decode cX3_growQueue 27 = .ok (.aload_n 0, 1) := by decide +kernel
theorem dX3_growQueue_28 : decode cX3_growQueue 28 = .ok (.getfield 23, 3) := by decide +kernel
theorem dX3_growQueue_31 : decode cX3_growQueue 31 = .ok (.iconst 0, 1) := by decide +kernel
theorem dX3_growQueue_32 : decode cX3_growQueue 32 = .ok (.iadd, 1) := by decide +kernel
theorem dX3_growQueue_33 : decode cX3_growQueue 33 = .ok (.iaload, 1) := by decide +kernel
theorem dX3_growQueue_34 : decode cX3_growQueue 34 = .ok (.iadd, 1) := by decide +kernel
theorem dX3_growQueue_35 : decode cX3_growQueue 35 = .ok (.invokestatic 48, 3) := by decide +kernel
theorem dX3_growQueue_38 : decode cX3_growQueue 38 = .ok (.iastore, 1) := by decide +kernel
theorem dX3_growQueue_39 : decode cX3_growQueue 39 = .ok (.return_, 1) := by decide +kernel
theorem dX3_noteSending_0 : decode cX3_noteSending 0 = .ok (.aload_n 0, 1) := by decide +kernel
theorem dX3_noteSending_1 : decode cX3_noteSending 1 = .ok (.getfield 19, 3) := by decide +kernel
theorem dX3_noteSending_4 : decode cX3_noteSending 4 = .ok (.aload_n 0, 1) := by decide +kernel
theorem dX3_noteSending_5 : decode cX3_noteSending 5 = .ok (.getfield 23, 3) := by decide +kernel
theorem dX3_noteSending_8 : decode cX3_noteSending 8 = .ok (.iconst 1, 1) := by decide +kernel
theorem dX3_noteSending_9 : decode cX3_noteSending 9 = .ok (.iadd, 1) := by decide +kernel
theorem dX3_noteSending_10 : decode cX3_noteSending 10 = .ok (.dup2, 1) := by decide +kernel
theorem dX3_noteSending_11 : decode cX3_noteSending 11 = .ok (.iaload, 1) := by decide +kernel
theorem dX3_noteSending_12 : decode cX3_noteSending 12 = .ok (.iload_n 2, 1) := by decide +kernel
theorem dX3_noteSending_13 : decode cX3_noteSending 13 = .ok (.isub, 1) := by decide +kernel
theorem dX3_noteSending_14 : decode cX3_noteSending 14 = .ok (.iastore, 1) := by decide +kernel
theorem dX3_noteSending_15 : decode cX3_noteSending 15 = .ok (.aload_n 0, 1) := by decide +kernel
theorem dX3_noteSending_16 : decode cX3_noteSending 16 = .ok (.getfield 19, 3) := by decide +kernel
theorem dX3_noteSending_19 : decode cX3_noteSending 19 = .ok (.aload_n 0, 1) := by decide +kernel
theorem dX3_noteSending_20 : decode cX3_noteSending 20 = .ok (.getfield 23, 3) := by decide +kernel
theorem dX3_noteSending_23 : decode cX3_noteSending 23 = .ok (.iconst 2, 1) := by decide +kernel
theorem dX3_noteSending_24 : decode cX3_noteSending 24 = .ok (.iadd, 1) := by decide +kernel
theorem dX3_noteSending_25 : decode cX3_noteSending 25 = .ok (.dup2, 1) := by decide +kernel
theorem dX3_noteSending_26 : decode cX3_noteSending 26 = .ok (.iaload, 1) := by decide +kernel
theorem dX3_noteSending_27 : decode cX3_noteSending 27 = .ok (.iload_n 1, 1) := by decide +kernel
theorem dX3_noteSending_28 : decode cX3_noteSending 28 = .ok (.iadd, 1) := by decide +kernel
theorem dX3_noteSending_29 : decode cX3_noteSending 29 = .ok (.iastore, 1) := by decide +kernel
theorem dX3_noteSending_30 : decode cX3_noteSending 30 = .ok (.aload_n 0, 1) := by decide +kernel
theorem dX3_noteSending_31 : decode cX3_noteSending 31 = .ok (.getfield 19, 3) := by decide +kernel
theorem dX3_noteSending_34 : decode cX3_noteSending 34 = .ok (.aload_n 0, 1) := by decide +kernel
theorem dX3_noteSending_35 : decode cX3_noteSending 35 = .ok (.getfield 23, 3) := by decide +kernel
theorem dX3_noteSending_38 : decode cX3_noteSending 38 = .ok (.iconst 3, 1) := by decide +kernel
theorem dX3_noteSending_39 : decode cX3_noteSending 39 = .ok (.iadd, 1) := by decide +kernel
theorem dX3_noteSending_40 : decode cX3_noteSending 40 = .ok (.dup2, 1) := by decide +kernel
theorem dX3_noteSending_41 : decode cX3_noteSending 41 = .ok (.iaload, 1) := by decide +kernel
theorem dX3_noteSending_42 : decode cX3_noteSending 42 = .ok (.aload_n 0, 1) := by decide +kernel
theorem dX3_noteSending_43 : decode cX3_noteSending 43 = .ok (.getfield 29, 3) := by decide +kernel
theorem dX3_noteSending_46 : decode cX3_noteSending 46 = .ok (.invokevirtual 45, 3) := by decide +kernel
theorem dX3_noteSending_49 : decode cX3_noteSending 49 = .ok (.iadd, 1) := by decide +kernel
theorem dX3_noteSending_50 : decode cX3_noteSending 50 = .ok (.iastore, 1) := by decide +kernel
theorem dX3_noteSending_51 : decode cX3_noteSending 51 = .ok (.return_, 1) := by decide +kernel
theorem dX3_wantsMore_0 : decode cX3_wantsMore 0 = .ok (.iconst 4, 1) := by decide +kernel
theorem dX3_wantsMore_1 : decode cX3_wantsMore 1 = .ok (.aload_n 0, 1) := by decide +kernel
theorem dX3_wantsMore_2 : decode cX3_wantsMore 2 = .ok (.getfield 19, 3) := by decide +kernel
theorem dX3_wantsMore_5 : decode cX3_wantsMore 5 = .ok (.aload_n 0, 1) := by decide +kernel
theorem dX3_wantsMore_6 : decode cX3_wantsMore 6 = .ok (.getfield 23, 3) := by decide +kernel
theorem dX3_wantsMore_9 : decode cX3_wantsMore 9 = .ok (.iconst 2, 1) := by decide +kernel
theorem dX3_wantsMore_10 : decode cX3_wantsMore 10 = .ok (.iadd, 1) := by decide +kernel
theorem dX3_wantsMore_11 : decode cX3_wantsMore 11 = .ok (.iaload, 1) := by decide +kernel
theorem dX3_wantsMore_12 : decode cX3_wantsMore 12 = .ok (.imul, 1) := by decide +kernel
theorem dX3_wantsMore_13 : decode cX3_wantsMore 13 = .ok (.iconst 3, 1) := by decide +kernel
theorem dX3_wantsMore_14 : decode cX3_wantsMore 14 = .ok (.aload_n 0, 1) := by decide +kernel
theorem dX3_wantsMore_15 : decode cX3_wantsMore 15 = .ok (.getfield 19, 3) := by decide +kernel
theorem dX3_wantsMore_18 : decode cX3_wantsMore 18 = .ok (.aload_n 0, 1) := by decide +kernel
theorem dX3_wantsMore_19 : decode cX3_wantsMore 19 = .ok (.getfield 23, 3) := by decide +kernel
theorem dX3_wantsMore_22 : decode cX3_wantsMore 22 = .ok (.iconst 3, 1) := by decide +kernel
theorem dX3_wantsMore_23 : decode cX3_wantsMore 23 = .ok (.iadd, 1) := by decide +kernel
theorem dX3_wantsMore_24 : decode cX3_wantsMore 24 = .ok (.iaload, 1) := by decide +kernel
theorem dX3_wantsMore_25 : decode cX3_wantsMore 25 = .ok (.imul, 1) := by decide +kernel
theorem dX3_wantsMore_26 : decode cX3_wantsMore 26 = .ok (.if_icmp .gt 27, 3) := by decide +kernel
theorem dX3_wantsMore_29 : decode cX3_wantsMore 29 = .ok (.aload_n 0, 1) := by decide +kernel
theorem dX3_wantsMore_30 : decode cX3_wantsMore 30 = .ok (.getfield 29, 3) := by decide +kernel
theorem dX3_wantsMore_33 : decode cX3_wantsMore 33 = .ok (.invokevirtual 45, 3) := by decide +kernel
theorem dX3_wantsMore_36 : decode cX3_wantsMore 36 = .ok (.ifCond .ne 21, 3) := by decide +kernel
theorem dX3_wantsMore_39 : decode cX3_wantsMore 39 = .ok (.aload_n 0, 1) := by decide +kernel
theorem dX3_wantsMore_40 : decode cX3_wantsMore 40 = .ok (.getfield 19, 3) := by decide +kernel
theorem dX3_wantsMore_43 : decode cX3_wantsMore 43 = .ok (.aload_n 0, 1) := by decide +kernel
theorem dX3_wantsMore_44 : decode cX3_wantsMore 44 = .ok (.getfield 23, 3) := by decide +kernel
theorem dX3_wantsMore_47 : decode cX3_wantsMore 47 = .ok (.iconst 1, 1) := by decide +kernel
theorem dX3_wantsMore_48 : decode cX3_wantsMore 48 = .ok (.iadd, 1) := by decide +kernel
theorem dX3_wantsMore_49 : decode cX3_wantsMore 49 = .ok (.iaload, 1) := by decide +kernel
theorem dX3_wantsMore_50 : decode cX3_wantsMore 50 = .ok (.ifCond .le 7, 3) := by decide +kernel
theorem dX3_wantsMore_53 : decode cX3_wantsMore 53 = .ok (.iconst 1, 1) := by decide +kernel
theorem dX3_wantsMore_54 : decode cX3_wantsMore 54 = .ok (.goto 4, 3) := by decide +kernel
theorem dX3_wantsMore_57 : decode cX3_wantsMore 57 = .ok (.iconst 0, 1) := by decide +kernel
theorem dX3_wantsMore_58 : decode cX3_wantsMore 58 = .ok (.ireturn, 1) := by decide +kernel
theorem dX3_wantsLess_0 : decode cX3_wantsLess 0 = .ok (.iconst 4, 1) := by decide +kernel
theorem dX3_wantsLess_1 : decode cX3_wantsLess 1 = .ok (.aload_n 0, 1) := by decide +kernel
theorem dX3_wantsLess_2 : decode cX3_wantsLess 2 = .ok (.getfield 19, 3) := by decide +kernel
theorem dX3_wantsLess_5 : decode cX3_wantsLess 5 = .ok (.aload_n 0, 1) := by decide +kernel
theorem dX3_wantsLess_6 : decode cX3_wantsLess 6 = .ok (.getfield 23, 3) := by decide +kernel
theorem dX3_wantsLess_9 : decode cX3_wantsLess 9 = .ok (.iconst 2, 1) := by decide +kernel
theorem dX3_wantsLess_10 : decode cX3_wantsLess 10 = .ok (.iadd, 1) := by decide +kernel
theorem dX3_wantsLess_11 : decode cX3_wantsLess 11 = .ok (.iaload, 1) := by decide +kernel
theorem dX3_wantsLess_12 : decode cX3_wantsLess 12 = .ok (.imul, 1) := by decide +kernel
theorem dX3_wantsLess_13 : decode cX3_wantsLess 13 = .ok (.aload_n 0, 1) := by decide +kernel
theorem dX3_wantsLess_14 : decode cX3_wantsLess 14 = .ok (.getfield 19, 3) := by decide +kernel
theorem dX3_wantsLess_17 : decode cX3_wantsLess 17 = .ok (.aload_n 0, 1) := by decide +kernel
theorem dX3_wantsLess_18 : decode cX3_wantsLess 18 = .ok (.getfield 23, 3) := by decide +kernel
theorem dX3_wantsLess_21 : decode cX3_wantsLess 21 = .ok (.iconst 3, 1) := by decide +kernel
theorem dX3_wantsLess_22 : decode cX3_wantsLess 22 = .ok (.iadd, 1) := by decide +kernel
theorem dX3_wantsLess_23 : decode cX3_wantsLess 23 = .ok (.iaload, 1) := by decide +kernel
theorem dX3_wantsLess_24 : decode cX3_wantsLess 24 = .ok (.if_icmp .ge 18, 3) := by decide +kernel
theorem dX3_wantsLess_27 : decode cX3_wantsLess 27 = .ok (.aload_n 0, 1) := by decide +kernel
theorem dX3_wantsLess_28 : decode cX3_wantsLess 28 = .ok (.getfield 29, 3) := by decide +kernel
theorem dX3_wantsLess_31 : decode cX3_wantsLess 31 = .ok (.invokevirtual 45, 3) := by decide +kernel
theorem dX3_wantsLess_34 : decode cX3_wantsLess 34 = .ok (.iconst 2, 1) := by decide +kernel
theorem dX3_wantsLess_35 : decode cX3_wantsLess 35 = .ok (.if_icmp .lt 7, 3) := by decide +kernel
theorem dX3_wantsLess_38 : decode cX3_wantsLess 38 = .ok (.iconst 1, 1) := by decide +kernel
theorem dX3_wantsLess_39 : decode cX3_wantsLess 39 = .ok (.goto 4, 3) := by decide +kernel
theorem dX3_wantsLess_42 : decode cX3_wantsLess 42 = .ok (.iconst 0, 1) := by decide +kernel
theorem dX3_wantsLess_43 : decode cX3_wantsLess 43 = .ok (.ireturn, 1) := by decide +kernel
theorem dX3_endWindow_0 : decode cX3_endWindow 0 = .ok (.aload_n 0, 1) := by decide +kernel
theorem dX3_endWindow_1 : decode cX3_endWindow 1 = .ok (.getfield 19, 3) := by decide +kernel
theorem dX3_endWindow_4 : decode cX3_endWindow 4 = .ok (.aload_n 0, 1) := by decide +kernel
theorem dX3_endWindow_5 : decode cX3_endWindow 5 = .ok (.getfield 23, 3) := by decide +kernel
theorem dX3_endWindow_8 : decode cX3_endWindow 8 = .ok (.iconst 2, 1) := by decide +kernel
theorem dX3_endWindow_9 : decode cX3_endWindow 9 = .ok (.iadd, 1) := by decide +kernel
theorem dX3_endWindow_10 : decode cX3_endWindow 10 = .ok (.iconst 0, 1) := by decide +kernel
theorem dX3_endWindow_11 : decode cX3_endWindow 11 = .ok (.iastore, 1) := by decide +kernel
theorem dX3_endWindow_12 : decode cX3_endWindow 12 = .ok (.aload_n 0, 1) := by decide +kernel
theorem dX3_endWindow_13 : decode cX3_endWindow 13 = .ok (.getfield 19, 3) := by decide +kernel
theorem dX3_endWindow_16 : decode cX3_endWindow 16 = .ok (.aload_n 0, 1) := by decide +kernel
theorem dX3_endWindow_17 : decode cX3_endWindow 17 = .ok (.getfield 23, 3) := by decide +kernel
theorem dX3_endWindow_20 : decode cX3_endWindow 20 = .ok (.iconst 3, 1) := by decide +kernel
theorem dX3_endWindow_21 : decode cX3_endWindow 21 = .ok (.iadd, 1) := by decide +kernel
theorem dX3_endWindow_22 : decode cX3_endWindow 22 = .ok (.iconst 0, 1) := by decide +kernel
theorem dX3_endWindow_23 : decode cX3_endWindow 23 = .ok (.iastore, 1) := by decide +kernel
theorem dX3_endWindow_24 : decode cX3_endWindow 24 = .ok (.return_, 1) := by decide +kernel
theorem dX3_isIdle_0 : decode cX3_isIdle 0 = .ok (.aload_n 0, 1) := by decide +kernel
theorem dX3_isIdle_1 : decode cX3_isIdle 1 = .ok (.getfield 29, 3) := by decide +kernel
theorem dX3_isIdle_4 : decode cX3_isIdle 4 = .ok (.invokevirtual 54, 3) := by decide +kernel
theorem dX3_isIdle_7 : decode cX3_isIdle 7 = .ok (.ifCond .ne 17, 3) := by decide +kernel
theorem dX3_isIdle_10 : decode cX3_isIdle 10 = .ok (.aload_n 0, 1) := by decide +kernel
theorem dX3_isIdle_11 : decode cX3_isIdle 11 = .ok (.getfield 37, 3) := by decide +kernel
theorem dX3_isIdle_14 : decode cX3_isIdle 14 = .ok (.invokevirtual 58, 3) := by decide +kernel
theorem dX3_isIdle_17 : decode cX3_isIdle 17 = .ok (.ifCond .ne 7, 3) := by decide +kernel
theorem dX3_isIdle_20 : decode cX3_isIdle 20 = .ok (.iconst 1, 1) := by decide +kernel
theorem dX3_isIdle_21 : decode cX3_isIdle 21 = .ok (.goto 4, 3) := by decide +kernel
theorem dX3_isIdle_24 : decode cX3_isIdle 24 = .ok (.iconst 0, 1) := by decide +kernel
theorem dX3_isIdle_25 : decode cX3_isIdle 25 = .ok (.ireturn, 1) := by decide +kernel
theorem dX3_agrees_0 : decode cX3_agrees 0 = .ok (.aload_n 0, 1) := by decide +kernel
theorem dX3_agrees_1 : decode cX3_agrees 1 = .ok (.getfield 29, 3) := by decide +kernel
theorem dX3_agrees_4 : decode cX3_agrees 4 = .ok (.invokevirtual 41, 3) := by decide +kernel
theorem dX3_agrees_7 : decode cX3_agrees 7 = .ok (.aload_n 0, 1) := by decide +kernel
theorem dX3_agrees_8 : decode cX3_agrees 8 = .ok (.getfield 33, 3) := by decide +kernel
theorem dX3_agrees_11 : decode cX3_agrees 11 = .ok (.invokevirtual 41, 3) := by decide +kernel
theorem dX3_agrees_14 : decode cX3_agrees 14 = .ok (.if_icmp .ne 21, 3) := by decide +kernel
theorem dX3_agrees_17 : decode cX3_agrees 17 = .ok (.aload_n 0, 1) := by decide +kernel
theorem dX3_agrees_18 : decode cX3_agrees 18 = .ok (.getfield 29, 3) := by decide +kernel
theorem dX3_agrees_21 : decode cX3_agrees 21 = .ok (.aload_n 0, 1) := by decide +kernel
theorem dX3_agrees_22 : decode cX3_agrees 22 = .ok (.getfield 33, 3) := by decide +kernel
theorem dX3_agrees_25 : decode cX3_agrees 25 = .ok (.invokevirtual 61, 3) := by decide +kernel
theorem dX3_agrees_28 : decode cX3_agrees 28 = .ok (.ifCond .eq 7, 3) := by decide +kernel
theorem dX3_agrees_31 : decode cX3_agrees 31 = .ok (.iconst 1, 1) := by decide +kernel
theorem dX3_agrees_32 : decode cX3_agrees 32 = .ok (.goto 4, 3) := by decide +kernel
theorem dX3_agrees_35 : decode cX3_agrees 35 = .ok (.iconst 0, 1) := by decide +kernel
theorem dX3_agrees_36 : decode cX3_agrees 36 = .ok (.ireturn, 1) := by decide +kernel
theorem dX4_init_0 : decode cX4_init 0 = .ok (.aload_n 0, 1) := by decide +kernel
theorem dX4_init_1 : decode cX4_init 1 = .ok (.invokespecial 7, 3) := by decide +kernel
theorem dX4_init_4 : decode cX4_init 4 = .ok (.aload_n 0, 1) := by decide +kernel
theorem dX4_init_5 : decode cX4_init 5 = .ok (.sipush 429, 3) := by decide +kernel
theorem dX4_init_8 : decode cX4_init 8 = .ok (.newarray .int, 2) := by decide +kernel
theorem dX4_init_10 : decode cX4_init 10 = .ok (.putfield 13, 3) := by decide +kernel
theorem dX4_init_13 : decode cX4_init 13 = .ok (.aload_n 0, 1) := by decide +kernel
theorem dX4_init_14 : decode cX4_init 14 = .ok (.bipush 6, 2) := by decide +kernel
theorem dX4_init_16 : decode cX4_init 16 = .ok (.anewarray 3, 3) := by decide +kernel
theorem dX4_init_19 : decode cX4_init 19 = .ok (.putfield 17, 3) := by decide +kernel
theorem dX4_init_22 : decode cX4_init 22 = .ok (.aload_n 0, 1) := by decide +kernel
theorem dX4_init_23 : decode cX4_init 23 = .ok (.aload_n 1, 1) := by decide +kernel
theorem dX4_init_24 : decode cX4_init 24 = .ok (.putfield 21, 3) := by decide +kernel
theorem dX4_init_27 : decode cX4_init 27 = .ok (.iconst 0, 1) := by decide +kernel
theorem dX4_init_28 : decode cX4_init 28 = .ok (.istore_n 2, 1) := by decide +kernel
theorem dX4_init_29 : decode cX4_init 29 = .ok (.iload_n 2, 1) := by decide +kernel
theorem dX4_init_30 : decode cX4_init 30 = .ok (.bipush 6, 2) := by decide +kernel
theorem dX4_init_32 : decode cX4_init 32 = .ok (.if_icmp .ge 33, 3) := by decide +kernel
theorem dX4_init_35 : decode cX4_init 35 = .ok (.aload_n 0, 1) := by decide +kernel
theorem dX4_init_36 : decode cX4_init 36 = .ok (.getfield 17, 3) := by decide +kernel
theorem dX4_init_39 : decode cX4_init 39 = .ok (.iload_n 2, 1) := by decide +kernel
theorem dX4_init_40 : decode cX4_init 40 = .ok (.new 3, 3) := by decide +kernel
theorem dX4_init_43 : decode cX4_init 43 = .ok (.dup, 1) := by decide +kernel
theorem dX4_init_44 : decode cX4_init 44 = .ok (.iload_n 2, 1) := by decide +kernel
theorem dX4_init_45 : decode cX4_init 45 = .ok (.aload_n 0, 1) := by decide +kernel
theorem dX4_init_46 : decode cX4_init 46 = .ok (.getfield 13, 3) := by decide +kernel
theorem dX4_init_49 : decode cX4_init 49 = .ok (.iconst 3, 1) := by decide +kernel
theorem dX4_init_50 : decode cX4_init 50 = .ok (.iload_n 2, 1) := by decide +kernel
theorem dX4_init_51 : decode cX4_init 51 = .ok (.bipush 71, 2) := by decide +kernel
theorem dX4_init_53 : decode cX4_init 53 = .ok (.imul, 1) := by decide +kernel
theorem dX4_init_54 : decode cX4_init 54 = .ok (.iadd, 1) := by decide +kernel
theorem dX4_init_55 : decode cX4_init 55 = .ok (.invokespecial 25, 3) := by decide +kernel
theorem dX4_init_58 : decode cX4_init 58 = .ok (.aastore, 1) := by decide +kernel
theorem dX4_init_59 : decode cX4_init 59 = .ok (.iinc 2 1, 3) := by decide +kernel
theorem dX4_init_62 : decode cX4_init 62 = .ok (.goto (-33), 3) := by decide +kernel
theorem dX4_init_65 : decode cX4_init 65 = .ok (.return_, 1) := by decide +kernel
theorem dX4_startAnew_0 : decode cX4_startAnew 0 = .ok (.aload_n 0, 1) := by decide +kernel
theorem dX4_startAnew_1 : decode cX4_startAnew 1 = .ok (.getfield 13, 3) := by decide +kernel
theorem dX4_startAnew_4 : decode cX4_startAnew 4 = .ok (.iconst 0, 1) := by decide +kernel
theorem dX4_startAnew_5 : decode cX4_startAnew 5 = .ok (.invokestatic 28, 3) := by decide +kernel
theorem dX4_startAnew_8 : decode cX4_startAnew 8 = .ok (.aload_n 0, 1) := by decide +kernel
theorem dX4_startAnew_9 : decode cX4_startAnew 9 = .ok (.getfield 13, 3) := by decide +kernel
theorem dX4_startAnew_12 : decode cX4_startAnew 12 = .ok (.iconst 1, 1) := by decide +kernel
theorem dX4_startAnew_13 : decode cX4_startAnew 13 = .ok (.aload_n 0, 1) := by decide +kernel
theorem dX4_startAnew_14 : decode cX4_startAnew 14 = .ok (.getfield 21, 3) := by decide +kernel
theorem dX4_startAnew_17 : decode cX4_startAnew 17 = .ok (.iconst 4, 1) := by decide +kernel
theorem dX4_startAnew_18 : decode cX4_startAnew 18 = .ok (.invokevirtual 36, 3) := by decide +kernel
theorem dX4_startAnew_21 : decode cX4_startAnew 21 = .ok (.iastore, 1) := by decide +kernel
theorem dX4_startAnew_22 : decode cX4_startAnew 22 = .ok (.iconst 0, 1) := by decide +kernel
theorem dX4_startAnew_23 : decode cX4_startAnew 23 = .ok (.istore_n 1, 1) := by decide +kernel
theorem dX4_startAnew_24 : decode cX4_startAnew 24 = .ok (.iload_n 1, 1) := by decide +kernel
theorem dX4_startAnew_25 : decode cX4_startAnew 25 = .ok (.aload_n 0, 1) := by decide +kernel
theorem dX4_startAnew_26 : decode cX4_startAnew 26 = .ok (.getfield 21, 3) := by decide +kernel
theorem dX4_startAnew_29 : decode cX4_startAnew 29 = .ok (.invokevirtual 40, 3) := by decide +kernel
theorem dX4_startAnew_32 : decode cX4_startAnew 32 = .ok (.if_icmp .ge 27, 3) := by decide +kernel
theorem dX4_startAnew_35 : decode cX4_startAnew 35 = .ok (.aload_n 0, 1) := by decide +kernel
theorem dX4_startAnew_36 : decode cX4_startAnew 36 = .ok (.getfield 17, 3) := by decide +kernel
theorem dX4_startAnew_39 : decode cX4_startAnew 39 = .ok (.iload_n 1, 1) := by decide +kernel
theorem dX4_startAnew_40 : decode cX4_startAnew 40 = .ok (.aaload, 1) := by decide +kernel
theorem dX4_startAnew_41 : decode cX4_startAnew 41 = .ok (.aload_n 0, 1) := by decide +kernel
theorem dX4_startAnew_42 : decode cX4_startAnew 42 = .ok (.getfield 21, 3) := by decide +kernel
theorem dX4_startAnew_45 : decode cX4_startAnew 45 = .ok (.iload_n 1, 1) := by decide +kernel
theorem dX4_startAnew_46 : decode cX4_startAnew 46 = .ok (.iconst 3, 1) := by decide +kernel
theorem dX4_startAnew_47 : decode cX4_startAnew 47 = .ok (.invokevirtual 44, 3) := by decide +kernel
theorem dX4_startAnew_50 : decode cX4_startAnew 50 = .ok (.invokevirtual 48, 3) := by decide +kernel
theorem dX4_startAnew_53 : decode cX4_startAnew 53 = .ok (.iinc 1 1, 3) := by decide +kernel
theorem dX4_startAnew_56 : decode cX4_startAnew 56 = .ok (.goto (-32), 3) := by decide +kernel
theorem dX4_startAnew_59 : decode cX4_startAnew 59 = .ok (.return_, 1) := by decide +kernel
theorem dX4_frame_0 : decode cX4_frame 0 = .ok (.aload_n 0, 1) := by decide +kernel
theorem dX4_frame_1 : decode cX4_frame 1 = .ok (.getfield 13, 3) := by decide +kernel
theorem dX4_frame_4 : decode cX4_frame 4 = .ok (.iconst 0, 1) := by decide +kernel
theorem dX4_frame_5 : decode cX4_frame 5 = .ok (.iaload, 1) := by decide +kernel
theorem dX4_frame_6 : decode cX4_frame 6 = .ok (.ireturn, 1) := by decide +kernel
theorem dX4_goToNextFrame_0 : decode cX4_goToNextFrame 0 = .ok (.aload_n 0, 1) := by decide +kernel
theorem dX4_goToNextFrame_1 : decode cX4_goToNextFrame 1 = .ok (.getfield 13, 3) := by decide +kernel
theorem dX4_goToNextFrame_4 : decode cX4_goToNextFrame 4 = .ok (.iconst 0, 1) := by decide +kernel
theorem dX4_goToNextFrame_5 : decode cX4_goToNextFrame 5 = .ok (.dup2, 1) := by decide +kernel
theorem dX4_goToNextFrame_6 : decode cX4_goToNextFrame 6 = .ok (.iaload, 1) := by decide +kernel
theorem dX4_goToNextFrame_7 : decode cX4_goToNextFrame 7 = .ok (.iconst 1, 1) := by decide +kernel
theorem dX4_goToNextFrame_8 : decode cX4_goToNextFrame 8 = .ok (.iadd, 1) := by decide +kernel
theorem dX4_goToNextFrame_9 : decode cX4_goToNextFrame 9 = .ok (.iastore, 1) := by decide +kernel
theorem dX4_goToNextFrame_10 : decode cX4_goToNextFrame 10 = .ok (.return_, 1) := by decide +kernel
theorem dX4_autoNow_0 : decode cX4_autoNow 0 = .ok (.aload_n 0, 1) := by decide +kernel
theorem dX4_autoNow_1 : decode cX4_autoNow 1 = .ok (.getfield 13, 3) := by decide +kernel
theorem dX4_autoNow_4 : decode cX4_autoNow 4 = .ok (.iconst 1, 1) := by decide +kernel
theorem dX4_autoNow_5 : decode cX4_autoNow 5 = .ok (.iaload, 1) := by decide +kernel
theorem dX4_autoNow_6 : decode cX4_autoNow 6 = .ok (.ireturn, 1) := by decide +kernel
theorem dX4_turnAuto_0 : decode cX4_turnAuto 0 = .ok (.aload_n 0, 1) := by decide +kernel
theorem dX4_turnAuto_1 : decode cX4_turnAuto 1 = .ok (.getfield 13, 3) := by decide +kernel
theorem dX4_turnAuto_4 : decode cX4_turnAuto 4 = .ok (.iconst 1, 1) := by decide +kernel
theorem dX4_turnAuto_5 : decode cX4_turnAuto 5 = .ok (.iconst 1, 1) := by decide +kernel
theorem dX4_turnAuto_6 : decode cX4_turnAuto 6 = .ok (.aload_n 0, 1) := by decide +kernel
theorem dX4_turnAuto_7 : decode cX4_turnAuto 7 = .ok (.getfield 13, 3) := by decide +kernel
theorem dX4_turnAuto_10 : decode cX4_turnAuto 10 = .ok (.iconst 1, 1) := by decide +kernel
theorem dX4_turnAuto_11 : decode cX4_turnAuto 11 = .ok (.iaload, 1) := by decide +kernel
theorem dX4_turnAuto_12 : decode cX4_turnAuto 12 = .ok (.isub, 1) := by decide +kernel
theorem dX4_turnAuto_13 : decode cX4_turnAuto 13 = .ok (.iastore, 1) := by decide +kernel
theorem dX4_turnAuto_14 : decode cX4_turnAuto 14 = .ok (.return_, 1) := by decide +kernel
theorem dX4_turnJam_0 : decode cX4_turnJam 0 = .ok (.aload_n 0, 1) := by decide +kernel
theorem dX4_turnJam_1 : decode cX4_turnJam 1 = .ok (.getfield 13, 3) := by decide +kernel
theorem dX4_turnJam_4 : decode cX4_turnJam 4 = .ok (.iconst 2, 1) := by decide +kernel
theorem dX4_turnJam_5 : decode cX4_turnJam 5 = .ok (.dup2, 1) := by decide +kernel
theorem dX4_turnJam_6 : decode cX4_turnJam 6 = .ok (.iaload, 1) := by decide +kernel
theorem dX4_turnJam_7 : decode cX4_turnJam 7 = .ok (.iconst 1, 1) := by decide +kernel
theorem dX4_turnJam_8 : decode cX4_turnJam 8 = .ok (.iload_n 1, 1) := by decide +kernel
theorem dX4_turnJam_9 : decode cX4_turnJam 9 = .ok (.ishl, 1) := by decide +kernel
theorem dX4_turnJam_10 : decode cX4_turnJam 10 = .ok (.ixor, 1) := by decide +kernel
theorem dX4_turnJam_11 : decode cX4_turnJam 11 = .ok (.iastore, 1) := by decide +kernel
theorem dX4_turnJam_12 : decode cX4_turnJam 12 = .ok (.return_, 1) := by decide +kernel
theorem dX4_isJammed_0 : decode cX4_isJammed 0 = .ok (.aload_n 0, 1) := by decide +kernel
theorem dX4_isJammed_1 : decode cX4_isJammed 1 = .ok (.getfield 13, 3) := by decide +kernel
theorem dX4_isJammed_4 : decode cX4_isJammed 4 = .ok (.iconst 2, 1) := by decide +kernel
theorem dX4_isJammed_5 : decode cX4_isJammed 5 = .ok (.iaload, 1) := by decide +kernel
theorem dX4_isJammed_6 : decode cX4_isJammed 6 = .ok (.iload_n 1, 1) := by decide +kernel
theorem dX4_isJammed_7 : decode cX4_isJammed 7 = .ok (.ishr, 1) := by decide +kernel
theorem dX4_isJammed_8 : decode cX4_isJammed 8 = .ok (.iconst 1, 1) := by decide +kernel
theorem dX4_isJammed_9 : decode cX4_isJammed 9 = .ok (.iand, 1) := by decide +kernel
theorem dX4_isJammed_10 : decode cX4_isJammed 10 = .ok (.iconst 1, 1) := by decide +kernel
theorem dX4_isJammed_11 : decode cX4_isJammed 11 = .ok (.if_icmp .ne 7, 3) := by decide +kernel
theorem dX4_isJammed_14 : decode cX4_isJammed 14 = .ok (.iconst 1, 1) := by decide +kernel
theorem dX4_isJammed_15 : decode cX4_isJammed 15 = .ok (.goto 4, 3) := by decide +kernel
theorem dX4_isJammed_18 : decode cX4_isJammed 18 = .ok (.iconst 0, 1) := by decide +kernel
theorem dX4_isJammed_19 : decode cX4_isJammed 19 = .ok (.ireturn, 1) := by decide +kernel
theorem dX4_jammedBits_0 : decode cX4_jammedBits 0 = .ok (.aload_n 0, 1) := by decide +kernel
theorem dX4_jammedBits_1 : decode cX4_jammedBits 1 = .ok (.getfield 13, 3) := by decide +kernel
theorem dX4_jammedBits_4 : decode cX4_jammedBits 4 = .ok (.iconst 2, 1) := by decide +kernel
theorem dX4_jammedBits_5 : decode cX4_jammedBits 5 = .ok (.iaload, 1) := by decide +kernel
theorem dX4_jammedBits_6 : decode cX4_jammedBits 6 = .ok (.ireturn, 1) := by decide +kernel
theorem dX4_loseLetters_0 : decode cX4_loseLetters 0 = .ok (.iconst 0, 1) := by decide +kernel
theorem dX4_loseLetters_1 : decode cX4_loseLetters 1 = .ok (.istore_n 1, 1) := by decide +kernel
theorem dX4_loseLetters_2 : decode cX4_loseLetters 2 = .ok (.iload_n 1, 1) := by decide +kernel
theorem dX4_loseLetters_3 : decode cX4_loseLetters 3 = .ok (.aload_n 0, 1) := by decide +kernel
theorem dX4_loseLetters_4 : decode cX4_loseLetters 4 = .ok (.getfield 21, 3) := by decide +kernel
theorem dX4_loseLetters_7 : decode cX4_loseLetters 7 = .ok (.invokevirtual 40, 3) := by decide +kernel
theorem dX4_loseLetters_10 : decode cX4_loseLetters 10 = .ok (.if_icmp .ge 21, 3) := by decide +kernel
theorem dX4_loseLetters_13 : decode cX4_loseLetters 13 = .ok (.aload_n 0, 1) := by decide +kernel
theorem dX4_loseLetters_14 : decode cX4_loseLetters 14 = .ok (.getfield 17, 3) := by decide +kernel
theorem dX4_loseLetters_17 : decode cX4_loseLetters 17 = .ok (.iload_n 1, 1) := by decide +kernel
theorem dX4_loseLetters_18 : decode cX4_loseLetters 18 = .ok (.aaload, 1) := by decide +kernel
theorem dX4_loseLetters_19 : decode cX4_loseLetters 19 = .ok (.getfield 52, 3) := by decide +kernel
theorem dX4_loseLetters_22 : decode cX4_loseLetters 22 = .ok (.invokevirtual 56, 3) := by decide +kernel
theorem dX4_loseLetters_25 : decode cX4_loseLetters 25 = .ok (.iinc 1 1, 3) := by decide +kernel
theorem dX4_loseLetters_28 : decode cX4_loseLetters 28 = .ok (.goto (-26), 3) := by decide +kernel
theorem dX4_loseLetters_31 : decode cX4_loseLetters 31 = .ok (.return_, 1) := by decide +kernel
theorem dX4_allAgree_0 : decode cX4_allAgree 0 = .ok (.iconst 0, 1) := by decide +kernel
theorem dX4_allAgree_1 : decode cX4_allAgree 1 = .ok (.istore_n 1, 1) := by decide +kernel
theorem dX4_allAgree_2 : decode cX4_allAgree 2 = .ok (.iload_n 1, 1) := by decide +kernel
theorem dX4_allAgree_3 : decode cX4_allAgree 3 = .ok (.aload_n 0, 1) := by decide +kernel
theorem dX4_allAgree_4 : decode cX4_allAgree 4 = .ok (.getfield 21, 3) := by decide +kernel
theorem dX4_allAgree_7 : decode cX4_allAgree 7 = .ok (.invokevirtual 40, 3) := by decide +kernel
theorem dX4_allAgree_10 : decode cX4_allAgree 10 = .ok (.if_icmp .ge 23, 3) := by decide +kernel
theorem dX4_allAgree_13 : decode cX4_allAgree 13 = .ok (.aload_n 0, 1) := by decide +kernel
theorem dX4_allAgree_14 : decode cX4_allAgree 14 = .ok (.getfield 17, 3) := by decide +kernel
theorem dX4_allAgree_17 : decode cX4_allAgree 17 = .ok (.iload_n 1, 1) := by decide +kernel
theorem dX4_allAgree_18 : decode cX4_allAgree 18 = .ok (.aaload, 1) := by decide +kernel
theorem dX4_allAgree_19 : decode cX4_allAgree 19 = .ok (.invokevirtual 61, 3) := by decide +kernel
theorem dX4_allAgree_22 : decode cX4_allAgree 22 = .ok (.ifCond .ne 5, 3) := by decide +kernel
theorem dX4_allAgree_25 : decode cX4_allAgree 25 = .ok (.iconst 0, 1) := by decide +kernel
theorem dX4_allAgree_26 : decode cX4_allAgree 26 = .ok (.ireturn, 1) := by decide +kernel
theorem dX4_allAgree_27 : decode cX4_allAgree 27 = .ok (.iinc 1 1, 3) := by decide +kernel
theorem dX4_allAgree_30 : decode cX4_allAgree 30 = .ok (.goto (-28), 3) := by decide +kernel
theorem dX4_allAgree_33 : decode cX4_allAgree 33 = .ok (.iconst 1, 1) := by decide +kernel
theorem dX4_allAgree_34 : decode cX4_allAgree 34 = .ok (.ireturn, 1) := by decide +kernel
theorem dX4_takenAt_0 : decode cX4_takenAt 0 = .ok (.iconst 0, 1) := by decide +kernel
theorem dX4_takenAt_1 : decode cX4_takenAt 1 = .ok (.istore_n 2, 1) := by decide +kernel
theorem dX4_takenAt_2 : decode cX4_takenAt 2 = .ok (.iconst 0, 1) := by decide +kernel
theorem dX4_takenAt_3 : decode cX4_takenAt 3 = .ok (.istore_n 3, 1) := by decide +kernel
theorem dX4_takenAt_4 : decode cX4_takenAt 4 = .ok (.iload_n 3, 1) := by decide +kernel
theorem dX4_takenAt_5 : decode cX4_takenAt 5 = .ok (.aload_n 0, 1) := by decide +kernel
theorem dX4_takenAt_6 : decode cX4_takenAt 6 = .ok (.getfield 21, 3) := by decide +kernel
theorem dX4_takenAt_9 : decode cX4_takenAt 9 = .ok (.invokevirtual 40, 3) := by decide +kernel
theorem dX4_takenAt_12 : decode cX4_takenAt 12 = .ok (.if_icmp .ge 65, 3) := by decide +kernel
theorem dX4_takenAt_15 : decode cX4_takenAt 15 = .ok (.aload_n 0, 1) := by decide +kernel
theorem dX4_takenAt_16 : decode cX4_takenAt 16 = .ok (.getfield 21, 3) := by decide +kernel
theorem dX4_takenAt_19 : decode cX4_takenAt 19 = .ok (.iload_n 3, 1) := by decide +kernel
theorem dX4_takenAt_20 : decode cX4_takenAt 20 = .ok (.iconst 0, 1) := by decide +kernel
theorem dX4_takenAt_21 : decode cX4_takenAt 21 = .ok (.invokevirtual 44, 3) := by decide +kernel
theorem dX4_takenAt_24 : decode cX4_takenAt 24 = .ok (.iload_n 1, 1) := by decide +kernel
theorem dX4_takenAt_25 : decode cX4_takenAt 25 = .ok (.if_icmp .ne 18, 3) := by decide +kernel
theorem dX4_takenAt_28 : decode cX4_takenAt 28 = .ok (.iload_n 2, 1) := by decide +kernel
theorem dX4_takenAt_29 : decode cX4_takenAt 29 = .ok (.aload_n 0, 1) := by decide +kernel
theorem dX4_takenAt_30 : decode cX4_takenAt 30 = .ok (.getfield 17, 3) := by decide +kernel
theorem dX4_takenAt_33 : decode cX4_takenAt 33 = .ok (.iload_n 3, 1) := by decide +kernel
theorem dX4_takenAt_34 : decode cX4_takenAt 34 = .ok (.aaload, 1) := by decide +kernel
theorem dX4_takenAt_35 : decode cX4_takenAt 35 = .ok (.getfield 65, 3) := by decide +kernel
theorem dX4_takenAt_38 : decode cX4_takenAt 38 = .ok (.invokevirtual 69, 3) := by decide +kernel
theorem dX4_takenAt_41 : decode cX4_takenAt 41 = .ok (.ior, 1) := by decide +kernel
theorem dX4_takenAt_42 : decode cX4_takenAt 42 = .ok (.istore_n 2, 1) := by decide +kernel
theorem dX4_takenAt_43 : decode cX4_takenAt 43 = .ok (.aload_n 0, 1) := by decide +kernel
theorem dX4_takenAt_44 : decode cX4_takenAt 44 = .ok (.getfield 21, 3) := by decide +kernel
theorem dX4_takenAt_47 : decode cX4_takenAt 47 = .ok (.iload_n 3, 1) := by decide +kernel
theorem dX4_takenAt_48 : decode cX4_takenAt 48 = .ok (.iconst 1, 1) := by decide +kernel
theorem dX4_takenAt_49 : decode cX4_takenAt 49 = .ok (.invokevirtual 44, 3) := by decide +kernel
theorem dX4_takenAt_52 : decode cX4_takenAt 52 = .ok (.iload_n 1, 1) := by decide +kernel
theorem dX4_takenAt_53 : decode cX4_takenAt 53 = .ok (.if_icmp .ne 18, 3) := by decide +kernel
theorem dX4_takenAt_56 : decode cX4_takenAt 56 = .ok (.iload_n 2, 1) := by decide +kernel
theorem dX4_takenAt_57 : decode cX4_takenAt 57 = .ok (.aload_n 0, 1) := by decide +kernel
theorem dX4_takenAt_58 : decode cX4_takenAt 58 = .ok (.getfield 17, 3) := by decide +kernel
theorem dX4_takenAt_61 : decode cX4_takenAt 61 = .ok (.iload_n 3, 1) := by decide +kernel
theorem dX4_takenAt_62 : decode cX4_takenAt 62 = .ok (.aaload, 1) := by decide +kernel
theorem dX4_takenAt_63 : decode cX4_takenAt 63 = .ok (.getfield 74, 3) := by decide +kernel
theorem dX4_takenAt_66 : decode cX4_takenAt 66 = .ok (.invokevirtual 69, 3) := by decide +kernel
theorem dX4_takenAt_69 : decode cX4_takenAt 69 = .ok (.ior, 1) := by decide +kernel
theorem dX4_takenAt_70 : decode cX4_takenAt 70 = .ok (.istore_n 2, 1) := by decide +kernel
theorem dX4_takenAt_71 : decode cX4_takenAt 71 = .ok (.iinc 3 1, 3) := by decide +kernel
theorem dX4_takenAt_74 : decode cX4_takenAt 74 = .ok (.goto (-70), 3) := by decide +kernel
theorem dX4_takenAt_77 : decode cX4_takenAt 77 = .ok (.iload_n 2, 1) := by decide +kernel
theorem dX4_takenAt_78 : decode cX4_takenAt 78 = .ok (.ireturn, 1) := by decide +kernel
theorem dX4_doubledAt_0 : decode cX4_doubledAt 0 = .ok (.iconst 0, 1) := by decide +kernel
theorem dX4_doubledAt_1 : decode cX4_doubledAt 1 = .ok (.istore_n 2, 1) := by decide +kernel
theorem dX4_doubledAt_2 : decode cX4_doubledAt 2 = .ok (.iconst 0, 1) := by decide +kernel
theorem dX4_doubledAt_3 : decode cX4_doubledAt 3 = .ok (.istore_n 3, 1) := by decide +kernel
theorem dX4_doubledAt_4 : decode cX4_doubledAt 4 = .ok (.iconst 0, 1) := by decide +kernel
theorem dX4_doubledAt_5 : decode cX4_doubledAt 5 = .ok (.istore 4, 2) := by decide +kernel
theorem dX4_doubledAt_7 : decode cX4_doubledAt 7 = .ok (.iload 4, 2) := by decide +kernel
theorem dX4_doubledAt_9 : decode cX4_doubledAt 9 = .ok (.aload_n 0, 1) := by decide +kernel
theorem dX4_doubledAt_10 : decode cX4_doubledAt 10 = .ok (.getfield 21, 3) := by decide +kernel
theorem dX4_doubledAt_13 : decode cX4_doubledAt 13 = .ok (.invokevirtual 40, 3) := by decide +kernel
theorem dX4_doubledAt_16 : decode cX4_doubledAt 16 = .ok (.if_icmp .ge 76, 3) := by decide +kernel
theorem dX4_doubledAt_19 : decode cX4_doubledAt 19 = .ok (.aload_n 0, 1) := by decide +kernel
theorem dX4_doubledAt_20 : decode cX4_doubledAt 20 = .ok (.iload 4, 2) := by decide +kernel
theorem dX4_doubledAt_22 : decode cX4_doubledAt 22 = .ok (.iload_n 1, 1) := by decide +kernel
theorem dX4_doubledAt_23 : decode cX4_doubledAt 23 = .ok (.invokevirtual 77, 3) := by decide +kernel
theorem dX4_doubledAt_26 : decode cX4_doubledAt 26 = .ok (.astore 5, 2) := by decide +kernel
theorem dX4_doubledAt_28 : decode cX4_doubledAt 28 = .ok (.aload 5, 2) := by decide +kernel
theorem dX4_doubledAt_30 : decode cX4_doubledAt 30 = .ok (.ifnonnull 7, 3) := by decide +kernel
theorem dX4_doubledAt_33 : decode cX4_doubledAt 33 = .ok (.iconst 0, 1) := by decide +kernel
theorem dX4_doubledAt_34 : decode cX4_doubledAt 34 = .ok (.goto 8, 3) := by decide +kernel
theorem dX4_doubledAt_37 : decode cX4_doubledAt 37 = .ok (.aload 5, 2) := by decide +kernel
theorem dX4_doubledAt_39 : decode cX4_doubledAt 39 = .ok (.invokevirtual 81, 3) := by decide +kernel
theorem dX4_doubledAt_42 : decode cX4_doubledAt 42 = .ok (.istore 6, 2) := by decide +kernel
theorem dX4_doubledAt_44 : decode cX4_doubledAt 44 = .ok (.iconst 0, 1) := by decide +kernel
theorem dX4_doubledAt_45 : decode cX4_doubledAt 45 = .ok (.istore 7, 2) := by decide +kernel
theorem dX4_doubledAt_47 : decode cX4_doubledAt 47 = .ok (.iload 7, 2) := by decide +kernel
theorem dX4_doubledAt_49 : decode cX4_doubledAt 49 = .ok (.iload 6, 2) := by decide +kernel
theorem dX4_doubledAt_51 : decode cX4_doubledAt 51 = .ok (.if_icmp .ge 35, 3) := by decide +kernel
theorem dX4_doubledAt_54 : decode cX4_doubledAt 54 = .ok (.iconst 1, 1) := by decide +kernel
theorem dX4_doubledAt_55 : decode cX4_doubledAt 55 = .ok (.aload 5, 2) := by decide +kernel
theorem dX4_doubledAt_57 : decode cX4_doubledAt 57 = .ok (.iload 7, 2) := by decide +kernel
theorem dX4_doubledAt_59 : decode cX4_doubledAt 59 = .ok (.invokevirtual 84, 3) := by decide +kernel
theorem dX4_doubledAt_62 : decode cX4_doubledAt 62 = .ok (.bipush 10, 2) := by decide +kernel
theorem dX4_doubledAt_64 : decode cX4_doubledAt 64 = .ok (.idiv, 1) := by decide +kernel
theorem dX4_doubledAt_65 : decode cX4_doubledAt 65 = .ok (.ishl, 1) := by decide +kernel
theorem dX4_doubledAt_66 : decode cX4_doubledAt 66 = .ok (.istore 8, 2) := by decide +kernel
theorem dX4_doubledAt_68 : decode cX4_doubledAt 68 = .ok (.iload_n 3, 1) := by decide +kernel
theorem dX4_doubledAt_69 : decode cX4_doubledAt 69 = .ok (.iload_n 2, 1) := by decide +kernel
theorem dX4_doubledAt_70 : decode cX4_doubledAt 70 = .ok (.iload 8, 2) := by decide +kernel
theorem dX4_doubledAt_72 : decode cX4_doubledAt 72 = .ok (.iand, 1) := by decide +kernel
theorem dX4_doubledAt_73 : decode cX4_doubledAt 73 = .ok (.ior, 1) := by decide +kernel
theorem dX4_doubledAt_74 : decode cX4_doubledAt 74 = .ok (.istore_n 3, 1) := by decide +kernel
theorem dX4_doubledAt_75 : decode cX4_doubledAt 75 = .ok (.iload_n 2, 1) := by decide +kernel
theorem dX4_doubledAt_76 : decode cX4_doubledAt 76 = .ok (.iload 8, 2) := by decide +kernel
theorem dX4_doubledAt_78 : decode cX4_doubledAt 78 = .ok (.ior, 1) := by decide +kernel
theorem dX4_doubledAt_79 : decode cX4_doubledAt 79 = .ok (.istore_n 2, 1) := by decide +kernel
theorem dX4_doubledAt_80 : decode cX4_doubledAt 80 = .ok (.iinc 7 1, 3) := by decide +kernel
theorem dX4_doubledAt_83 : decode cX4_doubledAt 83 = .ok (.goto (-36), 3) := by decide +kernel
theorem dX4_doubledAt_86 : decode cX4_doubledAt 86 = .ok (.iinc 4 1, 3) := by decide +kernel
theorem dX4_doubledAt_89 : decode cX4_doubledAt 89 = .ok (.goto (-82), 3) := by decide +kernel
theorem dX4_doubledAt_92 : decode cX4_doubledAt 92 = .ok (.iload_n 3, 1) := by decide +kernel
theorem dX4_doubledAt_93 : decode cX4_doubledAt 93 = .ok (.ireturn, 1) := by decide +kernel
theorem dX4_sideOf_0 : decode cX4_sideOf 0 = .ok (.aload_n 0, 1) := by decide +kernel
theorem dX4_sideOf_1 : decode cX4_sideOf 1 = .ok (.getfield 21, 3) := by decide +kernel
theorem dX4_sideOf_4 : decode cX4_sideOf 4 = .ok (.iload_n 1, 1) := by decide +kernel
theorem dX4_sideOf_5 : decode cX4_sideOf 5 = .ok (.iconst 0, 1) := by decide +kernel
theorem dX4_sideOf_6 : decode cX4_sideOf 6 = .ok (.invokevirtual 44, 3) := by decide +kernel
theorem dX4_sideOf_9 : decode cX4_sideOf 9 = .ok (.iload_n 2, 1) := by decide +kernel
theorem dX4_sideOf_10 : decode cX4_sideOf 10 = .ok (.if_icmp .ne 13, 3) := by decide +kernel
theorem dX4_sideOf_13 : decode cX4_sideOf 13 = .ok (.aload_n 0, 1) := by decide +kernel
theorem dX4_sideOf_14 : decode cX4_sideOf 14 = .ok (.getfield 17, 3) := by decide +kernel
theorem dX4_sideOf_17 : decode cX4_sideOf 17 = .ok (.iload_n 1, 1) := by decide +kernel
theorem dX4_sideOf_18 : decode cX4_sideOf 18 = .ok (.aaload, 1) := by decide +kernel
theorem dX4_sideOf_19 : decode cX4_sideOf 19 = .ok (.getfield 65, 3) := by decide +kernel
theorem dX4_sideOf_22 : decode cX4_sideOf 22 = .ok (.areturn, 1) := by decide +kernel
theorem dX4_sideOf_23 : decode cX4_sideOf 23 = .ok (.aload_n 0, 1) := by decide +kernel
theorem dX4_sideOf_24 : decode cX4_sideOf 24 = .ok (.getfield 21, 3) := by decide +kernel
theorem dX4_sideOf_27 : decode cX4_sideOf 27 = .ok (.iload_n 1, 1) := by decide +kernel
theorem dX4_sideOf_28 : decode cX4_sideOf 28 = .ok (.iconst 1, 1) := by decide +kernel
theorem dX4_sideOf_29 : decode cX4_sideOf 29 = .ok (.invokevirtual 44, 3) := by decide +kernel
theorem dX4_sideOf_32 : decode cX4_sideOf 32 = .ok (.iload_n 2, 1) := by decide +kernel
theorem dX4_sideOf_33 : decode cX4_sideOf 33 = .ok (.if_icmp .ne 15, 3) := by decide +kernel
theorem dX4_sideOf_36 : decode cX4_sideOf 36 = .ok (.aload_n 0, 1) := by decide +kernel
theorem dX4_sideOf_37 : decode cX4_sideOf 37 = .ok (.getfield 17, 3) := by decide +kernel
theorem dX4_sideOf_40 : decode cX4_sideOf 40 = .ok (.iload_n 1, 1) := by decide +kernel
theorem dX4_sideOf_41 : decode cX4_sideOf 41 = .ok (.aaload, 1) := by decide +kernel
theorem dX4_sideOf_42 : decode cX4_sideOf 42 = .ok (.getfield 74, 3) := by decide +kernel
theorem dX4_sideOf_45 : decode cX4_sideOf 45 = .ok (.goto 4, 3) := by decide +kernel
theorem dX4_sideOf_48 : decode cX4_sideOf 48 = .ok (.aconst_null, 1) := by decide +kernel
theorem dX4_sideOf_49 : decode cX4_sideOf 49 = .ok (.areturn, 1) := by decide +kernel
theorem dX4_lettersUnderWay_0 : decode cX4_lettersUnderWay 0 = .ok (.iconst 0, 1) := by decide +kernel
theorem dX4_lettersUnderWay_1 : decode cX4_lettersUnderWay 1 = .ok (.istore_n 1, 1) := by decide +kernel
theorem dX4_lettersUnderWay_2 : decode cX4_lettersUnderWay 2 = .ok (.iconst 0, 1) := by decide +kernel
theorem dX4_lettersUnderWay_3 : decode cX4_lettersUnderWay 3 = .ok (.istore_n 2, 1) := by decide +kernel
theorem dX4_lettersUnderWay_4 : decode cX4_lettersUnderWay 4 = .ok (.iload_n 2, 1) := by decide +kernel
theorem dX4_lettersUnderWay_5 : decode cX4_lettersUnderWay 5 = .ok (.aload_n 0, 1) := by decide +kernel
theorem dX4_lettersUnderWay_6 : decode cX4_lettersUnderWay 6 = .ok (.getfield 21, 3) := by decide +kernel
theorem dX4_lettersUnderWay_9 : decode cX4_lettersUnderWay 9 = .ok (.invokevirtual 40, 3) := by decide +kernel
theorem dX4_lettersUnderWay_12 : decode cX4_lettersUnderWay 12 = .ok (.if_icmp .ge 27, 3) := by decide +kernel
theorem dX4_lettersUnderWay_15 : decode cX4_lettersUnderWay 15 = .ok (.aload_n 0, 1) := by decide +kernel
theorem dX4_lettersUnderWay_16 : decode cX4_lettersUnderWay 16 = .ok (.getfield 17, 3) := by decide +kernel
theorem dX4_lettersUnderWay_19 : decode cX4_lettersUnderWay 19 = .ok (.iload_n 2, 1) := by decide +kernel
theorem dX4_lettersUnderWay_20 : decode cX4_lettersUnderWay 20 = .ok (.aaload, 1) := by decide +kernel
theorem dX4_lettersUnderWay_21 : decode cX4_lettersUnderWay 21 = .ok (.getfield 52, 3) := by decide +kernel
theorem dX4_lettersUnderWay_24 : decode cX4_lettersUnderWay 24 = .ok (.invokevirtual 87, 3) := by decide +kernel
theorem dX4_lettersUnderWay_27 : decode cX4_lettersUnderWay 27 = .ok (.ifCond .eq 6, 3) := by decide +kernel
theorem dX4_lettersUnderWay_30 : decode cX4_lettersUnderWay 30 = .ok (.iinc 1 1, 3) := by decide +kernel
theorem dX4_lettersUnderWay_33 : decode cX4_lettersUnderWay 33 = .ok (.iinc 2 1, 3) := by decide +kernel
theorem dX4_lettersUnderWay_36 : decode cX4_lettersUnderWay 36 = .ok (.goto (-32), 3) := by decide +kernel
theorem dX4_lettersUnderWay_39 : decode cX4_lettersUnderWay 39 = .ok (.iload_n 1, 1) := by decide +kernel
theorem dX4_lettersUnderWay_40 : decode cX4_lettersUnderWay 40 = .ok (.ireturn, 1) := by decide +kernel
theorem dX4_cellsOfBoth_0 : decode cX4_cellsOfBoth 0 = .ok (.iconst 0, 1) := by decide +kernel
theorem dX4_cellsOfBoth_1 : decode cX4_cellsOfBoth 1 = .ok (.istore_n 1, 1) := by decide +kernel
theorem dX4_cellsOfBoth_2 : decode cX4_cellsOfBoth 2 = .ok (.iconst 0, 1) := by decide +kernel
theorem dX4_cellsOfBoth_3 : decode cX4_cellsOfBoth 3 = .ok (.istore_n 2, 1) := by decide +kernel
theorem dX4_cellsOfBoth_4 : decode cX4_cellsOfBoth 4 = .ok (.iload_n 2, 1) := by decide +kernel
theorem dX4_cellsOfBoth_5 : decode cX4_cellsOfBoth 5 = .ok (.aload_n 0, 1) := by decide +kernel
theorem dX4_cellsOfBoth_6 : decode cX4_cellsOfBoth 6 = .ok (.getfield 21, 3) := by decide +kernel
theorem dX4_cellsOfBoth_9 : decode cX4_cellsOfBoth 9 = .ok (.invokevirtual 40, 3) := by decide +kernel
theorem dX4_cellsOfBoth_12 : decode cX4_cellsOfBoth 12 = .ok (.if_icmp .ge 33, 3) := by decide +kernel
theorem dX4_cellsOfBoth_15 : decode cX4_cellsOfBoth 15 = .ok (.iload_n 1, 1) := by decide +kernel
theorem dX4_cellsOfBoth_16 : decode cX4_cellsOfBoth 16 = .ok (.aload_n 0, 1) := by decide +kernel
theorem dX4_cellsOfBoth_17 : decode cX4_cellsOfBoth 17 = .ok (.getfield 17, 3) := by decide +kernel
theorem dX4_cellsOfBoth_20 : decode cX4_cellsOfBoth 20 = .ok (.iload_n 2, 1) := by decide +kernel
theorem dX4_cellsOfBoth_21 : decode cX4_cellsOfBoth 21 = .ok (.aaload, 1) := by decide +kernel
theorem dX4_cellsOfBoth_22 : decode cX4_cellsOfBoth 22 = .ok (.getfield 65, 3) := by decide +kernel
theorem dX4_cellsOfBoth_25 : decode cX4_cellsOfBoth 25 = .ok (.aload_n 0, 1) := by decide +kernel
theorem dX4_cellsOfBoth_26 : decode cX4_cellsOfBoth 26 = .ok (.getfield 17, 3) := by decide +kernel
theorem dX4_cellsOfBoth_29 : decode cX4_cellsOfBoth 29 = .ok (.iload_n 2, 1) := by decide +kernel
theorem dX4_cellsOfBoth_30 : decode cX4_cellsOfBoth 30 = .ok (.aaload, 1) := by decide +kernel
theorem dX4_cellsOfBoth_31 : decode cX4_cellsOfBoth 31 = .ok (.getfield 74, 3) := by decide +kernel
theorem dX4_cellsOfBoth_34 : decode cX4_cellsOfBoth 34 = .ok (.invokevirtual 90, 3) := by decide +kernel
theorem dX4_cellsOfBoth_37 : decode cX4_cellsOfBoth 37 = .ok (.iadd, 1) := by decide +kernel
theorem dX4_cellsOfBoth_38 : decode cX4_cellsOfBoth 38 = .ok (.istore_n 1, 1) := by decide +kernel
theorem dX4_cellsOfBoth_39 : decode cX4_cellsOfBoth 39 = .ok (.iinc 2 1, 3) := by decide +kernel
theorem dX4_cellsOfBoth_42 : decode cX4_cellsOfBoth 42 = .ok (.goto (-38), 3) := by decide +kernel
theorem dX4_cellsOfBoth_45 : decode cX4_cellsOfBoth 45 = .ok (.iload_n 1, 1) := by decide +kernel
theorem dX4_cellsOfBoth_46 : decode cX4_cellsOfBoth 46 = .ok (.ireturn, 1) := by decide +kernel
theorem dX4_greatest_0 : decode cX4_greatest 0 = .ok (.iconst 0, 1) := by decide +kernel
theorem dX4_greatest_1 : decode cX4_greatest 1 = .ok (.istore_n 2, 1) := by decide +kernel
theorem dX4_greatest_2 : decode cX4_greatest 2 = .ok (.iconst 1, 1) := by decide +kernel
theorem dX4_greatest_3 : decode cX4_greatest 3 = .ok (.istore_n 3, 1) := by decide +kernel
theorem dX4_greatest_4 : decode cX4_greatest 4 = .ok (.iload_n 3, 1) := by decide +kernel
theorem dX4_greatest_5 : decode cX4_greatest 5 = .ok (.aload_n 0, 1) := by decide +kernel
theorem dX4_greatest_6 : decode cX4_greatest 6 = .ok (.getfield 21, 3) := by decide +kernel
theorem dX4_greatest_9 : decode cX4_greatest 9 = .ok (.invokevirtual 40, 3) := by decide +kernel
theorem dX4_greatest_12 : decode cX4_greatest 12 = .ok (.if_icmp .ge 34, 3) := by decide +kernel
theorem dX4_greatest_15 : decode cX4_greatest 15 = .ok (.aload_n 0, 1) := by decide +kernel
theorem dX4_greatest_16 : decode cX4_greatest 16 = .ok (.getfield 17, 3) := by decide +kernel
theorem dX4_greatest_19 : decode cX4_greatest 19 = .ok (.iload_n 3, 1) := by decide +kernel
theorem dX4_greatest_20 : decode cX4_greatest 20 = .ok (.aaload, 1) := by decide +kernel
theorem dX4_greatest_21 : decode cX4_greatest 21 = .ok (.iload_n 1, 1) := by decide +kernel
theorem dX4_greatest_22 : decode cX4_greatest 22 = .ok (.invokevirtual 94, 3) := by decide +kernel
theorem dX4_greatest_25 : decode cX4_greatest 25 = .ok (.aload_n 0, 1) := by decide +kernel
theorem dX4_greatest_26 : decode cX4_greatest 26 = .ok (.getfield 17, 3) := by decide +kernel
theorem dX4_greatest_29 : decode cX4_greatest 29 = .ok (.iload_n 2, 1) := by decide +kernel
theorem dX4_greatest_30 : decode cX4_greatest 30 = .ok (.aaload, 1) := by decide +kernel
theorem dX4_greatest_31 : decode cX4_greatest 31 = .ok (.iload_n 1, 1) := by decide +kernel
theorem dX4_greatest_32 : decode cX4_greatest 32 = .ok (.invokevirtual 94, 3) := by decide +kernel
theorem dX4_greatest_35 : decode cX4_greatest 35 = .ok (.if_icmp .le 5, 3) := by decide +kernel
theorem dX4_greatest_38 : decode cX4_greatest 38 = .ok (.iload_n 3, 1) := by decide +kernel
theorem dX4_greatest_39 : decode cX4_greatest 39 = .ok (.istore_n 2, 1) := by decide +kernel
theorem dX4_greatest_40 : decode cX4_greatest 40 = .ok (.iinc 3 1, 3) := by decide +kernel
theorem dX4_greatest_43 : decode cX4_greatest 43 = .ok (.goto (-39), 3) := by decide +kernel
theorem dX4_greatest_46 : decode cX4_greatest 46 = .ok (.iload_n 2, 1) := by decide +kernel
theorem dX4_greatest_47 : decode cX4_greatest 47 = .ok (.ireturn, 1) := by decide +kernel
theorem dX4_firstBadCell_0 : decode cX4_firstBadCell 0 = .ok (.iconst 0, 1) := by decide +kernel
theorem dX4_firstBadCell_1 : decode cX4_firstBadCell 1 = .ok (.istore_n 1, 1) := by decide +kernel
theorem dX4_firstBadCell_2 : decode cX4_firstBadCell 2 = .ok (.iload_n 1, 1) := by decide +kernel
theorem dX4_firstBadCell_3 : decode cX4_firstBadCell 3 = .ok (.aload_n 0, 1) := by decide +kernel
theorem dX4_firstBadCell_4 : decode cX4_firstBadCell 4 = .ok (.getfield 21, 3) := by decide +kernel
theorem dX4_firstBadCell_7 : decode cX4_firstBadCell 7 = .ok (.invokevirtual 40, 3) := by decide +kernel
theorem dX4_firstBadCell_10 : decode cX4_firstBadCell 10 = .ok (.if_icmp .ge 41, 3) := by decide +kernel
theorem dX4_firstBadCell_13 : decode cX4_firstBadCell 13 = .ok (.aload_n 0, 1) := by decide +kernel
theorem dX4_firstBadCell_14 : decode cX4_firstBadCell 14 = .ok (.getfield 17, 3) := by decide +kernel
theorem dX4_firstBadCell_17 : decode cX4_firstBadCell 17 = .ok (.iload_n 1, 1) := by decide +kernel
theorem dX4_firstBadCell_18 : decode cX4_firstBadCell 18 = .ok (.aaload, 1) := by decide +kernel
theorem dX4_firstBadCell_19 : decode cX4_firstBadCell 19 = .ok (.getfield 65, 3) := by decide +kernel
theorem dX4_firstBadCell_22 : decode cX4_firstBadCell 22 = .ok (.invokevirtual 97, 3) := by decide +kernel
theorem dX4_firstBadCell_25 : decode cX4_firstBadCell 25 = .ok (.istore_n 2, 1) := by decide +kernel
theorem dX4_firstBadCell_26 : decode cX4_firstBadCell 26 = .ok (.iload_n 2, 1) := by decide +kernel
theorem dX4_firstBadCell_27 : decode cX4_firstBadCell 27 = .ok (.iconst (-1), 1) := by decide +kernel
theorem dX4_firstBadCell_28 : decode cX4_firstBadCell 28 = .ok (.if_icmp .eq 17, 3) := by decide +kernel
theorem dX4_firstBadCell_31 : decode cX4_firstBadCell 31 = .ok (.aload_n 0, 1) := by decide +kernel
theorem dX4_firstBadCell_32 : decode cX4_firstBadCell 32 = .ok (.getfield 17, 3) := by decide +kernel
theorem dX4_firstBadCell_35 : decode cX4_firstBadCell 35 = .ok (.iload_n 1, 1) := by decide +kernel
theorem dX4_firstBadCell_36 : decode cX4_firstBadCell 36 = .ok (.aaload, 1) := by decide +kernel
theorem dX4_firstBadCell_37 : decode cX4_firstBadCell 37 = .ok (.getfield 65, 3) := by decide +kernel
theorem dX4_firstBadCell_40 : decode cX4_firstBadCell 40 = .ok (.iload_n 2, 1) := by decide +kernel
theorem dX4_firstBadCell_41 : decode cX4_firstBadCell 41 = .ok (.invokevirtual 84, 3) := by decide +kernel
theorem dX4_firstBadCell_44 : decode cX4_firstBadCell 44 = .ok (.ireturn, 1) := by decide +kernel
theorem dX4_firstBadCell_45 : decode cX4_firstBadCell 45 = .ok (.iinc 1 1, 3) := by decide +kernel
theorem dX4_firstBadCell_48 : decode cX4_firstBadCell 48 = .ok (.goto (-46), 3) := by decide +kernel
theorem dX4_firstBadCell_51 : decode cX4_firstBadCell 51 = .ok (.iconst (-1), 1) := by decide +kernel
theorem dX4_firstBadCell_52 : decode cX4_firstBadCell 52 = .ok (.ireturn, 1) := by decide +kernel
theorem dX4_pairBits_0 : decode cX4_pairBits 0 = .ok (.iconst 0, 1) := by decide +kernel
theorem dX4_pairBits_1 : decode cX4_pairBits 1 = .ok (.istore_n 2, 1) := by decide +kernel
theorem dX4_pairBits_2 : decode cX4_pairBits 2 = .ok (.iconst 0, 1) := by decide +kernel
theorem dX4_pairBits_3 : decode cX4_pairBits 3 = .ok (.istore_n 3, 1) := by decide +kernel
theorem dX4_pairBits_4 : decode cX4_pairBits 4 = .ok (.iload_n 3, 1) := by decide +kernel
theorem dX4_pairBits_5 : decode cX4_pairBits 5 = .ok (.aload_n 0, 1) := by decide +kernel
theorem dX4_pairBits_6 : decode cX4_pairBits 6 = .ok (.getfield 21, 3) := by decide +kernel
theorem dX4_pairBits_9 : decode cX4_pairBits 9 = .ok (.invokevirtual 40, 3) := by decide +kernel
theorem dX4_pairBits_12 : decode cX4_pairBits 12 = .ok (.if_icmp .ge 24, 3) := by decide +kernel
theorem dX4_pairBits_15 : decode cX4_pairBits 15 = .ok (.aload_n 0, 1) := by decide +kernel
theorem dX4_pairBits_16 : decode cX4_pairBits 16 = .ok (.iload_n 3, 1) := by decide +kernel
theorem dX4_pairBits_17 : decode cX4_pairBits 17 = .ok (.iload_n 1, 1) := by decide +kernel
theorem dX4_pairBits_18 : decode cX4_pairBits 18 = .ok (.invokevirtual 100, 3) := by decide +kernel
theorem dX4_pairBits_21 : decode cX4_pairBits 21 = .ok (.ifCond .eq 9, 3) := by decide +kernel
theorem dX4_pairBits_24 : decode cX4_pairBits 24 = .ok (.iload_n 2, 1) := by decide +kernel
theorem dX4_pairBits_25 : decode cX4_pairBits 25 = .ok (.iconst 1, 1) := by decide +kernel
theorem dX4_pairBits_26 : decode cX4_pairBits 26 = .ok (.iload_n 3, 1) := by decide +kernel
theorem dX4_pairBits_27 : decode cX4_pairBits 27 = .ok (.ishl, 1) := by decide +kernel
theorem dX4_pairBits_28 : decode cX4_pairBits 28 = .ok (.ior, 1) := by decide +kernel
theorem dX4_pairBits_29 : decode cX4_pairBits 29 = .ok (.istore_n 2, 1) := by decide +kernel
theorem dX4_pairBits_30 : decode cX4_pairBits 30 = .ok (.iinc 3 1, 3) := by decide +kernel
theorem dX4_pairBits_33 : decode cX4_pairBits 33 = .ok (.goto (-29), 3) := by decide +kernel
theorem dX4_pairBits_36 : decode cX4_pairBits 36 = .ok (.iload_n 2, 1) := by decide +kernel
theorem dX4_pairBits_37 : decode cX4_pairBits 37 = .ok (.ireturn, 1) := by decide +kernel
theorem dX4_isMarked_0 : decode cX4_isMarked 0 = .ok (.iload_n 2, 1) := by decide +kernel
theorem dX4_isMarked_1 : decode cX4_isMarked 1 = .ok (.tableswitch 76 0 3 #[31, 37, 50, 63], 31) := by decide +kernel
theorem dX4_isMarked_32 : decode cX4_isMarked 32 = .ok (.aload_n 0, 1) := by decide +kernel
theorem dX4_isMarked_33 : decode cX4_isMarked 33 = .ok (.iload_n 1, 1) := by decide +kernel
theorem dX4_isMarked_34 : decode cX4_isMarked 34 = .ok (.invokevirtual 104, 3) := by decide +kernel
theorem dX4_isMarked_37 : decode cX4_isMarked 37 = .ok (.ireturn, 1) := by decide +kernel
theorem dX4_isMarked_38 : decode cX4_isMarked 38 = .ok (.aload_n 0, 1) := by decide +kernel
theorem dX4_isMarked_39 : decode cX4_isMarked 39 = .ok (.getfield 17, 3) := by decide +kernel
theorem dX4_isMarked_42 : decode cX4_isMarked 42 = .ok (.iload_n 1, 1) := by decide +kernel
theorem dX4_isMarked_43 : decode cX4_isMarked 43 = .ok (.aaload, 1) := by decide +kernel
theorem dX4_isMarked_44 : decode cX4_isMarked 44 = .ok (.getfield 65, 3) := by decide +kernel
theorem dX4_isMarked_47 : decode cX4_isMarked 47 = .ok (.invokevirtual 108, 3) := by decide +kernel
theorem dX4_isMarked_50 : decode cX4_isMarked 50 = .ok (.ireturn, 1) := by decide +kernel
theorem dX4_isMarked_51 : decode cX4_isMarked 51 = .ok (.aload_n 0, 1) := by decide +kernel
theorem dX4_isMarked_52 : decode cX4_isMarked 52 = .ok (.getfield 17, 3) := by decide +kernel
theorem dX4_isMarked_55 : decode cX4_isMarked 55 = .ok (.iload_n 1, 1) := by decide +kernel
theorem dX4_isMarked_56 : decode cX4_isMarked 56 = .ok (.aaload, 1) := by decide +kernel
theorem dX4_isMarked_57 : decode cX4_isMarked 57 = .ok (.getfield 74, 3) := by decide +kernel
theorem dX4_isMarked_60 : decode cX4_isMarked 60 = .ok (.invokevirtual 108, 3) := by decide +kernel
theorem dX4_isMarked_63 : decode cX4_isMarked 63 = .ok (.ireturn, 1) := by decide +kernel
theorem dX4_isMarked_64 : decode cX4_isMarked 64 = .ok (.aload_n 0, 1) := by decide +kernel
theorem dX4_isMarked_65 : decode cX4_isMarked 65 = .ok (.getfield 17, 3) := by decide +kernel
theorem dX4_isMarked_68 : decode cX4_isMarked 68 = .ok (.iload_n 1, 1) := by decide +kernel
theorem dX4_isMarked_69 : decode cX4_isMarked 69 = .ok (.aaload, 1) := by decide +kernel
theorem dX4_isMarked_70 : decode cX4_isMarked 70 = .ok (.getfield 52, 3) := by decide +kernel
theorem dX4_isMarked_73 : decode cX4_isMarked 73 = .ok (.invokevirtual 87, 3) := by decide +kernel
theorem dX4_isMarked_76 : decode cX4_isMarked 76 = .ok (.ireturn, 1) := by decide +kernel
theorem dX4_isMarked_77 : decode cX4_isMarked 77 = .ok (.aload_n 0, 1) := by decide +kernel
theorem dX4_isMarked_78 : decode cX4_isMarked 78 = .ok (.getfield 17, 3) := by decide +kernel
theorem dX4_isMarked_81 : decode cX4_isMarked 81 = .ok (.iload_n 1, 1) := by decide +kernel
theorem dX4_isMarked_82 : decode cX4_isMarked 82 = .ok (.aaload, 1) := by decide +kernel
theorem dX4_isMarked_83 : decode cX4_isMarked 83 = .ok (.invokevirtual 61, 3) := by decide +kernel
theorem dX4_isMarked_86 : decode cX4_isMarked 86 = .ok (.ifCond .ne 7, 3) := by decide +kernel
theorem dX4_isMarked_89 : decode cX4_isMarked 89 = .ok (.iconst 1, 1) := by decide +kernel
theorem dX4_isMarked_90 : decode cX4_isMarked 90 = .ok (.goto 4, 3) := by decide +kernel
theorem dX4_isMarked_93 : decode cX4_isMarked 93 = .ok (.iconst 0, 1) := by decide +kernel
theorem dX4_isMarked_94 : decode cX4_isMarked 94 = .ok (.ireturn, 1) := by decide +kernel
theorem dX4_collides_0 : decode cX4_collides 0 = .ok (.aload_n 0, 1) := by decide +kernel
theorem dX4_collides_1 : decode cX4_collides 1 = .ok (.getfield 17, 3) := by decide +kernel
theorem dX4_collides_4 : decode cX4_collides 4 = .ok (.iload_n 1, 1) := by decide +kernel
theorem dX4_collides_5 : decode cX4_collides 5 = .ok (.aaload, 1) := by decide +kernel
theorem dX4_collides_6 : decode cX4_collides 6 = .ok (.getfield 65, 3) := by decide +kernel
theorem dX4_collides_9 : decode cX4_collides 9 = .ok (.astore_n 2, 1) := by decide +kernel
theorem dX4_collides_10 : decode cX4_collides 10 = .ok (.iconst 0, 1) := by decide +kernel
theorem dX4_collides_11 : decode cX4_collides 11 = .ok (.istore_n 3, 1) := by decide +kernel
theorem dX4_collides_12 : decode cX4_collides 12 = .ok (.iload_n 3, 1) := by decide +kernel
theorem dX4_collides_13 : decode cX4_collides 13 = .ok (.aload_n 0, 1) := by decide +kernel
theorem dX4_collides_14 : decode cX4_collides 14 = .ok (.getfield 21, 3) := by decide +kernel
theorem dX4_collides_17 : decode cX4_collides 17 = .ok (.invokevirtual 40, 3) := by decide +kernel
theorem dX4_collides_20 : decode cX4_collides 20 = .ok (.if_icmp .ge 56, 3) := by decide +kernel
theorem dX4_collides_23 : decode cX4_collides 23 = .ok (.iconst 0, 1) := by decide +kernel
theorem dX4_collides_24 : decode cX4_collides 24 = .ok (.istore 4, 2) := by decide +kernel
theorem dX4_collides_26 : decode cX4_collides 26 = .ok (.iload_n 3, 1) := by decide +kernel
theorem dX4_collides_27 : decode cX4_collides 27 = .ok (.iload_n 1, 1) := by decide +kernel
theorem dX4_collides_28 : decode cX4_collides 28 = .ok (.if_icmp .eq 42, 3) := by decide +kernel
theorem dX4_collides_31 : decode cX4_collides 31 = .ok (.iload 4, 2) := by decide +kernel
theorem dX4_collides_33 : decode cX4_collides 33 = .ok (.aload_n 2, 1) := by decide +kernel
theorem dX4_collides_34 : decode cX4_collides 34 = .ok (.invokevirtual 81, 3) := by decide +kernel
theorem dX4_collides_37 : decode cX4_collides 37 = .ok (.if_icmp .ge 33, 3) := by decide +kernel
theorem dX4_collides_40 : decode cX4_collides 40 = .ok (.aload_n 0, 1) := by decide +kernel
theorem dX4_collides_41 : decode cX4_collides 41 = .ok (.getfield 17, 3) := by decide +kernel
theorem dX4_collides_44 : decode cX4_collides 44 = .ok (.iload_n 3, 1) := by decide +kernel
theorem dX4_collides_45 : decode cX4_collides 45 = .ok (.aaload, 1) := by decide +kernel
theorem dX4_collides_46 : decode cX4_collides 46 = .ok (.getfield 65, 3) := by decide +kernel
theorem dX4_collides_49 : decode cX4_collides 49 = .ok (.aload_n 2, 1) := by decide +kernel
theorem dX4_collides_50 : decode cX4_collides 50 = .ok (.iload 4, 2) := by decide +kernel
theorem dX4_collides_52 : decode cX4_collides 52 = .ok (.invokevirtual 84, 3) := by decide +kernel
theorem dX4_collides_55 : decode cX4_collides 55 = .ok (.invokevirtual 111, 3) := by decide +kernel
theorem dX4_collides_58 : decode cX4_collides 58 = .ok (.iconst (-1), 1) := by decide +kernel
theorem dX4_collides_59 : decode cX4_collides 59 = .ok (.if_icmp .eq 5, 3) := by decide +kernel
theorem dX4_collides_62 : decode cX4_collides 62 = .ok (.iconst 1, 1) := by decide +kernel
theorem dX4_collides_63 : decode cX4_collides 63 = .ok (.ireturn, 1) := by decide +kernel
theorem dX4_collides_64 : decode cX4_collides 64 = .ok (.iinc 4 1, 3) := by decide +kernel
theorem dX4_collides_67 : decode cX4_collides 67 = .ok (.goto (-41), 3) := by decide +kernel
theorem dX4_collides_70 : decode cX4_collides 70 = .ok (.iinc 3 1, 3) := by decide +kernel
theorem dX4_collides_73 : decode cX4_collides 73 = .ok (.goto (-61), 3) := by decide +kernel
theorem dX4_collides_76 : decode cX4_collides 76 = .ok (.iconst 0, 1) := by decide +kernel
theorem dX4_collides_77 : decode cX4_collides 77 = .ok (.ireturn, 1) := by decide +kernel
theorem dX5_init_0 : decode cX5_init 0 = .ok (.aload_n 0, 1) := by decide +kernel
theorem dX5_init_1 : decode cX5_init 1 = .ok (.invokespecial 3, 3) := by decide +kernel
theorem dX5_init_4 : decode cX5_init 4 = .ok (.aload_n 0, 1) := by decide +kernel
theorem dX5_init_5 : decode cX5_init 5 = .ok (.bipush 6, 2) := by decide +kernel
theorem dX5_init_7 : decode cX5_init 7 = .ok (.newarray .int, 2) := by decide +kernel
theorem dX5_init_9 : decode cX5_init 9 = .ok (.putfield 9, 3) := by decide +kernel
theorem dX5_init_12 : decode cX5_init 12 = .ok (.aload_n 0, 1) := by decide +kernel
theorem dX5_init_13 : decode cX5_init 13 = .ok (.aload_n 1, 1) := by decide +kernel
theorem dX5_init_14 : decode cX5_init 14 = .ok (.putfield 15, 3) := by decide +kernel
theorem dX5_init_17 : decode cX5_init 17 = .ok (.aload_n 0, 1) := by decide +kernel
theorem dX5_init_18 : decode cX5_init 18 = .ok (.new 19, 3) := by decide +kernel
theorem dX5_init_21 : decode cX5_init 21 = .ok (.dup, 1) := by decide +kernel
theorem dX5_init_22 : decode cX5_init 22 = .ok (.aload_n 1, 1) := by decide +kernel
theorem dX5_init_23 : decode cX5_init 23 = .ok (.getfield 21, 3) := by decide +kernel
theorem dX5_init_26 : decode cX5_init 26 = .ok (.invokespecial 25, 3) := by decide +kernel
theorem dX5_init_29 : decode cX5_init 29 = .ok (.putfield 28, 3) := by decide +kernel
theorem dX5_init_32 : decode cX5_init 32 = .ok (.aload_n 0, 1) := by decide +kernel
theorem dX5_init_33 : decode cX5_init 33 = .ok (.new 31, 3) := by decide +kernel
theorem dX5_init_36 : decode cX5_init 36 = .ok (.dup, 1) := by decide +kernel
theorem dX5_init_37 : decode cX5_init 37 = .ok (.aload_n 0, 1) := by decide +kernel
theorem dX5_init_38 : decode cX5_init 38 = .ok (.getfield 28, 3) := by decide +kernel
theorem dX5_init_41 : decode cX5_init 41 = .ok (.new 33, 3) := by decide +kernel
theorem dX5_init_44 : decode cX5_init 44 = .ok (.dup, 1) := by decide +kernel
theorem dX5_init_45 : decode cX5_init 45 = .ok (.aload_n 0, 1) := by decide +kernel
theorem dX5_init_46 : decode cX5_init 46 = .ok (.getfield 28, 3) := by decide +kernel
theorem dX5_init_49 : decode cX5_init 49 = .ok (.invokespecial 35, 3) := by decide +kernel
theorem dX5_init_52 : decode cX5_init 52 = .ok (.invokespecial 38, 3) := by decide +kernel
theorem dX5_init_55 : decode cX5_init 55 = .ok (.putfield 41, 3) := by decide +kernel
theorem dX5_init_58 : decode cX5_init 58 = .ok (.return_, 1) := by decide +kernel
theorem dX5_afterFrames_0 : decode cX5_afterFrames 0 = .ok (.aload_n 0, 1) := by decide +kernel
theorem dX5_afterFrames_1 : decode cX5_afterFrames 1 = .ok (.aload_n 0, 1) := by decide +kernel
theorem dX5_afterFrames_2 : decode cX5_afterFrames 2 = .ok (.getfield 15, 3) := by decide +kernel
theorem dX5_afterFrames_5 : decode cX5_afterFrames 5 = .ok (.getfield 45, 3) := by decide +kernel
theorem dX5_afterFrames_8 : decode cX5_afterFrames 8 = .ok (.invokevirtual 48, 3) := by decide +kernel
theorem dX5_afterFrames_11 : decode cX5_afterFrames 11 = .ok (.iconst 0, 1) := by decide +kernel
theorem dX5_afterFrames_12 : decode cX5_afterFrames 12 = .ok (.istore 4, 2) := by decide +kernel
theorem dX5_afterFrames_14 : decode cX5_afterFrames 14 = .ok (.iconst 0, 1) := by decide +kernel
theorem dX5_afterFrames_15 : decode cX5_afterFrames 15 = .ok (.istore 5, 2) := by decide +kernel
theorem dX5_afterFrames_17 : decode cX5_afterFrames 17 = .ok (.iload 5, 2) := by decide +kernel
theorem dX5_afterFrames_19 : decode cX5_afterFrames 19 = .ok (.iload_n 2, 1) := by decide +kernel
theorem dX5_afterFrames_20 : decode cX5_afterFrames 20 = .ok (.if_icmp .ge 29, 3) := by decide +kernel
theorem dX5_afterFrames_23 : decode cX5_afterFrames 23 = .ok (.aload_n 0, 1) := by decide +kernel
theorem dX5_afterFrames_24 : decode cX5_afterFrames 24 = .ok (.getfield 41, 3) := by decide +kernel
theorem dX5_afterFrames_27 : decode cX5_afterFrames 27 = .ok (.invokevirtual 52, 3) := by decide +kernel
theorem dX5_afterFrames_30 : decode cX5_afterFrames 30 = .ok (.iload 4, 2) := by decide +kernel
theorem dX5_afterFrames_32 : decode cX5_afterFrames 32 = .ok (.aload_n 0, 1) := by decide +kernel
theorem dX5_afterFrames_33 : decode cX5_afterFrames 33 = .ok (.getfield 41, 3) := by decide +kernel
theorem dX5_afterFrames_36 : decode cX5_afterFrames 36 = .ok (.iload_n 1, 1) := by decide +kernel
theorem dX5_afterFrames_37 : decode cX5_afterFrames 37 = .ok (.invokevirtual 55, 3) := by decide +kernel
theorem dX5_afterFrames_40 : decode cX5_afterFrames 40 = .ok (.iadd, 1) := by decide +kernel
theorem dX5_afterFrames_41 : decode cX5_afterFrames 41 = .ok (.istore 4, 2) := by decide +kernel
theorem dX5_afterFrames_43 : decode cX5_afterFrames 43 = .ok (.iinc 5 1, 3) := by decide +kernel
theorem dX5_afterFrames_46 : decode cX5_afterFrames 46 = .ok (.goto (-29), 3) := by decide +kernel
theorem dX5_afterFrames_49 : decode cX5_afterFrames 49 = .ok (.iload_n 3, 1) := by decide +kernel
theorem dX5_afterFrames_50 : decode cX5_afterFrames 50 = .ok (.ifCond .ne 6, 3) := by decide +kernel
theorem dX5_afterFrames_53 : decode cX5_afterFrames 53 = .ok (.iload 4, 2) := by decide +kernel
theorem dX5_afterFrames_55 : decode cX5_afterFrames 55 = .ok (.ireturn, 1) := by decide +kernel
theorem dX5_afterFrames_56 : decode cX5_afterFrames 56 = .ok (.aload_n 0, 1) := by decide +kernel
theorem dX5_afterFrames_57 : decode cX5_afterFrames 57 = .ok (.getfield 28, 3) := by decide +kernel
theorem dX5_afterFrames_60 : decode cX5_afterFrames 60 = .ok (.getfield 59, 3) := by decide +kernel
theorem dX5_afterFrames_63 : decode cX5_afterFrames 63 = .ok (.iload_n 1, 1) := by decide +kernel
theorem dX5_afterFrames_64 : decode cX5_afterFrames 64 = .ok (.aaload, 1) := by decide +kernel
theorem dX5_afterFrames_65 : decode cX5_afterFrames 65 = .ok (.iload_n 3, 1) := by decide +kernel
theorem dX5_afterFrames_66 : decode cX5_afterFrames 66 = .ok (.iconst 1, 1) := by decide +kernel
theorem dX5_afterFrames_67 : decode cX5_afterFrames 67 = .ok (.if_icmp .ne 7, 3) := by decide +kernel
theorem dX5_afterFrames_70 : decode cX5_afterFrames 70 = .ok (.iconst 4, 1) := by decide +kernel
theorem dX5_afterFrames_71 : decode cX5_afterFrames 71 = .ok (.goto 5, 3) := by decide +kernel
theorem dX5_afterFrames_74 : decode cX5_afterFrames 74 = .ok (.bipush 9, 2) := by decide +kernel
theorem dX5_afterFrames_76 : decode cX5_afterFrames 76 = .ok (.invokevirtual 65, 3) := by decide +kernel
theorem dX5_afterFrames_79 : decode cX5_afterFrames 79 = .ok (.ireturn, 1) := by decide +kernel
theorem dX5_framesTillAgreed_0 : decode cX5_framesTillAgreed 0 = .ok (.aload_n 0, 1) := by decide +kernel
theorem dX5_framesTillAgreed_1 : decode cX5_framesTillAgreed 1 = .ok (.aload_n 0, 1) := by decide +kernel
theorem dX5_framesTillAgreed_2 : decode cX5_framesTillAgreed 2 = .ok (.getfield 15, 3) := by decide +kernel
theorem dX5_framesTillAgreed_5 : decode cX5_framesTillAgreed 5 = .ok (.getfield 45, 3) := by decide +kernel
theorem dX5_framesTillAgreed_8 : decode cX5_framesTillAgreed 8 = .ok (.invokevirtual 48, 3) := by decide +kernel
theorem dX5_framesTillAgreed_11 : decode cX5_framesTillAgreed 11 = .ok (.iconst 0, 1) := by decide +kernel
theorem dX5_framesTillAgreed_12 : decode cX5_framesTillAgreed 12 = .ok (.istore_n 1, 1) := by decide +kernel
theorem dX5_framesTillAgreed_13 : decode cX5_framesTillAgreed 13 = .ok (.iload_n 1, 1) := by decide +kernel
theorem dX5_framesTillAgreed_14 : decode cX5_framesTillAgreed 14 = .ok (.bipush 99, 2) := by decide +kernel
theorem dX5_framesTillAgreed_16 : decode cX5_framesTillAgreed 16 = .ok (.if_icmp .ge 28, 3) := by decide +kernel
theorem dX5_framesTillAgreed_19 : decode cX5_framesTillAgreed 19 = .ok (.aload_n 0, 1) := by decide +kernel
theorem dX5_framesTillAgreed_20 : decode cX5_framesTillAgreed 20 = .ok (.getfield 28, 3) := by decide +kernel
theorem dX5_framesTillAgreed_23 : decode cX5_framesTillAgreed 23 = .ok (.invokevirtual 68, 3) := by decide +kernel
theorem dX5_framesTillAgreed_26 : decode cX5_framesTillAgreed 26 = .ok (.ifCond .eq 5, 3) := by decide +kernel
theorem dX5_framesTillAgreed_29 : decode cX5_framesTillAgreed 29 = .ok (.iload_n 1, 1) := by decide +kernel
theorem dX5_framesTillAgreed_30 : decode cX5_framesTillAgreed 30 = .ok (.ireturn, 1) := by decide +kernel
theorem dX5_framesTillAgreed_31 : decode cX5_framesTillAgreed 31 = .ok (.aload_n 0, 1) := by decide +kernel
theorem dX5_framesTillAgreed_32 : decode cX5_framesTillAgreed 32 = .ok (.getfield 41, 3) := by decide +kernel
theorem dX5_framesTillAgreed_35 : decode cX5_framesTillAgreed 35 = .ok (.invokevirtual 52, 3) := by decide +kernel
theorem dX5_framesTillAgreed_38 : decode cX5_framesTillAgreed 38 = .ok (.iinc 1 1, 3) := by decide +kernel
theorem dX5_framesTillAgreed_41 : decode cX5_framesTillAgreed 41 = .ok (.goto (-28), 3) := by decide +kernel
theorem dX5_framesTillAgreed_44 : decode cX5_framesTillAgreed 44 = .ok (.aload_n 0, 1) := by decide +kernel
theorem dX5_framesTillAgreed_45 : decode cX5_framesTillAgreed 45 = .ok (.getfield 28, 3) := by decide +kernel
theorem dX5_framesTillAgreed_48 : decode cX5_framesTillAgreed 48 = .ok (.invokevirtual 68, 3) := by decide +kernel
theorem dX5_framesTillAgreed_51 : decode cX5_framesTillAgreed 51 = .ok (.ifCond .eq 8, 3) := by decide +kernel
theorem dX5_framesTillAgreed_54 : decode cX5_framesTillAgreed 54 = .ok (.bipush 99, 2) := by decide +kernel
theorem dX5_framesTillAgreed_56 : decode cX5_framesTillAgreed 56 = .ok (.goto 4, 3) := by decide +kernel
theorem dX5_framesTillAgreed_59 : decode cX5_framesTillAgreed 59 = .ok (.iconst (-1), 1) := by decide +kernel
theorem dX5_framesTillAgreed_60 : decode cX5_framesTillAgreed 60 = .ok (.ireturn, 1) := by decide +kernel
theorem dX5_framesTillSteady_0 : decode cX5_framesTillSteady 0 = .ok (.aload_n 0, 1) := by decide +kernel
theorem dX5_framesTillSteady_1 : decode cX5_framesTillSteady 1 = .ok (.aload_n 0, 1) := by decide +kernel
theorem dX5_framesTillSteady_2 : decode cX5_framesTillSteady 2 = .ok (.getfield 15, 3) := by decide +kernel
theorem dX5_framesTillSteady_5 : decode cX5_framesTillSteady 5 = .ok (.getfield 45, 3) := by decide +kernel
theorem dX5_framesTillSteady_8 : decode cX5_framesTillSteady 8 = .ok (.invokevirtual 48, 3) := by decide +kernel
theorem dX5_framesTillSteady_11 : decode cX5_framesTillSteady 11 = .ok (.aload_n 0, 1) := by decide +kernel
theorem dX5_framesTillSteady_12 : decode cX5_framesTillSteady 12 = .ok (.invokevirtual 72, 3) := by decide +kernel
theorem dX5_framesTillSteady_15 : decode cX5_framesTillSteady 15 = .ok (.pop, 1) := by decide +kernel
theorem dX5_framesTillSteady_16 : decode cX5_framesTillSteady 16 = .ok (.iconst 0, 1) := by decide +kernel
theorem dX5_framesTillSteady_17 : decode cX5_framesTillSteady 17 = .ok (.istore_n 1, 1) := by decide +kernel
theorem dX5_framesTillSteady_18 : decode cX5_framesTillSteady 18 = .ok (.iconst 1, 1) := by decide +kernel
theorem dX5_framesTillSteady_19 : decode cX5_framesTillSteady 19 = .ok (.istore_n 2, 1) := by decide +kernel
theorem dX5_framesTillSteady_20 : decode cX5_framesTillSteady 20 = .ok (.iload_n 2, 1) := by decide +kernel
theorem dX5_framesTillSteady_21 : decode cX5_framesTillSteady 21 = .ok (.bipush 80, 2) := by decide +kernel
theorem dX5_framesTillSteady_23 : decode cX5_framesTillSteady 23 = .ok (.if_icmp .gt 41, 3) := by decide +kernel
theorem dX5_framesTillSteady_26 : decode cX5_framesTillSteady 26 = .ok (.iload_n 1, 1) := by decide +kernel
theorem dX5_framesTillSteady_27 : decode cX5_framesTillSteady 27 = .ok (.bipush 40, 2) := by decide +kernel
theorem dX5_framesTillSteady_29 : decode cX5_framesTillSteady 29 = .ok (.if_icmp .gt 35, 3) := by decide +kernel
theorem dX5_framesTillSteady_32 : decode cX5_framesTillSteady 32 = .ok (.aload_n 0, 1) := by decide +kernel
theorem dX5_framesTillSteady_33 : decode cX5_framesTillSteady 33 = .ok (.getfield 41, 3) := by decide +kernel
theorem dX5_framesTillSteady_36 : decode cX5_framesTillSteady 36 = .ok (.invokevirtual 52, 3) := by decide +kernel
theorem dX5_framesTillSteady_39 : decode cX5_framesTillSteady 39 = .ok (.aload_n 0, 1) := by decide +kernel
theorem dX5_framesTillSteady_40 : decode cX5_framesTillSteady 40 = .ok (.invokevirtual 72, 3) := by decide +kernel
theorem dX5_framesTillSteady_43 : decode cX5_framesTillSteady 43 = .ok (.ifCond .eq 5, 3) := by decide +kernel
theorem dX5_framesTillSteady_46 : decode cX5_framesTillSteady 46 = .ok (.iload_n 2, 1) := by decide +kernel
theorem dX5_framesTillSteady_47 : decode cX5_framesTillSteady 47 = .ok (.istore_n 1, 1) := by decide +kernel
theorem dX5_framesTillSteady_48 : decode cX5_framesTillSteady 48 = .ok (.iload_n 2, 1) := by decide +kernel
theorem dX5_framesTillSteady_49 : decode cX5_framesTillSteady 49 = .ok (.iload_n 1, 1) := by decide +kernel
theorem dX5_framesTillSteady_50 : decode cX5_framesTillSteady 50 = .ok (.isub, 1) := by decide +kernel
theorem dX5_framesTillSteady_51 : decode cX5_framesTillSteady 51 = .ok (.bipush 40, 2) := by decide +kernel
theorem dX5_framesTillSteady_53 : decode cX5_framesTillSteady 53 = .ok (.if_icmp .ne 5, 3) := by decide +kernel
theorem dX5_framesTillSteady_56 : decode cX5_framesTillSteady 56 = .ok (.iload_n 1, 1) := by decide +kernel
theorem dX5_framesTillSteady_57 : decode cX5_framesTillSteady 57 = .ok (.ireturn, 1) := by decide +kernel
theorem dX5_framesTillSteady_58 : decode cX5_framesTillSteady 58 = .ok (.iinc 2 1, 3) := by decide +kernel
theorem dX5_framesTillSteady_61 : decode cX5_framesTillSteady 61 = .ok (.goto (-41), 3) := by decide +kernel
theorem dX5_framesTillSteady_64 : decode cX5_framesTillSteady 64 = .ok (.iconst (-1), 1) := by decide +kernel
theorem dX5_framesTillSteady_65 : decode cX5_framesTillSteady 65 = .ok (.ireturn, 1) := by decide +kernel
theorem dX5_framesAtOdds_0 : decode cX5_framesAtOdds 0 = .ok (.aload_n 0, 1) := by decide +kernel
theorem dX5_framesAtOdds_1 : decode cX5_framesAtOdds 1 = .ok (.aload_n 0, 1) := by decide +kernel
theorem dX5_framesAtOdds_2 : decode cX5_framesAtOdds 2 = .ok (.getfield 15, 3) := by decide +kernel
theorem dX5_framesAtOdds_5 : decode cX5_framesAtOdds 5 = .ok (.getfield 45, 3) := by decide +kernel
theorem dX5_framesAtOdds_8 : decode cX5_framesAtOdds 8 = .ok (.invokevirtual 48, 3) := by decide +kernel
theorem dX5_framesAtOdds_11 : decode cX5_framesAtOdds 11 = .ok (.iconst 0, 1) := by decide +kernel
theorem dX5_framesAtOdds_12 : decode cX5_framesAtOdds 12 = .ok (.istore_n 3, 1) := by decide +kernel
theorem dX5_framesAtOdds_13 : decode cX5_framesAtOdds 13 = .ok (.iconst 0, 1) := by decide +kernel
theorem dX5_framesAtOdds_14 : decode cX5_framesAtOdds 14 = .ok (.istore 4, 2) := by decide +kernel
theorem dX5_framesAtOdds_16 : decode cX5_framesAtOdds 16 = .ok (.iload 4, 2) := by decide +kernel
theorem dX5_framesAtOdds_18 : decode cX5_framesAtOdds 18 = .ok (.bipush 30, 2) := by decide +kernel
theorem dX5_framesAtOdds_20 : decode cX5_framesAtOdds 20 = .ok (.if_icmp .ge 75, 3) := by decide +kernel
theorem dX5_framesAtOdds_23 : decode cX5_framesAtOdds 23 = .ok (.iload 4, 2) := by decide +kernel
theorem dX5_framesAtOdds_25 : decode cX5_framesAtOdds 25 = .ok (.iload_n 1, 1) := by decide +kernel
theorem dX5_framesAtOdds_26 : decode cX5_framesAtOdds 26 = .ok (.if_icmp .ne 38, 3) := by decide +kernel
theorem dX5_framesAtOdds_29 : decode cX5_framesAtOdds 29 = .ok (.aload_n 0, 1) := by decide +kernel
theorem dX5_framesAtOdds_30 : decode cX5_framesAtOdds 30 = .ok (.getfield 28, 3) := by decide +kernel
theorem dX5_framesAtOdds_33 : decode cX5_framesAtOdds 33 = .ok (.getfield 59, 3) := by decide +kernel
theorem dX5_framesAtOdds_36 : decode cX5_framesAtOdds 36 = .ok (.iload_n 2, 1) := by decide +kernel
theorem dX5_framesAtOdds_37 : decode cX5_framesAtOdds 37 = .ok (.aaload, 1) := by decide +kernel
theorem dX5_framesAtOdds_38 : decode cX5_framesAtOdds 38 = .ok (.getfield 75, 3) := by decide +kernel
theorem dX5_framesAtOdds_41 : decode cX5_framesAtOdds 41 = .ok (.invokevirtual 79, 3) := by decide +kernel
theorem dX5_framesAtOdds_44 : decode cX5_framesAtOdds 44 = .ok (.ifCond .ne 5, 3) := by decide +kernel
theorem dX5_framesAtOdds_47 : decode cX5_framesAtOdds 47 = .ok (.iconst (-1), 1) := by decide +kernel
theorem dX5_framesAtOdds_48 : decode cX5_framesAtOdds 48 = .ok (.ireturn, 1) := by decide +kernel
theorem dX5_framesAtOdds_49 : decode cX5_framesAtOdds 49 = .ok (.aload_n 0, 1) := by decide +kernel
theorem dX5_framesAtOdds_50 : decode cX5_framesAtOdds 50 = .ok (.getfield 28, 3) := by decide +kernel
theorem dX5_framesAtOdds_53 : decode cX5_framesAtOdds 53 = .ok (.getfield 59, 3) := by decide +kernel
theorem dX5_framesAtOdds_56 : decode cX5_framesAtOdds 56 = .ok (.iload_n 2, 1) := by decide +kernel
theorem dX5_framesAtOdds_57 : decode cX5_framesAtOdds 57 = .ok (.aaload, 1) := by decide +kernel
theorem dX5_framesAtOdds_58 : decode cX5_framesAtOdds 58 = .ok (.getfield 75, 3) := by decide +kernel
theorem dX5_framesAtOdds_61 : decode cX5_framesAtOdds 61 = .ok (.invokevirtual 84, 3) := by decide +kernel
theorem dX5_framesAtOdds_64 : decode cX5_framesAtOdds 64 = .ok (.aload_n 0, 1) := by decide +kernel
theorem dX5_framesAtOdds_65 : decode cX5_framesAtOdds 65 = .ok (.getfield 41, 3) := by decide +kernel
theorem dX5_framesAtOdds_68 : decode cX5_framesAtOdds 68 = .ok (.invokevirtual 52, 3) := by decide +kernel
theorem dX5_framesAtOdds_71 : decode cX5_framesAtOdds 71 = .ok (.iload_n 3, 1) := by decide +kernel
theorem dX5_framesAtOdds_72 : decode cX5_framesAtOdds 72 = .ok (.aload_n 0, 1) := by decide +kernel
theorem dX5_framesAtOdds_73 : decode cX5_framesAtOdds 73 = .ok (.getfield 28, 3) := by decide +kernel
theorem dX5_framesAtOdds_76 : decode cX5_framesAtOdds 76 = .ok (.invokevirtual 68, 3) := by decide +kernel
theorem dX5_framesAtOdds_79 : decode cX5_framesAtOdds 79 = .ok (.ifCond .eq 7, 3) := by decide +kernel
theorem dX5_framesAtOdds_82 : decode cX5_framesAtOdds 82 = .ok (.iconst 0, 1) := by decide +kernel
theorem dX5_framesAtOdds_83 : decode cX5_framesAtOdds 83 = .ok (.goto 4, 3) := by decide +kernel
theorem dX5_framesAtOdds_86 : decode cX5_framesAtOdds 86 = .ok (.iconst 1, 1) := by decide +kernel
theorem dX5_framesAtOdds_87 : decode cX5_framesAtOdds 87 = .ok (.iadd, 1) := by decide +kernel
theorem dX5_framesAtOdds_88 : decode cX5_framesAtOdds 88 = .ok (.istore_n 3, 1) := by decide +kernel
theorem dX5_framesAtOdds_89 : decode cX5_framesAtOdds 89 = .ok (.iinc 4 1, 3) := by decide +kernel
theorem dX5_framesAtOdds_92 : decode cX5_framesAtOdds 92 = .ok (.goto (-76), 3) := by decide +kernel
theorem dX5_framesAtOdds_95 : decode cX5_framesAtOdds 95 = .ok (.iload_n 3, 1) := by decide +kernel
theorem dX5_framesAtOdds_96 : decode cX5_framesAtOdds 96 = .ok (.ireturn, 1) := by decide +kernel
theorem dX5_partsOf_0 : decode cX5_partsOf 0 = .ok (.aload_n 0, 1) := by decide +kernel
theorem dX5_partsOf_1 : decode cX5_partsOf 1 = .ok (.aload_n 0, 1) := by decide +kernel
theorem dX5_partsOf_2 : decode cX5_partsOf 2 = .ok (.getfield 15, 3) := by decide +kernel
theorem dX5_partsOf_5 : decode cX5_partsOf 5 = .ok (.getfield 45, 3) := by decide +kernel
theorem dX5_partsOf_8 : decode cX5_partsOf 8 = .ok (.invokevirtual 48, 3) := by decide +kernel
theorem dX5_partsOf_11 : decode cX5_partsOf 11 = .ok (.ldc2_w 87, 3) := by decide +kernel
theorem dX5_partsOf_14 : decode cX5_partsOf 14 = .ok (.lstore 4, 2) := by decide +kernel
theorem dX5_partsOf_16 : decode cX5_partsOf 16 = .ok (.iconst 0, 1) := by decide +kernel
theorem dX5_partsOf_17 : decode cX5_partsOf 17 = .ok (.istore 6, 2) := by decide +kernel
theorem dX5_partsOf_19 : decode cX5_partsOf 19 = .ok (.iload 6, 2) := by decide +kernel
theorem dX5_partsOf_21 : decode cX5_partsOf 21 = .ok (.iload_n 2, 1) := by decide +kernel
theorem dX5_partsOf_22 : decode cX5_partsOf 22 = .ok (.if_icmp .ge 65, 3) := by decide +kernel
theorem dX5_partsOf_25 : decode cX5_partsOf 25 = .ok (.lload 4, 2) := by decide +kernel
theorem dX5_partsOf_27 : decode cX5_partsOf 27 = .ok (.lconst 0, 1) := by decide +kernel
theorem dX5_partsOf_28 : decode cX5_partsOf 28 = .ok (.lcmp, 1) := by decide +kernel
theorem dX5_partsOf_29 : decode cX5_partsOf 29 = .ok (.ifCond .le 58, 3) := by decide +kernel
theorem dX5_partsOf_32 : decode cX5_partsOf 32 = .ok (.lload 4, 2) := by decide +kernel
theorem dX5_partsOf_34 : decode cX5_partsOf 34 = .ok (.iload_n 3, 1) := by decide +kernel
theorem dX5_partsOf_35 : decode cX5_partsOf 35 = .ok (.i2l, 1) := by decide +kernel
theorem dX5_partsOf_36 : decode cX5_partsOf 36 = .ok (.lmul, 1) := by decide +kernel
theorem dX5_partsOf_37 : decode cX5_partsOf 37 = .ok (.ldc2_w 89, 3) := by decide +kernel
theorem dX5_partsOf_40 : decode cX5_partsOf 40 = .ok (.ldiv, 1) := by decide +kernel
theorem dX5_partsOf_41 : decode cX5_partsOf 41 = .ok (.lstore 7, 2) := by decide +kernel
theorem dX5_partsOf_43 : decode cX5_partsOf 43 = .ok (.iload_n 1, 1) := by decide +kernel
theorem dX5_partsOf_44 : decode cX5_partsOf 44 = .ok (.iload 6, 2) := by decide +kernel
theorem dX5_partsOf_46 : decode cX5_partsOf 46 = .ok (.ishr, 1) := by decide +kernel
theorem dX5_partsOf_47 : decode cX5_partsOf 47 = .ok (.iconst 1, 1) := by decide +kernel
theorem dX5_partsOf_48 : decode cX5_partsOf 48 = .ok (.iand, 1) := by decide +kernel
theorem dX5_partsOf_49 : decode cX5_partsOf 49 = .ok (.iconst 1, 1) := by decide +kernel
theorem dX5_partsOf_50 : decode cX5_partsOf 50 = .ok (.if_icmp .ne 17, 3) := by decide +kernel
theorem dX5_partsOf_53 : decode cX5_partsOf 53 = .ok (.lload 7, 2) := by decide +kernel
theorem dX5_partsOf_55 : decode cX5_partsOf 55 = .ok (.lstore 4, 2) := by decide +kernel
theorem dX5_partsOf_57 : decode cX5_partsOf 57 = .ok (.aload_n 0, 1) := by decide +kernel
theorem dX5_partsOf_58 : decode cX5_partsOf 58 = .ok (.getfield 28, 3) := by decide +kernel
theorem dX5_partsOf_61 : decode cX5_partsOf 61 = .ok (.invokevirtual 91, 3) := by decide +kernel
theorem dX5_partsOf_64 : decode cX5_partsOf 64 = .ok (.goto 10, 3) := by decide +kernel
theorem dX5_partsOf_67 : decode cX5_partsOf 67 = .ok (.lload 4, 2) := by decide +kernel
theorem dX5_partsOf_69 : decode cX5_partsOf 69 = .ok (.lload 7, 2) := by decide +kernel
theorem dX5_partsOf_71 : decode cX5_partsOf 71 = .ok (.lsub, 1) := by decide +kernel
theorem dX5_partsOf_72 : decode cX5_partsOf 72 = .ok (.lstore 4, 2) := by decide +kernel
theorem dX5_partsOf_74 : decode cX5_partsOf 74 = .ok (.aload_n 0, 1) := by decide +kernel
theorem dX5_partsOf_75 : decode cX5_partsOf 75 = .ok (.getfield 41, 3) := by decide +kernel
theorem dX5_partsOf_78 : decode cX5_partsOf 78 = .ok (.invokevirtual 52, 3) := by decide +kernel
theorem dX5_partsOf_81 : decode cX5_partsOf 81 = .ok (.iinc 6 1, 3) := by decide +kernel
theorem dX5_partsOf_84 : decode cX5_partsOf 84 = .ok (.goto (-65), 3) := by decide +kernel
theorem dX5_partsOf_87 : decode cX5_partsOf 87 = .ok (.aload_n 0, 1) := by decide +kernel
theorem dX5_partsOf_88 : decode cX5_partsOf 88 = .ok (.getfield 28, 3) := by decide +kernel
theorem dX5_partsOf_91 : decode cX5_partsOf 91 = .ok (.invokevirtual 68, 3) := by decide +kernel
theorem dX5_partsOf_94 : decode cX5_partsOf 94 = .ok (.ifCond .eq 8, 3) := by decide +kernel
theorem dX5_partsOf_97 : decode cX5_partsOf 97 = .ok (.lload 4, 2) := by decide +kernel
theorem dX5_partsOf_99 : decode cX5_partsOf 99 = .ok (.goto 4, 3) := by decide +kernel
theorem dX5_partsOf_102 : decode cX5_partsOf 102 = .ok (.lconst 0, 1) := by decide +kernel
theorem dX5_partsOf_103 : decode cX5_partsOf 103 = .ok (.lreturn, 1) := by decide +kernel
theorem dX5_notesChange_0 : decode cX5_notesChange 0 = .ok (.iconst 0, 1) := by decide +kernel
theorem dX5_notesChange_1 : decode cX5_notesChange 1 = .ok (.istore_n 1, 1) := by decide +kernel
theorem dX5_notesChange_2 : decode cX5_notesChange 2 = .ok (.iconst 0, 1) := by decide +kernel
theorem dX5_notesChange_3 : decode cX5_notesChange 3 = .ok (.istore_n 2, 1) := by decide +kernel
theorem dX5_notesChange_4 : decode cX5_notesChange 4 = .ok (.iload_n 2, 1) := by decide +kernel
theorem dX5_notesChange_5 : decode cX5_notesChange 5 = .ok (.aload_n 0, 1) := by decide +kernel
theorem dX5_notesChange_6 : decode cX5_notesChange 6 = .ok (.getfield 15, 3) := by decide +kernel
theorem dX5_notesChange_9 : decode cX5_notesChange 9 = .ok (.getfield 21, 3) := by decide +kernel
theorem dX5_notesChange_12 : decode cX5_notesChange 12 = .ok (.invokevirtual 94, 3) := by decide +kernel
theorem dX5_notesChange_15 : decode cX5_notesChange 15 = .ok (.if_icmp .ge 52, 3) := by decide +kernel
theorem dX5_notesChange_18 : decode cX5_notesChange 18 = .ok (.aload_n 0, 1) := by decide +kernel
theorem dX5_notesChange_19 : decode cX5_notesChange 19 = .ok (.getfield 28, 3) := by decide +kernel
theorem dX5_notesChange_22 : decode cX5_notesChange 22 = .ok (.getfield 59, 3) := by decide +kernel
theorem dX5_notesChange_25 : decode cX5_notesChange 25 = .ok (.iload_n 2, 1) := by decide +kernel
theorem dX5_notesChange_26 : decode cX5_notesChange 26 = .ok (.aaload, 1) := by decide +kernel
theorem dX5_notesChange_27 : decode cX5_notesChange 27 = .ok (.getfield 100, 3) := by decide +kernel
theorem dX5_notesChange_30 : decode cX5_notesChange 30 = .ok (.invokevirtual 104, 3) := by decide +kernel
theorem dX5_notesChange_33 : decode cX5_notesChange 33 = .ok (.istore_n 3, 1) := by decide +kernel
theorem dX5_notesChange_34 : decode cX5_notesChange 34 = .ok (.iload_n 1, 1) := by decide +kernel
theorem dX5_notesChange_35 : decode cX5_notesChange 35 = .ok (.ifCond .ne 13, 3) := by decide +kernel
theorem dX5_notesChange_38 : decode cX5_notesChange 38 = .ok (.iload_n 3, 1) := by decide +kernel
theorem dX5_notesChange_39 : decode cX5_notesChange 39 = .ok (.aload_n 0, 1) := by decide +kernel
theorem dX5_notesChange_40 : decode cX5_notesChange 40 = .ok (.getfield 9, 3) := by decide +kernel
theorem dX5_notesChange_43 : decode cX5_notesChange 43 = .ok (.iload_n 2, 1) := by decide +kernel
theorem dX5_notesChange_44 : decode cX5_notesChange 44 = .ok (.iaload, 1) := by decide +kernel
theorem dX5_notesChange_45 : decode cX5_notesChange 45 = .ok (.if_icmp .eq 7, 3) := by decide +kernel
theorem dX5_notesChange_48 : decode cX5_notesChange 48 = .ok (.iconst 1, 1) := by decide +kernel
theorem dX5_notesChange_49 : decode cX5_notesChange 49 = .ok (.goto 4, 3) := by decide +kernel
theorem dX5_notesChange_52 : decode cX5_notesChange 52 = .ok (.iconst 0, 1) := by decide +kernel
theorem dX5_notesChange_53 : decode cX5_notesChange 53 = .ok (.istore_n 1, 1) := by decide +kernel
theorem dX5_notesChange_54 : decode cX5_notesChange 54 = .ok (.aload_n 0, 1) := by decide +kernel
theorem dX5_notesChange_55 : decode cX5_notesChange 55 = .ok (.getfield 9, 3) := by decide +kernel
theorem dX5_notesChange_58 : decode cX5_notesChange 58 = .ok (.iload_n 2, 1) := by decide +kernel
theorem dX5_notesChange_59 : decode cX5_notesChange 59 = .ok (.iload_n 3, 1) := by decide +kernel
theorem dX5_notesChange_60 : decode cX5_notesChange 60 = .ok (.iastore, 1) := by decide +kernel
theorem dX5_notesChange_61 : decode cX5_notesChange 61 = .ok (.iinc 2 1, 3) := by decide +kernel
theorem dX5_notesChange_64 : decode cX5_notesChange 64 = .ok (.goto (-60), 3) := by decide +kernel
theorem dX5_notesChange_67 : decode cX5_notesChange 67 = .ok (.iload_n 1, 1) := by decide +kernel
theorem dX5_notesChange_68 : decode cX5_notesChange 68 = .ok (.ireturn, 1) := by decide +kernel
theorem dX5_startFrom_0 : decode cX5_startFrom 0 = .ok (.aload_n 1, 1) := by decide +kernel
theorem dX5_startFrom_1 : decode cX5_startFrom 1 = .ok (.iconst 0, 1) := by decide +kernel
theorem dX5_startFrom_2 : decode cX5_startFrom 2 = .ok (.aload_n 0, 1) := by decide +kernel
theorem dX5_startFrom_3 : decode cX5_startFrom 3 = .ok (.getfield 28, 3) := by decide +kernel
theorem dX5_startFrom_6 : decode cX5_startFrom 6 = .ok (.getfield 45, 3) := by decide +kernel
theorem dX5_startFrom_9 : decode cX5_startFrom 9 = .ok (.iconst 0, 1) := by decide +kernel
theorem dX5_startFrom_10 : decode cX5_startFrom 10 = .ok (.sipush 429, 3) := by decide +kernel
theorem dX5_startFrom_13 : decode cX5_startFrom 13 = .ok (.invokestatic 109, 3) := by decide +kernel
theorem dX5_startFrom_16 : decode cX5_startFrom 16 = .ok (.return_, 1) := by decide +kernel
theorem dX6_init_0 : decode cX6_init 0 = .ok (.aload_n 0, 1) := by decide +kernel
theorem dX6_init_1 : decode cX6_init 1 = .ok (.invokespecial 5, 3) := by decide +kernel
theorem dX6_init_4 : decode cX6_init 4 = .ok (.aload_n 0, 1) := by decide +kernel
theorem dX6_init_5 : decode cX6_init 5 = .ok (.sipush 300, 3) := by decide +kernel
theorem dX6_init_8 : decode cX6_init 8 = .ok (.newarray .int, 2) := by decide +kernel
theorem dX6_init_10 : decode cX6_init 10 = .ok (.putfield 11, 3) := by decide +kernel
theorem dX6_init_13 : decode cX6_init 13 = .ok (.aload_n 0, 1) := by decide +kernel
theorem dX6_init_14 : decode cX6_init 14 = .ok (.bipush 40, 2) := by decide +kernel
theorem dX6_init_16 : decode cX6_init 16 = .ok (.anewarray 15, 3) := by decide +kernel
theorem dX6_init_19 : decode cX6_init 19 = .ok (.putfield 16, 3) := by decide +kernel
theorem dX6_init_22 : decode cX6_init 22 = .ok (.aload_n 0, 1) := by decide +kernel
theorem dX6_init_23 : decode cX6_init 23 = .ok (.bipush 40, 2) := by decide +kernel
theorem dX6_init_25 : decode cX6_init 25 = .ok (.newarray .int, 2) := by decide +kernel
theorem dX6_init_27 : decode cX6_init 27 = .ok (.putfield 20, 3) := by decide +kernel
theorem dX6_init_30 : decode cX6_init 30 = .ok (.aload_n 0, 1) := by decide +kernel
theorem dX6_init_31 : decode cX6_init 31 = .ok (.sipush 429, 3) := by decide +kernel
theorem dX6_init_34 : decode cX6_init 34 = .ok (.newarray .int, 2) := by decide +kernel
theorem dX6_init_36 : decode cX6_init 36 = .ok (.putfield 25, 3) := by decide +kernel
theorem dX6_init_39 : decode cX6_init 39 = .ok (.aload_n 0, 1) := by decide +kernel
theorem dX6_init_40 : decode cX6_init 40 = .ok (.sipush 180, 3) := by decide +kernel
theorem dX6_init_43 : decode cX6_init 43 = .ok (.newarray .int, 2) := by decide +kernel
theorem dX6_init_45 : decode cX6_init 45 = .ok (.putfield 28, 3) := by decide +kernel
theorem dX6_init_48 : decode cX6_init 48 = .ok (.return_, 1) := by decide +kernel
theorem dX6_startAnew_0 : decode cX6_startAnew 0 = .ok (.aload_n 0, 1) := by decide +kernel
theorem dX6_startAnew_1 : decode cX6_startAnew 1 = .ok (.iconst 0, 1) := by decide +kernel
theorem dX6_startAnew_2 : decode cX6_startAnew 2 = .ok (.putfield 31, 3) := by decide +kernel
theorem dX6_startAnew_5 : decode cX6_startAnew 5 = .ok (.aload_n 0, 1) := by decide +kernel
theorem dX6_startAnew_6 : decode cX6_startAnew 6 = .ok (.iconst 0, 1) := by decide +kernel
theorem dX6_startAnew_7 : decode cX6_startAnew 7 = .ok (.putfield 35, 3) := by decide +kernel
theorem dX6_startAnew_10 : decode cX6_startAnew 10 = .ok (.aload_n 0, 1) := by decide +kernel
theorem dX6_startAnew_11 : decode cX6_startAnew 11 = .ok (.iconst 0, 1) := by decide +kernel
theorem dX6_startAnew_12 : decode cX6_startAnew 12 = .ok (.putfield 38, 3) := by decide +kernel
theorem dX6_startAnew_15 : decode cX6_startAnew 15 = .ok (.return_, 1) := by decide +kernel
theorem dX6_acts_0 : decode cX6_acts 0 = .ok (.aload_n 0, 1) := by decide +kernel
theorem dX6_acts_1 : decode cX6_acts 1 = .ok (.getfield 35, 3) := by decide +kernel
theorem dX6_acts_4 : decode cX6_acts 4 = .ok (.ireturn, 1) := by decide +kernel
theorem dX6_logLength_0 : decode cX6_logLength 0 = .ok (.aload_n 0, 1) := by decide +kernel
theorem dX6_logLength_1 : decode cX6_logLength 1 = .ok (.getfield 31, 3) := by decide +kernel
theorem dX6_logLength_4 : decode cX6_logLength 4 = .ok (.bipush 60, 2) := by decide +kernel
theorem dX6_logLength_6 : decode cX6_logLength 6 = .ok (.invokestatic 42, 3) := by decide +kernel
theorem dX6_logLength_9 : decode cX6_logLength 9 = .ok (.ireturn, 1) := by decide +kernel
theorem dX6_addToLog_0 : decode cX6_addToLog 0 = .ok (.aload_n 0, 1) := by decide +kernel
theorem dX6_addToLog_1 : decode cX6_addToLog 1 = .ok (.getfield 31, 3) := by decide +kernel
theorem dX6_addToLog_4 : decode cX6_addToLog 4 = .ok (.bipush 100, 2) := by decide +kernel
theorem dX6_addToLog_6 : decode cX6_addToLog 6 = .ok (.irem, 1) := by decide +kernel
theorem dX6_addToLog_7 : decode cX6_addToLog 7 = .ok (.iconst 3, 1) := by decide +kernel
theorem dX6_addToLog_8 : decode cX6_addToLog 8 = .ok (.imul, 1) := by decide +kernel
theorem dX6_addToLog_9 : decode cX6_addToLog 9 = .ok (.istore 4, 2) := by decide +kernel
theorem dX6_addToLog_11 : decode cX6_addToLog 11 = .ok (.aload_n 0, 1) := by decide +kernel
theorem dX6_addToLog_12 : decode cX6_addToLog 12 = .ok (.getfield 11, 3) := by decide +kernel
theorem dX6_addToLog_15 : decode cX6_addToLog 15 = .ok (.iload 4, 2) := by decide +kernel
theorem dX6_addToLog_17 : decode cX6_addToLog 17 = .ok (.iload_n 1, 1) := by decide +kernel
theorem dX6_addToLog_18 : decode cX6_addToLog 18 = .ok (.iastore, 1) := by decide +kernel
theorem dX6_addToLog_19 : decode cX6_addToLog 19 = .ok (.aload_n 0, 1) := by decide +kernel
theorem dX6_addToLog_20 : decode cX6_addToLog 20 = .ok (.getfield 11, 3) := by decide +kernel
theorem dX6_addToLog_23 : decode cX6_addToLog 23 = .ok (.iload 4, 2) := by decide +kernel
theorem dX6_addToLog_25 : decode cX6_addToLog 25 = .ok (.iconst 1, 1) := by decide +kernel
theorem dX6_addToLog_26 : decode cX6_addToLog 26 = .ok (.iadd, 1) := by decide +kernel
theorem dX6_addToLog_27 : decode cX6_addToLog 27 = .ok (.iload_n 2, 1) := by decide +kernel
theorem dX6_addToLog_28 : decode cX6_addToLog 28 = .ok (.iastore, 1) := by decide +kernel
theorem dX6_addToLog_29 : decode cX6_addToLog 29 = .ok (.aload_n 0, 1) := by decide +kernel
theorem dX6_addToLog_30 : decode cX6_addToLog 30 = .ok (.getfield 11, 3) := by decide +kernel
theorem dX6_addToLog_33 : decode cX6_addToLog 33 = .ok (.iload 4, 2) := by decide +kernel
theorem dX6_addToLog_35 : decode cX6_addToLog 35 = .ok (.iconst 2, 1) := by decide +kernel
theorem dX6_addToLog_36 : decode cX6_addToLog 36 = .ok (.iadd, 1) := by decide +kernel
theorem dX6_addToLog_37 : decode cX6_addToLog 37 = .ok (.iload_n 3, 1) := by decide +kernel
theorem dX6_addToLog_38 : decode cX6_addToLog 38 = .ok (.iastore, 1) := by decide +kernel
theorem dX6_addToLog_39 : decode cX6_addToLog 39 = .ok (.aload_n 0, 1) := by decide +kernel
theorem dX6_addToLog_40 : decode cX6_addToLog 40 = .ok (.dup, 1) := by decide +kernel
theorem dX6_addToLog_41 : decode cX6_addToLog 41 = .ok (.getfield 31, 3) := by decide +kernel
theorem dX6_addToLog_44 : decode cX6_addToLog 44 = .ok (.iconst 1, 1) := by decide +kernel
theorem dX6_addToLog_45 : decode cX6_addToLog 45 = .ok (.iadd, 1) := by decide +kernel
theorem dX6_addToLog_46 : decode cX6_addToLog 46 = .ok (.putfield 31, 3) := by decide +kernel
theorem dX6_addToLog_49 : decode cX6_addToLog 49 = .ok (.return_, 1) := by decide +kernel
theorem dX6_tellLog_0 : decode cX6_tellLog 0 = .ok (.iload_n 1, 1) := by decide +kernel
theorem dX6_tellLog_1 : decode cX6_tellLog 1 = .ok (.ifCond .lt 20, 3) := by decide +kernel
theorem dX6_tellLog_4 : decode cX6_tellLog 4 = .ok (.iload_n 1, 1) := by decide +kernel
theorem dX6_tellLog_5 : decode cX6_tellLog 5 = .ok (.aload_n 0, 1) := by decide +kernel
theorem dX6_tellLog_6 : decode cX6_tellLog 6 = .ok (.invokevirtual 48, 3) := by decide +kernel
theorem dX6_tellLog_9 : decode cX6_tellLog 9 = .ok (.if_icmp .ge 12, 3) := by decide +kernel
theorem dX6_tellLog_12 : decode cX6_tellLog 12 = .ok (.iload_n 2, 1) := by decide +kernel
theorem dX6_tellLog_13 : decode cX6_tellLog 13 = .ok (.ifCond .lt 8, 3) := by decide +kernel
theorem dX6_tellLog_16 : decode cX6_tellLog 16 = .ok (.iload_n 2, 1) := by decide +kernel
theorem dX6_tellLog_17 : decode cX6_tellLog 17 = .ok (.iconst 3, 1) := by decide +kernel
theorem dX6_tellLog_18 : decode cX6_tellLog 18 = .ok (.if_icmp .lt 5, 3) := by decide +kernel
theorem dX6_tellLog_21 : decode cX6_tellLog 21 = .ok (.iconst (-1), 1) := by decide +kernel
theorem dX6_tellLog_22 : decode cX6_tellLog 22 = .ok (.ireturn, 1) := by decide +kernel
theorem dX6_tellLog_23 : decode cX6_tellLog 23 = .ok (.aload_n 0, 1) := by decide +kernel
theorem dX6_tellLog_24 : decode cX6_tellLog 24 = .ok (.getfield 11, 3) := by decide +kernel
theorem dX6_tellLog_27 : decode cX6_tellLog 27 = .ok (.aload_n 0, 1) := by decide +kernel
theorem dX6_tellLog_28 : decode cX6_tellLog 28 = .ok (.getfield 31, 3) := by decide +kernel
theorem dX6_tellLog_31 : decode cX6_tellLog 31 = .ok (.iconst 1, 1) := by decide +kernel
theorem dX6_tellLog_32 : decode cX6_tellLog 32 = .ok (.isub, 1) := by decide +kernel
theorem dX6_tellLog_33 : decode cX6_tellLog 33 = .ok (.iload_n 1, 1) := by decide +kernel
theorem dX6_tellLog_34 : decode cX6_tellLog 34 = .ok (.isub, 1) := by decide +kernel
theorem dX6_tellLog_35 : decode cX6_tellLog 35 = .ok (.bipush 100, 2) := by decide +kernel
theorem dX6_tellLog_37 : decode cX6_tellLog 37 = .ok (.irem, 1) := by decide +kernel
theorem dX6_tellLog_38 : decode cX6_tellLog 38 = .ok (.iconst 3, 1) := by decide +kernel
theorem dX6_tellLog_39 : decode cX6_tellLog 39 = .ok (.imul, 1) := by decide +kernel
theorem dX6_tellLog_40 : decode cX6_tellLog 40 = .ok (.iload_n 2, 1) := by decide +kernel
theorem dX6_tellLog_41 : decode cX6_tellLog 41 = .ok (.iadd, 1) := by decide +kernel
theorem dX6_tellLog_42 : decode cX6_tellLog 42 = .ok (.iaload, 1) := by decide +kernel
theorem dX6_tellLog_43 : decode cX6_tellLog 43 = .ok (.ireturn, 1) := by decide +kernel
theorem dX6_keepAct_0 : decode cX6_keepAct 0 = .ok (.aload_n 0, 1) := by decide +kernel
theorem dX6_keepAct_1 : decode cX6_keepAct 1 = .ok (.getfield 16, 3) := by decide +kernel
theorem dX6_keepAct_4 : decode cX6_keepAct 4 = .ok (.aload_n 0, 1) := by decide +kernel
theorem dX6_keepAct_5 : decode cX6_keepAct 5 = .ok (.getfield 52, 3) := by decide +kernel
theorem dX6_keepAct_8 : decode cX6_keepAct 8 = .ok (.aaload, 1) := by decide +kernel
theorem dX6_keepAct_9 : decode cX6_keepAct 9 = .ok (.ifnonnull 17, 3) := by decide +kernel
theorem dX6_keepAct_12 : decode cX6_keepAct 12 = .ok (.aload_n 0, 1) := by decide +kernel
theorem dX6_keepAct_13 : decode cX6_keepAct 13 = .ok (.getfield 16, 3) := by decide +kernel
theorem dX6_keepAct_16 : decode cX6_keepAct 16 = .ok (.aload_n 0, 1) := by decide +kernel
theorem dX6_keepAct_17 : decode cX6_keepAct 17 = .ok (.getfield 52, 3) := by decide +kernel
theorem dX6_keepAct_20 : decode cX6_keepAct 20 = .ok (.sipush 429, 3) := by decide +kernel
theorem dX6_keepAct_23 : decode cX6_keepAct 23 = .ok (.newarray .int, 2) := by decide +kernel
theorem dX6_keepAct_25 : decode cX6_keepAct 25 = .ok (.aastore, 1) := by decide +kernel
theorem dX6_keepAct_26 : decode cX6_keepAct 26 = .ok (.aload_n 1, 1) := by decide +kernel
theorem dX6_keepAct_27 : decode cX6_keepAct 27 = .ok (.iconst 0, 1) := by decide +kernel
theorem dX6_keepAct_28 : decode cX6_keepAct 28 = .ok (.aload_n 0, 1) := by decide +kernel
theorem dX6_keepAct_29 : decode cX6_keepAct 29 = .ok (.getfield 16, 3) := by decide +kernel
theorem dX6_keepAct_32 : decode cX6_keepAct 32 = .ok (.aload_n 0, 1) := by decide +kernel
theorem dX6_keepAct_33 : decode cX6_keepAct 33 = .ok (.getfield 52, 3) := by decide +kernel
theorem dX6_keepAct_36 : decode cX6_keepAct 36 = .ok (.aaload, 1) := by decide +kernel
theorem dX6_keepAct_37 : decode cX6_keepAct 37 = .ok (.iconst 0, 1) := by decide +kernel
theorem dX6_keepAct_38 : decode cX6_keepAct 38 = .ok (.sipush 429, 3) := by decide +kernel
theorem dX6_keepAct_41 : decode cX6_keepAct 41 = .ok (.invokestatic 55, 3) := by decide +kernel
theorem dX6_keepAct_44 : decode cX6_keepAct 44 = .ok (.aload_n 0, 1) := by decide +kernel
theorem dX6_keepAct_45 : decode cX6_keepAct 45 = .ok (.getfield 20, 3) := by decide +kernel
theorem dX6_keepAct_48 : decode cX6_keepAct 48 = .ok (.aload_n 0, 1) := by decide +kernel
theorem dX6_keepAct_49 : decode cX6_keepAct 49 = .ok (.getfield 52, 3) := by decide +kernel
theorem dX6_keepAct_52 : decode cX6_keepAct 52 = .ok (.aload_n 0, 1) := by decide +kernel
theorem dX6_keepAct_53 : decode cX6_keepAct 53 = .ok (.getfield 31, 3) := by decide +kernel
theorem dX6_keepAct_56 : decode cX6_keepAct 56 = .ok (.iastore, 1) := by decide +kernel
theorem dX6_keepAct_57 : decode cX6_keepAct 57 = .ok (.aload_n 0, 1) := by decide +kernel
theorem dX6_keepAct_58 : decode cX6_keepAct 58 = .ok (.aload_n 0, 1) := by decide +kernel
theorem dX6_keepAct_59 : decode cX6_keepAct 59 = .ok (.getfield 52, 3) := by decide +kernel
theorem dX6_keepAct_62 : decode cX6_keepAct 62 = .ok (.iconst 1, 1) := by decide +kernel
theorem dX6_keepAct_63 : decode cX6_keepAct 63 = .ok (.iadd, 1) := by decide +kernel
theorem dX6_keepAct_64 : decode cX6_keepAct 64 = .ok (.bipush 40, 2) := by decide +kernel
theorem dX6_keepAct_66 : decode cX6_keepAct 66 = .ok (.irem, 1) := by decide +kernel
theorem dX6_keepAct_67 : decode cX6_keepAct 67 = .ok (.putfield 52, 3) := by decide +kernel
theorem dX6_keepAct_70 : decode cX6_keepAct 70 = .ok (.aload_n 0, 1) := by decide +kernel
theorem dX6_keepAct_71 : decode cX6_keepAct 71 = .ok (.aload_n 0, 1) := by decide +kernel
theorem dX6_keepAct_72 : decode cX6_keepAct 72 = .ok (.getfield 35, 3) := by decide +kernel
theorem dX6_keepAct_75 : decode cX6_keepAct 75 = .ok (.iconst 1, 1) := by decide +kernel
theorem dX6_keepAct_76 : decode cX6_keepAct 76 = .ok (.iadd, 1) := by decide +kernel
theorem dX6_keepAct_77 : decode cX6_keepAct 77 = .ok (.bipush 40, 2) := by decide +kernel
theorem dX6_keepAct_79 : decode cX6_keepAct 79 = .ok (.invokestatic 42, 3) := by decide +kernel
theorem dX6_keepAct_82 : decode cX6_keepAct 82 = .ok (.putfield 35, 3) := by decide +kernel
theorem dX6_keepAct_85 : decode cX6_keepAct 85 = .ok (.return_, 1) := by decide +kernel
theorem dX6_takeBackAct_0 : decode cX6_takeBackAct 0 = .ok (.aload_n 0, 1) := by decide +kernel
theorem dX6_takeBackAct_1 : decode cX6_takeBackAct 1 = .ok (.getfield 52, 3) := by decide +kernel
theorem dX6_takeBackAct_4 : decode cX6_takeBackAct 4 = .ok (.bipush 40, 2) := by decide +kernel
theorem dX6_takeBackAct_6 : decode cX6_takeBackAct 6 = .ok (.iadd, 1) := by decide +kernel
theorem dX6_takeBackAct_7 : decode cX6_takeBackAct 7 = .ok (.iconst 1, 1) := by decide +kernel
theorem dX6_takeBackAct_8 : decode cX6_takeBackAct 8 = .ok (.isub, 1) := by decide +kernel
theorem dX6_takeBackAct_9 : decode cX6_takeBackAct 9 = .ok (.bipush 40, 2) := by decide +kernel
theorem dX6_takeBackAct_11 : decode cX6_takeBackAct 11 = .ok (.irem, 1) := by decide +kernel
theorem dX6_takeBackAct_12 : decode cX6_takeBackAct 12 = .ok (.istore_n 2, 1) := by decide +kernel
theorem dX6_takeBackAct_13 : decode cX6_takeBackAct 13 = .ok (.aload_n 0, 1) := by decide +kernel
theorem dX6_takeBackAct_14 : decode cX6_takeBackAct 14 = .ok (.getfield 35, 3) := by decide +kernel
theorem dX6_takeBackAct_17 : decode cX6_takeBackAct 17 = .ok (.ifCond .eq 12, 3) := by decide +kernel
theorem dX6_takeBackAct_20 : decode cX6_takeBackAct 20 = .ok (.aload_n 0, 1) := by decide +kernel
theorem dX6_takeBackAct_21 : decode cX6_takeBackAct 21 = .ok (.getfield 16, 3) := by decide +kernel
theorem dX6_takeBackAct_24 : decode cX6_takeBackAct 24 = .ok (.iload_n 2, 1) := by decide +kernel
theorem dX6_takeBackAct_25 : decode cX6_takeBackAct 25 = .ok (.aaload, 1) := by decide +kernel
theorem dX6_takeBackAct_26 : decode cX6_takeBackAct 26 = .ok (.ifnonnull 5, 3) := by decide +kernel
theorem dX6_takeBackAct_29 : decode cX6_takeBackAct 29 = .ok (.iconst 0, 1) := by decide +kernel
theorem dX6_takeBackAct_30 : decode cX6_takeBackAct 30 = .ok (.ireturn, 1) := by decide +kernel
theorem dX6_takeBackAct_31 : decode cX6_takeBackAct 31 = .ok (.aload_n 0, 1) := by decide +kernel
theorem dX6_takeBackAct_32 : decode cX6_takeBackAct 32 = .ok (.getfield 16, 3) := by decide +kernel
theorem dX6_takeBackAct_35 : decode cX6_takeBackAct 35 = .ok (.iload_n 2, 1) := by decide +kernel
theorem dX6_takeBackAct_36 : decode cX6_takeBackAct 36 = .ok (.aaload, 1) := by decide +kernel
theorem dX6_takeBackAct_37 : decode cX6_takeBackAct 37 = .ok (.iconst 0, 1) := by decide +kernel
theorem dX6_takeBackAct_38 : decode cX6_takeBackAct 38 = .ok (.aload_n 1, 1) := by decide +kernel
theorem dX6_takeBackAct_39 : decode cX6_takeBackAct 39 = .ok (.iconst 0, 1) := by decide +kernel
theorem dX6_takeBackAct_40 : decode cX6_takeBackAct 40 = .ok (.sipush 429, 3) := by decide +kernel
theorem dX6_takeBackAct_43 : decode cX6_takeBackAct 43 = .ok (.invokestatic 55, 3) := by decide +kernel
theorem dX6_takeBackAct_46 : decode cX6_takeBackAct 46 = .ok (.aload_n 0, 1) := by decide +kernel
theorem dX6_takeBackAct_47 : decode cX6_takeBackAct 47 = .ok (.aload_n 0, 1) := by decide +kernel
theorem dX6_takeBackAct_48 : decode cX6_takeBackAct 48 = .ok (.getfield 20, 3) := by decide +kernel
theorem dX6_takeBackAct_51 : decode cX6_takeBackAct 51 = .ok (.iload_n 2, 1) := by decide +kernel
theorem dX6_takeBackAct_52 : decode cX6_takeBackAct 52 = .ok (.iaload, 1) := by decide +kernel
theorem dX6_takeBackAct_53 : decode cX6_takeBackAct 53 = .ok (.putfield 31, 3) := by decide +kernel
theorem dX6_takeBackAct_56 : decode cX6_takeBackAct 56 = .ok (.aload_n 0, 1) := by decide +kernel
theorem dX6_takeBackAct_57 : decode cX6_takeBackAct 57 = .ok (.iload_n 2, 1) := by decide +kernel
theorem dX6_takeBackAct_58 : decode cX6_takeBackAct 58 = .ok (.putfield 52, 3) := by decide +kernel
theorem dX6_takeBackAct_61 : decode cX6_takeBackAct 61 = .ok (.aload_n 0, 1) := by decide +kernel
theorem dX6_takeBackAct_62 : decode cX6_takeBackAct 62 = .ok (.dup, 1) := by decide +kernel
theorem dX6_takeBackAct_63 : decode cX6_takeBackAct 63 = .ok (.getfield 35, 3) := by decide +kernel
theorem dX6_takeBackAct_66 : decode cX6_takeBackAct 66 = .ok (.iconst 1, 1) := by decide +kernel
theorem dX6_takeBackAct_67 : decode cX6_takeBackAct 67 = .ok (.isub, 1) := by decide +kernel
theorem dX6_takeBackAct_68 : decode cX6_takeBackAct 68 = .ok (.putfield 35, 3) := by decide +kernel
theorem dX6_takeBackAct_71 : decode cX6_takeBackAct 71 = .ok (.iconst 1, 1) := by decide +kernel
theorem dX6_takeBackAct_72 : decode cX6_takeBackAct 72 = .ok (.ireturn, 1) := by decide +kernel
theorem dX6_keepImage_0 : decode cX6_keepImage 0 = .ok (.aload_n 1, 1) := by decide +kernel
theorem dX6_keepImage_1 : decode cX6_keepImage 1 = .ok (.iconst 0, 1) := by decide +kernel
theorem dX6_keepImage_2 : decode cX6_keepImage 2 = .ok (.aload_n 0, 1) := by decide +kernel
theorem dX6_keepImage_3 : decode cX6_keepImage 3 = .ok (.getfield 25, 3) := by decide +kernel
theorem dX6_keepImage_6 : decode cX6_keepImage 6 = .ok (.iconst 0, 1) := by decide +kernel
theorem dX6_keepImage_7 : decode cX6_keepImage 7 = .ok (.sipush 429, 3) := by decide +kernel
theorem dX6_keepImage_10 : decode cX6_keepImage 10 = .ok (.invokestatic 55, 3) := by decide +kernel
theorem dX6_keepImage_13 : decode cX6_keepImage 13 = .ok (.aload_n 0, 1) := by decide +kernel
theorem dX6_keepImage_14 : decode cX6_keepImage 14 = .ok (.aload_n 0, 1) := by decide +kernel
theorem dX6_keepImage_15 : decode cX6_keepImage 15 = .ok (.invokevirtual 48, 3) := by decide +kernel
theorem dX6_keepImage_18 : decode cX6_keepImage 18 = .ok (.putfield 61, 3) := by decide +kernel
theorem dX6_keepImage_21 : decode cX6_keepImage 21 = .ok (.iconst 0, 1) := by decide +kernel
theorem dX6_keepImage_22 : decode cX6_keepImage 22 = .ok (.istore_n 2, 1) := by decide +kernel
theorem dX6_keepImage_23 : decode cX6_keepImage 23 = .ok (.iload_n 2, 1) := by decide +kernel
theorem dX6_keepImage_24 : decode cX6_keepImage 24 = .ok (.aload_n 0, 1) := by decide +kernel
theorem dX6_keepImage_25 : decode cX6_keepImage 25 = .ok (.getfield 61, 3) := by decide +kernel
theorem dX6_keepImage_28 : decode cX6_keepImage 28 = .ok (.if_icmp .ge 45, 3) := by decide +kernel
theorem dX6_keepImage_31 : decode cX6_keepImage 31 = .ok (.iconst 0, 1) := by decide +kernel
theorem dX6_keepImage_32 : decode cX6_keepImage 32 = .ok (.istore_n 3, 1) := by decide +kernel
theorem dX6_keepImage_33 : decode cX6_keepImage 33 = .ok (.iload_n 3, 1) := by decide +kernel
theorem dX6_keepImage_34 : decode cX6_keepImage 34 = .ok (.iconst 3, 1) := by decide +kernel
theorem dX6_keepImage_35 : decode cX6_keepImage 35 = .ok (.if_icmp .ge 32, 3) := by decide +kernel
theorem dX6_keepImage_38 : decode cX6_keepImage 38 = .ok (.aload_n 0, 1) := by decide +kernel
theorem dX6_keepImage_39 : decode cX6_keepImage 39 = .ok (.getfield 28, 3) := by decide +kernel
theorem dX6_keepImage_42 : decode cX6_keepImage 42 = .ok (.iload_n 2, 1) := by decide +kernel
theorem dX6_keepImage_43 : decode cX6_keepImage 43 = .ok (.iconst 3, 1) := by decide +kernel
theorem dX6_keepImage_44 : decode cX6_keepImage 44 = .ok (.imul, 1) := by decide +kernel
theorem dX6_keepImage_45 : decode cX6_keepImage 45 = .ok (.iload_n 3, 1) := by decide +kernel
theorem dX6_keepImage_46 : decode cX6_keepImage 46 = .ok (.iadd, 1) := by decide +kernel
theorem dX6_keepImage_47 : decode cX6_keepImage 47 = .ok (.aload_n 0, 1) := by decide +kernel
theorem dX6_keepImage_48 : decode cX6_keepImage 48 = .ok (.aload_n 0, 1) := by decide +kernel
theorem dX6_keepImage_49 : decode cX6_keepImage 49 = .ok (.getfield 61, 3) := by decide +kernel
theorem dX6_keepImage_52 : decode cX6_keepImage 52 = .ok (.iconst 1, 1) := by decide +kernel
theorem dX6_keepImage_53 : decode cX6_keepImage 53 = .ok (.isub, 1) := by decide +kernel
theorem dX6_keepImage_54 : decode cX6_keepImage 54 = .ok (.iload_n 2, 1) := by decide +kernel
theorem dX6_keepImage_55 : decode cX6_keepImage 55 = .ok (.isub, 1) := by decide +kernel
theorem dX6_keepImage_56 : decode cX6_keepImage 56 = .ok (.iload_n 3, 1) := by decide +kernel
theorem dX6_keepImage_57 : decode cX6_keepImage 57 = .ok (.invokevirtual 64, 3) := by decide +kernel
theorem dX6_keepImage_60 : decode cX6_keepImage 60 = .ok (.iastore, 1) := by decide +kernel
theorem dX6_keepImage_61 : decode cX6_keepImage 61 = .ok (.iinc 3 1, 3) := by decide +kernel
theorem dX6_keepImage_64 : decode cX6_keepImage 64 = .ok (.goto (-31), 3) := by decide +kernel
theorem dX6_keepImage_67 : decode cX6_keepImage 67 = .ok (.iinc 2 1, 3) := by decide +kernel
theorem dX6_keepImage_70 : decode cX6_keepImage 70 = .ok (.goto (-47), 3) := by decide +kernel
theorem dX6_keepImage_73 : decode cX6_keepImage 73 = .ok (.aload_n 0, 1) := by decide +kernel
theorem dX6_keepImage_74 : decode cX6_keepImage 74 = .ok (.iconst 1, 1) := by decide +kernel
theorem dX6_keepImage_75 : decode cX6_keepImage 75 = .ok (.putfield 38, 3) := by decide +kernel
theorem dX6_keepImage_78 : decode cX6_keepImage 78 = .ok (.return_, 1) := by decide +kernel
theorem dX6_takeImage_0 : decode cX6_takeImage 0 = .ok (.aload_n 0, 1) := by decide +kernel
theorem dX6_takeImage_1 : decode cX6_takeImage 1 = .ok (.getfield 38, 3) := by decide +kernel
theorem dX6_takeImage_4 : decode cX6_takeImage 4 = .ok (.ifCond .ne 5, 3) := by decide +kernel
theorem dX6_takeImage_7 : decode cX6_takeImage 7 = .ok (.iconst 0, 1) := by decide +kernel
theorem dX6_takeImage_8 : decode cX6_takeImage 8 = .ok (.ireturn, 1) := by decide +kernel
theorem dX6_takeImage_9 : decode cX6_takeImage 9 = .ok (.aload_n 0, 1) := by decide +kernel
theorem dX6_takeImage_10 : decode cX6_takeImage 10 = .ok (.getfield 25, 3) := by decide +kernel
theorem dX6_takeImage_13 : decode cX6_takeImage 13 = .ok (.iconst 0, 1) := by decide +kernel
theorem dX6_takeImage_14 : decode cX6_takeImage 14 = .ok (.aload_n 1, 1) := by decide +kernel
theorem dX6_takeImage_15 : decode cX6_takeImage 15 = .ok (.iconst 0, 1) := by decide +kernel
theorem dX6_takeImage_16 : decode cX6_takeImage 16 = .ok (.sipush 429, 3) := by decide +kernel
theorem dX6_takeImage_19 : decode cX6_takeImage 19 = .ok (.invokestatic 55, 3) := by decide +kernel
theorem dX6_takeImage_22 : decode cX6_takeImage 22 = .ok (.aload_n 0, 1) := by decide +kernel
theorem dX6_takeImage_23 : decode cX6_takeImage 23 = .ok (.getfield 28, 3) := by decide +kernel
theorem dX6_takeImage_26 : decode cX6_takeImage 26 = .ok (.iconst 0, 1) := by decide +kernel
theorem dX6_takeImage_27 : decode cX6_takeImage 27 = .ok (.aload_n 0, 1) := by decide +kernel
theorem dX6_takeImage_28 : decode cX6_takeImage 28 = .ok (.getfield 11, 3) := by decide +kernel
theorem dX6_takeImage_31 : decode cX6_takeImage 31 = .ok (.iconst 0, 1) := by decide +kernel
theorem dX6_takeImage_32 : decode cX6_takeImage 32 = .ok (.aload_n 0, 1) := by decide +kernel
theorem dX6_takeImage_33 : decode cX6_takeImage 33 = .ok (.getfield 61, 3) := by decide +kernel
theorem dX6_takeImage_36 : decode cX6_takeImage 36 = .ok (.iconst 3, 1) := by decide +kernel
theorem dX6_takeImage_37 : decode cX6_takeImage 37 = .ok (.imul, 1) := by decide +kernel
theorem dX6_takeImage_38 : decode cX6_takeImage 38 = .ok (.invokestatic 55, 3) := by decide +kernel
theorem dX6_takeImage_41 : decode cX6_takeImage 41 = .ok (.aload_n 0, 1) := by decide +kernel
theorem dX6_takeImage_42 : decode cX6_takeImage 42 = .ok (.aload_n 0, 1) := by decide +kernel
theorem dX6_takeImage_43 : decode cX6_takeImage 43 = .ok (.getfield 61, 3) := by decide +kernel
theorem dX6_takeImage_46 : decode cX6_takeImage 46 = .ok (.putfield 31, 3) := by decide +kernel
theorem dX6_takeImage_49 : decode cX6_takeImage 49 = .ok (.aload_n 0, 1) := by decide +kernel
theorem dX6_takeImage_50 : decode cX6_takeImage 50 = .ok (.iconst 0, 1) := by decide +kernel
theorem dX6_takeImage_51 : decode cX6_takeImage 51 = .ok (.putfield 35, 3) := by decide +kernel
theorem dX6_takeImage_54 : decode cX6_takeImage 54 = .ok (.iconst 1, 1) := by decide +kernel
theorem dX6_takeImage_55 : decode cX6_takeImage 55 = .ok (.ireturn, 1) := by decide +kernel
theorem dX7_init_0 : decode cX7_init 0 = .ok (.aload_n 0, 1) := by decide +kernel
theorem dX7_init_1 : decode cX7_init 1 = .ok (.invokespecial 3, 3) := by decide +kernel
theorem dX7_init_4 : decode cX7_init 4 = .ok (.aload_n 0, 1) := by decide +kernel
theorem dX7_init_5 : decode cX7_init 5 = .ok (.iconst 5, 1) := by decide +kernel
theorem dX7_init_6 : decode cX7_init 6 = .ok (.newarray .int, 2) := by decide +kernel
theorem dX7_init_8 : decode cX7_init 8 = .ok (.putfield 11, 3) := by decide +kernel
theorem dX7_init_11 : decode cX7_init 11 = .ok (.aload_n 0, 1) := by decide +kernel
theorem dX7_init_12 : decode cX7_init 12 = .ok (.bipush 24, 2) := by decide +kernel
theorem dX7_init_14 : decode cX7_init 14 = .ok (.newarray .int, 2) := by decide +kernel
theorem dX7_init_16 : decode cX7_init 16 = .ok (.putfield 15, 3) := by decide +kernel
theorem dX7_init_19 : decode cX7_init 19 = .ok (.aload_n 0, 1) := by decide +kernel
theorem dX7_init_20 : decode cX7_init 20 = .ok (.bipush 16, 2) := by decide +kernel
theorem dX7_init_22 : decode cX7_init 22 = .ok (.newarray .int, 2) := by decide +kernel
theorem dX7_init_24 : decode cX7_init 24 = .ok (.putfield 18, 3) := by decide +kernel
theorem dX7_init_27 : decode cX7_init 27 = .ok (.return_, 1) := by decide +kernel
theorem dX7_takeMesh_0 : decode cX7_takeMesh 0 = .ok (.aload_n 1, 1) := by decide +kernel
theorem dX7_takeMesh_1 : decode cX7_takeMesh 1 = .ok (.getfield 21, 3) := by decide +kernel
theorem dX7_takeMesh_4 : decode cX7_takeMesh 4 = .ok (.iconst 0, 1) := by decide +kernel
theorem dX7_takeMesh_5 : decode cX7_takeMesh 5 = .ok (.aload_n 0, 1) := by decide +kernel
theorem dX7_takeMesh_6 : decode cX7_takeMesh 6 = .ok (.getfield 11, 3) := by decide +kernel
theorem dX7_takeMesh_9 : decode cX7_takeMesh 9 = .ok (.iconst 0, 1) := by decide +kernel
theorem dX7_takeMesh_10 : decode cX7_takeMesh 10 = .ok (.iconst 5, 1) := by decide +kernel
theorem dX7_takeMesh_11 : decode cX7_takeMesh 11 = .ok (.invokestatic 24, 3) := by decide +kernel
theorem dX7_takeMesh_14 : decode cX7_takeMesh 14 = .ok (.aload_n 1, 1) := by decide +kernel
theorem dX7_takeMesh_15 : decode cX7_takeMesh 15 = .ok (.getfield 30, 3) := by decide +kernel
theorem dX7_takeMesh_18 : decode cX7_takeMesh 18 = .ok (.iconst 0, 1) := by decide +kernel
theorem dX7_takeMesh_19 : decode cX7_takeMesh 19 = .ok (.aload_n 0, 1) := by decide +kernel
theorem dX7_takeMesh_20 : decode cX7_takeMesh 20 = .ok (.getfield 15, 3) := by decide +kernel
theorem dX7_takeMesh_23 : decode cX7_takeMesh 23 = .ok (.iconst 0, 1) := by decide +kernel
theorem dX7_takeMesh_24 : decode cX7_takeMesh 24 = .ok (.aload_n 0, 1) := by decide +kernel
theorem dX7_takeMesh_25 : decode cX7_takeMesh 25 = .ok (.getfield 15, 3) := by decide +kernel
theorem dX7_takeMesh_28 : decode cX7_takeMesh 28 = .ok (.arraylength, 1) := by decide +kernel
theorem dX7_takeMesh_29 : decode cX7_takeMesh 29 = .ok (.invokestatic 24, 3) := by decide +kernel
theorem dX7_takeMesh_32 : decode cX7_takeMesh 32 = .ok (.aload_n 0, 1) := by decide +kernel
theorem dX7_takeMesh_33 : decode cX7_takeMesh 33 = .ok (.aload_n 1, 1) := by decide +kernel
theorem dX7_takeMesh_34 : decode cX7_takeMesh 34 = .ok (.getfield 31, 3) := by decide +kernel
theorem dX7_takeMesh_37 : decode cX7_takeMesh 37 = .ok (.putfield 35, 3) := by decide +kernel
theorem dX7_takeMesh_40 : decode cX7_takeMesh 40 = .ok (.return_, 1) := by decide +kernel
theorem dX7_takeHops_0 : decode cX7_takeHops 0 = .ok (.aload_n 1, 1) := by decide +kernel
theorem dX7_takeHops_1 : decode cX7_takeHops 1 = .ok (.getfield 36, 3) := by decide +kernel
theorem dX7_takeHops_4 : decode cX7_takeHops 4 = .ok (.iconst 0, 1) := by decide +kernel
theorem dX7_takeHops_5 : decode cX7_takeHops 5 = .ok (.aload_n 0, 1) := by decide +kernel
theorem dX7_takeHops_6 : decode cX7_takeHops 6 = .ok (.getfield 18, 3) := by decide +kernel
theorem dX7_takeHops_9 : decode cX7_takeHops 9 = .ok (.iconst 0, 1) := by decide +kernel
theorem dX7_takeHops_10 : decode cX7_takeHops 10 = .ok (.bipush 16, 2) := by decide +kernel
theorem dX7_takeHops_12 : decode cX7_takeHops 12 = .ok (.invokestatic 24, 3) := by decide +kernel
theorem dX7_takeHops_15 : decode cX7_takeHops 15 = .ok (.aload_n 0, 1) := by decide +kernel
theorem dX7_takeHops_16 : decode cX7_takeHops 16 = .ok (.aload_n 1, 1) := by decide +kernel
theorem dX7_takeHops_17 : decode cX7_takeHops 17 = .ok (.getfield 37, 3) := by decide +kernel
theorem dX7_takeHops_20 : decode cX7_takeHops 20 = .ok (.putfield 40, 3) := by decide +kernel
theorem dX7_takeHops_23 : decode cX7_takeHops 23 = .ok (.return_, 1) := by decide +kernel
theorem dX7_isTold_0 : decode cX7_isTold 0 = .ok (.aload_n 0, 1) := by decide +kernel
theorem dX7_isTold_1 : decode cX7_isTold 1 = .ok (.getfield 35, 3) := by decide +kernel
theorem dX7_isTold_4 : decode cX7_isTold 4 = .ok (.ifCond .le 7, 3) := by decide +kernel
theorem dX7_isTold_7 : decode cX7_isTold 7 = .ok (.iconst 1, 1) := by decide +kernel
theorem dX7_isTold_8 : decode cX7_isTold 8 = .ok (.goto 4, 3) := by decide +kernel
theorem dX7_isTold_11 : decode cX7_isTold 11 = .ok (.iconst 0, 1) := by decide +kernel
theorem dX7_isTold_12 : decode cX7_isTold 12 = .ok (.ireturn, 1) := by decide +kernel
theorem dX7_pairs_0 : decode cX7_pairs 0 = .ok (.aload_n 0, 1) := by decide +kernel
theorem dX7_pairs_1 : decode cX7_pairs 1 = .ok (.getfield 35, 3) := by decide +kernel
theorem dX7_pairs_4 : decode cX7_pairs 4 = .ok (.ireturn, 1) := by decide +kernel
theorem dX7_hopCount_0 : decode cX7_hopCount 0 = .ok (.aload_n 0, 1) := by decide +kernel
theorem dX7_hopCount_1 : decode cX7_hopCount 1 = .ok (.getfield 40, 3) := by decide +kernel
theorem dX7_hopCount_4 : decode cX7_hopCount 4 = .ok (.ireturn, 1) := by decide +kernel
theorem dX7_hasPair_0 : decode cX7_hasPair 0 = .ok (.iload_n 1, 1) := by decide +kernel
theorem dX7_hasPair_1 : decode cX7_hasPair 1 = .ok (.ifCond .lt 15, 3) := by decide +kernel
theorem dX7_hasPair_4 : decode cX7_hasPair 4 = .ok (.iload_n 1, 1) := by decide +kernel
theorem dX7_hasPair_5 : decode cX7_hasPair 5 = .ok (.aload_n 0, 1) := by decide +kernel
theorem dX7_hasPair_6 : decode cX7_hasPair 6 = .ok (.getfield 35, 3) := by decide +kernel
theorem dX7_hasPair_9 : decode cX7_hasPair 9 = .ok (.if_icmp .ge 7, 3) := by decide +kernel
theorem dX7_hasPair_12 : decode cX7_hasPair 12 = .ok (.iconst 1, 1) := by decide +kernel
theorem dX7_hasPair_13 : decode cX7_hasPair 13 = .ok (.goto 4, 3) := by decide +kernel
theorem dX7_hasPair_16 : decode cX7_hasPair 16 = .ok (.iconst 0, 1) := by decide +kernel
theorem dX7_hasPair_17 : decode cX7_hasPair 17 = .ok (.ireturn, 1) := by decide +kernel
theorem dX7_ruleOf_0 : decode cX7_ruleOf 0 = .ok (.iload_n 1, 1) := by decide +kernel
theorem dX7_ruleOf_1 : decode cX7_ruleOf 1 = .ok (.ifCond .lt 17, 3) := by decide +kernel
theorem dX7_ruleOf_4 : decode cX7_ruleOf 4 = .ok (.iload_n 1, 1) := by decide +kernel
theorem dX7_ruleOf_5 : decode cX7_ruleOf 5 = .ok (.iconst 5, 1) := by decide +kernel
theorem dX7_ruleOf_6 : decode cX7_ruleOf 6 = .ok (.if_icmp .ge 12, 3) := by decide +kernel
theorem dX7_ruleOf_9 : decode cX7_ruleOf 9 = .ok (.aload_n 0, 1) := by decide +kernel
theorem dX7_ruleOf_10 : decode cX7_ruleOf 10 = .ok (.getfield 11, 3) := by decide +kernel
theorem dX7_ruleOf_13 : decode cX7_ruleOf 13 = .ok (.iload_n 1, 1) := by decide +kernel
theorem dX7_ruleOf_14 : decode cX7_ruleOf 14 = .ok (.iaload, 1) := by decide +kernel
theorem dX7_ruleOf_15 : decode cX7_ruleOf 15 = .ok (.goto 4, 3) := by decide +kernel
theorem dX7_ruleOf_18 : decode cX7_ruleOf 18 = .ok (.iconst (-1), 1) := by decide +kernel
theorem dX7_ruleOf_19 : decode cX7_ruleOf 19 = .ok (.ireturn, 1) := by decide +kernel
theorem dX7_itemOf_0 : decode cX7_itemOf 0 = .ok (.iload_n 1, 1) := by decide +kernel
theorem dX7_itemOf_1 : decode cX7_itemOf 1 = .ok (.ifCond .lt 33, 3) := by decide +kernel
theorem dX7_itemOf_4 : decode cX7_itemOf 4 = .ok (.iload_n 1, 1) := by decide +kernel
theorem dX7_itemOf_5 : decode cX7_itemOf 5 = .ok (.aload_n 0, 1) := by decide +kernel
theorem dX7_itemOf_6 : decode cX7_itemOf 6 = .ok (.getfield 35, 3) := by decide +kernel
theorem dX7_itemOf_9 : decode cX7_itemOf 9 = .ok (.if_icmp .ge 25, 3) := by decide +kernel
theorem dX7_itemOf_12 : decode cX7_itemOf 12 = .ok (.iload_n 2, 1) := by decide +kernel
theorem dX7_itemOf_13 : decode cX7_itemOf 13 = .ok (.ifCond .lt 21, 3) := by decide +kernel
theorem dX7_itemOf_16 : decode cX7_itemOf 16 = .ok (.iload_n 2, 1) := by decide +kernel
theorem dX7_itemOf_17 : decode cX7_itemOf 17 = .ok (.iconst 4, 1) := by decide +kernel
theorem dX7_itemOf_18 : decode cX7_itemOf 18 = .ok (.if_icmp .ge 16, 3) := by decide +kernel
theorem dX7_itemOf_21 : decode cX7_itemOf 21 = .ok (.aload_n 0, 1) := by decide +kernel
theorem dX7_itemOf_22 : decode cX7_itemOf 22 = .ok (.getfield 15, 3) := by decide +kernel
theorem dX7_itemOf_25 : decode cX7_itemOf 25 = .ok (.iload_n 1, 1) := by decide +kernel
theorem dX7_itemOf_26 : decode cX7_itemOf 26 = .ok (.iconst 4, 1) := by decide +kernel
theorem dX7_itemOf_27 : decode cX7_itemOf 27 = .ok (.imul, 1) := by decide +kernel
theorem dX7_itemOf_28 : decode cX7_itemOf 28 = .ok (.iload_n 2, 1) := by decide +kernel
theorem dX7_itemOf_29 : decode cX7_itemOf 29 = .ok (.iadd, 1) := by decide +kernel
theorem dX7_itemOf_30 : decode cX7_itemOf 30 = .ok (.iaload, 1) := by decide +kernel
theorem dX7_itemOf_31 : decode cX7_itemOf 31 = .ok (.goto 4, 3) := by decide +kernel
theorem dX7_itemOf_34 : decode cX7_itemOf 34 = .ok (.iconst (-1), 1) := by decide +kernel
theorem dX7_itemOf_35 : decode cX7_itemOf 35 = .ok (.ireturn, 1) := by decide +kernel
theorem dX7_slots_0 : decode cX7_slots 0 = .ok (.aload_n 0, 1) := by decide +kernel
theorem dX7_slots_1 : decode cX7_slots 1 = .ok (.getfield 11, 3) := by decide +kernel
theorem dX7_slots_4 : decode cX7_slots 4 = .ok (.iconst 0, 1) := by decide +kernel
theorem dX7_slots_5 : decode cX7_slots 5 = .ok (.iaload, 1) := by decide +kernel
theorem dX7_slots_6 : decode cX7_slots 6 = .ok (.ireturn, 1) := by decide +kernel
theorem dX7_timeout_0 : decode cX7_timeout 0 = .ok (.aload_n 0, 1) := by decide +kernel
theorem dX7_timeout_1 : decode cX7_timeout 1 = .ok (.getfield 11, 3) := by decide +kernel
theorem dX7_timeout_4 : decode cX7_timeout 4 = .ok (.iconst 2, 1) := by decide +kernel
theorem dX7_timeout_5 : decode cX7_timeout 5 = .ok (.iaload, 1) := by decide +kernel
theorem dX7_timeout_6 : decode cX7_timeout 6 = .ok (.ireturn, 1) := by decide +kernel
theorem dX7_hasCell_0 : decode cX7_hasCell 0 = .ok (.aload_n 0, 1) := by decide +kernel
theorem dX7_hasCell_1 : decode cX7_hasCell 1 = .ok (.getfield 35, 3) := by decide +kernel
theorem dX7_hasCell_4 : decode cX7_hasCell 4 = .ok (.ifCond .le 37, 3) := by decide +kernel
theorem dX7_hasCell_7 : decode cX7_hasCell 7 = .ok (.iload_n 1, 1) := by decide +kernel
theorem dX7_hasCell_8 : decode cX7_hasCell 8 = .ok (.ifCond .lt 33, 3) := by decide +kernel
theorem dX7_hasCell_11 : decode cX7_hasCell 11 = .ok (.iload_n 1, 1) := by decide +kernel
theorem dX7_hasCell_12 : decode cX7_hasCell 12 = .ok (.bipush 10, 2) := by decide +kernel
theorem dX7_hasCell_14 : decode cX7_hasCell 14 = .ok (.idiv, 1) := by decide +kernel
theorem dX7_hasCell_15 : decode cX7_hasCell 15 = .ok (.aload_n 0, 1) := by decide +kernel
theorem dX7_hasCell_16 : decode cX7_hasCell 16 = .ok (.getfield 11, 3) := by decide +kernel
theorem dX7_hasCell_19 : decode cX7_hasCell 19 = .ok (.iconst 0, 1) := by decide +kernel
theorem dX7_hasCell_20 : decode cX7_hasCell 20 = .ok (.iaload, 1) := by decide +kernel
theorem dX7_hasCell_21 : decode cX7_hasCell 21 = .ok (.if_icmp .ge 20, 3) := by decide +kernel
theorem dX7_hasCell_24 : decode cX7_hasCell 24 = .ok (.iload_n 1, 1) := by decide +kernel
theorem dX7_hasCell_25 : decode cX7_hasCell 25 = .ok (.bipush 10, 2) := by decide +kernel
theorem dX7_hasCell_27 : decode cX7_hasCell 27 = .ok (.irem, 1) := by decide +kernel
theorem dX7_hasCell_28 : decode cX7_hasCell 28 = .ok (.aload_n 0, 1) := by decide +kernel
theorem dX7_hasCell_29 : decode cX7_hasCell 29 = .ok (.getfield 11, 3) := by decide +kernel
theorem dX7_hasCell_32 : decode cX7_hasCell 32 = .ok (.iconst 1, 1) := by decide +kernel
theorem dX7_hasCell_33 : decode cX7_hasCell 33 = .ok (.iaload, 1) := by decide +kernel
theorem dX7_hasCell_34 : decode cX7_hasCell 34 = .ok (.if_icmp .ge 7, 3) := by decide +kernel
theorem dX7_hasCell_37 : decode cX7_hasCell 37 = .ok (.iconst 1, 1) := by decide +kernel
theorem dX7_hasCell_38 : decode cX7_hasCell 38 = .ok (.goto 4, 3) := by decide +kernel
theorem dX7_hasCell_41 : decode cX7_hasCell 41 = .ok (.iconst 0, 1) := by decide +kernel
theorem dX7_hasCell_42 : decode cX7_hasCell 42 = .ok (.ireturn, 1) := by decide +kernel
theorem dX7_endsWindow_0 : decode cX7_endsWindow 0 = .ok (.aload_n 0, 1) := by decide +kernel
theorem dX7_endsWindow_1 : decode cX7_endsWindow 1 = .ok (.getfield 11, 3) := by decide +kernel
theorem dX7_endsWindow_4 : decode cX7_endsWindow 4 = .ok (.iconst 3, 1) := by decide +kernel
theorem dX7_endsWindow_5 : decode cX7_endsWindow 5 = .ok (.iaload, 1) := by decide +kernel
theorem dX7_endsWindow_6 : decode cX7_endsWindow 6 = .ok (.ifCond .le 20, 3) := by decide +kernel
theorem dX7_endsWindow_9 : decode cX7_endsWindow 9 = .ok (.iload_n 1, 1) := by decide +kernel
theorem dX7_endsWindow_10 : decode cX7_endsWindow 10 = .ok (.iconst 1, 1) := by decide +kernel
theorem dX7_endsWindow_11 : decode cX7_endsWindow 11 = .ok (.iadd, 1) := by decide +kernel
theorem dX7_endsWindow_12 : decode cX7_endsWindow 12 = .ok (.aload_n 0, 1) := by decide +kernel
theorem dX7_endsWindow_13 : decode cX7_endsWindow 13 = .ok (.getfield 11, 3) := by decide +kernel
theorem dX7_endsWindow_16 : decode cX7_endsWindow 16 = .ok (.iconst 3, 1) := by decide +kernel
theorem dX7_endsWindow_17 : decode cX7_endsWindow 17 = .ok (.iaload, 1) := by decide +kernel
theorem dX7_endsWindow_18 : decode cX7_endsWindow 18 = .ok (.irem, 1) := by decide +kernel
theorem dX7_endsWindow_19 : decode cX7_endsWindow 19 = .ok (.ifCond .ne 7, 3) := by decide +kernel
theorem dX7_endsWindow_22 : decode cX7_endsWindow 22 = .ok (.iconst 1, 1) := by decide +kernel
theorem dX7_endsWindow_23 : decode cX7_endsWindow 23 = .ok (.goto 4, 3) := by decide +kernel
theorem dX7_endsWindow_26 : decode cX7_endsWindow 26 = .ok (.iconst 0, 1) := by decide +kernel
theorem dX7_endsWindow_27 : decode cX7_endsWindow 27 = .ok (.ireturn, 1) := by decide +kernel
theorem dX7_cellInSlot_0 : decode cX7_cellInSlot 0 = .ok (.aload_n 0, 1) := by decide +kernel
theorem dX7_cellInSlot_1 : decode cX7_cellInSlot 1 = .ok (.getfield 11, 3) := by decide +kernel
theorem dX7_cellInSlot_4 : decode cX7_cellInSlot 4 = .ok (.iconst 1, 1) := by decide +kernel
theorem dX7_cellInSlot_5 : decode cX7_cellInSlot 5 = .ok (.iaload, 1) := by decide +kernel
theorem dX7_cellInSlot_6 : decode cX7_cellInSlot 6 = .ok (.ifCond .le 16, 3) := by decide +kernel
theorem dX7_cellInSlot_9 : decode cX7_cellInSlot 9 = .ok (.iload_n 1, 1) := by decide +kernel
theorem dX7_cellInSlot_10 : decode cX7_cellInSlot 10 = .ok (.iload_n 2, 1) := by decide +kernel
theorem dX7_cellInSlot_11 : decode cX7_cellInSlot 11 = .ok (.iadd, 1) := by decide +kernel
theorem dX7_cellInSlot_12 : decode cX7_cellInSlot 12 = .ok (.aload_n 0, 1) := by decide +kernel
theorem dX7_cellInSlot_13 : decode cX7_cellInSlot 13 = .ok (.getfield 11, 3) := by decide +kernel
theorem dX7_cellInSlot_16 : decode cX7_cellInSlot 16 = .ok (.iconst 1, 1) := by decide +kernel
theorem dX7_cellInSlot_17 : decode cX7_cellInSlot 17 = .ok (.iaload, 1) := by decide +kernel
theorem dX7_cellInSlot_18 : decode cX7_cellInSlot 18 = .ok (.irem, 1) := by decide +kernel
theorem dX7_cellInSlot_19 : decode cX7_cellInSlot 19 = .ok (.goto 4, 3) := by decide +kernel
theorem dX7_cellInSlot_22 : decode cX7_cellInSlot 22 = .ok (.iconst 0, 1) := by decide +kernel
theorem dX7_cellInSlot_23 : decode cX7_cellInSlot 23 = .ok (.istore_n 3, 1) := by decide +kernel
theorem dX7_cellInSlot_24 : decode cX7_cellInSlot 24 = .ok (.iload_n 1, 1) := by decide +kernel
theorem dX7_cellInSlot_25 : decode cX7_cellInSlot 25 = .ok (.bipush 10, 2) := by decide +kernel
theorem dX7_cellInSlot_27 : decode cX7_cellInSlot 27 = .ok (.imul, 1) := by decide +kernel
theorem dX7_cellInSlot_28 : decode cX7_cellInSlot 28 = .ok (.iload_n 3, 1) := by decide +kernel
theorem dX7_cellInSlot_29 : decode cX7_cellInSlot 29 = .ok (.iadd, 1) := by decide +kernel
theorem dX7_cellInSlot_30 : decode cX7_cellInSlot 30 = .ok (.ireturn, 1) := by decide +kernel
theorem dX7_channelOf_0 : decode cX7_channelOf 0 = .ok (.iload_n 1, 1) := by decide +kernel
theorem dX7_channelOf_1 : decode cX7_channelOf 1 = .ok (.aload_n 0, 1) := by decide +kernel
theorem dX7_channelOf_2 : decode cX7_channelOf 2 = .ok (.getfield 11, 3) := by decide +kernel
theorem dX7_channelOf_5 : decode cX7_channelOf 5 = .ok (.iconst 0, 1) := by decide +kernel
theorem dX7_channelOf_6 : decode cX7_channelOf 6 = .ok (.iaload, 1) := by decide +kernel
theorem dX7_channelOf_7 : decode cX7_channelOf 7 = .ok (.imul, 1) := by decide +kernel
theorem dX7_channelOf_8 : decode cX7_channelOf 8 = .ok (.iload_n 2, 1) := by decide +kernel
theorem dX7_channelOf_9 : decode cX7_channelOf 9 = .ok (.bipush 10, 2) := by decide +kernel
theorem dX7_channelOf_11 : decode cX7_channelOf 11 = .ok (.idiv, 1) := by decide +kernel
theorem dX7_channelOf_12 : decode cX7_channelOf 12 = .ok (.iadd, 1) := by decide +kernel
theorem dX7_channelOf_13 : decode cX7_channelOf 13 = .ok (.iload_n 2, 1) := by decide +kernel
theorem dX7_channelOf_14 : decode cX7_channelOf 14 = .ok (.bipush 10, 2) := by decide +kernel
theorem dX7_channelOf_16 : decode cX7_channelOf 16 = .ok (.irem, 1) := by decide +kernel
theorem dX7_channelOf_17 : decode cX7_channelOf 17 = .ok (.iadd, 1) := by decide +kernel
theorem dX7_channelOf_18 : decode cX7_channelOf 18 = .ok (.istore_n 3, 1) := by decide +kernel
theorem dX7_channelOf_19 : decode cX7_channelOf 19 = .ok (.iload_n 3, 1) := by decide +kernel
theorem dX7_channelOf_20 : decode cX7_channelOf 20 = .ok (.ifCond .ge 5, 3) := by decide +kernel
theorem dX7_channelOf_23 : decode cX7_channelOf 23 = .ok (.iconst (-1), 1) := by decide +kernel
theorem dX7_channelOf_24 : decode cX7_channelOf 24 = .ok (.ireturn, 1) := by decide +kernel
theorem dX7_channelOf_25 : decode cX7_channelOf 25 = .ok (.aload_n 0, 1) := by decide +kernel
theorem dX7_channelOf_26 : decode cX7_channelOf 26 = .ok (.getfield 40, 3) := by decide +kernel
theorem dX7_channelOf_29 : decode cX7_channelOf 29 = .ok (.ifCond .le 15, 3) := by decide +kernel
theorem dX7_channelOf_32 : decode cX7_channelOf 32 = .ok (.aload_n 0, 1) := by decide +kernel
theorem dX7_channelOf_33 : decode cX7_channelOf 33 = .ok (.getfield 18, 3) := by decide +kernel
theorem dX7_channelOf_36 : decode cX7_channelOf 36 = .ok (.iload_n 3, 1) := by decide +kernel
theorem dX7_channelOf_37 : decode cX7_channelOf 37 = .ok (.aload_n 0, 1) := by decide +kernel
theorem dX7_channelOf_38 : decode cX7_channelOf 38 = .ok (.getfield 40, 3) := by decide +kernel
theorem dX7_channelOf_41 : decode cX7_channelOf 41 = .ok (.irem, 1) := by decide +kernel
theorem dX7_channelOf_42 : decode cX7_channelOf 42 = .ok (.iaload, 1) := by decide +kernel
theorem dX7_channelOf_43 : decode cX7_channelOf 43 = .ok (.ireturn, 1) := by decide +kernel
theorem dX7_channelOf_44 : decode cX7_channelOf 44 = .ok (.aload_n 0, 1) := by decide +kernel
theorem dX7_channelOf_45 : decode cX7_channelOf 45 = .ok (.getfield 11, 3) := by decide +kernel
theorem dX7_channelOf_48 : decode cX7_channelOf 48 = .ok (.iconst 1, 1) := by decide +kernel
theorem dX7_channelOf_49 : decode cX7_channelOf 49 = .ok (.iaload, 1) := by decide +kernel
theorem dX7_channelOf_50 : decode cX7_channelOf 50 = .ok (.ifCond .le 14, 3) := by decide +kernel
theorem dX7_channelOf_53 : decode cX7_channelOf 53 = .ok (.iload_n 3, 1) := by decide +kernel
theorem dX7_channelOf_54 : decode cX7_channelOf 54 = .ok (.aload_n 0, 1) := by decide +kernel
theorem dX7_channelOf_55 : decode cX7_channelOf 55 = .ok (.getfield 11, 3) := by decide +kernel
theorem dX7_channelOf_58 : decode cX7_channelOf 58 = .ok (.iconst 1, 1) := by decide +kernel
theorem dX7_channelOf_59 : decode cX7_channelOf 59 = .ok (.iaload, 1) := by decide +kernel
theorem dX7_channelOf_60 : decode cX7_channelOf 60 = .ok (.irem, 1) := by decide +kernel
theorem dX7_channelOf_61 : decode cX7_channelOf 61 = .ok (.goto 4, 3) := by decide +kernel
theorem dX7_channelOf_64 : decode cX7_channelOf 64 = .ok (.iconst (-1), 1) := by decide +kernel
theorem dX7_channelOf_65 : decode cX7_channelOf 65 = .ok (.ireturn, 1) := by decide +kernel
theorem dX8_init_0 : decode cX8_init 0 = .ok (.aload_n 0, 1) := by decide +kernel
theorem dX8_init_1 : decode cX8_init 1 = .ok (.invokespecial 3, 3) := by decide +kernel
theorem dX8_init_4 : decode cX8_init 4 = .ok (.aload_n 0, 1) := by decide +kernel
theorem dX8_init_5 : decode cX8_init 5 = .ok (.iconst 5, 1) := by decide +kernel
theorem dX8_init_6 : decode cX8_init 6 = .ok (.newarray .int, 2) := by decide +kernel
theorem dX8_init_8 : decode cX8_init 8 = .ok (.putfield 11, 3) := by decide +kernel
theorem dX8_init_11 : decode cX8_init 11 = .ok (.aload_n 0, 1) := by decide +kernel
theorem dX8_init_12 : decode cX8_init 12 = .ok (.bipush 24, 2) := by decide +kernel
theorem dX8_init_14 : decode cX8_init 14 = .ok (.newarray .int, 2) := by decide +kernel
theorem dX8_init_16 : decode cX8_init 16 = .ok (.putfield 17, 3) := by decide +kernel
theorem dX8_init_19 : decode cX8_init 19 = .ok (.aload_n 0, 1) := by decide +kernel
theorem dX8_init_20 : decode cX8_init 20 = .ok (.bipush 16, 2) := by decide +kernel
theorem dX8_init_22 : decode cX8_init 22 = .ok (.newarray .int, 2) := by decide +kernel
theorem dX8_init_24 : decode cX8_init 24 = .ok (.putfield 20, 3) := by decide +kernel
theorem dX8_init_27 : decode cX8_init 27 = .ok (.aload_n 0, 1) := by decide +kernel
theorem dX8_init_28 : decode cX8_init 28 = .ok (.aload_n 1, 1) := by decide +kernel
theorem dX8_init_29 : decode cX8_init 29 = .ok (.putfield 23, 3) := by decide +kernel
theorem dX8_init_32 : decode cX8_init 32 = .ok (.return_, 1) := by decide +kernel
theorem dX8_meshFault_0 : decode cX8_meshFault 0 = .ok (.aload_n 0, 1) := by decide +kernel
theorem dX8_meshFault_1 : decode cX8_meshFault 1 = .ok (.iconst 0, 1) := by decide +kernel
theorem dX8_meshFault_2 : decode cX8_meshFault 2 = .ok (.putfield 27, 3) := by decide +kernel
theorem dX8_meshFault_5 : decode cX8_meshFault 5 = .ok (.aload_n 0, 1) := by decide +kernel
theorem dX8_meshFault_6 : decode cX8_meshFault 6 = .ok (.iconst 0, 1) := by decide +kernel
theorem dX8_meshFault_7 : decode cX8_meshFault 7 = .ok (.putfield 31, 3) := by decide +kernel
theorem dX8_meshFault_10 : decode cX8_meshFault 10 = .ok (.aload_n 0, 1) := by decide +kernel
theorem dX8_meshFault_11 : decode cX8_meshFault 11 = .ok (.iconst 0, 1) := by decide +kernel
theorem dX8_meshFault_12 : decode cX8_meshFault 12 = .ok (.putfield 34, 3) := by decide +kernel
theorem dX8_meshFault_15 : decode cX8_meshFault 15 = .ok (.getstatic 38, 3) := by decide +kernel
theorem dX8_meshFault_18 : decode cX8_meshFault 18 = .ok (.iconst 0, 1) := by decide +kernel
theorem dX8_meshFault_19 : decode cX8_meshFault 19 = .ok (.aload_n 0, 1) := by decide +kernel
theorem dX8_meshFault_20 : decode cX8_meshFault 20 = .ok (.getfield 11, 3) := by decide +kernel
theorem dX8_meshFault_23 : decode cX8_meshFault 23 = .ok (.iconst 0, 1) := by decide +kernel
theorem dX8_meshFault_24 : decode cX8_meshFault 24 = .ok (.iconst 5, 1) := by decide +kernel
theorem dX8_meshFault_25 : decode cX8_meshFault 25 = .ok (.invokestatic 41, 3) := by decide +kernel
theorem dX8_meshFault_28 : decode cX8_meshFault 28 = .ok (.iconst 0, 1) := by decide +kernel
theorem dX8_meshFault_29 : decode cX8_meshFault 29 = .ok (.istore_n 1, 1) := by decide +kernel
theorem dX8_meshFault_30 : decode cX8_meshFault 30 = .ok (.iload_n 1, 1) := by decide +kernel
theorem dX8_meshFault_31 : decode cX8_meshFault 31 = .ok (.sipush 240, 3) := by decide +kernel
theorem dX8_meshFault_34 : decode cX8_meshFault 34 = .ok (.if_icmp .gt 48, 3) := by decide +kernel
theorem dX8_meshFault_37 : decode cX8_meshFault 37 = .ok (.aload_n 0, 1) := by decide +kernel
theorem dX8_meshFault_38 : decode cX8_meshFault 38 = .ok (.invokevirtual 49, 3) := by decide +kernel
theorem dX8_meshFault_41 : decode cX8_meshFault 41 = .ok (.istore_n 2, 1) := by decide +kernel
theorem dX8_meshFault_42 : decode cX8_meshFault 42 = .ok (.iload_n 2, 1) := by decide +kernel
theorem dX8_meshFault_43 : decode cX8_meshFault 43 = .ok (.iconst (-1), 1) := by decide +kernel
theorem dX8_meshFault_44 : decode cX8_meshFault 44 = .ok (.if_icmp .eq 5, 3) := by decide +kernel
theorem dX8_meshFault_47 : decode cX8_meshFault 47 = .ok (.iload_n 2, 1) := by decide +kernel
theorem dX8_meshFault_48 : decode cX8_meshFault 48 = .ok (.ireturn, 1) := by decide +kernel
theorem dX8_meshFault_49 : decode cX8_meshFault 49 = .ok (.aload_n 0, 1) := by decide +kernel
theorem dX8_meshFault_50 : decode cX8_meshFault 50 = .ok (.getfield 27, 3) := by decide +kernel
theorem dX8_meshFault_53 : decode cX8_meshFault 53 = .ok (.aload_n 0, 1) := by decide +kernel
theorem dX8_meshFault_54 : decode cX8_meshFault 54 = .ok (.getfield 23, 3) := by decide +kernel
theorem dX8_meshFault_57 : decode cX8_meshFault 57 = .ok (.invokevirtual 53, 3) := by decide +kernel
theorem dX8_meshFault_60 : decode cX8_meshFault 60 = .ok (.if_icmp .lt 6, 3) := by decide +kernel
theorem dX8_meshFault_63 : decode cX8_meshFault 63 = .ok (.goto 19, 3) := by decide +kernel
theorem dX8_meshFault_66 : decode cX8_meshFault 66 = .ok (.aload_n 0, 1) := by decide +kernel
theorem dX8_meshFault_67 : decode cX8_meshFault 67 = .ok (.dup, 1) := by decide +kernel
theorem dX8_meshFault_68 : decode cX8_meshFault 68 = .ok (.getfield 27, 3) := by decide +kernel
theorem dX8_meshFault_71 : decode cX8_meshFault 71 = .ok (.iconst 1, 1) := by decide +kernel
theorem dX8_meshFault_72 : decode cX8_meshFault 72 = .ok (.iadd, 1) := by decide +kernel
theorem dX8_meshFault_73 : decode cX8_meshFault 73 = .ok (.putfield 27, 3) := by decide +kernel
theorem dX8_meshFault_76 : decode cX8_meshFault 76 = .ok (.iinc 1 1, 3) := by decide +kernel
theorem dX8_meshFault_79 : decode cX8_meshFault 79 = .ok (.goto (-49), 3) := by decide +kernel
theorem dX8_meshFault_82 : decode cX8_meshFault 82 = .ok (.aload_n 0, 1) := by decide +kernel
theorem dX8_meshFault_83 : decode cX8_meshFault 83 = .ok (.invokevirtual 56, 3) := by decide +kernel
theorem dX8_meshFault_86 : decode cX8_meshFault 86 = .ok (.ifCond .eq 7, 3) := by decide +kernel
theorem dX8_meshFault_89 : decode cX8_meshFault 89 = .ok (.iconst (-1), 1) := by decide +kernel
theorem dX8_meshFault_90 : decode cX8_meshFault 90 = .ok (.goto 10, 3) := by decide +kernel
theorem dX8_meshFault_93 : decode cX8_meshFault 93 = .ok (.aload_n 0, 1) := by decide +kernel
theorem dX8_meshFault_94 : decode cX8_meshFault 94 = .ok (.getfield 23, 3) := by decide +kernel
theorem dX8_meshFault_97 : decode cX8_meshFault 97 = .ok (.invokevirtual 53, 3) := by decide +kernel
theorem dX8_meshFault_100 : decode cX8_meshFault 100 = .ok (.ireturn, 1) := by decide +kernel
theorem dX8_hopsFault_0 : decode cX8_hopsFault 0 = .ok (.aload_n 0, 1) := by decide +kernel
theorem dX8_hopsFault_1 : decode cX8_hopsFault 1 = .ok (.iconst 0, 1) := by decide +kernel
theorem dX8_hopsFault_2 : decode cX8_hopsFault 2 = .ok (.putfield 60, 3) := by decide +kernel
theorem dX8_hopsFault_5 : decode cX8_hopsFault 5 = .ok (.iconst 0, 1) := by decide +kernel
theorem dX8_hopsFault_6 : decode cX8_hopsFault 6 = .ok (.istore_n 1, 1) := by decide +kernel
theorem dX8_hopsFault_7 : decode cX8_hopsFault 7 = .ok (.iload_n 1, 1) := by decide +kernel
theorem dX8_hopsFault_8 : decode cX8_hopsFault 8 = .ok (.aload_n 0, 1) := by decide +kernel
theorem dX8_hopsFault_9 : decode cX8_hopsFault 9 = .ok (.getfield 23, 3) := by decide +kernel
theorem dX8_hopsFault_12 : decode cX8_hopsFault 12 = .ok (.invokevirtual 53, 3) := by decide +kernel
theorem dX8_hopsFault_15 : decode cX8_hopsFault 15 = .ok (.if_icmp .ge 68, 3) := by decide +kernel
theorem dX8_hopsFault_18 : decode cX8_hopsFault 18 = .ok (.aload_n 0, 1) := by decide +kernel
theorem dX8_hopsFault_19 : decode cX8_hopsFault 19 = .ok (.getfield 23, 3) := by decide +kernel
theorem dX8_hopsFault_22 : decode cX8_hopsFault 22 = .ok (.iload_n 1, 1) := by decide +kernel
theorem dX8_hopsFault_23 : decode cX8_hopsFault 23 = .ok (.invokevirtual 63, 3) := by decide +kernel
theorem dX8_hopsFault_26 : decode cX8_hopsFault 26 = .ok (.istore_n 2, 1) := by decide +kernel
theorem dX8_hopsFault_27 : decode cX8_hopsFault 27 = .ok (.iload_n 2, 1) := by decide +kernel
theorem dX8_hopsFault_28 : decode cX8_hopsFault 28 = .ok (.bipush 32, 2) := by decide +kernel
theorem dX8_hopsFault_30 : decode cX8_hopsFault 30 = .ok (.if_icmp .ne 6, 3) := by decide +kernel
theorem dX8_hopsFault_33 : decode cX8_hopsFault 33 = .ok (.goto 44, 3) := by decide +kernel
theorem dX8_hopsFault_36 : decode cX8_hopsFault 36 = .ok (.iload_n 2, 1) := by decide +kernel
theorem dX8_hopsFault_37 : decode cX8_hopsFault 37 = .ok (.invokestatic 67, 3) := by decide +kernel
theorem dX8_hopsFault_40 : decode cX8_hopsFault 40 = .ok (.ifCond .eq 12, 3) := by decide +kernel
theorem dX8_hopsFault_43 : decode cX8_hopsFault 43 = .ok (.aload_n 0, 1) := by decide +kernel
theorem dX8_hopsFault_44 : decode cX8_hopsFault 44 = .ok (.getfield 60, 3) := by decide +kernel
theorem dX8_hopsFault_47 : decode cX8_hopsFault 47 = .ok (.bipush 16, 2) := by decide +kernel
theorem dX8_hopsFault_49 : decode cX8_hopsFault 49 = .ok (.if_icmp .lt 5, 3) := by decide +kernel
theorem dX8_hopsFault_52 : decode cX8_hopsFault 52 = .ok (.iload_n 1, 1) := by decide +kernel
theorem dX8_hopsFault_53 : decode cX8_hopsFault 53 = .ok (.ireturn, 1) := by decide +kernel
theorem dX8_hopsFault_54 : decode cX8_hopsFault 54 = .ok (.aload_n 0, 1) := by decide +kernel
theorem dX8_hopsFault_55 : decode cX8_hopsFault 55 = .ok (.getfield 20, 3) := by decide +kernel
theorem dX8_hopsFault_58 : decode cX8_hopsFault 58 = .ok (.aload_n 0, 1) := by decide +kernel
theorem dX8_hopsFault_59 : decode cX8_hopsFault 59 = .ok (.getfield 60, 3) := by decide +kernel
theorem dX8_hopsFault_62 : decode cX8_hopsFault 62 = .ok (.iload_n 2, 1) := by decide +kernel
theorem dX8_hopsFault_63 : decode cX8_hopsFault 63 = .ok (.bipush 48, 2) := by decide +kernel
theorem dX8_hopsFault_65 : decode cX8_hopsFault 65 = .ok (.isub, 1) := by decide +kernel
theorem dX8_hopsFault_66 : decode cX8_hopsFault 66 = .ok (.iastore, 1) := by decide +kernel
theorem dX8_hopsFault_67 : decode cX8_hopsFault 67 = .ok (.aload_n 0, 1) := by decide +kernel
theorem dX8_hopsFault_68 : decode cX8_hopsFault 68 = .ok (.dup, 1) := by decide +kernel
theorem dX8_hopsFault_69 : decode cX8_hopsFault 69 = .ok (.getfield 60, 3) := by decide +kernel
theorem dX8_hopsFault_72 : decode cX8_hopsFault 72 = .ok (.iconst 1, 1) := by decide +kernel
theorem dX8_hopsFault_73 : decode cX8_hopsFault 73 = .ok (.iadd, 1) := by decide +kernel
theorem dX8_hopsFault_74 : decode cX8_hopsFault 74 = .ok (.putfield 60, 3) := by decide +kernel
theorem dX8_hopsFault_77 : decode cX8_hopsFault 77 = .ok (.iinc 1 1, 3) := by decide +kernel
theorem dX8_hopsFault_80 : decode cX8_hopsFault 80 = .ok (.goto (-73), 3) := by decide +kernel
theorem dX8_hopsFault_83 : decode cX8_hopsFault 83 = .ok (.aload_n 0, 1) := by decide +kernel
theorem dX8_hopsFault_84 : decode cX8_hopsFault 84 = .ok (.getfield 60, 3) := by decide +kernel
theorem dX8_hopsFault_87 : decode cX8_hopsFault 87 = .ok (.ifCond .le 7, 3) := by decide +kernel
theorem dX8_hopsFault_90 : decode cX8_hopsFault 90 = .ok (.iconst (-1), 1) := by decide +kernel
theorem dX8_hopsFault_91 : decode cX8_hopsFault 91 = .ok (.goto 10, 3) := by decide +kernel
theorem dX8_hopsFault_94 : decode cX8_hopsFault 94 = .ok (.aload_n 0, 1) := by decide +kernel
theorem dX8_hopsFault_95 : decode cX8_hopsFault 95 = .ok (.getfield 23, 3) := by decide +kernel
theorem dX8_hopsFault_98 : decode cX8_hopsFault 98 = .ok (.invokevirtual 53, 3) := by decide +kernel
theorem dX8_hopsFault_101 : decode cX8_hopsFault 101 = .ok (.ireturn, 1) := by decide +kernel
theorem dX8_readClause_0 : decode cX8_readClause 0 = .ok (.aload_n 0, 1) := by decide +kernel
theorem dX8_readClause_1 : decode cX8_readClause 1 = .ok (.invokevirtual 71, 3) := by decide +kernel
theorem dX8_readClause_4 : decode cX8_readClause 4 = .ok (.aload_n 0, 1) := by decide +kernel
theorem dX8_readClause_5 : decode cX8_readClause 5 = .ok (.getfield 23, 3) := by decide +kernel
theorem dX8_readClause_8 : decode cX8_readClause 8 = .ok (.aload_n 0, 1) := by decide +kernel
theorem dX8_readClause_9 : decode cX8_readClause 9 = .ok (.getfield 27, 3) := by decide +kernel
theorem dX8_readClause_12 : decode cX8_readClause 12 = .ok (.invokevirtual 63, 3) := by decide +kernel
theorem dX8_readClause_15 : decode cX8_readClause 15 = .ok (.istore_n 1, 1) := by decide +kernel
theorem dX8_readClause_16 : decode cX8_readClause 16 = .ok (.iload_n 1, 1) := by decide +kernel
theorem dX8_readClause_17 : decode cX8_readClause 17 = .ok (.bipush 115, 2) := by decide +kernel
theorem dX8_readClause_19 : decode cX8_readClause 19 = .ok (.if_icmp .ne 43, 3) := by decide +kernel
theorem dX8_readClause_22 : decode cX8_readClause 22 = .ok (.aload_n 0, 1) := by decide +kernel
theorem dX8_readClause_23 : decode cX8_readClause 23 = .ok (.getfield 34, 3) := by decide +kernel
theorem dX8_readClause_26 : decode cX8_readClause 26 = .ok (.ifCond .ne 36, 3) := by decide +kernel
theorem dX8_readClause_29 : decode cX8_readClause 29 = .ok (.aload_n 0, 1) := by decide +kernel
theorem dX8_readClause_30 : decode cX8_readClause 30 = .ok (.iconst 1, 1) := by decide +kernel
theorem dX8_readClause_31 : decode cX8_readClause 31 = .ok (.putfield 34, 3) := by decide +kernel
theorem dX8_readClause_34 : decode cX8_readClause 34 = .ok (.aload_n 0, 1) := by decide +kernel
theorem dX8_readClause_35 : decode cX8_readClause 35 = .ok (.dup, 1) := by decide +kernel
theorem dX8_readClause_36 : decode cX8_readClause 36 = .ok (.getfield 27, 3) := by decide +kernel
theorem dX8_readClause_39 : decode cX8_readClause 39 = .ok (.iconst 1, 1) := by decide +kernel
theorem dX8_readClause_40 : decode cX8_readClause 40 = .ok (.iadd, 1) := by decide +kernel
theorem dX8_readClause_41 : decode cX8_readClause 41 = .ok (.putfield 27, 3) := by decide +kernel
theorem dX8_readClause_44 : decode cX8_readClause 44 = .ok (.aload_n 0, 1) := by decide +kernel
theorem dX8_readClause_45 : decode cX8_readClause 45 = .ok (.ldc 74, 2) := by decide +kernel
theorem dX8_readClause_47 : decode cX8_readClause 47 = .ok (.getstatic 76, 3) := by decide +kernel
theorem dX8_readClause_50 : decode cX8_readClause 50 = .ok (.getstatic 79, 3) := by decide +kernel
theorem dX8_readClause_53 : decode cX8_readClause 53 = .ok (.aload_n 0, 1) := by decide +kernel
theorem dX8_readClause_54 : decode cX8_readClause 54 = .ok (.getfield 11, 3) := by decide +kernel
theorem dX8_readClause_57 : decode cX8_readClause 57 = .ok (.iconst 0, 1) := by decide +kernel
theorem dX8_readClause_58 : decode cX8_readClause 58 = .ok (.invokevirtual 82, 3) := by decide +kernel
theorem dX8_readClause_61 : decode cX8_readClause 61 = .ok (.ireturn, 1) := by decide +kernel
theorem dX8_readClause_62 : decode cX8_readClause 62 = .ok (.iload_n 1, 1) := by decide +kernel
theorem dX8_readClause_63 : decode cX8_readClause 63 = .ok (.bipush 112, 2) := by decide +kernel
theorem dX8_readClause_65 : decode cX8_readClause 65 = .ok (.if_icmp .ne 70, 3) := by decide +kernel
theorem dX8_readClause_68 : decode cX8_readClause 68 = .ok (.aload_n 0, 1) := by decide +kernel
theorem dX8_readClause_69 : decode cX8_readClause 69 = .ok (.getfield 31, 3) := by decide +kernel
theorem dX8_readClause_72 : decode cX8_readClause 72 = .ok (.bipush 6, 2) := by decide +kernel
theorem dX8_readClause_74 : decode cX8_readClause 74 = .ok (.if_icmp .ge 61, 3) := by decide +kernel
theorem dX8_readClause_77 : decode cX8_readClause 77 = .ok (.aload_n 0, 1) := by decide +kernel
theorem dX8_readClause_78 : decode cX8_readClause 78 = .ok (.getfield 31, 3) := by decide +kernel
theorem dX8_readClause_81 : decode cX8_readClause 81 = .ok (.iconst 4, 1) := by decide +kernel
theorem dX8_readClause_82 : decode cX8_readClause 82 = .ok (.imul, 1) := by decide +kernel
theorem dX8_readClause_83 : decode cX8_readClause 83 = .ok (.istore_n 2, 1) := by decide +kernel
theorem dX8_readClause_84 : decode cX8_readClause 84 = .ok (.getstatic 86, 3) := by decide +kernel
theorem dX8_readClause_87 : decode cX8_readClause 87 = .ok (.iconst 0, 1) := by decide +kernel
theorem dX8_readClause_88 : decode cX8_readClause 88 = .ok (.aload_n 0, 1) := by decide +kernel
theorem dX8_readClause_89 : decode cX8_readClause 89 = .ok (.getfield 17, 3) := by decide +kernel
theorem dX8_readClause_92 : decode cX8_readClause 92 = .ok (.iload_n 2, 1) := by decide +kernel
theorem dX8_readClause_93 : decode cX8_readClause 93 = .ok (.iconst 4, 1) := by decide +kernel
theorem dX8_readClause_94 : decode cX8_readClause 94 = .ok (.invokestatic 41, 3) := by decide +kernel
theorem dX8_readClause_97 : decode cX8_readClause 97 = .ok (.aload_n 0, 1) := by decide +kernel
theorem dX8_readClause_98 : decode cX8_readClause 98 = .ok (.dup, 1) := by decide +kernel
theorem dX8_readClause_99 : decode cX8_readClause 99 = .ok (.getfield 31, 3) := by decide +kernel
theorem dX8_readClause_102 : decode cX8_readClause 102 = .ok (.iconst 1, 1) := by decide +kernel
theorem dX8_readClause_103 : decode cX8_readClause 103 = .ok (.iadd, 1) := by decide +kernel
theorem dX8_readClause_104 : decode cX8_readClause 104 = .ok (.putfield 31, 3) := by decide +kernel
theorem dX8_readClause_107 : decode cX8_readClause 107 = .ok (.aload_n 0, 1) := by decide +kernel
theorem dX8_readClause_108 : decode cX8_readClause 108 = .ok (.dup, 1) := by decide +kernel
theorem dX8_readClause_109 : decode cX8_readClause 109 = .ok (.getfield 27, 3) := by decide +kernel
theorem dX8_readClause_112 : decode cX8_readClause 112 = .ok (.iconst 1, 1) := by decide +kernel
theorem dX8_readClause_113 : decode cX8_readClause 113 = .ok (.iadd, 1) := by decide +kernel
theorem dX8_readClause_114 : decode cX8_readClause 114 = .ok (.putfield 27, 3) := by decide +kernel
theorem dX8_readClause_117 : decode cX8_readClause 117 = .ok (.aload_n 0, 1) := by decide +kernel
theorem dX8_readClause_118 : decode cX8_readClause 118 = .ok (.ldc 89, 2) := by decide +kernel
theorem dX8_readClause_120 : decode cX8_readClause 120 = .ok (.getstatic 91, 3) := by decide +kernel
theorem dX8_readClause_123 : decode cX8_readClause 123 = .ok (.getstatic 94, 3) := by decide +kernel
theorem dX8_readClause_126 : decode cX8_readClause 126 = .ok (.aload_n 0, 1) := by decide +kernel
theorem dX8_readClause_127 : decode cX8_readClause 127 = .ok (.getfield 17, 3) := by decide +kernel
theorem dX8_readClause_130 : decode cX8_readClause 130 = .ok (.iload_n 2, 1) := by decide +kernel
theorem dX8_readClause_131 : decode cX8_readClause 131 = .ok (.invokevirtual 82, 3) := by decide +kernel
theorem dX8_readClause_134 : decode cX8_readClause 134 = .ok (.ireturn, 1) := by decide +kernel
theorem dX8_readClause_135 : decode cX8_readClause 135 = .ok (.aload_n 0, 1) := by decide +kernel
theorem dX8_readClause_136 : decode cX8_readClause 136 = .ok (.getfield 27, 3) := by decide +kernel
theorem dX8_readClause_139 : decode cX8_readClause 139 = .ok (.ireturn, 1) := by decide +kernel
theorem dX8_readItems_0 : decode cX8_readItems 0 = .ok (.iconst 0, 1) := by decide +kernel
theorem dX8_readItems_1 : decode cX8_readItems 1 = .ok (.istore 6, 2) := by decide +kernel
theorem dX8_readItems_3 : decode cX8_readItems 3 = .ok (.iconst 0, 1) := by decide +kernel
theorem dX8_readItems_4 : decode cX8_readItems 4 = .ok (.istore 7, 2) := by decide +kernel
theorem dX8_readItems_6 : decode cX8_readItems 6 = .ok (.iload 7, 2) := by decide +kernel
theorem dX8_readItems_8 : decode cX8_readItems 8 = .ok (.aload_n 1, 1) := by decide +kernel
theorem dX8_readItems_9 : decode cX8_readItems 9 = .ok (.invokevirtual 97, 3) := by decide +kernel
theorem dX8_readItems_12 : decode cX8_readItems 12 = .ok (.if_icmp .gt 140, 3) := by decide +kernel
theorem dX8_readItems_15 : decode cX8_readItems 15 = .ok (.aload_n 0, 1) := by decide +kernel
theorem dX8_readItems_16 : decode cX8_readItems 16 = .ok (.invokevirtual 71, 3) := by decide +kernel
theorem dX8_readItems_19 : decode cX8_readItems 19 = .ok (.aload_n 0, 1) := by decide +kernel
theorem dX8_readItems_20 : decode cX8_readItems 20 = .ok (.getfield 23, 3) := by decide +kernel
theorem dX8_readItems_23 : decode cX8_readItems 23 = .ok (.aload_n 0, 1) := by decide +kernel
theorem dX8_readItems_24 : decode cX8_readItems 24 = .ok (.getfield 27, 3) := by decide +kernel
theorem dX8_readItems_27 : decode cX8_readItems 27 = .ok (.invokevirtual 63, 3) := by decide +kernel
theorem dX8_readItems_30 : decode cX8_readItems 30 = .ok (.istore 8, 2) := by decide +kernel
theorem dX8_readItems_32 : decode cX8_readItems 32 = .ok (.iload 8, 2) := by decide +kernel
theorem dX8_readItems_34 : decode cX8_readItems 34 = .ok (.iconst (-1), 1) := by decide +kernel
theorem dX8_readItems_35 : decode cX8_readItems 35 = .ok (.if_icmp .eq 10, 3) := by decide +kernel
theorem dX8_readItems_38 : decode cX8_readItems 38 = .ok (.iload 8, 2) := by decide +kernel
theorem dX8_readItems_40 : decode cX8_readItems 40 = .ok (.bipush 59, 2) := by decide +kernel
theorem dX8_readItems_42 : decode cX8_readItems 42 = .ok (.if_icmp .ne 5, 3) := by decide +kernel
theorem dX8_readItems_45 : decode cX8_readItems 45 = .ok (.iconst (-1), 1) := by decide +kernel
theorem dX8_readItems_46 : decode cX8_readItems 46 = .ok (.ireturn, 1) := by decide +kernel
theorem dX8_readItems_47 : decode cX8_readItems 47 = .ok (.aload_n 1, 1) := by decide +kernel
theorem dX8_readItems_48 : decode cX8_readItems 48 = .ok (.iload 8, 2) := by decide +kernel
theorem dX8_readItems_50 : decode cX8_readItems 50 = .ok (.i2c, 1) := by decide +kernel
theorem dX8_readItems_51 : decode cX8_readItems 51 = .ok (.invokevirtual 102, 3) := by decide +kernel
theorem dX8_readItems_54 : decode cX8_readItems 54 = .ok (.istore 9, 2) := by decide +kernel
theorem dX8_readItems_56 : decode cX8_readItems 56 = .ok (.iload 9, 2) := by decide +kernel
theorem dX8_readItems_58 : decode cX8_readItems 58 = .ok (.ifCond .lt 28, 3) := by decide +kernel
theorem dX8_readItems_61 : decode cX8_readItems 61 = .ok (.iload 9, 2) := by decide +kernel
theorem dX8_readItems_63 : decode cX8_readItems 63 = .ok (.aload_n 2, 1) := by decide +kernel
theorem dX8_readItems_64 : decode cX8_readItems 64 = .ok (.arraylength, 1) := by decide +kernel
theorem dX8_readItems_65 : decode cX8_readItems 65 = .ok (.if_icmp .ge 21, 3) := by decide +kernel
theorem dX8_readItems_68 : decode cX8_readItems 68 = .ok (.iload 9, 2) := by decide +kernel
theorem dX8_readItems_70 : decode cX8_readItems 70 = .ok (.aload_n 3, 1) := by decide +kernel
theorem dX8_readItems_71 : decode cX8_readItems 71 = .ok (.arraylength, 1) := by decide +kernel
theorem dX8_readItems_72 : decode cX8_readItems 72 = .ok (.if_icmp .ge 14, 3) := by decide +kernel
theorem dX8_readItems_75 : decode cX8_readItems 75 = .ok (.iload 6, 2) := by decide +kernel
theorem dX8_readItems_77 : decode cX8_readItems 77 = .ok (.iload 9, 2) := by decide +kernel
theorem dX8_readItems_79 : decode cX8_readItems 79 = .ok (.ishr, 1) := by decide +kernel
theorem dX8_readItems_80 : decode cX8_readItems 80 = .ok (.iconst 1, 1) := by decide +kernel
theorem dX8_readItems_81 : decode cX8_readItems 81 = .ok (.iand, 1) := by decide +kernel
theorem dX8_readItems_82 : decode cX8_readItems 82 = .ok (.iconst 1, 1) := by decide +kernel
theorem dX8_readItems_83 : decode cX8_readItems 83 = .ok (.if_icmp .ne 8, 3) := by decide +kernel
theorem dX8_readItems_86 : decode cX8_readItems 86 = .ok (.aload_n 0, 1) := by decide +kernel
theorem dX8_readItems_87 : decode cX8_readItems 87 = .ok (.getfield 27, 3) := by decide +kernel
theorem dX8_readItems_90 : decode cX8_readItems 90 = .ok (.ireturn, 1) := by decide +kernel
theorem dX8_readItems_91 : decode cX8_readItems 91 = .ok (.iload 6, 2) := by decide +kernel
theorem dX8_readItems_93 : decode cX8_readItems 93 = .ok (.iconst 1, 1) := by decide +kernel
theorem dX8_readItems_94 : decode cX8_readItems 94 = .ok (.iload 9, 2) := by decide +kernel
theorem dX8_readItems_96 : decode cX8_readItems 96 = .ok (.ishl, 1) := by decide +kernel
theorem dX8_readItems_97 : decode cX8_readItems 97 = .ok (.ior, 1) := by decide +kernel
theorem dX8_readItems_98 : decode cX8_readItems 98 = .ok (.istore 6, 2) := by decide +kernel
theorem dX8_readItems_100 : decode cX8_readItems 100 = .ok (.aload_n 0, 1) := by decide +kernel
theorem dX8_readItems_101 : decode cX8_readItems 101 = .ok (.aload_n 2, 1) := by decide +kernel
theorem dX8_readItems_102 : decode cX8_readItems 102 = .ok (.iload 9, 2) := by decide +kernel
theorem dX8_readItems_104 : decode cX8_readItems 104 = .ok (.iaload, 1) := by decide +kernel
theorem dX8_readItems_105 : decode cX8_readItems 105 = .ok (.aload_n 3, 1) := by decide +kernel
theorem dX8_readItems_106 : decode cX8_readItems 106 = .ok (.iload 9, 2) := by decide +kernel
theorem dX8_readItems_108 : decode cX8_readItems 108 = .ok (.iaload, 1) := by decide +kernel
theorem dX8_readItems_109 : decode cX8_readItems 109 = .ok (.invokevirtual 105, 3) := by decide +kernel
theorem dX8_readItems_112 : decode cX8_readItems 112 = .ok (.istore 10, 2) := by decide +kernel
theorem dX8_readItems_114 : decode cX8_readItems 114 = .ok (.iload 10, 2) := by decide +kernel
theorem dX8_readItems_116 : decode cX8_readItems 116 = .ok (.iconst (-1), 1) := by decide +kernel
theorem dX8_readItems_117 : decode cX8_readItems 117 = .ok (.if_icmp .eq 6, 3) := by decide +kernel
theorem dX8_readItems_120 : decode cX8_readItems 120 = .ok (.iload 10, 2) := by decide +kernel
theorem dX8_readItems_122 : decode cX8_readItems 122 = .ok (.ireturn, 1) := by decide +kernel
theorem dX8_readItems_123 : decode cX8_readItems 123 = .ok (.iload 5, 2) := by decide +kernel
theorem dX8_readItems_125 : decode cX8_readItems 125 = .ok (.iload 9, 2) := by decide +kernel
theorem dX8_readItems_127 : decode cX8_readItems 127 = .ok (.iadd, 1) := by decide +kernel
theorem dX8_readItems_128 : decode cX8_readItems 128 = .ok (.aload 4, 2) := by decide +kernel
theorem dX8_readItems_130 : decode cX8_readItems 130 = .ok (.arraylength, 1) := by decide +kernel
theorem dX8_readItems_131 : decode cX8_readItems 131 = .ok (.if_icmp .ge 15, 3) := by decide +kernel
theorem dX8_readItems_134 : decode cX8_readItems 134 = .ok (.aload 4, 2) := by decide +kernel
theorem dX8_readItems_136 : decode cX8_readItems 136 = .ok (.iload 5, 2) := by decide +kernel
theorem dX8_readItems_138 : decode cX8_readItems 138 = .ok (.iload 9, 2) := by decide +kernel
theorem dX8_readItems_140 : decode cX8_readItems 140 = .ok (.iadd, 1) := by decide +kernel
theorem dX8_readItems_141 : decode cX8_readItems 141 = .ok (.aload_n 0, 1) := by decide +kernel
theorem dX8_readItems_142 : decode cX8_readItems 142 = .ok (.getfield 109, 3) := by decide +kernel
theorem dX8_readItems_145 : decode cX8_readItems 145 = .ok (.iastore, 1) := by decide +kernel
theorem dX8_readItems_146 : decode cX8_readItems 146 = .ok (.iinc 7 1, 3) := by decide +kernel
theorem dX8_readItems_149 : decode cX8_readItems 149 = .ok (.goto (-143), 3) := by decide +kernel
theorem dX8_readItems_152 : decode cX8_readItems 152 = .ok (.aload_n 0, 1) := by decide +kernel
theorem dX8_readItems_153 : decode cX8_readItems 153 = .ok (.getfield 27, 3) := by decide +kernel
theorem dX8_readItems_156 : decode cX8_readItems 156 = .ok (.ireturn, 1) := by decide +kernel
theorem dX8_readNumber_0 : decode cX8_readNumber 0 = .ok (.aload_n 0, 1) := by decide +kernel
theorem dX8_readNumber_1 : decode cX8_readNumber 1 = .ok (.dup, 1) := by decide +kernel
theorem dX8_readNumber_2 : decode cX8_readNumber 2 = .ok (.getfield 27, 3) := by decide +kernel
theorem dX8_readNumber_5 : decode cX8_readNumber 5 = .ok (.iconst 1, 1) := by decide +kernel
theorem dX8_readNumber_6 : decode cX8_readNumber 6 = .ok (.iadd, 1) := by decide +kernel
theorem dX8_readNumber_7 : decode cX8_readNumber 7 = .ok (.putfield 27, 3) := by decide +kernel
theorem dX8_readNumber_10 : decode cX8_readNumber 10 = .ok (.aload_n 0, 1) := by decide +kernel
theorem dX8_readNumber_11 : decode cX8_readNumber 11 = .ok (.invokevirtual 71, 3) := by decide +kernel
theorem dX8_readNumber_14 : decode cX8_readNumber 14 = .ok (.aload_n 0, 1) := by decide +kernel
theorem dX8_readNumber_15 : decode cX8_readNumber 15 = .ok (.iconst 0, 1) := by decide +kernel
theorem dX8_readNumber_16 : decode cX8_readNumber 16 = .ok (.putfield 109, 3) := by decide +kernel
theorem dX8_readNumber_19 : decode cX8_readNumber 19 = .ok (.iconst 0, 1) := by decide +kernel
theorem dX8_readNumber_20 : decode cX8_readNumber 20 = .ok (.istore_n 3, 1) := by decide +kernel
theorem dX8_readNumber_21 : decode cX8_readNumber 21 = .ok (.iload_n 3, 1) := by decide +kernel
theorem dX8_readNumber_22 : decode cX8_readNumber 22 = .ok (.iconst 3, 1) := by decide +kernel
theorem dX8_readNumber_23 : decode cX8_readNumber 23 = .ok (.if_icmp .ge 76, 3) := by decide +kernel
theorem dX8_readNumber_26 : decode cX8_readNumber 26 = .ok (.aload_n 0, 1) := by decide +kernel
theorem dX8_readNumber_27 : decode cX8_readNumber 27 = .ok (.getfield 23, 3) := by decide +kernel
theorem dX8_readNumber_30 : decode cX8_readNumber 30 = .ok (.aload_n 0, 1) := by decide +kernel
theorem dX8_readNumber_31 : decode cX8_readNumber 31 = .ok (.getfield 27, 3) := by decide +kernel
theorem dX8_readNumber_34 : decode cX8_readNumber 34 = .ok (.invokevirtual 63, 3) := by decide +kernel
theorem dX8_readNumber_37 : decode cX8_readNumber 37 = .ok (.istore 4, 2) := by decide +kernel
theorem dX8_readNumber_39 : decode cX8_readNumber 39 = .ok (.iload 4, 2) := by decide +kernel
theorem dX8_readNumber_41 : decode cX8_readNumber 41 = .ok (.invokestatic 67, 3) := by decide +kernel
theorem dX8_readNumber_44 : decode cX8_readNumber 44 = .ok (.ifCond .ne 12, 3) := by decide +kernel
theorem dX8_readNumber_47 : decode cX8_readNumber 47 = .ok (.iload_n 3, 1) := by decide +kernel
theorem dX8_readNumber_48 : decode cX8_readNumber 48 = .ok (.ifCond .ne 51, 3) := by decide +kernel
theorem dX8_readNumber_51 : decode cX8_readNumber 51 = .ok (.aload_n 0, 1) := by decide +kernel
theorem dX8_readNumber_52 : decode cX8_readNumber 52 = .ok (.getfield 27, 3) := by decide +kernel
theorem dX8_readNumber_55 : decode cX8_readNumber 55 = .ok (.ireturn, 1) := by decide +kernel
theorem dX8_readNumber_56 : decode cX8_readNumber 56 = .ok (.iload_n 3, 1) := by decide +kernel
theorem dX8_readNumber_57 : decode cX8_readNumber 57 = .ok (.iconst 2, 1) := by decide +kernel
theorem dX8_readNumber_58 : decode cX8_readNumber 58 = .ok (.if_icmp .ne 8, 3) := by decide +kernel
theorem dX8_readNumber_61 : decode cX8_readNumber 61 = .ok (.aload_n 0, 1) := by decide +kernel
theorem dX8_readNumber_62 : decode cX8_readNumber 62 = .ok (.getfield 27, 3) := by decide +kernel
theorem dX8_readNumber_65 : decode cX8_readNumber 65 = .ok (.ireturn, 1) := by decide +kernel
theorem dX8_readNumber_66 : decode cX8_readNumber 66 = .ok (.aload_n 0, 1) := by decide +kernel
theorem dX8_readNumber_67 : decode cX8_readNumber 67 = .ok (.aload_n 0, 1) := by decide +kernel
theorem dX8_readNumber_68 : decode cX8_readNumber 68 = .ok (.getfield 109, 3) := by decide +kernel
theorem dX8_readNumber_71 : decode cX8_readNumber 71 = .ok (.bipush 10, 2) := by decide +kernel
theorem dX8_readNumber_73 : decode cX8_readNumber 73 = .ok (.imul, 1) := by decide +kernel
theorem dX8_readNumber_74 : decode cX8_readNumber 74 = .ok (.iload 4, 2) := by decide +kernel
theorem dX8_readNumber_76 : decode cX8_readNumber 76 = .ok (.iadd, 1) := by decide +kernel
theorem dX8_readNumber_77 : decode cX8_readNumber 77 = .ok (.bipush 48, 2) := by decide +kernel
theorem dX8_readNumber_79 : decode cX8_readNumber 79 = .ok (.isub, 1) := by decide +kernel
theorem dX8_readNumber_80 : decode cX8_readNumber 80 = .ok (.putfield 109, 3) := by decide +kernel
theorem dX8_readNumber_83 : decode cX8_readNumber 83 = .ok (.aload_n 0, 1) := by decide +kernel
theorem dX8_readNumber_84 : decode cX8_readNumber 84 = .ok (.dup, 1) := by decide +kernel
theorem dX8_readNumber_85 : decode cX8_readNumber 85 = .ok (.getfield 27, 3) := by decide +kernel
theorem dX8_readNumber_88 : decode cX8_readNumber 88 = .ok (.iconst 1, 1) := by decide +kernel
theorem dX8_readNumber_89 : decode cX8_readNumber 89 = .ok (.iadd, 1) := by decide +kernel
theorem dX8_readNumber_90 : decode cX8_readNumber 90 = .ok (.putfield 27, 3) := by decide +kernel
theorem dX8_readNumber_93 : decode cX8_readNumber 93 = .ok (.iinc 3 1, 3) := by decide +kernel
theorem dX8_readNumber_96 : decode cX8_readNumber 96 = .ok (.goto (-75), 3) := by decide +kernel
theorem dX8_readNumber_99 : decode cX8_readNumber 99 = .ok (.aload_n 0, 1) := by decide +kernel
theorem dX8_readNumber_100 : decode cX8_readNumber 100 = .ok (.getfield 109, 3) := by decide +kernel
theorem dX8_readNumber_103 : decode cX8_readNumber 103 = .ok (.iload_n 1, 1) := by decide +kernel
theorem dX8_readNumber_104 : decode cX8_readNumber 104 = .ok (.if_icmp .lt 11, 3) := by decide +kernel
theorem dX8_readNumber_107 : decode cX8_readNumber 107 = .ok (.aload_n 0, 1) := by decide +kernel
theorem dX8_readNumber_108 : decode cX8_readNumber 108 = .ok (.getfield 109, 3) := by decide +kernel
theorem dX8_readNumber_111 : decode cX8_readNumber 111 = .ok (.iload_n 2, 1) := by decide +kernel
theorem dX8_readNumber_112 : decode cX8_readNumber 112 = .ok (.if_icmp .le 12, 3) := by decide +kernel
theorem dX8_readNumber_115 : decode cX8_readNumber 115 = .ok (.aload_n 0, 1) := by decide +kernel
theorem dX8_readNumber_116 : decode cX8_readNumber 116 = .ok (.getfield 27, 3) := by decide +kernel
theorem dX8_readNumber_119 : decode cX8_readNumber 119 = .ok (.iconst 1, 1) := by decide +kernel
theorem dX8_readNumber_120 : decode cX8_readNumber 120 = .ok (.isub, 1) := by decide +kernel
theorem dX8_readNumber_121 : decode cX8_readNumber 121 = .ok (.goto 4, 3) := by decide +kernel
theorem dX8_readNumber_124 : decode cX8_readNumber 124 = .ok (.iconst (-1), 1) := by decide +kernel
theorem dX8_readNumber_125 : decode cX8_readNumber 125 = .ok (.ireturn, 1) := by decide +kernel
theorem dX8_skipBlanks_0 : decode cX8_skipBlanks 0 = .ok (.iconst 0, 1) := by decide +kernel
theorem dX8_skipBlanks_1 : decode cX8_skipBlanks 1 = .ok (.istore_n 1, 1) := by decide +kernel
theorem dX8_skipBlanks_2 : decode cX8_skipBlanks 2 = .ok (.iload_n 1, 1) := by decide +kernel
theorem dX8_skipBlanks_3 : decode cX8_skipBlanks 3 = .ok (.sipush 240, 3) := by decide +kernel
theorem dX8_skipBlanks_6 : decode cX8_skipBlanks 6 = .ok (.if_icmp .ge 35, 3) := by decide +kernel
theorem dX8_skipBlanks_9 : decode cX8_skipBlanks 9 = .ok (.aload_n 0, 1) := by decide +kernel
theorem dX8_skipBlanks_10 : decode cX8_skipBlanks 10 = .ok (.getfield 23, 3) := by decide +kernel
theorem dX8_skipBlanks_13 : decode cX8_skipBlanks 13 = .ok (.aload_n 0, 1) := by decide +kernel
theorem dX8_skipBlanks_14 : decode cX8_skipBlanks 14 = .ok (.getfield 27, 3) := by decide +kernel
theorem dX8_skipBlanks_17 : decode cX8_skipBlanks 17 = .ok (.invokevirtual 63, 3) := by decide +kernel
theorem dX8_skipBlanks_20 : decode cX8_skipBlanks 20 = .ok (.bipush 32, 2) := by decide +kernel
theorem dX8_skipBlanks_22 : decode cX8_skipBlanks 22 = .ok (.if_icmp .ne 19, 3) := by decide +kernel
theorem dX8_skipBlanks_25 : decode cX8_skipBlanks 25 = .ok (.aload_n 0, 1) := by decide +kernel
theorem dX8_skipBlanks_26 : decode cX8_skipBlanks 26 = .ok (.dup, 1) := by decide +kernel
theorem dX8_skipBlanks_27 : decode cX8_skipBlanks 27 = .ok (.getfield 27, 3) := by decide +kernel
theorem dX8_skipBlanks_30 : decode cX8_skipBlanks 30 = .ok (.iconst 1, 1) := by decide +kernel
theorem dX8_skipBlanks_31 : decode cX8_skipBlanks 31 = .ok (.iadd, 1) := by decide +kernel
theorem dX8_skipBlanks_32 : decode cX8_skipBlanks 32 = .ok (.putfield 27, 3) := by decide +kernel
theorem dX8_skipBlanks_35 : decode cX8_skipBlanks 35 = .ok (.iinc 1 1, 3) := by decide +kernel
theorem dX8_skipBlanks_38 : decode cX8_skipBlanks 38 = .ok (.goto (-36), 3) := by decide +kernel
theorem dX8_skipBlanks_41 : decode cX8_skipBlanks 41 = .ok (.return_, 1) := by decide +kernel
theorem dX8_isDigit_0 : decode cX8_isDigit 0 = .ok (.iload_n 0, 1) := by decide +kernel
theorem dX8_isDigit_1 : decode cX8_isDigit 1 = .ok (.bipush 48, 2) := by decide +kernel
theorem dX8_isDigit_3 : decode cX8_isDigit 3 = .ok (.if_icmp .lt 13, 3) := by decide +kernel
theorem dX8_isDigit_6 : decode cX8_isDigit 6 = .ok (.iload_n 0, 1) := by decide +kernel
theorem dX8_isDigit_7 : decode cX8_isDigit 7 = .ok (.bipush 57, 2) := by decide +kernel
theorem dX8_isDigit_9 : decode cX8_isDigit 9 = .ok (.if_icmp .gt 7, 3) := by decide +kernel
theorem dX8_isDigit_12 : decode cX8_isDigit 12 = .ok (.iconst 1, 1) := by decide +kernel
theorem dX8_isDigit_13 : decode cX8_isDigit 13 = .ok (.goto 4, 3) := by decide +kernel
theorem dX8_isDigit_16 : decode cX8_isDigit 16 = .ok (.iconst 0, 1) := by decide +kernel
theorem dX8_isDigit_17 : decode cX8_isDigit 17 = .ok (.ireturn, 1) := by decide +kernel
theorem dX8_isWhole_0 : decode cX8_isWhole 0 = .ok (.iconst 0, 1) := by decide +kernel
theorem dX8_isWhole_1 : decode cX8_isWhole 1 = .ok (.istore_n 1, 1) := by decide +kernel
theorem dX8_isWhole_2 : decode cX8_isWhole 2 = .ok (.iload_n 1, 1) := by decide +kernel
theorem dX8_isWhole_3 : decode cX8_isWhole 3 = .ok (.aload_n 0, 1) := by decide +kernel
theorem dX8_isWhole_4 : decode cX8_isWhole 4 = .ok (.getfield 31, 3) := by decide +kernel
theorem dX8_isWhole_7 : decode cX8_isWhole 7 = .ok (.if_icmp .ge 85, 3) := by decide +kernel
theorem dX8_isWhole_10 : decode cX8_isWhole 10 = .ok (.aload_n 0, 1) := by decide +kernel
theorem dX8_isWhole_11 : decode cX8_isWhole 11 = .ok (.getfield 17, 3) := by decide +kernel
theorem dX8_isWhole_14 : decode cX8_isWhole 14 = .ok (.iload_n 1, 1) := by decide +kernel
theorem dX8_isWhole_15 : decode cX8_isWhole 15 = .ok (.iconst 4, 1) := by decide +kernel
theorem dX8_isWhole_16 : decode cX8_isWhole 16 = .ok (.imul, 1) := by decide +kernel
theorem dX8_isWhole_17 : decode cX8_isWhole 17 = .ok (.iconst 0, 1) := by decide +kernel
theorem dX8_isWhole_18 : decode cX8_isWhole 18 = .ok (.iadd, 1) := by decide +kernel
theorem dX8_isWhole_19 : decode cX8_isWhole 19 = .ok (.iaload, 1) := by decide +kernel
theorem dX8_isWhole_20 : decode cX8_isWhole 20 = .ok (.istore_n 2, 1) := by decide +kernel
theorem dX8_isWhole_21 : decode cX8_isWhole 21 = .ok (.aload_n 0, 1) := by decide +kernel
theorem dX8_isWhole_22 : decode cX8_isWhole 22 = .ok (.getfield 17, 3) := by decide +kernel
theorem dX8_isWhole_25 : decode cX8_isWhole 25 = .ok (.iload_n 1, 1) := by decide +kernel
theorem dX8_isWhole_26 : decode cX8_isWhole 26 = .ok (.iconst 4, 1) := by decide +kernel
theorem dX8_isWhole_27 : decode cX8_isWhole 27 = .ok (.imul, 1) := by decide +kernel
theorem dX8_isWhole_28 : decode cX8_isWhole 28 = .ok (.iconst 1, 1) := by decide +kernel
theorem dX8_isWhole_29 : decode cX8_isWhole 29 = .ok (.iadd, 1) := by decide +kernel
theorem dX8_isWhole_30 : decode cX8_isWhole 30 = .ok (.iaload, 1) := by decide +kernel
theorem dX8_isWhole_31 : decode cX8_isWhole 31 = .ok (.istore_n 3, 1) := by decide +kernel
theorem dX8_isWhole_32 : decode cX8_isWhole 32 = .ok (.iload_n 2, 1) := by decide +kernel
theorem dX8_isWhole_33 : decode cX8_isWhole 33 = .ok (.iload_n 3, 1) := by decide +kernel
theorem dX8_isWhole_34 : decode cX8_isWhole 34 = .ok (.if_icmp .ne 5, 3) := by decide +kernel
theorem dX8_isWhole_37 : decode cX8_isWhole 37 = .ok (.iconst 0, 1) := by decide +kernel
theorem dX8_isWhole_38 : decode cX8_isWhole 38 = .ok (.ireturn, 1) := by decide +kernel
theorem dX8_isWhole_39 : decode cX8_isWhole 39 = .ok (.iconst 0, 1) := by decide +kernel
theorem dX8_isWhole_40 : decode cX8_isWhole 40 = .ok (.istore 4, 2) := by decide +kernel
theorem dX8_isWhole_42 : decode cX8_isWhole 42 = .ok (.iload 4, 2) := by decide +kernel
theorem dX8_isWhole_44 : decode cX8_isWhole 44 = .ok (.iload_n 1, 1) := by decide +kernel
theorem dX8_isWhole_45 : decode cX8_isWhole 45 = .ok (.if_icmp .ge 41, 3) := by decide +kernel
theorem dX8_isWhole_48 : decode cX8_isWhole 48 = .ok (.aload_n 0, 1) := by decide +kernel
theorem dX8_isWhole_49 : decode cX8_isWhole 49 = .ok (.getfield 17, 3) := by decide +kernel
theorem dX8_isWhole_52 : decode cX8_isWhole 52 = .ok (.iload 4, 2) := by decide +kernel
theorem dX8_isWhole_54 : decode cX8_isWhole 54 = .ok (.iconst 4, 1) := by decide +kernel
theorem dX8_isWhole_55 : decode cX8_isWhole 55 = .ok (.imul, 1) := by decide +kernel
theorem dX8_isWhole_56 : decode cX8_isWhole 56 = .ok (.iconst 0, 1) := by decide +kernel
theorem dX8_isWhole_57 : decode cX8_isWhole 57 = .ok (.iadd, 1) := by decide +kernel
theorem dX8_isWhole_58 : decode cX8_isWhole 58 = .ok (.iaload, 1) := by decide +kernel
theorem dX8_isWhole_59 : decode cX8_isWhole 59 = .ok (.iload_n 2, 1) := by decide +kernel
theorem dX8_isWhole_60 : decode cX8_isWhole 60 = .ok (.if_icmp .ne 20, 3) := by decide +kernel
theorem dX8_isWhole_63 : decode cX8_isWhole 63 = .ok (.aload_n 0, 1) := by decide +kernel
theorem dX8_isWhole_64 : decode cX8_isWhole 64 = .ok (.getfield 17, 3) := by decide +kernel
theorem dX8_isWhole_67 : decode cX8_isWhole 67 = .ok (.iload 4, 2) := by decide +kernel
theorem dX8_isWhole_69 : decode cX8_isWhole 69 = .ok (.iconst 4, 1) := by decide +kernel
theorem dX8_isWhole_70 : decode cX8_isWhole 70 = .ok (.imul, 1) := by decide +kernel
theorem dX8_isWhole_71 : decode cX8_isWhole 71 = .ok (.iconst 1, 1) := by decide +kernel
theorem dX8_isWhole_72 : decode cX8_isWhole 72 = .ok (.iadd, 1) := by decide +kernel
theorem dX8_isWhole_73 : decode cX8_isWhole 73 = .ok (.iaload, 1) := by decide +kernel
theorem dX8_isWhole_74 : decode cX8_isWhole 74 = .ok (.iload_n 3, 1) := by decide +kernel
theorem dX8_isWhole_75 : decode cX8_isWhole 75 = .ok (.if_icmp .ne 5, 3) := by decide +kernel
theorem dX8_isWhole_78 : decode cX8_isWhole 78 = .ok (.iconst 0, 1) := by decide +kernel
theorem dX8_isWhole_79 : decode cX8_isWhole 79 = .ok (.ireturn, 1) := by decide +kernel
theorem dX8_isWhole_80 : decode cX8_isWhole 80 = .ok (.iinc 4 1, 3) := by decide +kernel
theorem dX8_isWhole_83 : decode cX8_isWhole 83 = .ok (.goto (-41), 3) := by decide +kernel
theorem dX8_isWhole_86 : decode cX8_isWhole 86 = .ok (.iinc 1 1, 3) := by decide +kernel
theorem dX8_isWhole_89 : decode cX8_isWhole 89 = .ok (.goto (-87), 3) := by decide +kernel
theorem dX8_isWhole_92 : decode cX8_isWhole 92 = .ok (.aload_n 0, 1) := by decide +kernel
theorem dX8_isWhole_93 : decode cX8_isWhole 93 = .ok (.getfield 31, 3) := by decide +kernel
theorem dX8_isWhole_96 : decode cX8_isWhole 96 = .ok (.ifCond .le 7, 3) := by decide +kernel
theorem dX8_isWhole_99 : decode cX8_isWhole 99 = .ok (.iconst 1, 1) := by decide +kernel
theorem dX8_isWhole_100 : decode cX8_isWhole 100 = .ok (.goto 4, 3) := by decide +kernel
theorem dX8_isWhole_103 : decode cX8_isWhole 103 = .ok (.iconst 0, 1) := by decide +kernel
theorem dX8_isWhole_104 : decode cX8_isWhole 104 = .ok (.ireturn, 1) := by decide +kernel
theorem dX9_init_0 : decode cX9_init 0 = .ok (.aload_n 0, 1) := by decide +kernel
theorem dX9_init_1 : decode cX9_init 1 = .ok (.invokespecial 5, 3) := by decide +kernel
theorem dX9_init_4 : decode cX9_init 4 = .ok (.aload_n 0, 1) := by decide +kernel
theorem dX9_init_5 : decode cX9_init 5 = .ok (.aload_n 1, 1) := by decide +kernel
theorem dX9_init_6 : decode cX9_init 6 = .ok (.putfield 11, 3) := by decide +kernel
theorem dX9_init_9 : decode cX9_init 9 = .ok (.aload_n 0, 1) := by decide +kernel
theorem dX9_init_10 : decode cX9_init 10 = .ok (.iload_n 2, 1) := by decide +kernel
theorem dX9_init_11 : decode cX9_init 11 = .ok (.putfield 15, 3) := by decide +kernel
theorem dX9_init_14 : decode cX9_init 14 = .ok (.return_, 1) := by decide +kernel
theorem dX9_seq_0 : decode cX9_seq 0 = .ok (.aload_n 0, 1) := by decide +kernel
theorem dX9_seq_1 : decode cX9_seq 1 = .ok (.getfield 11, 3) := by decide +kernel
theorem dX9_seq_4 : decode cX9_seq 4 = .ok (.aload_n 0, 1) := by decide +kernel
theorem dX9_seq_5 : decode cX9_seq 5 = .ok (.getfield 15, 3) := by decide +kernel
theorem dX9_seq_8 : decode cX9_seq 8 = .ok (.iconst 0, 1) := by decide +kernel
theorem dX9_seq_9 : decode cX9_seq 9 = .ok (.iadd, 1) := by decide +kernel
theorem dX9_seq_10 : decode cX9_seq 10 = .ok (.iaload, 1) := by decide +kernel
theorem dX9_seq_11 : decode cX9_seq 11 = .ok (.ireturn, 1) := by decide +kernel
theorem dX9_raiseSeq_0 : decode cX9_raiseSeq 0 = .ok (.aload_n 0, 1) := by decide +kernel
theorem dX9_raiseSeq_1 : decode cX9_raiseSeq 1 = .ok (.getfield 11, 3) := by decide +kernel
theorem dX9_raiseSeq_4 : decode cX9_raiseSeq 4 = .ok (.aload_n 0, 1) := by decide +kernel
theorem dX9_raiseSeq_5 : decode cX9_raiseSeq 5 = .ok (.getfield 15, 3) := by decide +kernel
theorem dX9_raiseSeq_8 : decode cX9_raiseSeq 8 = .ok (.iconst 0, 1) := by decide +kernel
theorem dX9_raiseSeq_9 : decode cX9_raiseSeq 9 = .ok (.iadd, 1) := by decide +kernel
theorem dX9_raiseSeq_10 : decode cX9_raiseSeq 10 = .ok (.iaload, 1) := by decide +kernel
theorem dX9_raiseSeq_11 : decode cX9_raiseSeq 11 = .ok (.istore_n 1, 1) := by decide +kernel
theorem dX9_raiseSeq_12 : decode cX9_raiseSeq 12 = .ok (.aload_n 0, 1) := by decide +kernel
theorem dX9_raiseSeq_13 : decode cX9_raiseSeq 13 = .ok (.getfield 11, 3) := by decide +kernel
theorem dX9_raiseSeq_16 : decode cX9_raiseSeq 16 = .ok (.aload_n 0, 1) := by decide +kernel
theorem dX9_raiseSeq_17 : decode cX9_raiseSeq 17 = .ok (.getfield 15, 3) := by decide +kernel
theorem dX9_raiseSeq_20 : decode cX9_raiseSeq 20 = .ok (.iconst 0, 1) := by decide +kernel
theorem dX9_raiseSeq_21 : decode cX9_raiseSeq 21 = .ok (.iadd, 1) := by decide +kernel
theorem dX9_raiseSeq_22 : decode cX9_raiseSeq 22 = .ok (.iload_n 1, 1) := by decide +kernel
theorem dX9_raiseSeq_23 : decode cX9_raiseSeq 23 = .ok (.sipush 255, 3) := by decide +kernel
theorem dX9_raiseSeq_26 : decode cX9_raiseSeq 26 = .ok (.if_icmp .lt 7, 3) := by decide +kernel
theorem dX9_raiseSeq_29 : decode cX9_raiseSeq 29 = .ok (.iconst 1, 1) := by decide +kernel
theorem dX9_raiseSeq_30 : decode cX9_raiseSeq 30 = .ok (.goto 6, 3) := by decide +kernel
theorem dX9_raiseSeq_33 : decode cX9_raiseSeq 33 = .ok (.iload_n 1, 1) := by decide +kernel
theorem dX9_raiseSeq_34 : decode cX9_raiseSeq 34 = .ok (.iconst 1, 1) := by decide +kernel
theorem dX9_raiseSeq_35 : decode cX9_raiseSeq 35 = .ok (.iadd, 1) := by decide +kernel
theorem dX9_raiseSeq_36 : decode cX9_raiseSeq 36 = .ok (.iastore, 1) := by decide +kernel
theorem dX9_raiseSeq_37 : decode cX9_raiseSeq 37 = .ok (.return_, 1) := by decide +kernel
theorem dX9_isWaiting_0 : decode cX9_isWaiting 0 = .ok (.aload_n 0, 1) := by decide +kernel
theorem dX9_isWaiting_1 : decode cX9_isWaiting 1 = .ok (.getfield 11, 3) := by decide +kernel
theorem dX9_isWaiting_4 : decode cX9_isWaiting 4 = .ok (.aload_n 0, 1) := by decide +kernel
theorem dX9_isWaiting_5 : decode cX9_isWaiting 5 = .ok (.getfield 15, 3) := by decide +kernel
theorem dX9_isWaiting_8 : decode cX9_isWaiting 8 = .ok (.iconst 1, 1) := by decide +kernel
theorem dX9_isWaiting_9 : decode cX9_isWaiting 9 = .ok (.iadd, 1) := by decide +kernel
theorem dX9_isWaiting_10 : decode cX9_isWaiting 10 = .ok (.iaload, 1) := by decide +kernel
theorem dX9_isWaiting_11 : decode cX9_isWaiting 11 = .ok (.iconst 1, 1) := by decide +kernel
theorem dX9_isWaiting_12 : decode cX9_isWaiting 12 = .ok (.if_icmp .ne 7, 3) := by decide +kernel
theorem dX9_isWaiting_15 : decode cX9_isWaiting 15 = .ok (.iconst 1, 1) := by decide +kernel
theorem dX9_isWaiting_16 : decode cX9_isWaiting 16 = .ok (.goto 4, 3) := by decide +kernel
theorem dX9_isWaiting_19 : decode cX9_isWaiting 19 = .ok (.iconst 0, 1) := by decide +kernel
theorem dX9_isWaiting_20 : decode cX9_isWaiting 20 = .ok (.ireturn, 1) := by decide +kernel
theorem dX9_awaits_0 : decode cX9_awaits 0 = .ok (.aload_n 0, 1) := by decide +kernel
theorem dX9_awaits_1 : decode cX9_awaits 1 = .ok (.invokevirtual 19, 3) := by decide +kernel
theorem dX9_awaits_4 : decode cX9_awaits 4 = .ok (.ifCond .eq 22, 3) := by decide +kernel
theorem dX9_awaits_7 : decode cX9_awaits 7 = .ok (.aload_n 0, 1) := by decide +kernel
theorem dX9_awaits_8 : decode cX9_awaits 8 = .ok (.getfield 11, 3) := by decide +kernel
theorem dX9_awaits_11 : decode cX9_awaits 11 = .ok (.aload_n 0, 1) := by decide +kernel
theorem dX9_awaits_12 : decode cX9_awaits 12 = .ok (.getfield 15, 3) := by decide +kernel
theorem dX9_awaits_15 : decode cX9_awaits 15 = .ok (.iconst 3, 1) := by decide +kernel
theorem dX9_awaits_16 : decode cX9_awaits 16 = .ok (.iadd, 1) := by decide +kernel
theorem dX9_awaits_17 : decode cX9_awaits 17 = .ok (.iaload, 1) := by decide +kernel
theorem dX9_awaits_18 : decode cX9_awaits 18 = .ok (.iload_n 1, 1) := by decide +kernel
theorem dX9_awaits_19 : decode cX9_awaits 19 = .ok (.if_icmp .ne 7, 3) := by decide +kernel
theorem dX9_awaits_22 : decode cX9_awaits 22 = .ok (.iconst 1, 1) := by decide +kernel
theorem dX9_awaits_23 : decode cX9_awaits 23 = .ok (.goto 4, 3) := by decide +kernel
theorem dX9_awaits_26 : decode cX9_awaits 26 = .ok (.iconst 0, 1) := by decide +kernel
theorem dX9_awaits_27 : decode cX9_awaits 27 = .ok (.ireturn, 1) := by decide +kernel
theorem dX9_hasWaited_0 : decode cX9_hasWaited 0 = .ok (.aload_n 0, 1) := by decide +kernel
theorem dX9_hasWaited_1 : decode cX9_hasWaited 1 = .ok (.invokevirtual 19, 3) := by decide +kernel
theorem dX9_hasWaited_4 : decode cX9_hasWaited 4 = .ok (.ifCond .eq 24, 3) := by decide +kernel
theorem dX9_hasWaited_7 : decode cX9_hasWaited 7 = .ok (.iload_n 1, 1) := by decide +kernel
theorem dX9_hasWaited_8 : decode cX9_hasWaited 8 = .ok (.aload_n 0, 1) := by decide +kernel
theorem dX9_hasWaited_9 : decode cX9_hasWaited 9 = .ok (.getfield 11, 3) := by decide +kernel
theorem dX9_hasWaited_12 : decode cX9_hasWaited 12 = .ok (.aload_n 0, 1) := by decide +kernel
theorem dX9_hasWaited_13 : decode cX9_hasWaited 13 = .ok (.getfield 15, 3) := by decide +kernel
theorem dX9_hasWaited_16 : decode cX9_hasWaited 16 = .ok (.iconst 2, 1) := by decide +kernel
theorem dX9_hasWaited_17 : decode cX9_hasWaited 17 = .ok (.iadd, 1) := by decide +kernel
theorem dX9_hasWaited_18 : decode cX9_hasWaited 18 = .ok (.iaload, 1) := by decide +kernel
theorem dX9_hasWaited_19 : decode cX9_hasWaited 19 = .ok (.isub, 1) := by decide +kernel
theorem dX9_hasWaited_20 : decode cX9_hasWaited 20 = .ok (.iload_n 2, 1) := by decide +kernel
theorem dX9_hasWaited_21 : decode cX9_hasWaited 21 = .ok (.if_icmp .lt 7, 3) := by decide +kernel
theorem dX9_hasWaited_24 : decode cX9_hasWaited 24 = .ok (.iconst 1, 1) := by decide +kernel
theorem dX9_hasWaited_25 : decode cX9_hasWaited 25 = .ok (.goto 4, 3) := by decide +kernel
theorem dX9_hasWaited_28 : decode cX9_hasWaited 28 = .ok (.iconst 0, 1) := by decide +kernel
theorem dX9_hasWaited_29 : decode cX9_hasWaited 29 = .ok (.ireturn, 1) := by decide +kernel
theorem dX9_startWaiting_0 : decode cX9_startWaiting 0 = .ok (.aload_n 0, 1) := by decide +kernel
theorem dX9_startWaiting_1 : decode cX9_startWaiting 1 = .ok (.getfield 11, 3) := by decide +kernel
theorem dX9_startWaiting_4 : decode cX9_startWaiting 4 = .ok (.aload_n 0, 1) := by decide +kernel
theorem dX9_startWaiting_5 : decode cX9_startWaiting 5 = .ok (.getfield 15, 3) := by decide +kernel
theorem dX9_startWaiting_8 : decode cX9_startWaiting 8 = .ok (.iconst 1, 1) := by decide +kernel
theorem dX9_startWaiting_9 : decode cX9_startWaiting 9 = .ok (.iadd, 1) := by decide +kernel
theorem dX9_startWaiting_10 : decode cX9_startWaiting 10 = .ok (.iconst 1, 1) := by decide +kernel
theorem dX9_startWaiting_11 : decode cX9_startWaiting 11 = .ok (.iastore, 1) := by decide +kernel
theorem dX9_startWaiting_12 : decode cX9_startWaiting 12 = .ok (.aload_n 0, 1) := by decide +kernel
theorem dX9_startWaiting_13 : decode cX9_startWaiting 13 = .ok (.getfield 11, 3) := by decide +kernel
theorem dX9_startWaiting_16 : decode cX9_startWaiting 16 = .ok (.aload_n 0, 1) := by decide +kernel
theorem dX9_startWaiting_17 : decode cX9_startWaiting 17 = .ok (.getfield 15, 3) := by decide +kernel
theorem dX9_startWaiting_20 : decode cX9_startWaiting 20 = .ok (.iconst 2, 1) := by decide +kernel
theorem dX9_startWaiting_21 : decode cX9_startWaiting 21 = .ok (.iadd, 1) := by decide +kernel
theorem dX9_startWaiting_22 : decode cX9_startWaiting 22 = .ok (.iload_n 1, 1) := by decide +kernel
theorem dX9_startWaiting_23 : decode cX9_startWaiting 23 = .ok (.iastore, 1) := by decide +kernel
theorem dX9_startWaiting_24 : decode cX9_startWaiting 24 = .ok (.aload_n 0, 1) := by decide +kernel
theorem dX9_startWaiting_25 : decode cX9_startWaiting 25 = .ok (.getfield 11, 3) := by decide +kernel
theorem dX9_startWaiting_28 : decode cX9_startWaiting 28 = .ok (.aload_n 0, 1) := by decide +kernel
theorem dX9_startWaiting_29 : decode cX9_startWaiting 29 = .ok (.getfield 15, 3) := by decide +kernel
theorem dX9_startWaiting_32 : decode cX9_startWaiting 32 = .ok (.iconst 3, 1) := by decide +kernel
theorem dX9_startWaiting_33 : decode cX9_startWaiting 33 = .ok (.iadd, 1) := by decide +kernel
theorem dX9_startWaiting_34 : decode cX9_startWaiting 34 = .ok (.iload_n 2, 1) := by decide +kernel
theorem dX9_startWaiting_35 : decode cX9_startWaiting 35 = .ok (.iastore, 1) := by decide +kernel
theorem dX9_startWaiting_36 : decode cX9_startWaiting 36 = .ok (.return_, 1) := by decide +kernel
theorem dX9_stopWaiting_0 : decode cX9_stopWaiting 0 = .ok (.aload_n 0, 1) := by decide +kernel
theorem dX9_stopWaiting_1 : decode cX9_stopWaiting 1 = .ok (.getfield 11, 3) := by decide +kernel
theorem dX9_stopWaiting_4 : decode cX9_stopWaiting 4 = .ok (.aload_n 0, 1) := by decide +kernel
theorem dX9_stopWaiting_5 : decode cX9_stopWaiting 5 = .ok (.getfield 15, 3) := by decide +kernel
theorem dX9_stopWaiting_8 : decode cX9_stopWaiting 8 = .ok (.iconst 1, 1) := by decide +kernel
theorem dX9_stopWaiting_9 : decode cX9_stopWaiting 9 = .ok (.iadd, 1) := by decide +kernel
theorem dX9_stopWaiting_10 : decode cX9_stopWaiting 10 = .ok (.iconst 0, 1) := by decide +kernel
theorem dX9_stopWaiting_11 : decode cX9_stopWaiting 11 = .ok (.iastore, 1) := by decide +kernel
theorem dX9_stopWaiting_12 : decode cX9_stopWaiting 12 = .ok (.aload_n 0, 1) := by decide +kernel
theorem dX9_stopWaiting_13 : decode cX9_stopWaiting 13 = .ok (.getfield 11, 3) := by decide +kernel
theorem dX9_stopWaiting_16 : decode cX9_stopWaiting 16 = .ok (.aload_n 0, 1) := by decide +kernel
theorem dX9_stopWaiting_17 : decode cX9_stopWaiting 17 = .ok (.getfield 15, 3) := by decide +kernel
theorem dX9_stopWaiting_20 : decode cX9_stopWaiting 20 = .ok (.iconst 4, 1) := by decide +kernel
theorem dX9_stopWaiting_21 : decode cX9_stopWaiting 21 = .ok (.iadd, 1) := by decide +kernel
theorem dX9_stopWaiting_22 : decode cX9_stopWaiting 22 = .ok (.iconst 0, 1) := by decide +kernel
theorem dX9_stopWaiting_23 : decode cX9_stopWaiting 23 = .ok (.iastore, 1) := by decide +kernel
theorem dX9_stopWaiting_24 : decode cX9_stopWaiting 24 = .ok (.return_, 1) := by decide +kernel
theorem dX9_promise_0 : decode cX9_promise 0 = .ok (.aload_n 0, 1) := by decide +kernel
theorem dX9_promise_1 : decode cX9_promise 1 = .ok (.getfield 11, 3) := by decide +kernel
theorem dX9_promise_4 : decode cX9_promise 4 = .ok (.aload_n 0, 1) := by decide +kernel
theorem dX9_promise_5 : decode cX9_promise 5 = .ok (.getfield 15, 3) := by decide +kernel
theorem dX9_promise_8 : decode cX9_promise 8 = .ok (.iconst 4, 1) := by decide +kernel
theorem dX9_promise_9 : decode cX9_promise 9 = .ok (.iadd, 1) := by decide +kernel
theorem dX9_promise_10 : decode cX9_promise 10 = .ok (.iaload, 1) := by decide +kernel
theorem dX9_promise_11 : decode cX9_promise 11 = .ok (.istore_n 2, 1) := by decide +kernel
theorem dX9_promise_12 : decode cX9_promise 12 = .ok (.iload_n 2, 1) := by decide +kernel
theorem dX9_promise_13 : decode cX9_promise 13 = .ok (.ifCond .lt 36, 3) := by decide +kernel
theorem dX9_promise_16 : decode cX9_promise 16 = .ok (.iload_n 2, 1) := by decide +kernel
theorem dX9_promise_17 : decode cX9_promise 17 = .ok (.iconst 4, 1) := by decide +kernel
theorem dX9_promise_18 : decode cX9_promise 18 = .ok (.if_icmp .ge 31, 3) := by decide +kernel
theorem dX9_promise_21 : decode cX9_promise 21 = .ok (.aload_n 0, 1) := by decide +kernel
theorem dX9_promise_22 : decode cX9_promise 22 = .ok (.getfield 11, 3) := by decide +kernel
theorem dX9_promise_25 : decode cX9_promise 25 = .ok (.aload_n 0, 1) := by decide +kernel
theorem dX9_promise_26 : decode cX9_promise 26 = .ok (.getfield 15, 3) := by decide +kernel
theorem dX9_promise_29 : decode cX9_promise 29 = .ok (.iconst 5, 1) := by decide +kernel
theorem dX9_promise_30 : decode cX9_promise 30 = .ok (.iadd, 1) := by decide +kernel
theorem dX9_promise_31 : decode cX9_promise 31 = .ok (.iload_n 2, 1) := by decide +kernel
theorem dX9_promise_32 : decode cX9_promise 32 = .ok (.iadd, 1) := by decide +kernel
theorem dX9_promise_33 : decode cX9_promise 33 = .ok (.iload_n 1, 1) := by decide +kernel
theorem dX9_promise_34 : decode cX9_promise 34 = .ok (.iastore, 1) := by decide +kernel
theorem dX9_promise_35 : decode cX9_promise 35 = .ok (.aload_n 0, 1) := by decide +kernel
theorem dX9_promise_36 : decode cX9_promise 36 = .ok (.getfield 11, 3) := by decide +kernel
theorem dX9_promise_39 : decode cX9_promise 39 = .ok (.aload_n 0, 1) := by decide +kernel
theorem dX9_promise_40 : decode cX9_promise 40 = .ok (.getfield 15, 3) := by decide +kernel
theorem dX9_promise_43 : decode cX9_promise 43 = .ok (.iconst 4, 1) := by decide +kernel
theorem dX9_promise_44 : decode cX9_promise 44 = .ok (.iadd, 1) := by decide +kernel
theorem dX9_promise_45 : decode cX9_promise 45 = .ok (.iload_n 2, 1) := by decide +kernel
theorem dX9_promise_46 : decode cX9_promise 46 = .ok (.iconst 1, 1) := by decide +kernel
theorem dX9_promise_47 : decode cX9_promise 47 = .ok (.iadd, 1) := by decide +kernel
theorem dX9_promise_48 : decode cX9_promise 48 = .ok (.iastore, 1) := by decide +kernel
theorem dX9_promise_49 : decode cX9_promise 49 = .ok (.return_, 1) := by decide +kernel
theorem dX9_size_0 : decode cX9_size 0 = .ok (.aload_n 0, 1) := by decide +kernel
theorem dX9_size_1 : decode cX9_size 1 = .ok (.getfield 11, 3) := by decide +kernel
theorem dX9_size_4 : decode cX9_size 4 = .ok (.aload_n 0, 1) := by decide +kernel
theorem dX9_size_5 : decode cX9_size 5 = .ok (.getfield 15, 3) := by decide +kernel
theorem dX9_size_8 : decode cX9_size 8 = .ok (.bipush 9, 2) := by decide +kernel
theorem dX9_size_10 : decode cX9_size 10 = .ok (.iadd, 1) := by decide +kernel
theorem dX9_size_11 : decode cX9_size 11 = .ok (.iaload, 1) := by decide +kernel
theorem dX9_size_12 : decode cX9_size 12 = .ok (.ireturn, 1) := by decide +kernel
theorem dX9_numberAt_0 : decode cX9_numberAt 0 = .ok (.iload_n 1, 1) := by decide +kernel
theorem dX9_numberAt_1 : decode cX9_numberAt 1 = .ok (.ifCond .lt 28, 3) := by decide +kernel
theorem dX9_numberAt_4 : decode cX9_numberAt 4 = .ok (.iload_n 1, 1) := by decide +kernel
theorem dX9_numberAt_5 : decode cX9_numberAt 5 = .ok (.aload_n 0, 1) := by decide +kernel
theorem dX9_numberAt_6 : decode cX9_numberAt 6 = .ok (.invokevirtual 23, 3) := by decide +kernel
theorem dX9_numberAt_9 : decode cX9_numberAt 9 = .ok (.if_icmp .ge 20, 3) := by decide +kernel
theorem dX9_numberAt_12 : decode cX9_numberAt 12 = .ok (.aload_n 0, 1) := by decide +kernel
theorem dX9_numberAt_13 : decode cX9_numberAt 13 = .ok (.getfield 11, 3) := by decide +kernel
theorem dX9_numberAt_16 : decode cX9_numberAt 16 = .ok (.aload_n 0, 1) := by decide +kernel
theorem dX9_numberAt_17 : decode cX9_numberAt 17 = .ok (.getfield 15, 3) := by decide +kernel
theorem dX9_numberAt_20 : decode cX9_numberAt 20 = .ok (.bipush 10, 2) := by decide +kernel
theorem dX9_numberAt_22 : decode cX9_numberAt 22 = .ok (.iadd, 1) := by decide +kernel
theorem dX9_numberAt_23 : decode cX9_numberAt 23 = .ok (.iload_n 1, 1) := by decide +kernel
theorem dX9_numberAt_24 : decode cX9_numberAt 24 = .ok (.iadd, 1) := by decide +kernel
theorem dX9_numberAt_25 : decode cX9_numberAt 25 = .ok (.iaload, 1) := by decide +kernel
theorem dX9_numberAt_26 : decode cX9_numberAt 26 = .ok (.goto 4, 3) := by decide +kernel
theorem dX9_numberAt_29 : decode cX9_numberAt 29 = .ok (.iconst (-1), 1) := by decide +kernel
theorem dX9_numberAt_30 : decode cX9_numberAt 30 = .ok (.ireturn, 1) := by decide +kernel
theorem dX9_tellCell_0 : decode cX9_tellCell 0 = .ok (.iload_n 1, 1) := by decide +kernel
theorem dX9_tellCell_1 : decode cX9_tellCell 1 = .ok (.ifCond .lt 20, 3) := by decide +kernel
theorem dX9_tellCell_4 : decode cX9_tellCell 4 = .ok (.iload_n 1, 1) := by decide +kernel
theorem dX9_tellCell_5 : decode cX9_tellCell 5 = .ok (.aload_n 0, 1) := by decide +kernel
theorem dX9_tellCell_6 : decode cX9_tellCell 6 = .ok (.invokevirtual 23, 3) := by decide +kernel
theorem dX9_tellCell_9 : decode cX9_tellCell 9 = .ok (.if_icmp .ge 12, 3) := by decide +kernel
theorem dX9_tellCell_12 : decode cX9_tellCell 12 = .ok (.iload_n 2, 1) := by decide +kernel
theorem dX9_tellCell_13 : decode cX9_tellCell 13 = .ok (.ifCond .lt 8, 3) := by decide +kernel
theorem dX9_tellCell_16 : decode cX9_tellCell 16 = .ok (.iload_n 2, 1) := by decide +kernel
theorem dX9_tellCell_17 : decode cX9_tellCell 17 = .ok (.iconst 2, 1) := by decide +kernel
theorem dX9_tellCell_18 : decode cX9_tellCell 18 = .ok (.if_icmp .le 5, 3) := by decide +kernel
theorem dX9_tellCell_21 : decode cX9_tellCell 21 = .ok (.iconst (-1), 1) := by decide +kernel
theorem dX9_tellCell_22 : decode cX9_tellCell 22 = .ok (.ireturn, 1) := by decide +kernel
theorem dX9_tellCell_23 : decode cX9_tellCell 23 = .ok (.aload_n 0, 1) := by decide +kernel
theorem dX9_tellCell_24 : decode cX9_tellCell 24 = .ok (.getfield 11, 3) := by decide +kernel
theorem dX9_tellCell_27 : decode cX9_tellCell 27 = .ok (.aload_n 0, 1) := by decide +kernel
theorem dX9_tellCell_28 : decode cX9_tellCell 28 = .ok (.getfield 15, 3) := by decide +kernel
theorem dX9_tellCell_31 : decode cX9_tellCell 31 = .ok (.bipush 10, 2) := by decide +kernel
theorem dX9_tellCell_33 : decode cX9_tellCell 33 = .ok (.iadd, 1) := by decide +kernel
theorem dX9_tellCell_34 : decode cX9_tellCell 34 = .ok (.iload_n 2, 1) := by decide +kernel
theorem dX9_tellCell_35 : decode cX9_tellCell 35 = .ok (.bipush 6, 2) := by decide +kernel
theorem dX9_tellCell_37 : decode cX9_tellCell 37 = .ok (.imul, 1) := by decide +kernel
theorem dX9_tellCell_38 : decode cX9_tellCell 38 = .ok (.iadd, 1) := by decide +kernel
theorem dX9_tellCell_39 : decode cX9_tellCell 39 = .ok (.iload_n 1, 1) := by decide +kernel
theorem dX9_tellCell_40 : decode cX9_tellCell 40 = .ok (.iadd, 1) := by decide +kernel
theorem dX9_tellCell_41 : decode cX9_tellCell 41 = .ok (.iaload, 1) := by decide +kernel
theorem dX9_tellCell_42 : decode cX9_tellCell 42 = .ok (.ireturn, 1) := by decide +kernel
theorem dX9_tellWait_0 : decode cX9_tellWait 0 = .ok (.iload_n 1, 1) := by decide +kernel
theorem dX9_tellWait_1 : decode cX9_tellWait 1 = .ok (.tableswitch 74 0 2 #[27, 39, 62], 27) := by decide +kernel
theorem dX9_tellWait_28 : decode cX9_tellWait 28 = .ok (.aload_n 0, 1) := by decide +kernel
theorem dX9_tellWait_29 : decode cX9_tellWait 29 = .ok (.getfield 11, 3) := by decide +kernel
theorem dX9_tellWait_32 : decode cX9_tellWait 32 = .ok (.aload_n 0, 1) := by decide +kernel
theorem dX9_tellWait_33 : decode cX9_tellWait 33 = .ok (.getfield 15, 3) := by decide +kernel
theorem dX9_tellWait_36 : decode cX9_tellWait 36 = .ok (.iconst 1, 1) := by decide +kernel
theorem dX9_tellWait_37 : decode cX9_tellWait 37 = .ok (.iadd, 1) := by decide +kernel
theorem dX9_tellWait_38 : decode cX9_tellWait 38 = .ok (.iaload, 1) := by decide +kernel
theorem dX9_tellWait_39 : decode cX9_tellWait 39 = .ok (.ireturn, 1) := by decide +kernel
theorem dX9_tellWait_40 : decode cX9_tellWait 40 = .ok (.aload_n 0, 1) := by decide +kernel
theorem dX9_tellWait_41 : decode cX9_tellWait 41 = .ok (.invokevirtual 19, 3) := by decide +kernel
theorem dX9_tellWait_44 : decode cX9_tellWait 44 = .ok (.ifCond .eq 17, 3) := by decide +kernel
theorem dX9_tellWait_47 : decode cX9_tellWait 47 = .ok (.aload_n 0, 1) := by decide +kernel
theorem dX9_tellWait_48 : decode cX9_tellWait 48 = .ok (.getfield 11, 3) := by decide +kernel
theorem dX9_tellWait_51 : decode cX9_tellWait 51 = .ok (.aload_n 0, 1) := by decide +kernel
theorem dX9_tellWait_52 : decode cX9_tellWait 52 = .ok (.getfield 15, 3) := by decide +kernel
theorem dX9_tellWait_55 : decode cX9_tellWait 55 = .ok (.iconst 2, 1) := by decide +kernel
theorem dX9_tellWait_56 : decode cX9_tellWait 56 = .ok (.iadd, 1) := by decide +kernel
theorem dX9_tellWait_57 : decode cX9_tellWait 57 = .ok (.iaload, 1) := by decide +kernel
theorem dX9_tellWait_58 : decode cX9_tellWait 58 = .ok (.goto 4, 3) := by decide +kernel
theorem dX9_tellWait_61 : decode cX9_tellWait 61 = .ok (.iconst (-1), 1) := by decide +kernel
theorem dX9_tellWait_62 : decode cX9_tellWait 62 = .ok (.ireturn, 1) := by decide +kernel
theorem dX9_tellWait_63 : decode cX9_tellWait 63 = .ok (.aload_n 0, 1) := by decide +kernel
theorem dX9_tellWait_64 : decode cX9_tellWait 64 = .ok (.getfield 11, 3) := by decide +kernel
theorem dX9_tellWait_67 : decode cX9_tellWait 67 = .ok (.aload_n 0, 1) := by decide +kernel
theorem dX9_tellWait_68 : decode cX9_tellWait 68 = .ok (.getfield 15, 3) := by decide +kernel
theorem dX9_tellWait_71 : decode cX9_tellWait 71 = .ok (.iconst 4, 1) := by decide +kernel
theorem dX9_tellWait_72 : decode cX9_tellWait 72 = .ok (.iadd, 1) := by decide +kernel
theorem dX9_tellWait_73 : decode cX9_tellWait 73 = .ok (.iaload, 1) := by decide +kernel
theorem dX9_tellWait_74 : decode cX9_tellWait 74 = .ok (.ireturn, 1) := by decide +kernel
theorem dX9_tellWait_75 : decode cX9_tellWait 75 = .ok (.iconst (-1), 1) := by decide +kernel
theorem dX9_tellWait_76 : decode cX9_tellWait 76 = .ok (.ireturn, 1) := by decide +kernel
theorem dX9_placeOf_0 : decode cX9_placeOf 0 = .ok (.aload_n 0, 1) := by decide +kernel
theorem dX9_placeOf_1 : decode cX9_placeOf 1 = .ok (.getfield 11, 3) := by decide +kernel
theorem dX9_placeOf_4 : decode cX9_placeOf 4 = .ok (.aload_n 0, 1) := by decide +kernel
theorem dX9_placeOf_5 : decode cX9_placeOf 5 = .ok (.getfield 15, 3) := by decide +kernel
theorem dX9_placeOf_8 : decode cX9_placeOf 8 = .ok (.bipush 9, 2) := by decide +kernel
theorem dX9_placeOf_10 : decode cX9_placeOf 10 = .ok (.iadd, 1) := by decide +kernel
theorem dX9_placeOf_11 : decode cX9_placeOf 11 = .ok (.iaload, 1) := by decide +kernel
theorem dX9_placeOf_12 : decode cX9_placeOf 12 = .ok (.istore_n 2, 1) := by decide +kernel
theorem dX9_placeOf_13 : decode cX9_placeOf 13 = .ok (.iconst 0, 1) := by decide +kernel
theorem dX9_placeOf_14 : decode cX9_placeOf 14 = .ok (.istore_n 3, 1) := by decide +kernel
theorem dX9_placeOf_15 : decode cX9_placeOf 15 = .ok (.iload_n 3, 1) := by decide +kernel
theorem dX9_placeOf_16 : decode cX9_placeOf 16 = .ok (.iload_n 2, 1) := by decide +kernel
theorem dX9_placeOf_17 : decode cX9_placeOf 17 = .ok (.if_icmp .ge 29, 3) := by decide +kernel
theorem dX9_placeOf_20 : decode cX9_placeOf 20 = .ok (.aload_n 0, 1) := by decide +kernel
theorem dX9_placeOf_21 : decode cX9_placeOf 21 = .ok (.getfield 11, 3) := by decide +kernel
theorem dX9_placeOf_24 : decode cX9_placeOf 24 = .ok (.aload_n 0, 1) := by decide +kernel
theorem dX9_placeOf_25 : decode cX9_placeOf 25 = .ok (.getfield 15, 3) := by decide +kernel
theorem dX9_placeOf_28 : decode cX9_placeOf 28 = .ok (.bipush 10, 2) := by decide +kernel
theorem dX9_placeOf_30 : decode cX9_placeOf 30 = .ok (.iadd, 1) := by decide +kernel
theorem dX9_placeOf_31 : decode cX9_placeOf 31 = .ok (.iload_n 3, 1) := by decide +kernel
theorem dX9_placeOf_32 : decode cX9_placeOf 32 = .ok (.iadd, 1) := by decide +kernel
theorem dX9_placeOf_33 : decode cX9_placeOf 33 = .ok (.iaload, 1) := by decide +kernel
theorem dX9_placeOf_34 : decode cX9_placeOf 34 = .ok (.iload_n 1, 1) := by decide +kernel
theorem dX9_placeOf_35 : decode cX9_placeOf 35 = .ok (.if_icmp .ne 5, 3) := by decide +kernel
theorem dX9_placeOf_38 : decode cX9_placeOf 38 = .ok (.iload_n 3, 1) := by decide +kernel
theorem dX9_placeOf_39 : decode cX9_placeOf 39 = .ok (.ireturn, 1) := by decide +kernel
theorem dX9_placeOf_40 : decode cX9_placeOf 40 = .ok (.iinc 3 1, 3) := by decide +kernel
theorem dX9_placeOf_43 : decode cX9_placeOf 43 = .ok (.goto (-28), 3) := by decide +kernel
theorem dX9_placeOf_46 : decode cX9_placeOf 46 = .ok (.iconst (-1), 1) := by decide +kernel
theorem dX9_placeOf_47 : decode cX9_placeOf 47 = .ok (.ireturn, 1) := by decide +kernel
theorem dX9_hasRoom_0 : decode cX9_hasRoom 0 = .ok (.aload_n 0, 1) := by decide +kernel
theorem dX9_hasRoom_1 : decode cX9_hasRoom 1 = .ok (.invokevirtual 23, 3) := by decide +kernel
theorem dX9_hasRoom_4 : decode cX9_hasRoom 4 = .ok (.bipush 6, 2) := by decide +kernel
theorem dX9_hasRoom_6 : decode cX9_hasRoom 6 = .ok (.if_icmp .ge 7, 3) := by decide +kernel
theorem dX9_hasRoom_9 : decode cX9_hasRoom 9 = .ok (.iconst 1, 1) := by decide +kernel
theorem dX9_hasRoom_10 : decode cX9_hasRoom 10 = .ok (.goto 4, 3) := by decide +kernel
theorem dX9_hasRoom_13 : decode cX9_hasRoom 13 = .ok (.iconst 0, 1) := by decide +kernel
theorem dX9_hasRoom_14 : decode cX9_hasRoom 14 = .ok (.ireturn, 1) := by decide +kernel
theorem dX9_cellsAlsoIn_0 : decode cX9_cellsAlsoIn 0 = .ok (.iconst 0, 1) := by decide +kernel
theorem dX9_cellsAlsoIn_1 : decode cX9_cellsAlsoIn 1 = .ok (.istore_n 2, 1) := by decide +kernel
theorem dX9_cellsAlsoIn_2 : decode cX9_cellsAlsoIn 2 = .ok (.aload_n 0, 1) := by decide +kernel
theorem dX9_cellsAlsoIn_3 : decode cX9_cellsAlsoIn 3 = .ok (.getfield 11, 3) := by decide +kernel
theorem dX9_cellsAlsoIn_6 : decode cX9_cellsAlsoIn 6 = .ok (.aload_n 0, 1) := by decide +kernel
theorem dX9_cellsAlsoIn_7 : decode cX9_cellsAlsoIn 7 = .ok (.getfield 15, 3) := by decide +kernel
theorem dX9_cellsAlsoIn_10 : decode cX9_cellsAlsoIn 10 = .ok (.bipush 9, 2) := by decide +kernel
theorem dX9_cellsAlsoIn_12 : decode cX9_cellsAlsoIn 12 = .ok (.iadd, 1) := by decide +kernel
theorem dX9_cellsAlsoIn_13 : decode cX9_cellsAlsoIn 13 = .ok (.iaload, 1) := by decide +kernel
theorem dX9_cellsAlsoIn_14 : decode cX9_cellsAlsoIn 14 = .ok (.istore_n 3, 1) := by decide +kernel
theorem dX9_cellsAlsoIn_15 : decode cX9_cellsAlsoIn 15 = .ok (.iconst 0, 1) := by decide +kernel
theorem dX9_cellsAlsoIn_16 : decode cX9_cellsAlsoIn 16 = .ok (.istore 4, 2) := by decide +kernel
theorem dX9_cellsAlsoIn_18 : decode cX9_cellsAlsoIn 18 = .ok (.iload 4, 2) := by decide +kernel
theorem dX9_cellsAlsoIn_20 : decode cX9_cellsAlsoIn 20 = .ok (.iload_n 3, 1) := by decide +kernel
theorem dX9_cellsAlsoIn_21 : decode cX9_cellsAlsoIn 21 = .ok (.if_icmp .ge 35, 3) := by decide +kernel
theorem dX9_cellsAlsoIn_24 : decode cX9_cellsAlsoIn 24 = .ok (.aload_n 1, 1) := by decide +kernel
theorem dX9_cellsAlsoIn_25 : decode cX9_cellsAlsoIn 25 = .ok (.aload_n 0, 1) := by decide +kernel
theorem dX9_cellsAlsoIn_26 : decode cX9_cellsAlsoIn 26 = .ok (.getfield 11, 3) := by decide +kernel
theorem dX9_cellsAlsoIn_29 : decode cX9_cellsAlsoIn 29 = .ok (.aload_n 0, 1) := by decide +kernel
theorem dX9_cellsAlsoIn_30 : decode cX9_cellsAlsoIn 30 = .ok (.getfield 15, 3) := by decide +kernel
theorem dX9_cellsAlsoIn_33 : decode cX9_cellsAlsoIn 33 = .ok (.bipush 10, 2) := by decide +kernel
theorem dX9_cellsAlsoIn_35 : decode cX9_cellsAlsoIn 35 = .ok (.iadd, 1) := by decide +kernel
theorem dX9_cellsAlsoIn_36 : decode cX9_cellsAlsoIn 36 = .ok (.iload 4, 2) := by decide +kernel
theorem dX9_cellsAlsoIn_38 : decode cX9_cellsAlsoIn 38 = .ok (.iadd, 1) := by decide +kernel
theorem dX9_cellsAlsoIn_39 : decode cX9_cellsAlsoIn 39 = .ok (.iaload, 1) := by decide +kernel
theorem dX9_cellsAlsoIn_40 : decode cX9_cellsAlsoIn 40 = .ok (.invokevirtual 27, 3) := by decide +kernel
theorem dX9_cellsAlsoIn_43 : decode cX9_cellsAlsoIn 43 = .ok (.iconst (-1), 1) := by decide +kernel
theorem dX9_cellsAlsoIn_44 : decode cX9_cellsAlsoIn 44 = .ok (.if_icmp .eq 6, 3) := by decide +kernel
theorem dX9_cellsAlsoIn_47 : decode cX9_cellsAlsoIn 47 = .ok (.iinc 2 1, 3) := by decide +kernel
theorem dX9_cellsAlsoIn_50 : decode cX9_cellsAlsoIn 50 = .ok (.iinc 4 1, 3) := by decide +kernel
theorem dX9_cellsAlsoIn_53 : decode cX9_cellsAlsoIn 53 = .ok (.goto (-35), 3) := by decide +kernel
theorem dX9_cellsAlsoIn_56 : decode cX9_cellsAlsoIn 56 = .ok (.iload_n 2, 1) := by decide +kernel
theorem dX9_cellsAlsoIn_57 : decode cX9_cellsAlsoIn 57 = .ok (.ireturn, 1) := by decide +kernel
theorem dX9_hasSameCells_0 : decode cX9_hasSameCells 0 = .ok (.aload_n 0, 1) := by decide +kernel
theorem dX9_hasSameCells_1 : decode cX9_hasSameCells 1 = .ok (.getfield 11, 3) := by decide +kernel
theorem dX9_hasSameCells_4 : decode cX9_hasSameCells 4 = .ok (.aload_n 0, 1) := by decide +kernel
theorem dX9_hasSameCells_5 : decode cX9_hasSameCells 5 = .ok (.getfield 15, 3) := by decide +kernel
theorem dX9_hasSameCells_8 : decode cX9_hasSameCells 8 = .ok (.bipush 9, 2) := by decide +kernel
theorem dX9_hasSameCells_10 : decode cX9_hasSameCells 10 = .ok (.iadd, 1) := by decide +kernel
theorem dX9_hasSameCells_11 : decode cX9_hasSameCells 11 = .ok (.iaload, 1) := by decide +kernel
theorem dX9_hasSameCells_12 : decode cX9_hasSameCells 12 = .ok (.istore_n 2, 1) := by decide +kernel
theorem dX9_hasSameCells_13 : decode cX9_hasSameCells 13 = .ok (.iload_n 2, 1) := by decide +kernel
theorem dX9_hasSameCells_14 : decode cX9_hasSameCells 14 = .ok (.aload_n 1, 1) := by decide +kernel
theorem dX9_hasSameCells_15 : decode cX9_hasSameCells 15 = .ok (.getfield 11, 3) := by decide +kernel
theorem dX9_hasSameCells_18 : decode cX9_hasSameCells 18 = .ok (.aload_n 1, 1) := by decide +kernel
theorem dX9_hasSameCells_19 : decode cX9_hasSameCells 19 = .ok (.getfield 15, 3) := by decide +kernel
theorem dX9_hasSameCells_22 : decode cX9_hasSameCells 22 = .ok (.bipush 9, 2) := by decide +kernel
theorem dX9_hasSameCells_24 : decode cX9_hasSameCells 24 = .ok (.iadd, 1) := by decide +kernel
theorem dX9_hasSameCells_25 : decode cX9_hasSameCells 25 = .ok (.iaload, 1) := by decide +kernel
theorem dX9_hasSameCells_26 : decode cX9_hasSameCells 26 = .ok (.if_icmp .eq 5, 3) := by decide +kernel
theorem dX9_hasSameCells_29 : decode cX9_hasSameCells 29 = .ok (.iconst 0, 1) := by decide +kernel
theorem dX9_hasSameCells_30 : decode cX9_hasSameCells 30 = .ok (.ireturn, 1) := by decide +kernel
theorem dX9_hasSameCells_31 : decode cX9_hasSameCells 31 = .ok (.iconst 0, 1) := by decide +kernel
theorem dX9_hasSameCells_32 : decode cX9_hasSameCells 32 = .ok (.istore_n 3, 1) := by decide +kernel
theorem dX9_hasSameCells_33 : decode cX9_hasSameCells 33 = .ok (.iload_n 3, 1) := by decide +kernel
theorem dX9_hasSameCells_34 : decode cX9_hasSameCells 34 = .ok (.iload_n 2, 1) := by decide +kernel
theorem dX9_hasSameCells_35 : decode cX9_hasSameCells 35 = .ok (.if_icmp .ge 42, 3) := by decide +kernel
theorem dX9_hasSameCells_38 : decode cX9_hasSameCells 38 = .ok (.aload_n 0, 1) := by decide +kernel
theorem dX9_hasSameCells_39 : decode cX9_hasSameCells 39 = .ok (.getfield 11, 3) := by decide +kernel
theorem dX9_hasSameCells_42 : decode cX9_hasSameCells 42 = .ok (.aload_n 0, 1) := by decide +kernel
theorem dX9_hasSameCells_43 : decode cX9_hasSameCells 43 = .ok (.getfield 15, 3) := by decide +kernel
theorem dX9_hasSameCells_46 : decode cX9_hasSameCells 46 = .ok (.bipush 10, 2) := by decide +kernel
theorem dX9_hasSameCells_48 : decode cX9_hasSameCells 48 = .ok (.iadd, 1) := by decide +kernel
theorem dX9_hasSameCells_49 : decode cX9_hasSameCells 49 = .ok (.iload_n 3, 1) := by decide +kernel
theorem dX9_hasSameCells_50 : decode cX9_hasSameCells 50 = .ok (.iadd, 1) := by decide +kernel
theorem dX9_hasSameCells_51 : decode cX9_hasSameCells 51 = .ok (.iaload, 1) := by decide +kernel
theorem dX9_hasSameCells_52 : decode cX9_hasSameCells 52 = .ok (.aload_n 1, 1) := by decide +kernel
theorem dX9_hasSameCells_53 : decode cX9_hasSameCells 53 = .ok (.getfield 11, 3) := by decide +kernel
theorem dX9_hasSameCells_56 : decode cX9_hasSameCells 56 = .ok (.aload_n 1, 1) := by decide +kernel
theorem dX9_hasSameCells_57 : decode cX9_hasSameCells 57 = .ok (.getfield 15, 3) := by decide +kernel
theorem dX9_hasSameCells_60 : decode cX9_hasSameCells 60 = .ok (.bipush 10, 2) := by decide +kernel
theorem dX9_hasSameCells_62 : decode cX9_hasSameCells 62 = .ok (.iadd, 1) := by decide +kernel
theorem dX9_hasSameCells_63 : decode cX9_hasSameCells 63 = .ok (.iload_n 3, 1) := by decide +kernel
theorem dX9_hasSameCells_64 : decode cX9_hasSameCells 64 = .ok (.iadd, 1) := by decide +kernel
theorem dX9_hasSameCells_65 : decode cX9_hasSameCells 65 = .ok (.iaload, 1) := by decide +kernel
theorem dX9_hasSameCells_66 : decode cX9_hasSameCells 66 = .ok (.if_icmp .eq 5, 3) := by decide +kernel
theorem dX9_hasSameCells_69 : decode cX9_hasSameCells 69 = .ok (.iconst 0, 1) := by decide +kernel
theorem dX9_hasSameCells_70 : decode cX9_hasSameCells 70 = .ok (.ireturn, 1) := by decide +kernel
theorem dX9_hasSameCells_71 : decode cX9_hasSameCells 71 = .ok (.iinc 3 1, 3) := by decide +kernel
theorem dX9_hasSameCells_74 : decode cX9_hasSameCells 74 = .ok (.goto (-41), 3) := by decide +kernel
theorem dX9_hasSameCells_77 : decode cX9_hasSameCells 77 = .ok (.iconst 1, 1) := by decide +kernel
theorem dX9_hasSameCells_78 : decode cX9_hasSameCells 78 = .ok (.ireturn, 1) := by decide +kernel
theorem dX9_put_0 : decode cX9_put 0 = .ok (.aload_n 0, 1) := by decide +kernel
theorem dX9_put_1 : decode cX9_put 1 = .ok (.invokevirtual 23, 3) := by decide +kernel
theorem dX9_put_4 : decode cX9_put 4 = .ok (.istore_n 2, 1) := by decide +kernel
theorem dX9_put_5 : decode cX9_put 5 = .ok (.iload_n 2, 1) := by decide +kernel
theorem dX9_put_6 : decode cX9_put 6 = .ok (.ifCond .lt 18, 3) := by decide +kernel
theorem dX9_put_9 : decode cX9_put 9 = .ok (.iload_n 2, 1) := by decide +kernel
theorem dX9_put_10 : decode cX9_put 10 = .ok (.bipush 6, 2) := by decide +kernel
theorem dX9_put_12 : decode cX9_put 12 = .ok (.if_icmp .ge 12, 3) := by decide +kernel
theorem dX9_put_15 : decode cX9_put 15 = .ok (.aload_n 0, 1) := by decide +kernel
theorem dX9_put_16 : decode cX9_put 16 = .ok (.iload_n 1, 1) := by decide +kernel
theorem dX9_put_17 : decode cX9_put 17 = .ok (.invokevirtual 27, 3) := by decide +kernel
theorem dX9_put_20 : decode cX9_put 20 = .ok (.iconst (-1), 1) := by decide +kernel
theorem dX9_put_21 : decode cX9_put 21 = .ok (.if_icmp .eq 4, 3) := by decide +kernel
theorem dX9_put_24 : decode cX9_put 24 = .ok (.return_, 1) := by decide +kernel
theorem dX9_put_25 : decode cX9_put 25 = .ok (.iload_n 2, 1) := by decide +kernel
theorem dX9_put_26 : decode cX9_put 26 = .ok (.istore_n 3, 1) := by decide +kernel
theorem dX9_put_27 : decode cX9_put 27 = .ok (.iload_n 3, 1) := by decide +kernel
theorem dX9_put_28 : decode cX9_put 28 = .ok (.ifCond .le 37, 3) := by decide +kernel
theorem dX9_put_31 : decode cX9_put 31 = .ok (.aload_n 0, 1) := by decide +kernel
theorem dX9_put_32 : decode cX9_put 32 = .ok (.getfield 11, 3) := by decide +kernel
theorem dX9_put_35 : decode cX9_put 35 = .ok (.aload_n 0, 1) := by decide +kernel
theorem dX9_put_36 : decode cX9_put 36 = .ok (.getfield 15, 3) := by decide +kernel
theorem dX9_put_39 : decode cX9_put 39 = .ok (.bipush 10, 2) := by decide +kernel
theorem dX9_put_41 : decode cX9_put 41 = .ok (.iadd, 1) := by decide +kernel
theorem dX9_put_42 : decode cX9_put 42 = .ok (.iload_n 3, 1) := by decide +kernel
theorem dX9_put_43 : decode cX9_put 43 = .ok (.iadd, 1) := by decide +kernel
theorem dX9_put_44 : decode cX9_put 44 = .ok (.iconst 1, 1) := by decide +kernel
theorem dX9_put_45 : decode cX9_put 45 = .ok (.isub, 1) := by decide +kernel
theorem dX9_put_46 : decode cX9_put 46 = .ok (.iaload, 1) := by decide +kernel
theorem dX9_put_47 : decode cX9_put 47 = .ok (.iload_n 1, 1) := by decide +kernel
theorem dX9_put_48 : decode cX9_put 48 = .ok (.if_icmp .le 17, 3) := by decide +kernel
theorem dX9_put_51 : decode cX9_put 51 = .ok (.aload_n 0, 1) := by decide +kernel
theorem dX9_put_52 : decode cX9_put 52 = .ok (.iload_n 3, 1) := by decide +kernel
theorem dX9_put_53 : decode cX9_put 53 = .ok (.iconst 1, 1) := by decide +kernel
theorem dX9_put_54 : decode cX9_put 54 = .ok (.isub, 1) := by decide +kernel
theorem dX9_put_55 : decode cX9_put 55 = .ok (.iload_n 3, 1) := by decide +kernel
theorem dX9_put_56 : decode cX9_put 56 = .ok (.invokevirtual 31, 3) := by decide +kernel
theorem dX9_put_59 : decode cX9_put 59 = .ok (.iinc 3 (-1), 3) := by decide +kernel
theorem dX9_put_62 : decode cX9_put 62 = .ok (.goto (-35), 3) := by decide +kernel
theorem dX9_put_65 : decode cX9_put 65 = .ok (.aload_n 0, 1) := by decide +kernel
theorem dX9_put_66 : decode cX9_put 66 = .ok (.getfield 11, 3) := by decide +kernel
theorem dX9_put_69 : decode cX9_put 69 = .ok (.aload_n 0, 1) := by decide +kernel
theorem dX9_put_70 : decode cX9_put 70 = .ok (.getfield 15, 3) := by decide +kernel
theorem dX9_put_73 : decode cX9_put 73 = .ok (.bipush 10, 2) := by decide +kernel
theorem dX9_put_75 : decode cX9_put 75 = .ok (.iadd, 1) := by decide +kernel
theorem dX9_put_76 : decode cX9_put 76 = .ok (.iload_n 3, 1) := by decide +kernel
theorem dX9_put_77 : decode cX9_put 77 = .ok (.iadd, 1) := by decide +kernel
theorem dX9_put_78 : decode cX9_put 78 = .ok (.iload_n 1, 1) := by decide +kernel
theorem dX9_put_79 : decode cX9_put 79 = .ok (.iastore, 1) := by decide +kernel
theorem dX9_put_80 : decode cX9_put 80 = .ok (.aload_n 0, 1) := by decide +kernel
theorem dX9_put_81 : decode cX9_put 81 = .ok (.getfield 11, 3) := by decide +kernel
theorem dX9_put_84 : decode cX9_put 84 = .ok (.aload_n 0, 1) := by decide +kernel
theorem dX9_put_85 : decode cX9_put 85 = .ok (.getfield 15, 3) := by decide +kernel
theorem dX9_put_88 : decode cX9_put 88 = .ok (.bipush 16, 2) := by decide +kernel
theorem dX9_put_90 : decode cX9_put 90 = .ok (.iadd, 1) := by decide +kernel
theorem dX9_put_91 : decode cX9_put 91 = .ok (.iload_n 3, 1) := by decide +kernel
theorem dX9_put_92 : decode cX9_put 92 = .ok (.iadd, 1) := by decide +kernel
theorem dX9_put_93 : decode cX9_put 93 = .ok (.iconst 0, 1) := by decide +kernel
theorem dX9_put_94 : decode cX9_put 94 = .ok (.iastore, 1) := by decide +kernel
theorem dX9_put_95 : decode cX9_put 95 = .ok (.aload_n 0, 1) := by decide +kernel
theorem dX9_put_96 : decode cX9_put 96 = .ok (.getfield 11, 3) := by decide +kernel
theorem dX9_put_99 : decode cX9_put 99 = .ok (.aload_n 0, 1) := by decide +kernel
theorem dX9_put_100 : decode cX9_put 100 = .ok (.getfield 15, 3) := by decide +kernel
theorem dX9_put_103 : decode cX9_put 103 = .ok (.bipush 22, 2) := by decide +kernel
theorem dX9_put_105 : decode cX9_put 105 = .ok (.iadd, 1) := by decide +kernel
theorem dX9_put_106 : decode cX9_put 106 = .ok (.iload_n 3, 1) := by decide +kernel
theorem dX9_put_107 : decode cX9_put 107 = .ok (.iadd, 1) := by decide +kernel
theorem dX9_put_108 : decode cX9_put 108 = .ok (.iconst 0, 1) := by decide +kernel
theorem dX9_put_109 : decode cX9_put 109 = .ok (.iastore, 1) := by decide +kernel
theorem dX9_put_110 : decode cX9_put 110 = .ok (.aload_n 0, 1) := by decide +kernel
theorem dX9_put_111 : decode cX9_put 111 = .ok (.getfield 11, 3) := by decide +kernel
theorem dX9_put_114 : decode cX9_put 114 = .ok (.aload_n 0, 1) := by decide +kernel
theorem dX9_put_115 : decode cX9_put 115 = .ok (.getfield 15, 3) := by decide +kernel
theorem dX9_put_118 : decode cX9_put 118 = .ok (.bipush 9, 2) := by decide +kernel
theorem dX9_put_120 : decode cX9_put 120 = .ok (.iadd, 1) := by decide +kernel
theorem dX9_put_121 : decode cX9_put 121 = .ok (.iload_n 2, 1) := by decide +kernel
theorem dX9_put_122 : decode cX9_put 122 = .ok (.iconst 1, 1) := by decide +kernel
theorem dX9_put_123 : decode cX9_put 123 = .ok (.iadd, 1) := by decide +kernel
theorem dX9_put_124 : decode cX9_put 124 = .ok (.iastore, 1) := by decide +kernel
theorem dX9_put_125 : decode cX9_put 125 = .ok (.return_, 1) := by decide +kernel
theorem dX9_takeOut_0 : decode cX9_takeOut 0 = .ok (.aload_n 0, 1) := by decide +kernel
theorem dX9_takeOut_1 : decode cX9_takeOut 1 = .ok (.iload_n 1, 1) := by decide +kernel
theorem dX9_takeOut_2 : decode cX9_takeOut 2 = .ok (.invokevirtual 27, 3) := by decide +kernel
theorem dX9_takeOut_5 : decode cX9_takeOut 5 = .ok (.istore_n 2, 1) := by decide +kernel
theorem dX9_takeOut_6 : decode cX9_takeOut 6 = .ok (.iload_n 2, 1) := by decide +kernel
theorem dX9_takeOut_7 : decode cX9_takeOut 7 = .ok (.iconst (-1), 1) := by decide +kernel
theorem dX9_takeOut_8 : decode cX9_takeOut 8 = .ok (.if_icmp .ne 5, 3) := by decide +kernel
theorem dX9_takeOut_11 : decode cX9_takeOut 11 = .ok (.iconst 0, 1) := by decide +kernel
theorem dX9_takeOut_12 : decode cX9_takeOut 12 = .ok (.ireturn, 1) := by decide +kernel
theorem dX9_takeOut_13 : decode cX9_takeOut 13 = .ok (.aload_n 0, 1) := by decide +kernel
theorem dX9_takeOut_14 : decode cX9_takeOut 14 = .ok (.invokevirtual 23, 3) := by decide +kernel
theorem dX9_takeOut_17 : decode cX9_takeOut 17 = .ok (.iconst 1, 1) := by decide +kernel
theorem dX9_takeOut_18 : decode cX9_takeOut 18 = .ok (.isub, 1) := by decide +kernel
theorem dX9_takeOut_19 : decode cX9_takeOut 19 = .ok (.istore_n 3, 1) := by decide +kernel
theorem dX9_takeOut_20 : decode cX9_takeOut 20 = .ok (.iload_n 2, 1) := by decide +kernel
theorem dX9_takeOut_21 : decode cX9_takeOut 21 = .ok (.istore 4, 2) := by decide +kernel
theorem dX9_takeOut_23 : decode cX9_takeOut 23 = .ok (.iload 4, 2) := by decide +kernel
theorem dX9_takeOut_25 : decode cX9_takeOut 25 = .ok (.iload_n 3, 1) := by decide +kernel
theorem dX9_takeOut_26 : decode cX9_takeOut 26 = .ok (.if_icmp .ge 19, 3) := by decide +kernel
theorem dX9_takeOut_29 : decode cX9_takeOut 29 = .ok (.aload_n 0, 1) := by decide +kernel
theorem dX9_takeOut_30 : decode cX9_takeOut 30 = .ok (.iload 4, 2) := by decide +kernel
theorem dX9_takeOut_32 : decode cX9_takeOut 32 = .ok (.iconst 1, 1) := by decide +kernel
theorem dX9_takeOut_33 : decode cX9_takeOut 33 = .ok (.iadd, 1) := by decide +kernel
theorem dX9_takeOut_34 : decode cX9_takeOut 34 = .ok (.iload 4, 2) := by decide +kernel
theorem dX9_takeOut_36 : decode cX9_takeOut 36 = .ok (.invokevirtual 31, 3) := by decide +kernel
theorem dX9_takeOut_39 : decode cX9_takeOut 39 = .ok (.iinc 4 1, 3) := by decide +kernel
theorem dX9_takeOut_42 : decode cX9_takeOut 42 = .ok (.goto (-19), 3) := by decide +kernel
theorem dX9_takeOut_45 : decode cX9_takeOut 45 = .ok (.aload_n 0, 1) := by decide +kernel
theorem dX9_takeOut_46 : decode cX9_takeOut 46 = .ok (.getfield 11, 3) := by decide +kernel
theorem dX9_takeOut_49 : decode cX9_takeOut 49 = .ok (.aload_n 0, 1) := by decide +kernel
theorem dX9_takeOut_50 : decode cX9_takeOut 50 = .ok (.getfield 15, 3) := by decide +kernel
theorem dX9_takeOut_53 : decode cX9_takeOut 53 = .ok (.bipush 9, 2) := by decide +kernel
theorem dX9_takeOut_55 : decode cX9_takeOut 55 = .ok (.iadd, 1) := by decide +kernel
theorem dX9_takeOut_56 : decode cX9_takeOut 56 = .ok (.iload_n 3, 1) := by decide +kernel
theorem dX9_takeOut_57 : decode cX9_takeOut 57 = .ok (.iastore, 1) := by decide +kernel
theorem dX9_takeOut_58 : decode cX9_takeOut 58 = .ok (.iconst 1, 1) := by decide +kernel
theorem dX9_takeOut_59 : decode cX9_takeOut 59 = .ok (.ireturn, 1) := by decide +kernel
theorem dX9_shift_0 : decode cX9_shift 0 = .ok (.aload_n 0, 1) := by decide +kernel
theorem dX9_shift_1 : decode cX9_shift 1 = .ok (.getfield 11, 3) := by decide +kernel
theorem dX9_shift_4 : decode cX9_shift 4 = .ok (.aload_n 0, 1) := by decide +kernel
theorem dX9_shift_5 : decode cX9_shift 5 = .ok (.getfield 15, 3) := by decide +kernel
theorem dX9_shift_8 : decode cX9_shift 8 = .ok (.bipush 10, 2) := by decide +kernel
theorem dX9_shift_10 : decode cX9_shift 10 = .ok (.iadd, 1) := by decide +kernel
theorem dX9_shift_11 : decode cX9_shift 11 = .ok (.iload_n 2, 1) := by decide +kernel
theorem dX9_shift_12 : decode cX9_shift 12 = .ok (.iadd, 1) := by decide +kernel
theorem dX9_shift_13 : decode cX9_shift 13 = .ok (.aload_n 0, 1) := by decide +kernel
theorem dX9_shift_14 : decode cX9_shift 14 = .ok (.getfield 11, 3) := by decide +kernel
theorem dX9_shift_17 : decode cX9_shift 17 = .ok (.aload_n 0, 1) := by decide +kernel
theorem dX9_shift_18 : decode cX9_shift 18 = .ok (.getfield 15, 3) := by decide +kernel
theorem dX9_shift_21 : decode cX9_shift 21 = .ok (.bipush 10, 2) := by decide +kernel
theorem dX9_shift_23 : decode cX9_shift 23 = .ok (.iadd, 1) := by decide +kernel
theorem dX9_shift_24 : decode cX9_shift 24 = .ok (.iload_n 1, 1) := by decide +kernel
theorem dX9_shift_25 : decode cX9_shift 25 = .ok (.iadd, 1) := by decide +kernel
theorem dX9_shift_26 : decode cX9_shift 26 = .ok (.iaload, 1) := by decide +kernel
theorem dX9_shift_27 : decode cX9_shift 27 = .ok (.iastore, 1) := by decide +kernel
theorem dX9_shift_28 : decode cX9_shift 28 = .ok (.aload_n 0, 1) := by decide +kernel
theorem dX9_shift_29 : decode cX9_shift 29 = .ok (.getfield 11, 3) := by decide +kernel
theorem dX9_shift_32 : decode cX9_shift 32 = .ok (.aload_n 0, 1) := by decide +kernel
theorem dX9_shift_33 : decode cX9_shift 33 = .ok (.getfield 15, 3) := by decide +kernel
theorem dX9_shift_36 : decode cX9_shift 36 = .ok (.bipush 16, 2) := by decide +kernel
theorem dX9_shift_38 : decode cX9_shift 38 = .ok (.iadd, 1) := by decide +kernel
theorem dX9_shift_39 : decode cX9_shift 39 = .ok (.iload_n 2, 1) := by decide +kernel
theorem dX9_shift_40 : decode cX9_shift 40 = .ok (.iadd, 1) := by decide +kernel
theorem dX9_shift_41 : decode cX9_shift 41 = .ok (.aload_n 0, 1) := by decide +kernel
theorem dX9_shift_42 : decode cX9_shift 42 = .ok (.getfield 11, 3) := by decide +kernel
theorem dX9_shift_45 : decode cX9_shift 45 = .ok (.aload_n 0, 1) := by decide +kernel
theorem dX9_shift_46 : decode cX9_shift 46 = .ok (.getfield 15, 3) := by decide +kernel
theorem dX9_shift_49 : decode cX9_shift 49 = .ok (.bipush 16, 2) := by decide +kernel
theorem dX9_shift_51 : decode cX9_shift 51 = .ok (.iadd, 1) := by decide +kernel
theorem dX9_shift_52 : decode cX9_shift 52 = .ok (.iload_n 1, 1) := by decide +kernel
theorem dX9_shift_53 : decode cX9_shift 53 = .ok (.iadd, 1) := by decide +kernel
theorem dX9_shift_54 : decode cX9_shift 54 = .ok (.iaload, 1) := by decide +kernel
theorem dX9_shift_55 : decode cX9_shift 55 = .ok (.iastore, 1) := by decide +kernel
theorem dX9_shift_56 : decode cX9_shift 56 = .ok (.aload_n 0, 1) := by decide +kernel
theorem dX9_shift_57 : decode cX9_shift 57 = .ok (.getfield 11, 3) := by decide +kernel
theorem dX9_shift_60 : decode cX9_shift 60 = .ok (.aload_n 0, 1) := by decide +kernel
theorem dX9_shift_61 : decode cX9_shift 61 = .ok (.getfield 15, 3) := by decide +kernel
theorem dX9_shift_64 : decode cX9_shift 64 = .ok (.bipush 22, 2) := by decide +kernel
theorem dX9_shift_66 : decode cX9_shift 66 = .ok (.iadd, 1) := by decide +kernel
theorem dX9_shift_67 : decode cX9_shift 67 = .ok (.iload_n 2, 1) := by decide +kernel
theorem dX9_shift_68 : decode cX9_shift 68 = .ok (.iadd, 1) := by decide +kernel
theorem dX9_shift_69 : decode cX9_shift 69 = .ok (.aload_n 0, 1) := by decide +kernel
theorem dX9_shift_70 : decode cX9_shift 70 = .ok (.getfield 11, 3) := by decide +kernel
theorem dX9_shift_73 : decode cX9_shift 73 = .ok (.aload_n 0, 1) := by decide +kernel
theorem dX9_shift_74 : decode cX9_shift 74 = .ok (.getfield 15, 3) := by decide +kernel
theorem dX9_shift_77 : decode cX9_shift 77 = .ok (.bipush 22, 2) := by decide +kernel
theorem dX9_shift_79 : decode cX9_shift 79 = .ok (.iadd, 1) := by decide +kernel
theorem dX9_shift_80 : decode cX9_shift 80 = .ok (.iload_n 1, 1) := by decide +kernel
theorem dX9_shift_81 : decode cX9_shift 81 = .ok (.iadd, 1) := by decide +kernel
theorem dX9_shift_82 : decode cX9_shift 82 = .ok (.iaload, 1) := by decide +kernel
theorem dX9_shift_83 : decode cX9_shift 83 = .ok (.iastore, 1) := by decide +kernel
theorem dX9_shift_84 : decode cX9_shift 84 = .ok (.return_, 1) := by decide +kernel
theorem dX9_clearTable_0 : decode cX9_clearTable 0 = .ok (.aload_n 0, 1) := by decide +kernel
theorem dX9_clearTable_1 : decode cX9_clearTable 1 = .ok (.getfield 11, 3) := by decide +kernel
theorem dX9_clearTable_4 : decode cX9_clearTable 4 = .ok (.aload_n 0, 1) := by decide +kernel
theorem dX9_clearTable_5 : decode cX9_clearTable 5 = .ok (.getfield 15, 3) := by decide +kernel
theorem dX9_clearTable_8 : decode cX9_clearTable 8 = .ok (.bipush 9, 2) := by decide +kernel
theorem dX9_clearTable_10 : decode cX9_clearTable 10 = .ok (.iadd, 1) := by decide +kernel
theorem dX9_clearTable_11 : decode cX9_clearTable 11 = .ok (.iconst 0, 1) := by decide +kernel
theorem dX9_clearTable_12 : decode cX9_clearTable 12 = .ok (.iastore, 1) := by decide +kernel
theorem dX9_clearTable_13 : decode cX9_clearTable 13 = .ok (.aload_n 0, 1) := by decide +kernel
theorem dX9_clearTable_14 : decode cX9_clearTable 14 = .ok (.getfield 11, 3) := by decide +kernel
theorem dX9_clearTable_17 : decode cX9_clearTable 17 = .ok (.aload_n 0, 1) := by decide +kernel
theorem dX9_clearTable_18 : decode cX9_clearTable 18 = .ok (.getfield 15, 3) := by decide +kernel
theorem dX9_clearTable_21 : decode cX9_clearTable 21 = .ok (.iconst 0, 1) := by decide +kernel
theorem dX9_clearTable_22 : decode cX9_clearTable 22 = .ok (.iadd, 1) := by decide +kernel
theorem dX9_clearTable_23 : decode cX9_clearTable 23 = .ok (.iconst 0, 1) := by decide +kernel
theorem dX9_clearTable_24 : decode cX9_clearTable 24 = .ok (.iastore, 1) := by decide +kernel
theorem dX9_clearTable_25 : decode cX9_clearTable 25 = .ok (.return_, 1) := by decide +kernel
theorem dX9_countSent_0 : decode cX9_countSent 0 = .ok (.iload_n 1, 1) := by decide +kernel
theorem dX9_countSent_1 : decode cX9_countSent 1 = .ok (.ifCond .lt 49, 3) := by decide +kernel
theorem dX9_countSent_4 : decode cX9_countSent 4 = .ok (.iload_n 1, 1) := by decide +kernel
theorem dX9_countSent_5 : decode cX9_countSent 5 = .ok (.aload_n 0, 1) := by decide +kernel
theorem dX9_countSent_6 : decode cX9_countSent 6 = .ok (.invokevirtual 23, 3) := by decide +kernel
theorem dX9_countSent_9 : decode cX9_countSent 9 = .ok (.if_icmp .ge 41, 3) := by decide +kernel
theorem dX9_countSent_12 : decode cX9_countSent 12 = .ok (.aload_n 0, 1) := by decide +kernel
theorem dX9_countSent_13 : decode cX9_countSent 13 = .ok (.getfield 11, 3) := by decide +kernel
theorem dX9_countSent_16 : decode cX9_countSent 16 = .ok (.aload_n 0, 1) := by decide +kernel
theorem dX9_countSent_17 : decode cX9_countSent 17 = .ok (.getfield 15, 3) := by decide +kernel
theorem dX9_countSent_20 : decode cX9_countSent 20 = .ok (.bipush 16, 2) := by decide +kernel
theorem dX9_countSent_22 : decode cX9_countSent 22 = .ok (.iadd, 1) := by decide +kernel
theorem dX9_countSent_23 : decode cX9_countSent 23 = .ok (.iload_n 1, 1) := by decide +kernel
theorem dX9_countSent_24 : decode cX9_countSent 24 = .ok (.iadd, 1) := by decide +kernel
theorem dX9_countSent_25 : decode cX9_countSent 25 = .ok (.iaload, 1) := by decide +kernel
theorem dX9_countSent_26 : decode cX9_countSent 26 = .ok (.sipush 999, 3) := by decide +kernel
theorem dX9_countSent_29 : decode cX9_countSent 29 = .ok (.if_icmp .ge 21, 3) := by decide +kernel
theorem dX9_countSent_32 : decode cX9_countSent 32 = .ok (.aload_n 0, 1) := by decide +kernel
theorem dX9_countSent_33 : decode cX9_countSent 33 = .ok (.getfield 11, 3) := by decide +kernel
theorem dX9_countSent_36 : decode cX9_countSent 36 = .ok (.aload_n 0, 1) := by decide +kernel
theorem dX9_countSent_37 : decode cX9_countSent 37 = .ok (.getfield 15, 3) := by decide +kernel
theorem dX9_countSent_40 : decode cX9_countSent 40 = .ok (.bipush 16, 2) := by decide +kernel
theorem dX9_countSent_42 : decode cX9_countSent 42 = .ok (.iadd, 1) := by decide +kernel
theorem dX9_countSent_43 : decode cX9_countSent 43 = .ok (.iload_n 1, 1) := by decide +kernel
theorem dX9_countSent_44 : decode cX9_countSent 44 = .ok (.iadd, 1) := by decide +kernel
theorem dX9_countSent_45 : decode cX9_countSent 45 = .ok (.dup2, 1) := by decide +kernel
theorem dX9_countSent_46 : decode cX9_countSent 46 = .ok (.iaload, 1) := by decide +kernel
theorem dX9_countSent_47 : decode cX9_countSent 47 = .ok (.iconst 1, 1) := by decide +kernel
theorem dX9_countSent_48 : decode cX9_countSent 48 = .ok (.iadd, 1) := by decide +kernel
theorem dX9_countSent_49 : decode cX9_countSent 49 = .ok (.iastore, 1) := by decide +kernel
theorem dX9_countSent_50 : decode cX9_countSent 50 = .ok (.return_, 1) := by decide +kernel
theorem dX9_countGot_0 : decode cX9_countGot 0 = .ok (.iload_n 1, 1) := by decide +kernel
theorem dX9_countGot_1 : decode cX9_countGot 1 = .ok (.ifCond .lt 49, 3) := by decide +kernel
theorem dX9_countGot_4 : decode cX9_countGot 4 = .ok (.iload_n 1, 1) := by decide +kernel
theorem dX9_countGot_5 : decode cX9_countGot 5 = .ok (.aload_n 0, 1) := by decide +kernel
theorem dX9_countGot_6 : decode cX9_countGot 6 = .ok (.invokevirtual 23, 3) := by decide +kernel
theorem dX9_countGot_9 : decode cX9_countGot 9 = .ok (.if_icmp .ge 41, 3) := by decide +kernel
theorem dX9_countGot_12 : decode cX9_countGot 12 = .ok (.aload_n 0, 1) := by decide +kernel
theorem dX9_countGot_13 : decode cX9_countGot 13 = .ok (.getfield 11, 3) := by decide +kernel
theorem dX9_countGot_16 : decode cX9_countGot 16 = .ok (.aload_n 0, 1) := by decide +kernel
theorem dX9_countGot_17 : decode cX9_countGot 17 = .ok (.getfield 15, 3) := by decide +kernel
theorem dX9_countGot_20 : decode cX9_countGot 20 = .ok (.bipush 22, 2) := by decide +kernel
theorem dX9_countGot_22 : decode cX9_countGot 22 = .ok (.iadd, 1) := by decide +kernel
theorem dX9_countGot_23 : decode cX9_countGot 23 = .ok (.iload_n 1, 1) := by decide +kernel
theorem dX9_countGot_24 : decode cX9_countGot 24 = .ok (.iadd, 1) := by decide +kernel
theorem dX9_countGot_25 : decode cX9_countGot 25 = .ok (.iaload, 1) := by decide +kernel
theorem dX9_countGot_26 : decode cX9_countGot 26 = .ok (.sipush 999, 3) := by decide +kernel
theorem dX9_countGot_29 : decode cX9_countGot 29 = .ok (.if_icmp .ge 21, 3) := by decide +kernel
theorem dX9_countGot_32 : decode cX9_countGot 32 = .ok (.aload_n 0, 1) := by decide +kernel
theorem dX9_countGot_33 : decode cX9_countGot 33 = .ok (.getfield 11, 3) := by decide +kernel
theorem dX9_countGot_36 : decode cX9_countGot 36 = .ok (.aload_n 0, 1) := by decide +kernel
theorem dX9_countGot_37 : decode cX9_countGot 37 = .ok (.getfield 15, 3) := by decide +kernel
theorem dX9_countGot_40 : decode cX9_countGot 40 = .ok (.bipush 22, 2) := by decide +kernel
theorem dX9_countGot_42 : decode cX9_countGot 42 = .ok (.iadd, 1) := by decide +kernel
theorem dX9_countGot_43 : decode cX9_countGot 43 = .ok (.iload_n 1, 1) := by decide +kernel
theorem dX9_countGot_44 : decode cX9_countGot 44 = .ok (.iadd, 1) := by decide +kernel
theorem dX9_countGot_45 : decode cX9_countGot 45 = .ok (.dup2, 1) := by decide +kernel
theorem dX9_countGot_46 : decode cX9_countGot 46 = .ok (.iaload, 1) := by decide +kernel
theorem dX9_countGot_47 : decode cX9_countGot 47 = .ok (.iconst 1, 1) := by decide +kernel
theorem dX9_countGot_48 : decode cX9_countGot 48 = .ok (.iadd, 1) := by decide +kernel
theorem dX9_countGot_49 : decode cX9_countGot 49 = .ok (.iastore, 1) := by decide +kernel
theorem dX9_countGot_50 : decode cX9_countGot 50 = .ok (.return_, 1) := by decide +kernel
theorem dX9_gotInAll_0 : decode cX9_gotInAll 0 = .ok (.aload_n 0, 1) := by decide +kernel
theorem dX9_gotInAll_1 : decode cX9_gotInAll 1 = .ok (.invokevirtual 23, 3) := by decide +kernel
theorem dX9_gotInAll_4 : decode cX9_gotInAll 4 = .ok (.istore_n 1, 1) := by decide +kernel
theorem dX9_gotInAll_5 : decode cX9_gotInAll 5 = .ok (.iconst 0, 1) := by decide +kernel
theorem dX9_gotInAll_6 : decode cX9_gotInAll 6 = .ok (.istore_n 2, 1) := by decide +kernel
theorem dX9_gotInAll_7 : decode cX9_gotInAll 7 = .ok (.iconst 0, 1) := by decide +kernel
theorem dX9_gotInAll_8 : decode cX9_gotInAll 8 = .ok (.istore_n 3, 1) := by decide +kernel
theorem dX9_gotInAll_9 : decode cX9_gotInAll 9 = .ok (.iload_n 3, 1) := by decide +kernel
theorem dX9_gotInAll_10 : decode cX9_gotInAll 10 = .ok (.iload_n 1, 1) := by decide +kernel
theorem dX9_gotInAll_11 : decode cX9_gotInAll 11 = .ok (.if_icmp .ge 26, 3) := by decide +kernel
theorem dX9_gotInAll_14 : decode cX9_gotInAll 14 = .ok (.iload_n 2, 1) := by decide +kernel
theorem dX9_gotInAll_15 : decode cX9_gotInAll 15 = .ok (.aload_n 0, 1) := by decide +kernel
theorem dX9_gotInAll_16 : decode cX9_gotInAll 16 = .ok (.getfield 11, 3) := by decide +kernel
theorem dX9_gotInAll_19 : decode cX9_gotInAll 19 = .ok (.aload_n 0, 1) := by decide +kernel
theorem dX9_gotInAll_20 : decode cX9_gotInAll 20 = .ok (.getfield 15, 3) := by decide +kernel
theorem dX9_gotInAll_23 : decode cX9_gotInAll 23 = .ok (.bipush 22, 2) := by decide +kernel
theorem dX9_gotInAll_25 : decode cX9_gotInAll 25 = .ok (.iadd, 1) := by decide +kernel
theorem dX9_gotInAll_26 : decode cX9_gotInAll 26 = .ok (.iload_n 3, 1) := by decide +kernel
theorem dX9_gotInAll_27 : decode cX9_gotInAll 27 = .ok (.iadd, 1) := by decide +kernel
theorem dX9_gotInAll_28 : decode cX9_gotInAll 28 = .ok (.iaload, 1) := by decide +kernel
theorem dX9_gotInAll_29 : decode cX9_gotInAll 29 = .ok (.iadd, 1) := by decide +kernel
theorem dX9_gotInAll_30 : decode cX9_gotInAll 30 = .ok (.istore_n 2, 1) := by decide +kernel
theorem dX9_gotInAll_31 : decode cX9_gotInAll 31 = .ok (.iinc 3 1, 3) := by decide +kernel
theorem dX9_gotInAll_34 : decode cX9_gotInAll 34 = .ok (.goto (-25), 3) := by decide +kernel
theorem dX9_gotInAll_37 : decode cX9_gotInAll 37 = .ok (.iload_n 2, 1) := by decide +kernel
theorem dX9_gotInAll_38 : decode cX9_gotInAll 38 = .ok (.ireturn, 1) := by decide +kernel
theorem dX9_takenSlots_0 : decode cX9_takenSlots 0 = .ok (.iconst 0, 1) := by decide +kernel
theorem dX9_takenSlots_1 : decode cX9_takenSlots 1 = .ok (.istore_n 1, 1) := by decide +kernel
theorem dX9_takenSlots_2 : decode cX9_takenSlots 2 = .ok (.aload_n 0, 1) := by decide +kernel
theorem dX9_takenSlots_3 : decode cX9_takenSlots 3 = .ok (.getfield 11, 3) := by decide +kernel
theorem dX9_takenSlots_6 : decode cX9_takenSlots 6 = .ok (.aload_n 0, 1) := by decide +kernel
theorem dX9_takenSlots_7 : decode cX9_takenSlots 7 = .ok (.getfield 15, 3) := by decide +kernel
theorem dX9_takenSlots_10 : decode cX9_takenSlots 10 = .ok (.bipush 9, 2) := by decide +kernel
theorem dX9_takenSlots_12 : decode cX9_takenSlots 12 = .ok (.iadd, 1) := by decide +kernel
theorem dX9_takenSlots_13 : decode cX9_takenSlots 13 = .ok (.iaload, 1) := by decide +kernel
theorem dX9_takenSlots_14 : decode cX9_takenSlots 14 = .ok (.istore_n 2, 1) := by decide +kernel
theorem dX9_takenSlots_15 : decode cX9_takenSlots 15 = .ok (.iconst 0, 1) := by decide +kernel
theorem dX9_takenSlots_16 : decode cX9_takenSlots 16 = .ok (.istore_n 3, 1) := by decide +kernel
theorem dX9_takenSlots_17 : decode cX9_takenSlots 17 = .ok (.iload_n 3, 1) := by decide +kernel
theorem dX9_takenSlots_18 : decode cX9_takenSlots 18 = .ok (.iload_n 2, 1) := by decide +kernel
theorem dX9_takenSlots_19 : decode cX9_takenSlots 19 = .ok (.if_icmp .ge 31, 3) := by decide +kernel
theorem dX9_takenSlots_22 : decode cX9_takenSlots 22 = .ok (.iload_n 1, 1) := by decide +kernel
theorem dX9_takenSlots_23 : decode cX9_takenSlots 23 = .ok (.iconst 1, 1) := by decide +kernel
theorem dX9_takenSlots_24 : decode cX9_takenSlots 24 = .ok (.aload_n 0, 1) := by decide +kernel
theorem dX9_takenSlots_25 : decode cX9_takenSlots 25 = .ok (.getfield 11, 3) := by decide +kernel
theorem dX9_takenSlots_28 : decode cX9_takenSlots 28 = .ok (.aload_n 0, 1) := by decide +kernel
theorem dX9_takenSlots_29 : decode cX9_takenSlots 29 = .ok (.getfield 15, 3) := by decide +kernel
theorem dX9_takenSlots_32 : decode cX9_takenSlots 32 = .ok (.bipush 10, 2) := by decide +kernel
theorem dX9_takenSlots_34 : decode cX9_takenSlots 34 = .ok (.iadd, 1) := by decide +kernel
theorem dX9_takenSlots_35 : decode cX9_takenSlots 35 = .ok (.iload_n 3, 1) := by decide +kernel
theorem dX9_takenSlots_36 : decode cX9_takenSlots 36 = .ok (.iadd, 1) := by decide +kernel
theorem dX9_takenSlots_37 : decode cX9_takenSlots 37 = .ok (.iaload, 1) := by decide +kernel
theorem dX9_takenSlots_38 : decode cX9_takenSlots 38 = .ok (.bipush 10, 2) := by decide +kernel
theorem dX9_takenSlots_40 : decode cX9_takenSlots 40 = .ok (.idiv, 1) := by decide +kernel
theorem dX9_takenSlots_41 : decode cX9_takenSlots 41 = .ok (.ishl, 1) := by decide +kernel
theorem dX9_takenSlots_42 : decode cX9_takenSlots 42 = .ok (.ior, 1) := by decide +kernel
theorem dX9_takenSlots_43 : decode cX9_takenSlots 43 = .ok (.istore_n 1, 1) := by decide +kernel
theorem dX9_takenSlots_44 : decode cX9_takenSlots 44 = .ok (.iinc 3 1, 3) := by decide +kernel
theorem dX9_takenSlots_47 : decode cX9_takenSlots 47 = .ok (.goto (-30), 3) := by decide +kernel
theorem dX9_takenSlots_50 : decode cX9_takenSlots 50 = .ok (.aload_n 0, 1) := by decide +kernel
theorem dX9_takenSlots_51 : decode cX9_takenSlots 51 = .ok (.getfield 11, 3) := by decide +kernel
theorem dX9_takenSlots_54 : decode cX9_takenSlots 54 = .ok (.aload_n 0, 1) := by decide +kernel
theorem dX9_takenSlots_55 : decode cX9_takenSlots 55 = .ok (.getfield 15, 3) := by decide +kernel
theorem dX9_takenSlots_58 : decode cX9_takenSlots 58 = .ok (.iconst 4, 1) := by decide +kernel
theorem dX9_takenSlots_59 : decode cX9_takenSlots 59 = .ok (.iadd, 1) := by decide +kernel
theorem dX9_takenSlots_60 : decode cX9_takenSlots 60 = .ok (.iaload, 1) := by decide +kernel
theorem dX9_takenSlots_61 : decode cX9_takenSlots 61 = .ok (.istore_n 3, 1) := by decide +kernel
theorem dX9_takenSlots_62 : decode cX9_takenSlots 62 = .ok (.iconst 0, 1) := by decide +kernel
theorem dX9_takenSlots_63 : decode cX9_takenSlots 63 = .ok (.istore 4, 2) := by decide +kernel
theorem dX9_takenSlots_65 : decode cX9_takenSlots 65 = .ok (.iload 4, 2) := by decide +kernel
theorem dX9_takenSlots_67 : decode cX9_takenSlots 67 = .ok (.iload_n 3, 1) := by decide +kernel
theorem dX9_takenSlots_68 : decode cX9_takenSlots 68 = .ok (.if_icmp .ge 31, 3) := by decide +kernel
theorem dX9_takenSlots_71 : decode cX9_takenSlots 71 = .ok (.iload_n 1, 1) := by decide +kernel
theorem dX9_takenSlots_72 : decode cX9_takenSlots 72 = .ok (.iconst 1, 1) := by decide +kernel
theorem dX9_takenSlots_73 : decode cX9_takenSlots 73 = .ok (.aload_n 0, 1) := by decide +kernel
theorem dX9_takenSlots_74 : decode cX9_takenSlots 74 = .ok (.getfield 11, 3) := by decide +kernel
theorem dX9_takenSlots_77 : decode cX9_takenSlots 77 = .ok (.aload_n 0, 1) := by decide +kernel
theorem dX9_takenSlots_78 : decode cX9_takenSlots 78 = .ok (.getfield 15, 3) := by decide +kernel
theorem dX9_takenSlots_81 : decode cX9_takenSlots 81 = .ok (.iconst 5, 1) := by decide +kernel
theorem dX9_takenSlots_82 : decode cX9_takenSlots 82 = .ok (.iadd, 1) := by decide +kernel
theorem dX9_takenSlots_83 : decode cX9_takenSlots 83 = .ok (.iload 4, 2) := by decide +kernel
theorem dX9_takenSlots_85 : decode cX9_takenSlots 85 = .ok (.iadd, 1) := by decide +kernel
theorem dX9_takenSlots_86 : decode cX9_takenSlots 86 = .ok (.iaload, 1) := by decide +kernel
theorem dX9_takenSlots_87 : decode cX9_takenSlots 87 = .ok (.bipush 10, 2) := by decide +kernel
theorem dX9_takenSlots_89 : decode cX9_takenSlots 89 = .ok (.idiv, 1) := by decide +kernel
theorem dX9_takenSlots_90 : decode cX9_takenSlots 90 = .ok (.ishl, 1) := by decide +kernel
theorem dX9_takenSlots_91 : decode cX9_takenSlots 91 = .ok (.ior, 1) := by decide +kernel
theorem dX9_takenSlots_92 : decode cX9_takenSlots 92 = .ok (.istore_n 1, 1) := by decide +kernel
theorem dX9_takenSlots_93 : decode cX9_takenSlots 93 = .ok (.iinc 4 1, 3) := by decide +kernel
theorem dX9_takenSlots_96 : decode cX9_takenSlots 96 = .ok (.goto (-31), 3) := by decide +kernel
theorem dX9_takenSlots_99 : decode cX9_takenSlots 99 = .ok (.iload_n 1, 1) := by decide +kernel
theorem dX9_takenSlots_100 : decode cX9_takenSlots 100 = .ok (.ireturn, 1) := by decide +kernel
theorem dX9_badPlace_0 : decode cX9_badPlace 0 = .ok (.iconst (-1), 1) := by decide +kernel
theorem dX9_badPlace_1 : decode cX9_badPlace 1 = .ok (.istore_n 1, 1) := by decide +kernel
theorem dX9_badPlace_2 : decode cX9_badPlace 2 = .ok (.iconst (-1), 1) := by decide +kernel
theorem dX9_badPlace_3 : decode cX9_badPlace 3 = .ok (.istore_n 2, 1) := by decide +kernel
theorem dX9_badPlace_4 : decode cX9_badPlace 4 = .ok (.aload_n 0, 1) := by decide +kernel
theorem dX9_badPlace_5 : decode cX9_badPlace 5 = .ok (.invokevirtual 23, 3) := by decide +kernel
theorem dX9_badPlace_8 : decode cX9_badPlace 8 = .ok (.istore_n 3, 1) := by decide +kernel
theorem dX9_badPlace_9 : decode cX9_badPlace 9 = .ok (.iconst 0, 1) := by decide +kernel
theorem dX9_badPlace_10 : decode cX9_badPlace 10 = .ok (.istore 4, 2) := by decide +kernel
theorem dX9_badPlace_12 : decode cX9_badPlace 12 = .ok (.iload 4, 2) := by decide +kernel
theorem dX9_badPlace_14 : decode cX9_badPlace 14 = .ok (.iload_n 3, 1) := by decide +kernel
theorem dX9_badPlace_15 : decode cX9_badPlace 15 = .ok (.if_icmp .ge 72, 3) := by decide +kernel
theorem dX9_badPlace_18 : decode cX9_badPlace 18 = .ok (.aload_n 0, 1) := by decide +kernel
theorem dX9_badPlace_19 : decode cX9_badPlace 19 = .ok (.getfield 11, 3) := by decide +kernel
theorem dX9_badPlace_22 : decode cX9_badPlace 22 = .ok (.aload_n 0, 1) := by decide +kernel
theorem dX9_badPlace_23 : decode cX9_badPlace 23 = .ok (.getfield 15, 3) := by decide +kernel
theorem dX9_badPlace_26 : decode cX9_badPlace 26 = .ok (.bipush 16, 2) := by decide +kernel
theorem dX9_badPlace_28 : decode cX9_badPlace 28 = .ok (.iadd, 1) := by decide +kernel
theorem dX9_badPlace_29 : decode cX9_badPlace 29 = .ok (.iload 4, 2) := by decide +kernel
theorem dX9_badPlace_31 : decode cX9_badPlace 31 = .ok (.iadd, 1) := by decide +kernel
theorem dX9_badPlace_32 : decode cX9_badPlace 32 = .ok (.iaload, 1) := by decide +kernel
theorem dX9_badPlace_33 : decode cX9_badPlace 33 = .ok (.iconst 4, 1) := by decide +kernel
theorem dX9_badPlace_34 : decode cX9_badPlace 34 = .ok (.if_icmp .lt 47, 3) := by decide +kernel
theorem dX9_badPlace_37 : decode cX9_badPlace 37 = .ok (.iload_n 1, 1) := by decide +kernel
theorem dX9_badPlace_38 : decode cX9_badPlace 38 = .ok (.iconst (-1), 1) := by decide +kernel
theorem dX9_badPlace_39 : decode cX9_badPlace 39 = .ok (.if_icmp .eq 13, 3) := by decide +kernel
theorem dX9_badPlace_42 : decode cX9_badPlace 42 = .ok (.aload_n 0, 1) := by decide +kernel
theorem dX9_badPlace_43 : decode cX9_badPlace 43 = .ok (.iload_n 1, 1) := by decide +kernel
theorem dX9_badPlace_44 : decode cX9_badPlace 44 = .ok (.iload 4, 2) := by decide +kernel
theorem dX9_badPlace_46 : decode cX9_badPlace 46 = .ok (.invokevirtual 35, 3) := by decide +kernel
theorem dX9_badPlace_49 : decode cX9_badPlace 49 = .ok (.ifCond .eq 8, 3) := by decide +kernel
theorem dX9_badPlace_52 : decode cX9_badPlace 52 = .ok (.iload 4, 2) := by decide +kernel
theorem dX9_badPlace_54 : decode cX9_badPlace 54 = .ok (.goto 4, 3) := by decide +kernel
theorem dX9_badPlace_57 : decode cX9_badPlace 57 = .ok (.iload_n 1, 1) := by decide +kernel
theorem dX9_badPlace_58 : decode cX9_badPlace 58 = .ok (.istore_n 1, 1) := by decide +kernel
theorem dX9_badPlace_59 : decode cX9_badPlace 59 = .ok (.iload_n 2, 1) := by decide +kernel
theorem dX9_badPlace_60 : decode cX9_badPlace 60 = .ok (.iconst (-1), 1) := by decide +kernel
theorem dX9_badPlace_61 : decode cX9_badPlace 61 = .ok (.if_icmp .eq 13, 3) := by decide +kernel
theorem dX9_badPlace_64 : decode cX9_badPlace 64 = .ok (.aload_n 0, 1) := by decide +kernel
theorem dX9_badPlace_65 : decode cX9_badPlace 65 = .ok (.iload 4, 2) := by decide +kernel
theorem dX9_badPlace_67 : decode cX9_badPlace 67 = .ok (.iload_n 2, 1) := by decide +kernel
theorem dX9_badPlace_68 : decode cX9_badPlace 68 = .ok (.invokevirtual 35, 3) := by decide +kernel
theorem dX9_badPlace_71 : decode cX9_badPlace 71 = .ok (.ifCond .eq 8, 3) := by decide +kernel
theorem dX9_badPlace_74 : decode cX9_badPlace 74 = .ok (.iload 4, 2) := by decide +kernel
theorem dX9_badPlace_76 : decode cX9_badPlace 76 = .ok (.goto 4, 3) := by decide +kernel
theorem dX9_badPlace_79 : decode cX9_badPlace 79 = .ok (.iload_n 2, 1) := by decide +kernel
theorem dX9_badPlace_80 : decode cX9_badPlace 80 = .ok (.istore_n 2, 1) := by decide +kernel
theorem dX9_badPlace_81 : decode cX9_badPlace 81 = .ok (.iinc 4 1, 3) := by decide +kernel
theorem dX9_badPlace_84 : decode cX9_badPlace 84 = .ok (.goto (-72), 3) := by decide +kernel
theorem dX9_badPlace_87 : decode cX9_badPlace 87 = .ok (.iload_n 2, 1) := by decide +kernel
theorem dX9_badPlace_88 : decode cX9_badPlace 88 = .ok (.iconst (-1), 1) := by decide +kernel
theorem dX9_badPlace_89 : decode cX9_badPlace 89 = .ok (.if_icmp .ne 5, 3) := by decide +kernel
theorem dX9_badPlace_92 : decode cX9_badPlace 92 = .ok (.iconst (-1), 1) := by decide +kernel
theorem dX9_badPlace_93 : decode cX9_badPlace 93 = .ok (.ireturn, 1) := by decide +kernel
theorem dX9_badPlace_94 : decode cX9_badPlace 94 = .ok (.iconst 2, 1) := by decide +kernel
theorem dX9_badPlace_95 : decode cX9_badPlace 95 = .ok (.aload_n 0, 1) := by decide +kernel
theorem dX9_badPlace_96 : decode cX9_badPlace 96 = .ok (.getfield 11, 3) := by decide +kernel
theorem dX9_badPlace_99 : decode cX9_badPlace 99 = .ok (.aload_n 0, 1) := by decide +kernel
theorem dX9_badPlace_100 : decode cX9_badPlace 100 = .ok (.getfield 15, 3) := by decide +kernel
theorem dX9_badPlace_103 : decode cX9_badPlace 103 = .ok (.bipush 22, 2) := by decide +kernel
theorem dX9_badPlace_105 : decode cX9_badPlace 105 = .ok (.iadd, 1) := by decide +kernel
theorem dX9_badPlace_106 : decode cX9_badPlace 106 = .ok (.iload_n 2, 1) := by decide +kernel
theorem dX9_badPlace_107 : decode cX9_badPlace 107 = .ok (.iadd, 1) := by decide +kernel
theorem dX9_badPlace_108 : decode cX9_badPlace 108 = .ok (.iaload, 1) := by decide +kernel
theorem dX9_badPlace_109 : decode cX9_badPlace 109 = .ok (.imul, 1) := by decide +kernel
theorem dX9_badPlace_110 : decode cX9_badPlace 110 = .ok (.aload_n 0, 1) := by decide +kernel
theorem dX9_badPlace_111 : decode cX9_badPlace 111 = .ok (.getfield 11, 3) := by decide +kernel
theorem dX9_badPlace_114 : decode cX9_badPlace 114 = .ok (.aload_n 0, 1) := by decide +kernel
theorem dX9_badPlace_115 : decode cX9_badPlace 115 = .ok (.getfield 15, 3) := by decide +kernel
theorem dX9_badPlace_118 : decode cX9_badPlace 118 = .ok (.bipush 16, 2) := by decide +kernel
theorem dX9_badPlace_120 : decode cX9_badPlace 120 = .ok (.iadd, 1) := by decide +kernel
theorem dX9_badPlace_121 : decode cX9_badPlace 121 = .ok (.iload_n 1, 1) := by decide +kernel
theorem dX9_badPlace_122 : decode cX9_badPlace 122 = .ok (.iadd, 1) := by decide +kernel
theorem dX9_badPlace_123 : decode cX9_badPlace 123 = .ok (.iaload, 1) := by decide +kernel
theorem dX9_badPlace_124 : decode cX9_badPlace 124 = .ok (.imul, 1) := by decide +kernel
theorem dX9_badPlace_125 : decode cX9_badPlace 125 = .ok (.istore 4, 2) := by decide +kernel
theorem dX9_badPlace_127 : decode cX9_badPlace 127 = .ok (.iload 4, 2) := by decide +kernel
theorem dX9_badPlace_129 : decode cX9_badPlace 129 = .ok (.aload_n 0, 1) := by decide +kernel
theorem dX9_badPlace_130 : decode cX9_badPlace 130 = .ok (.getfield 11, 3) := by decide +kernel
theorem dX9_badPlace_133 : decode cX9_badPlace 133 = .ok (.aload_n 0, 1) := by decide +kernel
theorem dX9_badPlace_134 : decode cX9_badPlace 134 = .ok (.getfield 15, 3) := by decide +kernel
theorem dX9_badPlace_137 : decode cX9_badPlace 137 = .ok (.bipush 22, 2) := by decide +kernel
theorem dX9_badPlace_139 : decode cX9_badPlace 139 = .ok (.iadd, 1) := by decide +kernel
theorem dX9_badPlace_140 : decode cX9_badPlace 140 = .ok (.iload_n 1, 1) := by decide +kernel
theorem dX9_badPlace_141 : decode cX9_badPlace 141 = .ok (.iadd, 1) := by decide +kernel
theorem dX9_badPlace_142 : decode cX9_badPlace 142 = .ok (.iaload, 1) := by decide +kernel
theorem dX9_badPlace_143 : decode cX9_badPlace 143 = .ok (.aload_n 0, 1) := by decide +kernel
theorem dX9_badPlace_144 : decode cX9_badPlace 144 = .ok (.getfield 11, 3) := by decide +kernel
theorem dX9_badPlace_147 : decode cX9_badPlace 147 = .ok (.aload_n 0, 1) := by decide +kernel
theorem dX9_badPlace_148 : decode cX9_badPlace 148 = .ok (.getfield 15, 3) := by decide +kernel
theorem dX9_badPlace_151 : decode cX9_badPlace 151 = .ok (.bipush 16, 2) := by decide +kernel
theorem dX9_badPlace_153 : decode cX9_badPlace 153 = .ok (.iadd, 1) := by decide +kernel
theorem dX9_badPlace_154 : decode cX9_badPlace 154 = .ok (.iload_n 2, 1) := by decide +kernel
theorem dX9_badPlace_155 : decode cX9_badPlace 155 = .ok (.iadd, 1) := by decide +kernel
theorem dX9_badPlace_156 : decode cX9_badPlace 156 = .ok (.iaload, 1) := by decide +kernel
theorem dX9_badPlace_157 : decode cX9_badPlace 157 = .ok (.imul, 1) := by decide +kernel
theorem dX9_badPlace_158 : decode cX9_badPlace 158 = .ok (.if_icmp .ge 7, 3) := by decide +kernel
theorem dX9_badPlace_161 : decode cX9_badPlace 161 = .ok (.iload_n 2, 1) := by decide +kernel
theorem dX9_badPlace_162 : decode cX9_badPlace 162 = .ok (.goto 4, 3) := by decide +kernel
theorem dX9_badPlace_165 : decode cX9_badPlace 165 = .ok (.iconst (-1), 1) := by decide +kernel
theorem dX9_badPlace_166 : decode cX9_badPlace 166 = .ok (.ireturn, 1) := by decide +kernel
theorem dX9_comesLess_0 : decode cX9_comesLess 0 = .ok (.aload_n 0, 1) := by decide +kernel
theorem dX9_comesLess_1 : decode cX9_comesLess 1 = .ok (.getfield 11, 3) := by decide +kernel
theorem dX9_comesLess_4 : decode cX9_comesLess 4 = .ok (.aload_n 0, 1) := by decide +kernel
theorem dX9_comesLess_5 : decode cX9_comesLess 5 = .ok (.getfield 15, 3) := by decide +kernel
theorem dX9_comesLess_8 : decode cX9_comesLess 8 = .ok (.bipush 22, 2) := by decide +kernel
theorem dX9_comesLess_10 : decode cX9_comesLess 10 = .ok (.iadd, 1) := by decide +kernel
theorem dX9_comesLess_11 : decode cX9_comesLess 11 = .ok (.iload_n 1, 1) := by decide +kernel
theorem dX9_comesLess_12 : decode cX9_comesLess 12 = .ok (.iadd, 1) := by decide +kernel
theorem dX9_comesLess_13 : decode cX9_comesLess 13 = .ok (.iaload, 1) := by decide +kernel
theorem dX9_comesLess_14 : decode cX9_comesLess 14 = .ok (.aload_n 0, 1) := by decide +kernel
theorem dX9_comesLess_15 : decode cX9_comesLess 15 = .ok (.getfield 11, 3) := by decide +kernel
theorem dX9_comesLess_18 : decode cX9_comesLess 18 = .ok (.aload_n 0, 1) := by decide +kernel
theorem dX9_comesLess_19 : decode cX9_comesLess 19 = .ok (.getfield 15, 3) := by decide +kernel
theorem dX9_comesLess_22 : decode cX9_comesLess 22 = .ok (.bipush 16, 2) := by decide +kernel
theorem dX9_comesLess_24 : decode cX9_comesLess 24 = .ok (.iadd, 1) := by decide +kernel
theorem dX9_comesLess_25 : decode cX9_comesLess 25 = .ok (.iload_n 2, 1) := by decide +kernel
theorem dX9_comesLess_26 : decode cX9_comesLess 26 = .ok (.iadd, 1) := by decide +kernel
theorem dX9_comesLess_27 : decode cX9_comesLess 27 = .ok (.iaload, 1) := by decide +kernel
theorem dX9_comesLess_28 : decode cX9_comesLess 28 = .ok (.imul, 1) := by decide +kernel
theorem dX9_comesLess_29 : decode cX9_comesLess 29 = .ok (.aload_n 0, 1) := by decide +kernel
theorem dX9_comesLess_30 : decode cX9_comesLess 30 = .ok (.getfield 11, 3) := by decide +kernel
theorem dX9_comesLess_33 : decode cX9_comesLess 33 = .ok (.aload_n 0, 1) := by decide +kernel
theorem dX9_comesLess_34 : decode cX9_comesLess 34 = .ok (.getfield 15, 3) := by decide +kernel
theorem dX9_comesLess_37 : decode cX9_comesLess 37 = .ok (.bipush 22, 2) := by decide +kernel
theorem dX9_comesLess_39 : decode cX9_comesLess 39 = .ok (.iadd, 1) := by decide +kernel
theorem dX9_comesLess_40 : decode cX9_comesLess 40 = .ok (.iload_n 2, 1) := by decide +kernel
theorem dX9_comesLess_41 : decode cX9_comesLess 41 = .ok (.iadd, 1) := by decide +kernel
theorem dX9_comesLess_42 : decode cX9_comesLess 42 = .ok (.iaload, 1) := by decide +kernel
theorem dX9_comesLess_43 : decode cX9_comesLess 43 = .ok (.aload_n 0, 1) := by decide +kernel
theorem dX9_comesLess_44 : decode cX9_comesLess 44 = .ok (.getfield 11, 3) := by decide +kernel
theorem dX9_comesLess_47 : decode cX9_comesLess 47 = .ok (.aload_n 0, 1) := by decide +kernel
theorem dX9_comesLess_48 : decode cX9_comesLess 48 = .ok (.getfield 15, 3) := by decide +kernel
theorem dX9_comesLess_51 : decode cX9_comesLess 51 = .ok (.bipush 16, 2) := by decide +kernel
theorem dX9_comesLess_53 : decode cX9_comesLess 53 = .ok (.iadd, 1) := by decide +kernel
theorem dX9_comesLess_54 : decode cX9_comesLess 54 = .ok (.iload_n 1, 1) := by decide +kernel
theorem dX9_comesLess_55 : decode cX9_comesLess 55 = .ok (.iadd, 1) := by decide +kernel
theorem dX9_comesLess_56 : decode cX9_comesLess 56 = .ok (.iaload, 1) := by decide +kernel
theorem dX9_comesLess_57 : decode cX9_comesLess 57 = .ok (.imul, 1) := by decide +kernel
theorem dX9_comesLess_58 : decode cX9_comesLess 58 = .ok (.if_icmp .ge 7, 3) := by decide +kernel
theorem dX9_comesLess_61 : decode cX9_comesLess 61 = .ok (.iconst 1, 1) := by decide +kernel
theorem dX9_comesLess_62 : decode cX9_comesLess 62 = .ok (.goto 4, 3) := by decide +kernel
theorem dX9_comesLess_65 : decode cX9_comesLess 65 = .ok (.iconst 0, 1) := by decide +kernel
theorem dX9_comesLess_66 : decode cX9_comesLess 66 = .ok (.ireturn, 1) := by decide +kernel
theorem dX10_init_0 : decode cX10_init 0 = .ok (.aload_n 0, 1) := by decide +kernel
theorem dX10_init_1 : decode cX10_init 1 = .ok (.invokespecial 3, 3) := by decide +kernel
theorem dX10_init_4 : decode cX10_init 4 = .ok (.aload_n 0, 1) := by decide +kernel
theorem dX10_init_5 : decode cX10_init 5 = .ok (.sipush 240, 3) := by decide +kernel
theorem dX10_init_8 : decode cX10_init 8 = .ok (.newarray .int, 2) := by decide +kernel
theorem dX10_init_10 : decode cX10_init 10 = .ok (.putfield 11, 3) := by decide +kernel
theorem dX10_init_13 : decode cX10_init 13 = .ok (.return_, 1) := by decide +kernel
theorem dX10_signsIn_0 : decode cX10_signsIn 0 = .ok (.iconst 0, 1) := by decide +kernel
theorem dX10_signsIn_1 : decode cX10_signsIn 1 = .ok (.istore_n 1, 1) := by decide +kernel
theorem dX10_signsIn_2 : decode cX10_signsIn 2 = .ok (.bipush 24, 2) := by decide +kernel
theorem dX10_signsIn_4 : decode cX10_signsIn 4 = .ok (.istore_n 2, 1) := by decide +kernel
theorem dX10_signsIn_5 : decode cX10_signsIn 5 = .ok (.iload_n 2, 1) := by decide +kernel
theorem dX10_signsIn_6 : decode cX10_signsIn 6 = .ok (.ifCond .lt 22, 3) := by decide +kernel
theorem dX10_signsIn_9 : decode cX10_signsIn 9 = .ok (.iload_n 0, 1) := by decide +kernel
theorem dX10_signsIn_10 : decode cX10_signsIn 10 = .ok (.iload_n 2, 1) := by decide +kernel
theorem dX10_signsIn_11 : decode cX10_signsIn 11 = .ok (.iushr, 1) := by decide +kernel
theorem dX10_signsIn_12 : decode cX10_signsIn 12 = .ok (.sipush 255, 3) := by decide +kernel
theorem dX10_signsIn_15 : decode cX10_signsIn 15 = .ok (.iand, 1) := by decide +kernel
theorem dX10_signsIn_16 : decode cX10_signsIn 16 = .ok (.ifCond .eq 6, 3) := by decide +kernel
theorem dX10_signsIn_19 : decode cX10_signsIn 19 = .ok (.iinc 1 1, 3) := by decide +kernel
theorem dX10_signsIn_22 : decode cX10_signsIn 22 = .ok (.iinc 2 (-8), 3) := by decide +kernel
theorem dX10_signsIn_25 : decode cX10_signsIn 25 = .ok (.goto (-20), 3) := by decide +kernel
theorem dX10_signsIn_28 : decode cX10_signsIn 28 = .ok (.iload_n 1, 1) := by decide +kernel
theorem dX10_signsIn_29 : decode cX10_signsIn 29 = .ok (.ireturn, 1) := by decide +kernel
theorem dX10_size_0 : decode cX10_size 0 = .ok (.aload_n 0, 1) := by decide +kernel
theorem dX10_size_1 : decode cX10_size 1 = .ok (.getfield 15, 3) := by decide +kernel
theorem dX10_size_4 : decode cX10_size 4 = .ok (.ireturn, 1) := by decide +kernel
theorem dX10_hasRoom_0 : decode cX10_hasRoom 0 = .ok (.aload_n 0, 1) := by decide +kernel
theorem dX10_hasRoom_1 : decode cX10_hasRoom 1 = .ok (.getfield 15, 3) := by decide +kernel
theorem dX10_hasRoom_4 : decode cX10_hasRoom 4 = .ok (.iload_n 1, 1) := by decide +kernel
theorem dX10_hasRoom_5 : decode cX10_hasRoom 5 = .ok (.iadd, 1) := by decide +kernel
theorem dX10_hasRoom_6 : decode cX10_hasRoom 6 = .ok (.sipush 240, 3) := by decide +kernel
theorem dX10_hasRoom_9 : decode cX10_hasRoom 9 = .ok (.if_icmp .gt 7, 3) := by decide +kernel
theorem dX10_hasRoom_12 : decode cX10_hasRoom 12 = .ok (.iconst 1, 1) := by decide +kernel
theorem dX10_hasRoom_13 : decode cX10_hasRoom 13 = .ok (.goto 4, 3) := by decide +kernel
theorem dX10_hasRoom_16 : decode cX10_hasRoom 16 = .ok (.iconst 0, 1) := by decide +kernel
theorem dX10_hasRoom_17 : decode cX10_hasRoom 17 = .ok (.ireturn, 1) := by decide +kernel
theorem dX10_append_0 : decode cX10_append 0 = .ok (.bipush 24, 2) := by decide +kernel
theorem dX10_append_2 : decode cX10_append 2 = .ok (.istore_n 2, 1) := by decide +kernel
theorem dX10_append_3 : decode cX10_append 3 = .ok (.iload_n 2, 1) := by decide +kernel
theorem dX10_append_4 : decode cX10_append 4 = .ok (.ifCond .lt 51, 3) := by decide +kernel
theorem dX10_append_7 : decode cX10_append 7 = .ok (.iload_n 1, 1) := by decide +kernel
theorem dX10_append_8 : decode cX10_append 8 = .ok (.iload_n 2, 1) := by decide +kernel
theorem dX10_append_9 : decode cX10_append 9 = .ok (.iushr, 1) := by decide +kernel
theorem dX10_append_10 : decode cX10_append 10 = .ok (.sipush 255, 3) := by decide +kernel
theorem dX10_append_13 : decode cX10_append 13 = .ok (.iand, 1) := by decide +kernel
theorem dX10_append_14 : decode cX10_append 14 = .ok (.istore_n 3, 1) := by decide +kernel
theorem dX10_append_15 : decode cX10_append 15 = .ok (.iload_n 3, 1) := by decide +kernel
theorem dX10_append_16 : decode cX10_append 16 = .ok (.ifCond .eq 33, 3) := by decide +kernel
theorem dX10_append_19 : decode cX10_append 19 = .ok (.aload_n 0, 1) := by decide +kernel
theorem dX10_append_20 : decode cX10_append 20 = .ok (.getfield 15, 3) := by decide +kernel
theorem dX10_append_23 : decode cX10_append 23 = .ok (.sipush 240, 3) := by decide +kernel
theorem dX10_append_26 : decode cX10_append 26 = .ok (.if_icmp .ge 23, 3) := by decide +kernel
theorem dX10_append_29 : decode cX10_append 29 = .ok (.aload_n 0, 1) := by decide +kernel
theorem dX10_append_30 : decode cX10_append 30 = .ok (.getfield 11, 3) := by decide +kernel
theorem dX10_append_33 : decode cX10_append 33 = .ok (.aload_n 0, 1) := by decide +kernel
theorem dX10_append_34 : decode cX10_append 34 = .ok (.getfield 15, 3) := by decide +kernel
theorem dX10_append_37 : decode cX10_append 37 = .ok (.iload_n 3, 1) := by decide +kernel
theorem dX10_append_38 : decode cX10_append 38 = .ok (.iastore, 1) := by decide +kernel
theorem dX10_append_39 : decode cX10_append 39 = .ok (.aload_n 0, 1) := by decide +kernel
theorem dX10_append_40 : decode cX10_append 40 = .ok (.dup, 1) := by decide +kernel
theorem dX10_append_41 : decode cX10_append 41 = .ok (.getfield 15, 3) := by decide +kernel
theorem dX10_append_44 : decode cX10_append 44 = .ok (.iconst 1, 1) := by decide +kernel
theorem dX10_append_45 : decode cX10_append 45 = .ok (.iadd, 1) := by decide +kernel
theorem dX10_append_46 : decode cX10_append 46 = .ok (.putfield 15, 3) := by decide +kernel
theorem dX10_append_49 : decode cX10_append 49 = .ok (.iinc 2 (-8), 3) := by decide +kernel
theorem dX10_append_52 : decode cX10_append 52 = .ok (.goto (-49), 3) := by decide +kernel
theorem dX10_append_55 : decode cX10_append 55 = .ok (.return_, 1) := by decide +kernel
theorem dX10_cutTo_0 : decode cX10_cutTo 0 = .ok (.iload_n 1, 1) := by decide +kernel
theorem dX10_cutTo_1 : decode cX10_cutTo 1 = .ok (.ifCond .lt 11, 3) := by decide +kernel
theorem dX10_cutTo_4 : decode cX10_cutTo 4 = .ok (.iload_n 1, 1) := by decide +kernel
theorem dX10_cutTo_5 : decode cX10_cutTo 5 = .ok (.aload_n 0, 1) := by decide +kernel
theorem dX10_cutTo_6 : decode cX10_cutTo 6 = .ok (.getfield 15, 3) := by decide +kernel
theorem dX10_cutTo_9 : decode cX10_cutTo 9 = .ok (.if_icmp .le 5, 3) := by decide +kernel
theorem dX10_cutTo_12 : decode cX10_cutTo 12 = .ok (.iconst 0, 1) := by decide +kernel
theorem dX10_cutTo_13 : decode cX10_cutTo 13 = .ok (.ireturn, 1) := by decide +kernel
theorem dX10_cutTo_14 : decode cX10_cutTo 14 = .ok (.aload_n 0, 1) := by decide +kernel
theorem dX10_cutTo_15 : decode cX10_cutTo 15 = .ok (.iload_n 1, 1) := by decide +kernel
theorem dX10_cutTo_16 : decode cX10_cutTo 16 = .ok (.putfield 15, 3) := by decide +kernel
theorem dX10_cutTo_19 : decode cX10_cutTo 19 = .ok (.iconst 1, 1) := by decide +kernel
theorem dX10_cutTo_20 : decode cX10_cutTo 20 = .ok (.ireturn, 1) := by decide +kernel
theorem dX10_signAt_0 : decode cX10_signAt 0 = .ok (.iload_n 1, 1) := by decide +kernel
theorem dX10_signAt_1 : decode cX10_signAt 1 = .ok (.ifCond .lt 20, 3) := by decide +kernel
theorem dX10_signAt_4 : decode cX10_signAt 4 = .ok (.iload_n 1, 1) := by decide +kernel
theorem dX10_signAt_5 : decode cX10_signAt 5 = .ok (.aload_n 0, 1) := by decide +kernel
theorem dX10_signAt_6 : decode cX10_signAt 6 = .ok (.getfield 15, 3) := by decide +kernel
theorem dX10_signAt_9 : decode cX10_signAt 9 = .ok (.if_icmp .ge 12, 3) := by decide +kernel
theorem dX10_signAt_12 : decode cX10_signAt 12 = .ok (.aload_n 0, 1) := by decide +kernel
theorem dX10_signAt_13 : decode cX10_signAt 13 = .ok (.getfield 11, 3) := by decide +kernel
theorem dX10_signAt_16 : decode cX10_signAt 16 = .ok (.iload_n 1, 1) := by decide +kernel
theorem dX10_signAt_17 : decode cX10_signAt 17 = .ok (.iaload, 1) := by decide +kernel
theorem dX10_signAt_18 : decode cX10_signAt 18 = .ok (.goto 4, 3) := by decide +kernel
theorem dX10_signAt_21 : decode cX10_signAt 21 = .ok (.iconst (-1), 1) := by decide +kernel
theorem dX10_signAt_22 : decode cX10_signAt 22 = .ok (.ireturn, 1) := by decide +kernel
theorem dX11_init_0 : decode cX11_init 0 = .ok (.aload_n 0, 1) := by decide +kernel
theorem dX11_init_1 : decode cX11_init 1 = .ok (.invokespecial 1, 3) := by decide +kernel
theorem dX11_init_4 : decode cX11_init 4 = .ok (.aload_n 0, 1) := by decide +kernel
theorem dX11_init_5 : decode cX11_init 5 = .ok (.new 7, 3) := by decide +kernel
theorem dX11_init_8 : decode cX11_init 8 = .ok (.dup, 1) := by decide +kernel
theorem dX11_init_9 : decode cX11_init 9 = .ok (.invokespecial 9, 3) := by decide +kernel
theorem dX11_init_12 : decode cX11_init 12 = .ok (.putfield 10, 3) := by decide +kernel
theorem dX11_init_15 : decode cX11_init 15 = .ok (.aload_n 0, 1) := by decide +kernel
theorem dX11_init_16 : decode cX11_init 16 = .ok (.new 16, 3) := by decide +kernel
theorem dX11_init_19 : decode cX11_init 19 = .ok (.dup, 1) := by decide +kernel
theorem dX11_init_20 : decode cX11_init 20 = .ok (.invokespecial 18, 3) := by decide +kernel
theorem dX11_init_23 : decode cX11_init 23 = .ok (.putfield 19, 3) := by decide +kernel
theorem dX11_init_26 : decode cX11_init 26 = .ok (.aload_n 0, 1) := by decide +kernel
theorem dX11_init_27 : decode cX11_init 27 = .ok (.new 23, 3) := by decide +kernel
theorem dX11_init_30 : decode cX11_init 30 = .ok (.dup, 1) := by decide +kernel
theorem dX11_init_31 : decode cX11_init 31 = .ok (.aload_n 0, 1) := by decide +kernel
theorem dX11_init_32 : decode cX11_init 32 = .ok (.getfield 10, 3) := by decide +kernel
theorem dX11_init_35 : decode cX11_init 35 = .ok (.invokespecial 25, 3) := by decide +kernel
theorem dX11_init_38 : decode cX11_init 38 = .ok (.putfield 28, 3) := by decide +kernel
theorem dX11_init_41 : decode cX11_init 41 = .ok (.aload_n 0, 1) := by decide +kernel
theorem dX11_init_42 : decode cX11_init 42 = .ok (.new 32, 3) := by decide +kernel
theorem dX11_init_45 : decode cX11_init 45 = .ok (.dup, 1) := by decide +kernel
theorem dX11_init_46 : decode cX11_init 46 = .ok (.aload_n 0, 1) := by decide +kernel
theorem dX11_init_47 : decode cX11_init 47 = .ok (.getfield 19, 3) := by decide +kernel
theorem dX11_init_50 : decode cX11_init 50 = .ok (.invokespecial 34, 3) := by decide +kernel
theorem dX11_init_53 : decode cX11_init 53 = .ok (.putfield 37, 3) := by decide +kernel
theorem dX11_init_56 : decode cX11_init 56 = .ok (.aload_n 0, 1) := by decide +kernel
theorem dX11_init_57 : decode cX11_init 57 = .ok (.new 41, 3) := by decide +kernel
theorem dX11_init_60 : decode cX11_init 60 = .ok (.dup, 1) := by decide +kernel
theorem dX11_init_61 : decode cX11_init 61 = .ok (.aload_n 0, 1) := by decide +kernel
theorem dX11_init_62 : decode cX11_init 62 = .ok (.getfield 37, 3) := by decide +kernel
theorem dX11_init_65 : decode cX11_init 65 = .ok (.invokespecial 43, 3) := by decide +kernel
theorem dX11_init_68 : decode cX11_init 68 = .ok (.putfield 46, 3) := by decide +kernel
theorem dX11_init_71 : decode cX11_init 71 = .ok (.aload_n 0, 1) := by decide +kernel
theorem dX11_init_72 : decode cX11_init 72 = .ok (.new 50, 3) := by decide +kernel
theorem dX11_init_75 : decode cX11_init 75 = .ok (.dup, 1) := by decide +kernel
theorem dX11_init_76 : decode cX11_init 76 = .ok (.aload_n 0, 1) := by decide +kernel
theorem dX11_init_77 : decode cX11_init 77 = .ok (.getfield 37, 3) := by decide +kernel
theorem dX11_init_80 : decode cX11_init 80 = .ok (.aload_n 0, 1) := by decide +kernel
theorem dX11_init_81 : decode cX11_init 81 = .ok (.getfield 46, 3) := by decide +kernel
theorem dX11_init_84 : decode cX11_init 84 = .ok (.invokespecial 52, 3) := by decide +kernel
theorem dX11_init_87 : decode cX11_init 87 = .ok (.putfield 55, 3) := by decide +kernel
theorem dX11_init_90 : decode cX11_init 90 = .ok (.aload_n 0, 1) := by decide +kernel
theorem dX11_init_91 : decode cX11_init 91 = .ok (.new 59, 3) := by decide +kernel
theorem dX11_init_94 : decode cX11_init 94 = .ok (.dup, 1) := by decide +kernel
theorem dX11_init_95 : decode cX11_init 95 = .ok (.invokespecial 61, 3) := by decide +kernel
theorem dX11_init_98 : decode cX11_init 98 = .ok (.putfield 62, 3) := by decide +kernel
theorem dX11_init_101 : decode cX11_init 101 = .ok (.aload_n 0, 1) := by decide +kernel
theorem dX11_init_102 : decode cX11_init 102 = .ok (.new 66, 3) := by decide +kernel
theorem dX11_init_105 : decode cX11_init 105 = .ok (.dup, 1) := by decide +kernel
theorem dX11_init_106 : decode cX11_init 106 = .ok (.aload_n 0, 1) := by decide +kernel
theorem dX11_init_107 : decode cX11_init 107 = .ok (.getfield 37, 3) := by decide +kernel
theorem dX11_init_110 : decode cX11_init 110 = .ok (.invokespecial 68, 3) := by decide +kernel
theorem dX11_init_113 : decode cX11_init 113 = .ok (.putfield 69, 3) := by decide +kernel
theorem dX11_init_116 : decode cX11_init 116 = .ok (.aload_n 0, 1) := by decide +kernel
theorem dX11_init_117 : decode cX11_init 117 = .ok (.iconst 5, 1) := by decide +kernel
theorem dX11_init_118 : decode cX11_init 118 = .ok (.newarray .int, 2) := by decide +kernel
theorem dX11_init_120 : decode cX11_init 120 = .ok (.putfield 73, 3) := by decide +kernel
theorem dX11_init_123 : decode cX11_init 123 = .ok (.aload_n 0, 1) := by decide +kernel
theorem dX11_init_124 : decode cX11_init 124 = .ok (.iconst 2, 1) := by decide +kernel
theorem dX11_init_125 : decode cX11_init 125 = .ok (.putfield 77, 3) := by decide +kernel
theorem dX11_init_128 : decode cX11_init 128 = .ok (.return_, 1) := by decide +kernel
theorem dX11_feed_0 : decode cX11_feed 0 = .ok (.iload_n 1, 1) := by decide +kernel
theorem dX11_feed_1 : decode cX11_feed 1 = .ok (.invokestatic 81, 3) := by decide +kernel
theorem dX11_feed_4 : decode cX11_feed 4 = .ok (.iload_n 2, 1) := by decide +kernel
theorem dX11_feed_5 : decode cX11_feed 5 = .ok (.invokestatic 81, 3) := by decide +kernel
theorem dX11_feed_8 : decode cX11_feed 8 = .ok (.iadd, 1) := by decide +kernel
theorem dX11_feed_9 : decode cX11_feed 9 = .ok (.iload_n 3, 1) := by decide +kernel
theorem dX11_feed_10 : decode cX11_feed 10 = .ok (.invokestatic 81, 3) := by decide +kernel
theorem dX11_feed_13 : decode cX11_feed 13 = .ok (.iadd, 1) := by decide +kernel
theorem dX11_feed_14 : decode cX11_feed 14 = .ok (.iload 4, 2) := by decide +kernel
theorem dX11_feed_16 : decode cX11_feed 16 = .ok (.invokestatic 81, 3) := by decide +kernel
theorem dX11_feed_19 : decode cX11_feed 19 = .ok (.iadd, 1) := by decide +kernel
theorem dX11_feed_20 : decode cX11_feed 20 = .ok (.iload 5, 2) := by decide +kernel
theorem dX11_feed_22 : decode cX11_feed 22 = .ok (.invokestatic 81, 3) := by decide +kernel
theorem dX11_feed_25 : decode cX11_feed 25 = .ok (.iadd, 1) := by decide +kernel
theorem dX11_feed_26 : decode cX11_feed 26 = .ok (.istore 6, 2) := by decide +kernel
theorem dX11_feed_28 : decode cX11_feed 28 = .ok (.aload_n 0, 1) := by decide +kernel
theorem dX11_feed_29 : decode cX11_feed 29 = .ok (.getfield 10, 3) := by decide +kernel
theorem dX11_feed_32 : decode cX11_feed 32 = .ok (.iload 6, 2) := by decide +kernel
theorem dX11_feed_34 : decode cX11_feed 34 = .ok (.invokevirtual 85, 3) := by decide +kernel
theorem dX11_feed_37 : decode cX11_feed 37 = .ok (.ifCond .ne 5, 3) := by decide +kernel
theorem dX11_feed_40 : decode cX11_feed 40 = .ok (.iconst (-1), 1) := by decide +kernel
theorem dX11_feed_41 : decode cX11_feed 41 = .ok (.ireturn, 1) := by decide +kernel
theorem dX11_feed_42 : decode cX11_feed 42 = .ok (.aload_n 0, 1) := by decide +kernel
theorem dX11_feed_43 : decode cX11_feed 43 = .ok (.getfield 10, 3) := by decide +kernel
theorem dX11_feed_46 : decode cX11_feed 46 = .ok (.iload_n 1, 1) := by decide +kernel
theorem dX11_feed_47 : decode cX11_feed 47 = .ok (.invokevirtual 89, 3) := by decide +kernel
theorem dX11_feed_50 : decode cX11_feed 50 = .ok (.aload_n 0, 1) := by decide +kernel
theorem dX11_feed_51 : decode cX11_feed 51 = .ok (.getfield 10, 3) := by decide +kernel
theorem dX11_feed_54 : decode cX11_feed 54 = .ok (.iload_n 2, 1) := by decide +kernel
theorem dX11_feed_55 : decode cX11_feed 55 = .ok (.invokevirtual 89, 3) := by decide +kernel
theorem dX11_feed_58 : decode cX11_feed 58 = .ok (.aload_n 0, 1) := by decide +kernel
theorem dX11_feed_59 : decode cX11_feed 59 = .ok (.getfield 10, 3) := by decide +kernel
theorem dX11_feed_62 : decode cX11_feed 62 = .ok (.iload_n 3, 1) := by decide +kernel
theorem dX11_feed_63 : decode cX11_feed 63 = .ok (.invokevirtual 89, 3) := by decide +kernel
theorem dX11_feed_66 : decode cX11_feed 66 = .ok (.aload_n 0, 1) := by decide +kernel
theorem dX11_feed_67 : decode cX11_feed 67 = .ok (.getfield 10, 3) := by decide +kernel
theorem dX11_feed_70 : decode cX11_feed 70 = .ok (.iload 4, 2) := by decide +kernel
theorem dX11_feed_72 : decode cX11_feed 72 = .ok (.invokevirtual 89, 3) := by decide +kernel
theorem dX11_feed_75 : decode cX11_feed 75 = .ok (.aload_n 0, 1) := by decide +kernel
theorem dX11_feed_76 : decode cX11_feed 76 = .ok (.getfield 10, 3) := by decide +kernel
theorem dX11_feed_79 : decode cX11_feed 79 = .ok (.iload 5, 2) := by decide +kernel
theorem dX11_feed_81 : decode cX11_feed 81 = .ok (.invokevirtual 89, 3) := by decide +kernel
theorem dX11_feed_84 : decode cX11_feed 84 = .ok (.aload_n 0, 1) := by decide +kernel
theorem dX11_feed_85 : decode cX11_feed 85 = .ok (.getfield 10, 3) := by decide +kernel
theorem dX11_feed_88 : decode cX11_feed 88 = .ok (.invokevirtual 93, 3) := by decide +kernel
theorem dX11_feed_91 : decode cX11_feed 91 = .ok (.ireturn, 1) := by decide +kernel
theorem dX11_end_0 : decode cX11_end 0 = .ok (.aload_n 0, 1) := by decide +kernel
theorem dX11_end_1 : decode cX11_end 1 = .ok (.getfield 10, 3) := by decide +kernel
theorem dX11_end_4 : decode cX11_end 4 = .ok (.iload_n 1, 1) := by decide +kernel
theorem dX11_end_5 : decode cX11_end 5 = .ok (.invokevirtual 97, 3) := by decide +kernel
theorem dX11_end_8 : decode cX11_end 8 = .ok (.ireturn, 1) := by decide +kernel
theorem dX11_fault_0 : decode cX11_fault 0 = .ok (.iload_n 1, 1) := by decide +kernel
theorem dX11_fault_1 : decode cX11_fault 1 = .ok (.ifCond .ne 11, 3) := by decide +kernel
theorem dX11_fault_4 : decode cX11_fault 4 = .ok (.aload_n 0, 1) := by decide +kernel
theorem dX11_fault_5 : decode cX11_fault 5 = .ok (.getfield 28, 3) := by decide +kernel
theorem dX11_fault_8 : decode cX11_fault 8 = .ok (.invokevirtual 100, 3) := by decide +kernel
theorem dX11_fault_11 : decode cX11_fault 11 = .ok (.ireturn, 1) := by decide +kernel
theorem dX11_fault_12 : decode cX11_fault 12 = .ok (.iload_n 1, 1) := by decide +kernel
theorem dX11_fault_13 : decode cX11_fault 13 = .ok (.iconst 1, 1) := by decide +kernel
theorem dX11_fault_14 : decode cX11_fault 14 = .ok (.if_icmp .ne 13, 3) := by decide +kernel
theorem dX11_fault_17 : decode cX11_fault 17 = .ok (.aload_n 0, 1) := by decide +kernel
theorem dX11_fault_18 : decode cX11_fault 18 = .ok (.getfield 28, 3) := by decide +kernel
theorem dX11_fault_21 : decode cX11_fault 21 = .ok (.invokevirtual 103, 3) := by decide +kernel
theorem dX11_fault_24 : decode cX11_fault 24 = .ok (.goto 5, 3) := by decide +kernel
theorem dX11_fault_27 : decode cX11_fault 27 = .ok (.bipush (-2), 2) := by decide +kernel
theorem dX11_fault_29 : decode cX11_fault 29 = .ok (.ireturn, 1) := by decide +kernel
theorem dX11_text_0 : decode cX11_text 0 = .ok (.iload_n 1, 1) := by decide +kernel
theorem dX11_text_1 : decode cX11_text 1 = .ok (.ifCond .ne 56, 3) := by decide +kernel
theorem dX11_text_4 : decode cX11_text 4 = .ok (.aload_n 0, 1) := by decide +kernel
theorem dX11_text_5 : decode cX11_text 5 = .ok (.getfield 28, 3) := by decide +kernel
theorem dX11_text_8 : decode cX11_text 8 = .ok (.invokevirtual 100, 3) := by decide +kernel
theorem dX11_text_11 : decode cX11_text 11 = .ok (.iconst (-1), 1) := by decide +kernel
theorem dX11_text_12 : decode cX11_text 12 = .ok (.if_icmp .ne 45, 3) := by decide +kernel
theorem dX11_text_15 : decode cX11_text 15 = .ok (.aload_n 0, 1) := by decide +kernel
theorem dX11_text_16 : decode cX11_text 16 = .ok (.getfield 19, 3) := by decide +kernel
theorem dX11_text_19 : decode cX11_text 19 = .ok (.aload_n 0, 1) := by decide +kernel
theorem dX11_text_20 : decode cX11_text 20 = .ok (.getfield 28, 3) := by decide +kernel
theorem dX11_text_23 : decode cX11_text 23 = .ok (.invokevirtual 106, 3) := by decide +kernel
theorem dX11_text_26 : decode cX11_text 26 = .ok (.aload_n 0, 1) := by decide +kernel
theorem dX11_text_27 : decode cX11_text 27 = .ok (.getfield 37, 3) := by decide +kernel
theorem dX11_text_30 : decode cX11_text 30 = .ok (.invokevirtual 110, 3) := by decide +kernel
theorem dX11_text_33 : decode cX11_text 33 = .ok (.aload_n 0, 1) := by decide +kernel
theorem dX11_text_34 : decode cX11_text 34 = .ok (.getfield 62, 3) := by decide +kernel
theorem dX11_text_37 : decode cX11_text 37 = .ok (.invokevirtual 113, 3) := by decide +kernel
theorem dX11_text_40 : decode cX11_text 40 = .ok (.aload_n 0, 1) := by decide +kernel
theorem dX11_text_41 : decode cX11_text 41 = .ok (.getfield 10, 3) := by decide +kernel
theorem dX11_text_44 : decode cX11_text 44 = .ok (.iconst 0, 1) := by decide +kernel
theorem dX11_text_45 : decode cX11_text 45 = .ok (.invokevirtual 97, 3) := by decide +kernel
theorem dX11_text_48 : decode cX11_text 48 = .ok (.pop, 1) := by decide +kernel
theorem dX11_text_49 : decode cX11_text 49 = .ok (.aload_n 0, 1) := by decide +kernel
theorem dX11_text_50 : decode cX11_text 50 = .ok (.getfield 19, 3) := by decide +kernel
theorem dX11_text_53 : decode cX11_text 53 = .ok (.invokevirtual 114, 3) := by decide +kernel
theorem dX11_text_56 : decode cX11_text 56 = .ok (.ireturn, 1) := by decide +kernel
theorem dX11_text_57 : decode cX11_text 57 = .ok (.iload_n 1, 1) := by decide +kernel
theorem dX11_text_58 : decode cX11_text 58 = .ok (.iconst 1, 1) := by decide +kernel
theorem dX11_text_59 : decode cX11_text 59 = .ok (.if_icmp .ne 42, 3) := by decide +kernel
theorem dX11_text_62 : decode cX11_text 62 = .ok (.aload_n 0, 1) := by decide +kernel
theorem dX11_text_63 : decode cX11_text 63 = .ok (.getfield 28, 3) := by decide +kernel
theorem dX11_text_66 : decode cX11_text 66 = .ok (.invokevirtual 103, 3) := by decide +kernel
theorem dX11_text_69 : decode cX11_text 69 = .ok (.iconst (-1), 1) := by decide +kernel
theorem dX11_text_70 : decode cX11_text 70 = .ok (.if_icmp .ne 31, 3) := by decide +kernel
theorem dX11_text_73 : decode cX11_text 73 = .ok (.aload_n 0, 1) := by decide +kernel
theorem dX11_text_74 : decode cX11_text 74 = .ok (.getfield 19, 3) := by decide +kernel
theorem dX11_text_77 : decode cX11_text 77 = .ok (.aload_n 0, 1) := by decide +kernel
theorem dX11_text_78 : decode cX11_text 78 = .ok (.getfield 28, 3) := by decide +kernel
theorem dX11_text_81 : decode cX11_text 81 = .ok (.invokevirtual 117, 3) := by decide +kernel
theorem dX11_text_84 : decode cX11_text 84 = .ok (.aload_n 0, 1) := by decide +kernel
theorem dX11_text_85 : decode cX11_text 85 = .ok (.getfield 10, 3) := by decide +kernel
theorem dX11_text_88 : decode cX11_text 88 = .ok (.iconst 0, 1) := by decide +kernel
theorem dX11_text_89 : decode cX11_text 89 = .ok (.invokevirtual 97, 3) := by decide +kernel
theorem dX11_text_92 : decode cX11_text 92 = .ok (.pop, 1) := by decide +kernel
theorem dX11_text_93 : decode cX11_text 93 = .ok (.aload_n 0, 1) := by decide +kernel
theorem dX11_text_94 : decode cX11_text 94 = .ok (.getfield 19, 3) := by decide +kernel
theorem dX11_text_97 : decode cX11_text 97 = .ok (.invokevirtual 120, 3) := by decide +kernel
theorem dX11_text_100 : decode cX11_text 100 = .ok (.ireturn, 1) := by decide +kernel
theorem dX11_text_101 : decode cX11_text 101 = .ok (.iconst (-1), 1) := by decide +kernel
theorem dX11_text_102 : decode cX11_text 102 = .ok (.ireturn, 1) := by decide +kernel
theorem dX11_rule_0 : decode cX11_rule 0 = .ok (.aload_n 0, 1) := by decide +kernel
theorem dX11_rule_1 : decode cX11_rule 1 = .ok (.getfield 19, 3) := by decide +kernel
theorem dX11_rule_4 : decode cX11_rule 4 = .ok (.invokevirtual 123, 3) := by decide +kernel
theorem dX11_rule_7 : decode cX11_rule 7 = .ok (.ifCond .ne 5, 3) := by decide +kernel
theorem dX11_rule_10 : decode cX11_rule 10 = .ok (.iconst (-1), 1) := by decide +kernel
theorem dX11_rule_11 : decode cX11_rule 11 = .ok (.ireturn, 1) := by decide +kernel
theorem dX11_rule_12 : decode cX11_rule 12 = .ok (.iload_n 1, 1) := by decide +kernel
theorem dX11_rule_13 : decode cX11_rule 13 = .ok (.iconst 4, 1) := by decide +kernel
theorem dX11_rule_14 : decode cX11_rule 14 = .ok (.if_icmp .ne 13, 3) := by decide +kernel
theorem dX11_rule_17 : decode cX11_rule 17 = .ok (.aload_n 0, 1) := by decide +kernel
theorem dX11_rule_18 : decode cX11_rule 18 = .ok (.getfield 37, 3) := by decide +kernel
theorem dX11_rule_21 : decode cX11_rule 21 = .ok (.invokevirtual 127, 3) := by decide +kernel
theorem dX11_rule_24 : decode cX11_rule 24 = .ok (.goto 11, 3) := by decide +kernel
theorem dX11_rule_27 : decode cX11_rule 27 = .ok (.aload_n 0, 1) := by decide +kernel
theorem dX11_rule_28 : decode cX11_rule 28 = .ok (.getfield 19, 3) := by decide +kernel
theorem dX11_rule_31 : decode cX11_rule 31 = .ok (.iload_n 1, 1) := by decide +kernel
theorem dX11_rule_32 : decode cX11_rule 32 = .ok (.invokevirtual 130, 3) := by decide +kernel
theorem dX11_rule_35 : decode cX11_rule 35 = .ok (.ireturn, 1) := by decide +kernel
theorem dX11_pair_0 : decode cX11_pair 0 = .ok (.aload_n 0, 1) := by decide +kernel
theorem dX11_pair_1 : decode cX11_pair 1 = .ok (.getfield 19, 3) := by decide +kernel
theorem dX11_pair_4 : decode cX11_pair 4 = .ok (.iload_n 1, 1) := by decide +kernel
theorem dX11_pair_5 : decode cX11_pair 5 = .ok (.invokevirtual 133, 3) := by decide +kernel
theorem dX11_pair_8 : decode cX11_pair 8 = .ok (.ifCond .eq 13, 3) := by decide +kernel
theorem dX11_pair_11 : decode cX11_pair 11 = .ok (.iload_n 2, 1) := by decide +kernel
theorem dX11_pair_12 : decode cX11_pair 12 = .ok (.ifCond .lt 9, 3) := by decide +kernel
theorem dX11_pair_15 : decode cX11_pair 15 = .ok (.iload_n 2, 1) := by decide +kernel
theorem dX11_pair_16 : decode cX11_pair 16 = .ok (.bipush 10, 2) := by decide +kernel
theorem dX11_pair_18 : decode cX11_pair 18 = .ok (.if_icmp .le 11, 3) := by decide +kernel
theorem dX11_pair_21 : decode cX11_pair 21 = .ok (.new 136, 3) := by decide +kernel
theorem dX11_pair_24 : decode cX11_pair 24 = .ok (.dup, 1) := by decide +kernel
theorem dX11_pair_25 : decode cX11_pair 25 = .ok (.invokespecial 138, 3) := by decide +kernel
theorem dX11_pair_28 : decode cX11_pair 28 = .ok (.athrow, 1) := by decide +kernel
theorem dX11_pair_29 : decode cX11_pair 29 = .ok (.iload_n 2, 1) := by decide +kernel
theorem dX11_pair_30 : decode cX11_pair 30 = .ok (.iconst 3, 1) := by decide +kernel
theorem dX11_pair_31 : decode cX11_pair 31 = .ok (.if_icmp .ge 15, 3) := by decide +kernel
theorem dX11_pair_34 : decode cX11_pair 34 = .ok (.aload_n 0, 1) := by decide +kernel
theorem dX11_pair_35 : decode cX11_pair 35 = .ok (.getfield 19, 3) := by decide +kernel
theorem dX11_pair_38 : decode cX11_pair 38 = .ok (.iload_n 1, 1) := by decide +kernel
theorem dX11_pair_39 : decode cX11_pair 39 = .ok (.iload_n 2, 1) := by decide +kernel
theorem dX11_pair_40 : decode cX11_pair 40 = .ok (.invokevirtual 139, 3) := by decide +kernel
theorem dX11_pair_43 : decode cX11_pair 43 = .ok (.goto 16, 3) := by decide +kernel
theorem dX11_pair_46 : decode cX11_pair 46 = .ok (.aload_n 0, 1) := by decide +kernel
theorem dX11_pair_47 : decode cX11_pair 47 = .ok (.getfield 37, 3) := by decide +kernel
theorem dX11_pair_50 : decode cX11_pair 50 = .ok (.getfield 143, 3) := by decide +kernel
theorem dX11_pair_53 : decode cX11_pair 53 = .ok (.iload_n 1, 1) := by decide +kernel
theorem dX11_pair_54 : decode cX11_pair 54 = .ok (.aaload, 1) := by decide +kernel
theorem dX11_pair_55 : decode cX11_pair 55 = .ok (.iload_n 2, 1) := by decide +kernel
theorem dX11_pair_56 : decode cX11_pair 56 = .ok (.invokevirtual 147, 3) := by decide +kernel
theorem dX11_pair_59 : decode cX11_pair 59 = .ok (.ireturn, 1) := by decide +kernel
theorem dX11_cell_0 : decode cX11_cell 0 = .ok (.aload_n 0, 1) := by decide +kernel
theorem dX11_cell_1 : decode cX11_cell 1 = .ok (.getfield 19, 3) := by decide +kernel
theorem dX11_cell_4 : decode cX11_cell 4 = .ok (.iload_n 1, 1) := by decide +kernel
theorem dX11_cell_5 : decode cX11_cell 5 = .ok (.invokevirtual 133, 3) := by decide +kernel
theorem dX11_cell_8 : decode cX11_cell 8 = .ok (.ifCond .ne 5, 3) := by decide +kernel
theorem dX11_cell_11 : decode cX11_cell 11 = .ok (.iconst (-1), 1) := by decide +kernel
theorem dX11_cell_12 : decode cX11_cell 12 = .ok (.ireturn, 1) := by decide +kernel
theorem dX11_cell_13 : decode cX11_cell 13 = .ok (.iload_n 2, 1) := by decide +kernel
theorem dX11_cell_14 : decode cX11_cell 14 = .ok (.ifCond .ne 22, 3) := by decide +kernel
theorem dX11_cell_17 : decode cX11_cell 17 = .ok (.aload_n 0, 1) := by decide +kernel
theorem dX11_cell_18 : decode cX11_cell 18 = .ok (.getfield 37, 3) := by decide +kernel
theorem dX11_cell_21 : decode cX11_cell 21 = .ok (.getfield 143, 3) := by decide +kernel
theorem dX11_cell_24 : decode cX11_cell 24 = .ok (.iload_n 1, 1) := by decide +kernel
theorem dX11_cell_25 : decode cX11_cell 25 = .ok (.aaload, 1) := by decide +kernel
theorem dX11_cell_26 : decode cX11_cell 26 = .ok (.getfield 152, 3) := by decide +kernel
theorem dX11_cell_29 : decode cX11_cell 29 = .ok (.iload_n 3, 1) := by decide +kernel
theorem dX11_cell_30 : decode cX11_cell 30 = .ok (.iload 4, 2) := by decide +kernel
theorem dX11_cell_32 : decode cX11_cell 32 = .ok (.invokevirtual 156, 3) := by decide +kernel
theorem dX11_cell_35 : decode cX11_cell 35 = .ok (.ireturn, 1) := by decide +kernel
theorem dX11_cell_36 : decode cX11_cell 36 = .ok (.iload_n 2, 1) := by decide +kernel
theorem dX11_cell_37 : decode cX11_cell 37 = .ok (.iconst 1, 1) := by decide +kernel
theorem dX11_cell_38 : decode cX11_cell 38 = .ok (.if_icmp .ne 27, 3) := by decide +kernel
theorem dX11_cell_41 : decode cX11_cell 41 = .ok (.iload 4, 2) := by decide +kernel
theorem dX11_cell_43 : decode cX11_cell 43 = .ok (.ifCond .ne 22, 3) := by decide +kernel
theorem dX11_cell_46 : decode cX11_cell 46 = .ok (.aload_n 0, 1) := by decide +kernel
theorem dX11_cell_47 : decode cX11_cell 47 = .ok (.getfield 37, 3) := by decide +kernel
theorem dX11_cell_50 : decode cX11_cell 50 = .ok (.getfield 143, 3) := by decide +kernel
theorem dX11_cell_53 : decode cX11_cell 53 = .ok (.iload_n 1, 1) := by decide +kernel
theorem dX11_cell_54 : decode cX11_cell 54 = .ok (.aaload, 1) := by decide +kernel
theorem dX11_cell_55 : decode cX11_cell 55 = .ok (.getfield 161, 3) := by decide +kernel
theorem dX11_cell_58 : decode cX11_cell 58 = .ok (.iload_n 3, 1) := by decide +kernel
theorem dX11_cell_59 : decode cX11_cell 59 = .ok (.invokevirtual 164, 3) := by decide +kernel
theorem dX11_cell_62 : decode cX11_cell 62 = .ok (.goto 4, 3) := by decide +kernel
theorem dX11_cell_65 : decode cX11_cell 65 = .ok (.iconst (-1), 1) := by decide +kernel
theorem dX11_cell_66 : decode cX11_cell 66 = .ok (.ireturn, 1) := by decide +kernel
theorem dX11_waits_0 : decode cX11_waits 0 = .ok (.aload_n 0, 1) := by decide +kernel
theorem dX11_waits_1 : decode cX11_waits 1 = .ok (.getfield 19, 3) := by decide +kernel
theorem dX11_waits_4 : decode cX11_waits 4 = .ok (.iload_n 1, 1) := by decide +kernel
theorem dX11_waits_5 : decode cX11_waits 5 = .ok (.invokevirtual 133, 3) := by decide +kernel
theorem dX11_waits_8 : decode cX11_waits 8 = .ok (.ifCond .eq 12, 3) := by decide +kernel
theorem dX11_waits_11 : decode cX11_waits 11 = .ok (.iload_n 2, 1) := by decide +kernel
theorem dX11_waits_12 : decode cX11_waits 12 = .ok (.ifCond .lt 8, 3) := by decide +kernel
theorem dX11_waits_15 : decode cX11_waits 15 = .ok (.iload_n 2, 1) := by decide +kernel
theorem dX11_waits_16 : decode cX11_waits 16 = .ok (.iconst 1, 1) := by decide +kernel
theorem dX11_waits_17 : decode cX11_waits 17 = .ok (.if_icmp .le 5, 3) := by decide +kernel
theorem dX11_waits_20 : decode cX11_waits 20 = .ok (.iconst (-1), 1) := by decide +kernel
theorem dX11_waits_21 : decode cX11_waits 21 = .ok (.ireturn, 1) := by decide +kernel
theorem dX11_waits_22 : decode cX11_waits 22 = .ok (.aload_n 0, 1) := by decide +kernel
theorem dX11_waits_23 : decode cX11_waits 23 = .ok (.getfield 37, 3) := by decide +kernel
theorem dX11_waits_26 : decode cX11_waits 26 = .ok (.getfield 143, 3) := by decide +kernel
theorem dX11_waits_29 : decode cX11_waits 29 = .ok (.iload_n 1, 1) := by decide +kernel
theorem dX11_waits_30 : decode cX11_waits 30 = .ok (.aaload, 1) := by decide +kernel
theorem dX11_waits_31 : decode cX11_waits 31 = .ok (.astore 4, 2) := by decide +kernel
theorem dX11_waits_33 : decode cX11_waits 33 = .ok (.iload_n 2, 1) := by decide +kernel
theorem dX11_waits_34 : decode cX11_waits 34 = .ok (.ifCond .ne 11, 3) := by decide +kernel
theorem dX11_waits_37 : decode cX11_waits 37 = .ok (.aload 4, 2) := by decide +kernel
theorem dX11_waits_39 : decode cX11_waits 39 = .ok (.getfield 152, 3) := by decide +kernel
theorem dX11_waits_42 : decode cX11_waits 42 = .ok (.goto 8, 3) := by decide +kernel
theorem dX11_waits_45 : decode cX11_waits 45 = .ok (.aload 4, 2) := by decide +kernel
theorem dX11_waits_47 : decode cX11_waits 47 = .ok (.getfield 161, 3) := by decide +kernel
theorem dX11_waits_50 : decode cX11_waits 50 = .ok (.iload_n 3, 1) := by decide +kernel
theorem dX11_waits_51 : decode cX11_waits 51 = .ok (.invokevirtual 167, 3) := by decide +kernel
theorem dX11_waits_54 : decode cX11_waits 54 = .ok (.ireturn, 1) := by decide +kernel
theorem dX11_letter_0 : decode cX11_letter 0 = .ok (.aload_n 0, 1) := by decide +kernel
theorem dX11_letter_1 : decode cX11_letter 1 = .ok (.getfield 19, 3) := by decide +kernel
theorem dX11_letter_4 : decode cX11_letter 4 = .ok (.iload_n 1, 1) := by decide +kernel
theorem dX11_letter_5 : decode cX11_letter 5 = .ok (.invokevirtual 133, 3) := by decide +kernel
theorem dX11_letter_8 : decode cX11_letter 8 = .ok (.ifCond .eq 22, 3) := by decide +kernel
theorem dX11_letter_11 : decode cX11_letter 11 = .ok (.aload_n 0, 1) := by decide +kernel
theorem dX11_letter_12 : decode cX11_letter 12 = .ok (.getfield 37, 3) := by decide +kernel
theorem dX11_letter_15 : decode cX11_letter 15 = .ok (.getfield 143, 3) := by decide +kernel
theorem dX11_letter_18 : decode cX11_letter 18 = .ok (.iload_n 1, 1) := by decide +kernel
theorem dX11_letter_19 : decode cX11_letter 19 = .ok (.aaload, 1) := by decide +kernel
theorem dX11_letter_20 : decode cX11_letter 20 = .ok (.getfield 170, 3) := by decide +kernel
theorem dX11_letter_23 : decode cX11_letter 23 = .ok (.iload_n 2, 1) := by decide +kernel
theorem dX11_letter_24 : decode cX11_letter 24 = .ok (.invokevirtual 174, 3) := by decide +kernel
theorem dX11_letter_27 : decode cX11_letter 27 = .ok (.goto 4, 3) := by decide +kernel
theorem dX11_letter_30 : decode cX11_letter 30 = .ok (.iconst (-1), 1) := by decide +kernel
theorem dX11_letter_31 : decode cX11_letter 31 = .ok (.ireturn, 1) := by decide +kernel
theorem dX11_channel_0 : decode cX11_channel 0 = .ok (.iload_n 1, 1) := by decide +kernel
theorem dX11_channel_1 : decode cX11_channel 1 = .ok (.ifCond .lt 21, 3) := by decide +kernel
theorem dX11_channel_4 : decode cX11_channel 4 = .ok (.iload_n 1, 1) := by decide +kernel
theorem dX11_channel_5 : decode cX11_channel 5 = .ok (.sipush 9999, 3) := by decide +kernel
theorem dX11_channel_8 : decode cX11_channel 8 = .ok (.if_icmp .gt 14, 3) := by decide +kernel
theorem dX11_channel_11 : decode cX11_channel 11 = .ok (.aload_n 0, 1) := by decide +kernel
theorem dX11_channel_12 : decode cX11_channel 12 = .ok (.getfield 19, 3) := by decide +kernel
theorem dX11_channel_15 : decode cX11_channel 15 = .ok (.iload_n 2, 1) := by decide +kernel
theorem dX11_channel_16 : decode cX11_channel 16 = .ok (.invokevirtual 177, 3) := by decide +kernel
theorem dX11_channel_19 : decode cX11_channel 19 = .ok (.ifCond .ne 5, 3) := by decide +kernel
theorem dX11_channel_22 : decode cX11_channel 22 = .ok (.iconst (-1), 1) := by decide +kernel
theorem dX11_channel_23 : decode cX11_channel 23 = .ok (.ireturn, 1) := by decide +kernel
theorem dX11_channel_24 : decode cX11_channel 24 = .ok (.aload_n 0, 1) := by decide +kernel
theorem dX11_channel_25 : decode cX11_channel 25 = .ok (.getfield 19, 3) := by decide +kernel
theorem dX11_channel_28 : decode cX11_channel 28 = .ok (.iload_n 1, 1) := by decide +kernel
theorem dX11_channel_29 : decode cX11_channel 29 = .ok (.iload_n 2, 1) := by decide +kernel
theorem dX11_channel_30 : decode cX11_channel 30 = .ok (.invokevirtual 180, 3) := by decide +kernel
theorem dX11_channel_33 : decode cX11_channel 33 = .ok (.ireturn, 1) := by decide +kernel
theorem dX11_loss_0 : decode cX11_loss 0 = .ok (.iload_n 1, 1) := by decide +kernel
theorem dX11_loss_1 : decode cX11_loss 1 = .ok (.ifCond .lt 17, 3) := by decide +kernel
theorem dX11_loss_4 : decode cX11_loss 4 = .ok (.iload_n 1, 1) := by decide +kernel
theorem dX11_loss_5 : decode cX11_loss 5 = .ok (.bipush 9, 2) := by decide +kernel
theorem dX11_loss_7 : decode cX11_loss 7 = .ok (.if_icmp .gt 11, 3) := by decide +kernel
theorem dX11_loss_10 : decode cX11_loss 10 = .ok (.iload_n 1, 1) := by decide +kernel
theorem dX11_loss_11 : decode cX11_loss 11 = .ok (.aload_n 0, 1) := by decide +kernel
theorem dX11_loss_12 : decode cX11_loss 12 = .ok (.getfield 77, 3) := by decide +kernel
theorem dX11_loss_15 : decode cX11_loss 15 = .ok (.if_icmp .ne 5, 3) := by decide +kernel
theorem dX11_loss_18 : decode cX11_loss 18 = .ok (.iconst 0, 1) := by decide +kernel
theorem dX11_loss_19 : decode cX11_loss 19 = .ok (.ireturn, 1) := by decide +kernel
theorem dX11_loss_20 : decode cX11_loss 20 = .ok (.aload_n 0, 1) := by decide +kernel
theorem dX11_loss_21 : decode cX11_loss 21 = .ok (.iload_n 1, 1) := by decide +kernel
theorem dX11_loss_22 : decode cX11_loss 22 = .ok (.putfield 77, 3) := by decide +kernel
theorem dX11_loss_25 : decode cX11_loss 25 = .ok (.iconst 1, 1) := by decide +kernel
theorem dX11_loss_26 : decode cX11_loss 26 = .ok (.ireturn, 1) := by decide +kernel
theorem dX11_frames_0 : decode cX11_frames 0 = .ok (.aload_n 0, 1) := by decide +kernel
theorem dX11_frames_1 : decode cX11_frames 1 = .ok (.getfield 19, 3) := by decide +kernel
theorem dX11_frames_4 : decode cX11_frames 4 = .ok (.invokevirtual 123, 3) := by decide +kernel
theorem dX11_frames_7 : decode cX11_frames 7 = .ok (.ifCond .ne 9, 3) := by decide +kernel
theorem dX11_frames_10 : decode cX11_frames 10 = .ok (.aload_n 0, 1) := by decide +kernel
theorem dX11_frames_11 : decode cX11_frames 11 = .ok (.iconst 0, 1) := by decide +kernel
theorem dX11_frames_12 : decode cX11_frames 12 = .ok (.invokevirtual 183, 3) := by decide +kernel
theorem dX11_frames_15 : decode cX11_frames 15 = .ok (.ireturn, 1) := by decide +kernel
theorem dX11_frames_16 : decode cX11_frames 16 = .ok (.iload_n 1, 1) := by decide +kernel
theorem dX11_frames_17 : decode cX11_frames 17 = .ok (.iconst 1, 1) := by decide +kernel
theorem dX11_frames_18 : decode cX11_frames 18 = .ok (.if_icmp .lt 9, 3) := by decide +kernel
theorem dX11_frames_21 : decode cX11_frames 21 = .ok (.iload_n 1, 1) := by decide +kernel
theorem dX11_frames_22 : decode cX11_frames 22 = .ok (.bipush 40, 2) := by decide +kernel
theorem dX11_frames_24 : decode cX11_frames 24 = .ok (.if_icmp .le 9, 3) := by decide +kernel
theorem dX11_frames_27 : decode cX11_frames 27 = .ok (.aload_n 0, 1) := by decide +kernel
theorem dX11_frames_28 : decode cX11_frames 28 = .ok (.iconst 1, 1) := by decide +kernel
theorem dX11_frames_29 : decode cX11_frames 29 = .ok (.invokevirtual 183, 3) := by decide +kernel
theorem dX11_frames_32 : decode cX11_frames 32 = .ok (.ireturn, 1) := by decide +kernel
theorem dX11_frames_33 : decode cX11_frames 33 = .ok (.aload_n 0, 1) := by decide +kernel
theorem dX11_frames_34 : decode cX11_frames 34 = .ok (.getfield 37, 3) := by decide +kernel
theorem dX11_frames_37 : decode cX11_frames 37 = .ok (.invokevirtual 186, 3) := by decide +kernel
theorem dX11_frames_40 : decode cX11_frames 40 = .ok (.iload_n 1, 1) := by decide +kernel
theorem dX11_frames_41 : decode cX11_frames 41 = .ok (.iadd, 1) := by decide +kernel
theorem dX11_frames_42 : decode cX11_frames 42 = .ok (.sipush 9999, 3) := by decide +kernel
theorem dX11_frames_45 : decode cX11_frames 45 = .ok (.if_icmp .le 9, 3) := by decide +kernel
theorem dX11_frames_48 : decode cX11_frames 48 = .ok (.aload_n 0, 1) := by decide +kernel
theorem dX11_frames_49 : decode cX11_frames 49 = .ok (.iconst 4, 1) := by decide +kernel
theorem dX11_frames_50 : decode cX11_frames 50 = .ok (.invokevirtual 183, 3) := by decide +kernel
theorem dX11_frames_53 : decode cX11_frames 53 = .ok (.ireturn, 1) := by decide +kernel
theorem dX11_frames_54 : decode cX11_frames 54 = .ok (.iconst 0, 1) := by decide +kernel
theorem dX11_frames_55 : decode cX11_frames 55 = .ok (.istore_n 2, 1) := by decide +kernel
theorem dX11_frames_56 : decode cX11_frames 56 = .ok (.iload_n 2, 1) := by decide +kernel
theorem dX11_frames_57 : decode cX11_frames 57 = .ok (.iload_n 1, 1) := by decide +kernel
theorem dX11_frames_58 : decode cX11_frames 58 = .ok (.if_icmp .ge 27, 3) := by decide +kernel
theorem dX11_frames_61 : decode cX11_frames 61 = .ok (.aload_n 0, 1) := by decide +kernel
theorem dX11_frames_62 : decode cX11_frames 62 = .ok (.getfield 62, 3) := by decide +kernel
theorem dX11_frames_65 : decode cX11_frames 65 = .ok (.aload_n 0, 1) := by decide +kernel
theorem dX11_frames_66 : decode cX11_frames 66 = .ok (.getfield 37, 3) := by decide +kernel
theorem dX11_frames_69 : decode cX11_frames 69 = .ok (.getfield 189, 3) := by decide +kernel
theorem dX11_frames_72 : decode cX11_frames 72 = .ok (.invokevirtual 192, 3) := by decide +kernel
theorem dX11_frames_75 : decode cX11_frames 75 = .ok (.aload_n 0, 1) := by decide +kernel
theorem dX11_frames_76 : decode cX11_frames 76 = .ok (.invokevirtual 196, 3) := by decide +kernel
theorem dX11_frames_79 : decode cX11_frames 79 = .ok (.iinc 2 1, 3) := by decide +kernel
theorem dX11_frames_82 : decode cX11_frames 82 = .ok (.goto (-26), 3) := by decide +kernel
theorem dX11_frames_85 : decode cX11_frames 85 = .ok (.aload_n 0, 1) := by decide +kernel
theorem dX11_frames_86 : decode cX11_frames 86 = .ok (.getfield 37, 3) := by decide +kernel
theorem dX11_frames_89 : decode cX11_frames 89 = .ok (.invokevirtual 186, 3) := by decide +kernel
theorem dX11_frames_92 : decode cX11_frames 92 = .ok (.ireturn, 1) := by decide +kernel
theorem dX11_deal_0 : decode cX11_deal 0 = .ok (.aload_n 0, 1) := by decide +kernel
theorem dX11_deal_1 : decode cX11_deal 1 = .ok (.getfield 19, 3) := by decide +kernel
theorem dX11_deal_4 : decode cX11_deal 4 = .ok (.iload_n 1, 1) := by decide +kernel
theorem dX11_deal_5 : decode cX11_deal 5 = .ok (.invokevirtual 133, 3) := by decide +kernel
theorem dX11_deal_8 : decode cX11_deal 8 = .ok (.ifCond .ne 9, 3) := by decide +kernel
theorem dX11_deal_11 : decode cX11_deal 11 = .ok (.aload_n 0, 1) := by decide +kernel
theorem dX11_deal_12 : decode cX11_deal 12 = .ok (.iconst 0, 1) := by decide +kernel
theorem dX11_deal_13 : decode cX11_deal 13 = .ok (.invokevirtual 183, 3) := by decide +kernel
theorem dX11_deal_16 : decode cX11_deal 16 = .ok (.ireturn, 1) := by decide +kernel
theorem dX11_deal_17 : decode cX11_deal 17 = .ok (.iload_n 2, 1) := by decide +kernel
theorem dX11_deal_18 : decode cX11_deal 18 = .ok (.iload_n 3, 1) := by decide +kernel
theorem dX11_deal_19 : decode cX11_deal 19 = .ok (.invokestatic 199, 3) := by decide +kernel
theorem dX11_deal_22 : decode cX11_deal 22 = .ok (.ifCond .ne 9, 3) := by decide +kernel
theorem dX11_deal_25 : decode cX11_deal 25 = .ok (.aload_n 0, 1) := by decide +kernel
theorem dX11_deal_26 : decode cX11_deal 26 = .ok (.iconst 1, 1) := by decide +kernel
theorem dX11_deal_27 : decode cX11_deal 27 = .ok (.invokevirtual 183, 3) := by decide +kernel
theorem dX11_deal_30 : decode cX11_deal 30 = .ok (.ireturn, 1) := by decide +kernel
theorem dX11_deal_31 : decode cX11_deal 31 = .ok (.aload_n 0, 1) := by decide +kernel
theorem dX11_deal_32 : decode cX11_deal 32 = .ok (.getfield 37, 3) := by decide +kernel
theorem dX11_deal_35 : decode cX11_deal 35 = .ok (.getfield 143, 3) := by decide +kernel
theorem dX11_deal_38 : decode cX11_deal 38 = .ok (.iload_n 1, 1) := by decide +kernel
theorem dX11_deal_39 : decode cX11_deal 39 = .ok (.aaload, 1) := by decide +kernel
theorem dX11_deal_40 : decode cX11_deal 40 = .ok (.astore 4, 2) := by decide +kernel
theorem dX11_deal_42 : decode cX11_deal 42 = .ok (.iload_n 2, 1) := by decide +kernel
theorem dX11_deal_43 : decode cX11_deal 43 = .ok (.iconst 2, 1) := by decide +kernel
theorem dX11_deal_44 : decode cX11_deal 44 = .ok (.if_icmp .ne 22, 3) := by decide +kernel
theorem dX11_deal_47 : decode cX11_deal 47 = .ok (.aload 4, 2) := by decide +kernel
theorem dX11_deal_49 : decode cX11_deal 49 = .ok (.getfield 152, 3) := by decide +kernel
theorem dX11_deal_52 : decode cX11_deal 52 = .ok (.iload_n 3, 1) := by decide +kernel
theorem dX11_deal_53 : decode cX11_deal 53 = .ok (.invokevirtual 164, 3) := by decide +kernel
theorem dX11_deal_56 : decode cX11_deal 56 = .ok (.iconst (-1), 1) := by decide +kernel
theorem dX11_deal_57 : decode cX11_deal 57 = .ok (.if_icmp .ne 9, 3) := by decide +kernel
theorem dX11_deal_60 : decode cX11_deal 60 = .ok (.aload_n 0, 1) := by decide +kernel
theorem dX11_deal_61 : decode cX11_deal 61 = .ok (.iconst 2, 1) := by decide +kernel
theorem dX11_deal_62 : decode cX11_deal 62 = .ok (.invokevirtual 183, 3) := by decide +kernel
theorem dX11_deal_65 : decode cX11_deal 65 = .ok (.ireturn, 1) := by decide +kernel
theorem dX11_deal_66 : decode cX11_deal 66 = .ok (.aload_n 0, 1) := by decide +kernel
theorem dX11_deal_67 : decode cX11_deal 67 = .ok (.getfield 46, 3) := by decide +kernel
theorem dX11_deal_70 : decode cX11_deal 70 = .ok (.aload 4, 2) := by decide +kernel
theorem dX11_deal_72 : decode cX11_deal 72 = .ok (.iload_n 2, 1) := by decide +kernel
theorem dX11_deal_73 : decode cX11_deal 73 = .ok (.invokevirtual 203, 3) := by decide +kernel
theorem dX11_deal_76 : decode cX11_deal 76 = .ok (.ifCond .ne 9, 3) := by decide +kernel
theorem dX11_deal_79 : decode cX11_deal 79 = .ok (.aload_n 0, 1) := by decide +kernel
theorem dX11_deal_80 : decode cX11_deal 80 = .ok (.iconst 3, 1) := by decide +kernel
theorem dX11_deal_81 : decode cX11_deal 81 = .ok (.invokevirtual 183, 3) := by decide +kernel
theorem dX11_deal_84 : decode cX11_deal 84 = .ok (.ireturn, 1) := by decide +kernel
theorem dX11_deal_85 : decode cX11_deal 85 = .ok (.aload_n 0, 1) := by decide +kernel
theorem dX11_deal_86 : decode cX11_deal 86 = .ok (.getfield 62, 3) := by decide +kernel
theorem dX11_deal_89 : decode cX11_deal 89 = .ok (.aload_n 0, 1) := by decide +kernel
theorem dX11_deal_90 : decode cX11_deal 90 = .ok (.getfield 37, 3) := by decide +kernel
theorem dX11_deal_93 : decode cX11_deal 93 = .ok (.getfield 189, 3) := by decide +kernel
theorem dX11_deal_96 : decode cX11_deal 96 = .ok (.invokevirtual 192, 3) := by decide +kernel
theorem dX11_deal_99 : decode cX11_deal 99 = .ok (.aload_n 0, 1) := by decide +kernel
theorem dX11_deal_100 : decode cX11_deal 100 = .ok (.getfield 46, 3) := by decide +kernel
theorem dX11_deal_103 : decode cX11_deal 103 = .ok (.aload 4, 2) := by decide +kernel
theorem dX11_deal_105 : decode cX11_deal 105 = .ok (.iload_n 2, 1) := by decide +kernel
theorem dX11_deal_106 : decode cX11_deal 106 = .ok (.iload_n 3, 1) := by decide +kernel
theorem dX11_deal_107 : decode cX11_deal 107 = .ok (.invokevirtual 207, 3) := by decide +kernel
theorem dX11_deal_110 : decode cX11_deal 110 = .ok (.ireturn, 1) := by decide +kernel
theorem dX11_lose_0 : decode cX11_lose 0 = .ok (.aload_n 0, 1) := by decide +kernel
theorem dX11_lose_1 : decode cX11_lose 1 = .ok (.getfield 19, 3) := by decide +kernel
theorem dX11_lose_4 : decode cX11_lose 4 = .ok (.iload_n 1, 1) := by decide +kernel
theorem dX11_lose_5 : decode cX11_lose 5 = .ok (.invokevirtual 133, 3) := by decide +kernel
theorem dX11_lose_8 : decode cX11_lose 8 = .ok (.ifCond .ne 9, 3) := by decide +kernel
theorem dX11_lose_11 : decode cX11_lose 11 = .ok (.aload_n 0, 1) := by decide +kernel
theorem dX11_lose_12 : decode cX11_lose 12 = .ok (.iconst 0, 1) := by decide +kernel
theorem dX11_lose_13 : decode cX11_lose 13 = .ok (.invokevirtual 183, 3) := by decide +kernel
theorem dX11_lose_16 : decode cX11_lose 16 = .ok (.ireturn, 1) := by decide +kernel
theorem dX11_lose_17 : decode cX11_lose 17 = .ok (.aload_n 0, 1) := by decide +kernel
theorem dX11_lose_18 : decode cX11_lose 18 = .ok (.getfield 37, 3) := by decide +kernel
theorem dX11_lose_21 : decode cX11_lose 21 = .ok (.getfield 143, 3) := by decide +kernel
theorem dX11_lose_24 : decode cX11_lose 24 = .ok (.iload_n 1, 1) := by decide +kernel
theorem dX11_lose_25 : decode cX11_lose 25 = .ok (.aaload, 1) := by decide +kernel
theorem dX11_lose_26 : decode cX11_lose 26 = .ok (.getfield 170, 3) := by decide +kernel
theorem dX11_lose_29 : decode cX11_lose 29 = .ok (.astore_n 2, 1) := by decide +kernel
theorem dX11_lose_30 : decode cX11_lose 30 = .ok (.aload_n 2, 1) := by decide +kernel
theorem dX11_lose_31 : decode cX11_lose 31 = .ok (.invokevirtual 211, 3) := by decide +kernel
theorem dX11_lose_34 : decode cX11_lose 34 = .ok (.ifCond .ne 9, 3) := by decide +kernel
theorem dX11_lose_37 : decode cX11_lose 37 = .ok (.aload_n 0, 1) := by decide +kernel
theorem dX11_lose_38 : decode cX11_lose 38 = .ok (.iconst 2, 1) := by decide +kernel
theorem dX11_lose_39 : decode cX11_lose 39 = .ok (.invokevirtual 183, 3) := by decide +kernel
theorem dX11_lose_42 : decode cX11_lose 42 = .ok (.ireturn, 1) := by decide +kernel
theorem dX11_lose_43 : decode cX11_lose 43 = .ok (.aload_n 0, 1) := by decide +kernel
theorem dX11_lose_44 : decode cX11_lose 44 = .ok (.getfield 62, 3) := by decide +kernel
theorem dX11_lose_47 : decode cX11_lose 47 = .ok (.aload_n 0, 1) := by decide +kernel
theorem dX11_lose_48 : decode cX11_lose 48 = .ok (.getfield 37, 3) := by decide +kernel
theorem dX11_lose_51 : decode cX11_lose 51 = .ok (.getfield 189, 3) := by decide +kernel
theorem dX11_lose_54 : decode cX11_lose 54 = .ok (.invokevirtual 192, 3) := by decide +kernel
theorem dX11_lose_57 : decode cX11_lose 57 = .ok (.aload_n 2, 1) := by decide +kernel
theorem dX11_lose_58 : decode cX11_lose 58 = .ok (.invokevirtual 214, 3) := by decide +kernel
theorem dX11_lose_61 : decode cX11_lose 61 = .ok (.aload_n 2, 1) := by decide +kernel
theorem dX11_lose_62 : decode cX11_lose 62 = .ok (.invokevirtual 217, 3) := by decide +kernel
theorem dX11_lose_65 : decode cX11_lose 65 = .ok (.ireturn, 1) := by decide +kernel
theorem dX11_jam_0 : decode cX11_jam 0 = .ok (.aload_n 0, 1) := by decide +kernel
theorem dX11_jam_1 : decode cX11_jam 1 = .ok (.getfield 19, 3) := by decide +kernel
theorem dX11_jam_4 : decode cX11_jam 4 = .ok (.invokevirtual 123, 3) := by decide +kernel
theorem dX11_jam_7 : decode cX11_jam 7 = .ok (.ifCond .ne 9, 3) := by decide +kernel
theorem dX11_jam_10 : decode cX11_jam 10 = .ok (.aload_n 0, 1) := by decide +kernel
theorem dX11_jam_11 : decode cX11_jam 11 = .ok (.iconst 0, 1) := by decide +kernel
theorem dX11_jam_12 : decode cX11_jam 12 = .ok (.invokevirtual 183, 3) := by decide +kernel
theorem dX11_jam_15 : decode cX11_jam 15 = .ok (.ireturn, 1) := by decide +kernel
theorem dX11_jam_16 : decode cX11_jam 16 = .ok (.iload_n 1, 1) := by decide +kernel
theorem dX11_jam_17 : decode cX11_jam 17 = .ok (.ifCond .lt 9, 3) := by decide +kernel
theorem dX11_jam_20 : decode cX11_jam 20 = .ok (.iload_n 1, 1) := by decide +kernel
theorem dX11_jam_21 : decode cX11_jam 21 = .ok (.bipush 16, 2) := by decide +kernel
theorem dX11_jam_23 : decode cX11_jam 23 = .ok (.if_icmp .lt 9, 3) := by decide +kernel
theorem dX11_jam_26 : decode cX11_jam 26 = .ok (.aload_n 0, 1) := by decide +kernel
theorem dX11_jam_27 : decode cX11_jam 27 = .ok (.iconst 1, 1) := by decide +kernel
theorem dX11_jam_28 : decode cX11_jam 28 = .ok (.invokevirtual 183, 3) := by decide +kernel
theorem dX11_jam_31 : decode cX11_jam 31 = .ok (.ireturn, 1) := by decide +kernel
theorem dX11_jam_32 : decode cX11_jam 32 = .ok (.aload_n 0, 1) := by decide +kernel
theorem dX11_jam_33 : decode cX11_jam 33 = .ok (.getfield 62, 3) := by decide +kernel
theorem dX11_jam_36 : decode cX11_jam 36 = .ok (.aload_n 0, 1) := by decide +kernel
theorem dX11_jam_37 : decode cX11_jam 37 = .ok (.getfield 37, 3) := by decide +kernel
theorem dX11_jam_40 : decode cX11_jam 40 = .ok (.getfield 189, 3) := by decide +kernel
theorem dX11_jam_43 : decode cX11_jam 43 = .ok (.invokevirtual 192, 3) := by decide +kernel
theorem dX11_jam_46 : decode cX11_jam 46 = .ok (.aload_n 0, 1) := by decide +kernel
theorem dX11_jam_47 : decode cX11_jam 47 = .ok (.getfield 37, 3) := by decide +kernel
theorem dX11_jam_50 : decode cX11_jam 50 = .ok (.iload_n 1, 1) := by decide +kernel
theorem dX11_jam_51 : decode cX11_jam 51 = .ok (.invokevirtual 220, 3) := by decide +kernel
theorem dX11_jam_54 : decode cX11_jam 54 = .ok (.aload_n 0, 1) := by decide +kernel
theorem dX11_jam_55 : decode cX11_jam 55 = .ok (.getfield 37, 3) := by decide +kernel
theorem dX11_jam_58 : decode cX11_jam 58 = .ok (.iload_n 1, 1) := by decide +kernel
theorem dX11_jam_59 : decode cX11_jam 59 = .ok (.invokevirtual 223, 3) := by decide +kernel
theorem dX11_jam_62 : decode cX11_jam 62 = .ok (.ifCond .eq 7, 3) := by decide +kernel
theorem dX11_jam_65 : decode cX11_jam 65 = .ok (.iconst 1, 1) := by decide +kernel
theorem dX11_jam_66 : decode cX11_jam 66 = .ok (.goto 4, 3) := by decide +kernel
theorem dX11_jam_69 : decode cX11_jam 69 = .ok (.iconst 0, 1) := by decide +kernel
theorem dX11_jam_70 : decode cX11_jam 70 = .ok (.ireturn, 1) := by decide +kernel
theorem dX11_load_0 : decode cX11_load 0 = .ok (.aload_n 0, 1) := by decide +kernel
theorem dX11_load_1 : decode cX11_load 1 = .ok (.getfield 19, 3) := by decide +kernel
theorem dX11_load_4 : decode cX11_load 4 = .ok (.iload_n 1, 1) := by decide +kernel
theorem dX11_load_5 : decode cX11_load 5 = .ok (.invokevirtual 133, 3) := by decide +kernel
theorem dX11_load_8 : decode cX11_load 8 = .ok (.ifCond .ne 9, 3) := by decide +kernel
theorem dX11_load_11 : decode cX11_load 11 = .ok (.aload_n 0, 1) := by decide +kernel
theorem dX11_load_12 : decode cX11_load 12 = .ok (.iconst 0, 1) := by decide +kernel
theorem dX11_load_13 : decode cX11_load 13 = .ok (.invokevirtual 183, 3) := by decide +kernel
theorem dX11_load_16 : decode cX11_load 16 = .ok (.ireturn, 1) := by decide +kernel
theorem dX11_load_17 : decode cX11_load 17 = .ok (.iload_n 2, 1) := by decide +kernel
theorem dX11_load_18 : decode cX11_load 18 = .ok (.ifCond .lt 9, 3) := by decide +kernel
theorem dX11_load_21 : decode cX11_load 21 = .ok (.iload_n 2, 1) := by decide +kernel
theorem dX11_load_22 : decode cX11_load 22 = .ok (.bipush 9, 2) := by decide +kernel
theorem dX11_load_24 : decode cX11_load 24 = .ok (.if_icmp .le 9, 3) := by decide +kernel
theorem dX11_load_27 : decode cX11_load 27 = .ok (.aload_n 0, 1) := by decide +kernel
theorem dX11_load_28 : decode cX11_load 28 = .ok (.iconst 1, 1) := by decide +kernel
theorem dX11_load_29 : decode cX11_load 29 = .ok (.invokevirtual 183, 3) := by decide +kernel
theorem dX11_load_32 : decode cX11_load 32 = .ok (.ireturn, 1) := by decide +kernel
theorem dX11_load_33 : decode cX11_load 33 = .ok (.aload_n 0, 1) := by decide +kernel
theorem dX11_load_34 : decode cX11_load 34 = .ok (.getfield 37, 3) := by decide +kernel
theorem dX11_load_37 : decode cX11_load 37 = .ok (.getfield 143, 3) := by decide +kernel
theorem dX11_load_40 : decode cX11_load 40 = .ok (.iload_n 1, 1) := by decide +kernel
theorem dX11_load_41 : decode cX11_load 41 = .ok (.aaload, 1) := by decide +kernel
theorem dX11_load_42 : decode cX11_load 42 = .ok (.astore_n 3, 1) := by decide +kernel
theorem dX11_load_43 : decode cX11_load 43 = .ok (.aload_n 3, 1) := by decide +kernel
theorem dX11_load_44 : decode cX11_load 44 = .ok (.iconst 3, 1) := by decide +kernel
theorem dX11_load_45 : decode cX11_load 45 = .ok (.invokevirtual 147, 3) := by decide +kernel
theorem dX11_load_48 : decode cX11_load 48 = .ok (.istore 4, 2) := by decide +kernel
theorem dX11_load_50 : decode cX11_load 50 = .ok (.iload 4, 2) := by decide +kernel
theorem dX11_load_52 : decode cX11_load 52 = .ok (.iload_n 2, 1) := by decide +kernel
theorem dX11_load_53 : decode cX11_load 53 = .ok (.if_icmp .ne 9, 3) := by decide +kernel
theorem dX11_load_56 : decode cX11_load 56 = .ok (.aload_n 0, 1) := by decide +kernel
theorem dX11_load_57 : decode cX11_load 57 = .ok (.iconst 2, 1) := by decide +kernel
theorem dX11_load_58 : decode cX11_load 58 = .ok (.invokevirtual 183, 3) := by decide +kernel
theorem dX11_load_61 : decode cX11_load 61 = .ok (.ireturn, 1) := by decide +kernel
theorem dX11_load_62 : decode cX11_load 62 = .ok (.aload_n 0, 1) := by decide +kernel
theorem dX11_load_63 : decode cX11_load 63 = .ok (.getfield 62, 3) := by decide +kernel
theorem dX11_load_66 : decode cX11_load 66 = .ok (.aload_n 0, 1) := by decide +kernel
theorem dX11_load_67 : decode cX11_load 67 = .ok (.getfield 37, 3) := by decide +kernel
theorem dX11_load_70 : decode cX11_load 70 = .ok (.getfield 189, 3) := by decide +kernel
theorem dX11_load_73 : decode cX11_load 73 = .ok (.invokevirtual 192, 3) := by decide +kernel
theorem dX11_load_76 : decode cX11_load 76 = .ok (.aload_n 3, 1) := by decide +kernel
theorem dX11_load_77 : decode cX11_load 77 = .ok (.iload_n 2, 1) := by decide +kernel
theorem dX11_load_78 : decode cX11_load 78 = .ok (.invokevirtual 226, 3) := by decide +kernel
theorem dX11_load_81 : decode cX11_load 81 = .ok (.iload 4, 2) := by decide +kernel
theorem dX11_load_83 : decode cX11_load 83 = .ok (.ireturn, 1) := by decide +kernel
theorem dX11_auto_0 : decode cX11_auto 0 = .ok (.aload_n 0, 1) := by decide +kernel
theorem dX11_auto_1 : decode cX11_auto 1 = .ok (.getfield 19, 3) := by decide +kernel
theorem dX11_auto_4 : decode cX11_auto 4 = .ok (.invokevirtual 123, 3) := by decide +kernel
theorem dX11_auto_7 : decode cX11_auto 7 = .ok (.ifCond .ne 9, 3) := by decide +kernel
theorem dX11_auto_10 : decode cX11_auto 10 = .ok (.aload_n 0, 1) := by decide +kernel
theorem dX11_auto_11 : decode cX11_auto 11 = .ok (.iconst 0, 1) := by decide +kernel
theorem dX11_auto_12 : decode cX11_auto 12 = .ok (.invokevirtual 183, 3) := by decide +kernel
theorem dX11_auto_15 : decode cX11_auto 15 = .ok (.ireturn, 1) := by decide +kernel
theorem dX11_auto_16 : decode cX11_auto 16 = .ok (.aload_n 0, 1) := by decide +kernel
theorem dX11_auto_17 : decode cX11_auto 17 = .ok (.getfield 62, 3) := by decide +kernel
theorem dX11_auto_20 : decode cX11_auto 20 = .ok (.aload_n 0, 1) := by decide +kernel
theorem dX11_auto_21 : decode cX11_auto 21 = .ok (.getfield 37, 3) := by decide +kernel
theorem dX11_auto_24 : decode cX11_auto 24 = .ok (.getfield 189, 3) := by decide +kernel
theorem dX11_auto_27 : decode cX11_auto 27 = .ok (.invokevirtual 192, 3) := by decide +kernel
theorem dX11_auto_30 : decode cX11_auto 30 = .ok (.aload_n 0, 1) := by decide +kernel
theorem dX11_auto_31 : decode cX11_auto 31 = .ok (.getfield 37, 3) := by decide +kernel
theorem dX11_auto_34 : decode cX11_auto 34 = .ok (.invokevirtual 229, 3) := by decide +kernel
theorem dX11_auto_37 : decode cX11_auto 37 = .ok (.aload_n 0, 1) := by decide +kernel
theorem dX11_auto_38 : decode cX11_auto 38 = .ok (.getfield 37, 3) := by decide +kernel
theorem dX11_auto_41 : decode cX11_auto 41 = .ok (.invokevirtual 127, 3) := by decide +kernel
theorem dX11_auto_44 : decode cX11_auto 44 = .ok (.ireturn, 1) := by decide +kernel
theorem dX11_years_0 : decode cX11_years 0 = .ok (.aload_n 0, 1) := by decide +kernel
theorem dX11_years_1 : decode cX11_years 1 = .ok (.getfield 19, 3) := by decide +kernel
theorem dX11_years_4 : decode cX11_years 4 = .ok (.invokevirtual 123, 3) := by decide +kernel
theorem dX11_years_7 : decode cX11_years 7 = .ok (.ifCond .eq 29, 3) := by decide +kernel
theorem dX11_years_10 : decode cX11_years 10 = .ok (.iload_n 1, 1) := by decide +kernel
theorem dX11_years_11 : decode cX11_years 11 = .ok (.iconst 1, 1) := by decide +kernel
theorem dX11_years_12 : decode cX11_years 12 = .ok (.if_icmp .lt 24, 3) := by decide +kernel
theorem dX11_years_15 : decode cX11_years 15 = .ok (.iload_n 1, 1) := by decide +kernel
theorem dX11_years_16 : decode cX11_years 16 = .ok (.bipush 40, 2) := by decide +kernel
theorem dX11_years_18 : decode cX11_years 18 = .ok (.if_icmp .gt 18, 3) := by decide +kernel
theorem dX11_years_21 : decode cX11_years 21 = .ok (.aload_n 0, 1) := by decide +kernel
theorem dX11_years_22 : decode cX11_years 22 = .ok (.getfield 37, 3) := by decide +kernel
theorem dX11_years_25 : decode cX11_years 25 = .ok (.invokevirtual 186, 3) := by decide +kernel
theorem dX11_years_28 : decode cX11_years 28 = .ok (.iload_n 1, 1) := by decide +kernel
theorem dX11_years_29 : decode cX11_years 29 = .ok (.iadd, 1) := by decide +kernel
theorem dX11_years_30 : decode cX11_years 30 = .ok (.sipush 9999, 3) := by decide +kernel
theorem dX11_years_33 : decode cX11_years 33 = .ok (.if_icmp .le 5, 3) := by decide +kernel
theorem dX11_years_36 : decode cX11_years 36 = .ok (.iconst (-1), 1) := by decide +kernel
theorem dX11_years_37 : decode cX11_years 37 = .ok (.ireturn, 1) := by decide +kernel
theorem dX11_years_38 : decode cX11_years 38 = .ok (.aload_n 0, 1) := by decide +kernel
theorem dX11_years_39 : decode cX11_years 39 = .ok (.lload_n 2, 1) := by decide +kernel
theorem dX11_years_40 : decode cX11_years 40 = .ok (.putfield 232, 3) := by decide +kernel
theorem dX11_years_43 : decode cX11_years 43 = .ok (.iconst 0, 1) := by decide +kernel
theorem dX11_years_44 : decode cX11_years 44 = .ok (.istore 4, 2) := by decide +kernel
theorem dX11_years_46 : decode cX11_years 46 = .ok (.iload 4, 2) := by decide +kernel
theorem dX11_years_48 : decode cX11_years 48 = .ok (.iload_n 1, 1) := by decide +kernel
theorem dX11_years_49 : decode cX11_years 49 = .ok (.if_icmp .ge 31, 3) := by decide +kernel
theorem dX11_years_52 : decode cX11_years 52 = .ok (.aload_n 0, 1) := by decide +kernel
theorem dX11_years_53 : decode cX11_years 53 = .ok (.getfield 62, 3) := by decide +kernel
theorem dX11_years_56 : decode cX11_years 56 = .ok (.aload_n 0, 1) := by decide +kernel
theorem dX11_years_57 : decode cX11_years 57 = .ok (.getfield 37, 3) := by decide +kernel
theorem dX11_years_60 : decode cX11_years 60 = .ok (.getfield 189, 3) := by decide +kernel
theorem dX11_years_63 : decode cX11_years 63 = .ok (.invokevirtual 192, 3) := by decide +kernel
theorem dX11_years_66 : decode cX11_years 66 = .ok (.aload_n 0, 1) := by decide +kernel
theorem dX11_years_67 : decode cX11_years 67 = .ok (.invokevirtual 236, 3) := by decide +kernel
theorem dX11_years_70 : decode cX11_years 70 = .ok (.aload_n 0, 1) := by decide +kernel
theorem dX11_years_71 : decode cX11_years 71 = .ok (.invokevirtual 196, 3) := by decide +kernel
theorem dX11_years_74 : decode cX11_years 74 = .ok (.iinc 4 1, 3) := by decide +kernel
theorem dX11_years_77 : decode cX11_years 77 = .ok (.goto (-31), 3) := by decide +kernel
theorem dX11_years_80 : decode cX11_years 80 = .ok (.aload_n 0, 1) := by decide +kernel
theorem dX11_years_81 : decode cX11_years 81 = .ok (.getfield 37, 3) := by decide +kernel
theorem dX11_years_84 : decode cX11_years 84 = .ok (.invokevirtual 186, 3) := by decide +kernel
theorem dX11_years_87 : decode cX11_years 87 = .ok (.ireturn, 1) := by decide +kernel
theorem dX11_status_0 : decode cX11_status 0 = .ok (.iload_n 1, 1) := by decide +kernel
theorem dX11_status_1 : decode cX11_status 1 = .ok (.ifCond .lt 21, 3) := by decide +kernel
theorem dX11_status_4 : decode cX11_status 4 = .ok (.iload_n 1, 1) := by decide +kernel
theorem dX11_status_5 : decode cX11_status 5 = .ok (.aload_n 0, 1) := by decide +kernel
theorem dX11_status_6 : decode cX11_status 6 = .ok (.getfield 73, 3) := by decide +kernel
theorem dX11_status_9 : decode cX11_status 9 = .ok (.arraylength, 1) := by decide +kernel
theorem dX11_status_10 : decode cX11_status 10 = .ok (.if_icmp .ge 12, 3) := by decide +kernel
theorem dX11_status_13 : decode cX11_status 13 = .ok (.aload_n 0, 1) := by decide +kernel
theorem dX11_status_14 : decode cX11_status 14 = .ok (.getfield 73, 3) := by decide +kernel
theorem dX11_status_17 : decode cX11_status 17 = .ok (.iload_n 1, 1) := by decide +kernel
theorem dX11_status_18 : decode cX11_status 18 = .ok (.iaload, 1) := by decide +kernel
theorem dX11_status_19 : decode cX11_status 19 = .ok (.goto 4, 3) := by decide +kernel
theorem dX11_status_22 : decode cX11_status 22 = .ok (.iconst (-1), 1) := by decide +kernel
theorem dX11_status_23 : decode cX11_status 23 = .ok (.ireturn, 1) := by decide +kernel
theorem dX11_undo_0 : decode cX11_undo 0 = .ok (.aload_n 0, 1) := by decide +kernel
theorem dX11_undo_1 : decode cX11_undo 1 = .ok (.getfield 62, 3) := by decide +kernel
theorem dX11_undo_4 : decode cX11_undo 4 = .ok (.aload_n 0, 1) := by decide +kernel
theorem dX11_undo_5 : decode cX11_undo 5 = .ok (.getfield 37, 3) := by decide +kernel
theorem dX11_undo_8 : decode cX11_undo 8 = .ok (.getfield 189, 3) := by decide +kernel
theorem dX11_undo_11 : decode cX11_undo 11 = .ok (.invokevirtual 239, 3) := by decide +kernel
theorem dX11_undo_14 : decode cX11_undo 14 = .ok (.ifCond .eq 13, 3) := by decide +kernel
theorem dX11_undo_17 : decode cX11_undo 17 = .ok (.aload_n 0, 1) := by decide +kernel
theorem dX11_undo_18 : decode cX11_undo 18 = .ok (.getfield 62, 3) := by decide +kernel
theorem dX11_undo_21 : decode cX11_undo 21 = .ok (.invokevirtual 243, 3) := by decide +kernel
theorem dX11_undo_24 : decode cX11_undo 24 = .ok (.goto 4, 3) := by decide +kernel
theorem dX11_undo_27 : decode cX11_undo 27 = .ok (.iconst (-1), 1) := by decide +kernel
theorem dX11_undo_28 : decode cX11_undo 28 = .ok (.ireturn, 1) := by decide +kernel
theorem dX11_log_0 : decode cX11_log 0 = .ok (.aload_n 0, 1) := by decide +kernel
theorem dX11_log_1 : decode cX11_log 1 = .ok (.getfield 62, 3) := by decide +kernel
theorem dX11_log_4 : decode cX11_log 4 = .ok (.iload_n 1, 1) := by decide +kernel
theorem dX11_log_5 : decode cX11_log 5 = .ok (.iload_n 2, 1) := by decide +kernel
theorem dX11_log_6 : decode cX11_log 6 = .ok (.invokevirtual 246, 3) := by decide +kernel
theorem dX11_log_9 : decode cX11_log 9 = .ok (.ireturn, 1) := by decide +kernel
theorem dX11_offer_0 : decode cX11_offer 0 = .ok (.aload_n 0, 1) := by decide +kernel
theorem dX11_offer_1 : decode cX11_offer 1 = .ok (.getfield 19, 3) := by decide +kernel
theorem dX11_offer_4 : decode cX11_offer 4 = .ok (.iload_n 1, 1) := by decide +kernel
theorem dX11_offer_5 : decode cX11_offer 5 = .ok (.invokevirtual 133, 3) := by decide +kernel
theorem dX11_offer_8 : decode cX11_offer 8 = .ok (.ifCond .eq 24, 3) := by decide +kernel
theorem dX11_offer_11 : decode cX11_offer 11 = .ok (.iload_n 3, 1) := by decide +kernel
theorem dX11_offer_12 : decode cX11_offer 12 = .ok (.ifCond .lt 20, 3) := by decide +kernel
theorem dX11_offer_15 : decode cX11_offer 15 = .ok (.iload_n 3, 1) := by decide +kernel
theorem dX11_offer_16 : decode cX11_offer 16 = .ok (.aload_n 0, 1) := by decide +kernel
theorem dX11_offer_17 : decode cX11_offer 17 = .ok (.getfield 19, 3) := by decide +kernel
theorem dX11_offer_20 : decode cX11_offer 20 = .ok (.invokevirtual 249, 3) := by decide +kernel
theorem dX11_offer_23 : decode cX11_offer 23 = .ok (.if_icmp .ge 9, 3) := by decide +kernel
theorem dX11_offer_26 : decode cX11_offer 26 = .ok (.iload 4, 2) := by decide +kernel
theorem dX11_offer_28 : decode cX11_offer 28 = .ok (.iconst (-1), 1) := by decide +kernel
theorem dX11_offer_29 : decode cX11_offer 29 = .ok (.if_icmp .ge 5, 3) := by decide +kernel
theorem dX11_offer_32 : decode cX11_offer 32 = .ok (.iconst (-1), 1) := by decide +kernel
theorem dX11_offer_33 : decode cX11_offer 33 = .ok (.ireturn, 1) := by decide +kernel
theorem dX11_offer_34 : decode cX11_offer 34 = .ok (.iload_n 2, 1) := by decide +kernel
theorem dX11_offer_35 : decode cX11_offer 35 = .ok (.aload_n 0, 1) := by decide +kernel
theorem dX11_offer_36 : decode cX11_offer 36 = .ok (.getfield 19, 3) := by decide +kernel
theorem dX11_offer_39 : decode cX11_offer 39 = .ok (.iload_n 1, 1) := by decide +kernel
theorem dX11_offer_40 : decode cX11_offer 40 = .ok (.iconst 0, 1) := by decide +kernel
theorem dX11_offer_41 : decode cX11_offer 41 = .ok (.invokevirtual 139, 3) := by decide +kernel
theorem dX11_offer_44 : decode cX11_offer 44 = .ok (.if_icmp .eq 18, 3) := by decide +kernel
theorem dX11_offer_47 : decode cX11_offer 47 = .ok (.iload_n 2, 1) := by decide +kernel
theorem dX11_offer_48 : decode cX11_offer 48 = .ok (.aload_n 0, 1) := by decide +kernel
theorem dX11_offer_49 : decode cX11_offer 49 = .ok (.getfield 19, 3) := by decide +kernel
theorem dX11_offer_52 : decode cX11_offer 52 = .ok (.iload_n 1, 1) := by decide +kernel
theorem dX11_offer_53 : decode cX11_offer 53 = .ok (.iconst 1, 1) := by decide +kernel
theorem dX11_offer_54 : decode cX11_offer 54 = .ok (.invokevirtual 139, 3) := by decide +kernel
theorem dX11_offer_57 : decode cX11_offer 57 = .ok (.if_icmp .eq 5, 3) := by decide +kernel
theorem dX11_offer_60 : decode cX11_offer 60 = .ok (.iconst (-1), 1) := by decide +kernel
theorem dX11_offer_61 : decode cX11_offer 61 = .ok (.ireturn, 1) := by decide +kernel
theorem dX11_offer_62 : decode cX11_offer 62 = .ok (.aload_n 0, 1) := by decide +kernel
theorem dX11_offer_63 : decode cX11_offer 63 = .ok (.getfield 46, 3) := by decide +kernel
theorem dX11_offer_66 : decode cX11_offer 66 = .ok (.iload_n 1, 1) := by decide +kernel
theorem dX11_offer_67 : decode cX11_offer 67 = .ok (.aload_n 0, 1) := by decide +kernel
theorem dX11_offer_68 : decode cX11_offer 68 = .ok (.getfield 37, 3) := by decide +kernel
theorem dX11_offer_71 : decode cX11_offer 71 = .ok (.iload_n 2, 1) := by decide +kernel
theorem dX11_offer_72 : decode cX11_offer 72 = .ok (.invokevirtual 252, 3) := by decide +kernel
theorem dX11_offer_75 : decode cX11_offer 75 = .ok (.iload_n 3, 1) := by decide +kernel
theorem dX11_offer_76 : decode cX11_offer 76 = .ok (.bipush 16, 2) := by decide +kernel
theorem dX11_offer_78 : decode cX11_offer 78 = .ok (.invokevirtual 255, 3) := by decide +kernel
theorem dX11_offer_81 : decode cX11_offer 81 = .ok (.istore 5, 2) := by decide +kernel
theorem dX11_offer_83 : decode cX11_offer 83 = .ok (.iload 4, 2) := by decide +kernel
theorem dX11_offer_85 : decode cX11_offer 85 = .ok (.iconst (-1), 1) := by decide +kernel
theorem dX11_offer_86 : decode cX11_offer 86 = .ok (.if_icmp .ne 8, 3) := by decide +kernel
theorem dX11_offer_89 : decode cX11_offer 89 = .ok (.iload 5, 2) := by decide +kernel
theorem dX11_offer_91 : decode cX11_offer 91 = .ok (.goto 12, 3) := by decide +kernel
theorem dX11_offer_94 : decode cX11_offer 94 = .ok (.aload_n 0, 1) := by decide +kernel
theorem dX11_offer_95 : decode cX11_offer 95 = .ok (.getfield 46, 3) := by decide +kernel
theorem dX11_offer_98 : decode cX11_offer 98 = .ok (.iload 4, 2) := by decide +kernel
theorem dX11_offer_100 : decode cX11_offer 100 = .ok (.invokevirtual 259, 3) := by decide +kernel
theorem dX11_offer_103 : decode cX11_offer 103 = .ok (.ireturn, 1) := by decide +kernel
theorem dX11_comes_0 : decode cX11_comes 0 = .ok (.aload_n 0, 1) := by decide +kernel
theorem dX11_comes_1 : decode cX11_comes 1 = .ok (.getfield 19, 3) := by decide +kernel
theorem dX11_comes_4 : decode cX11_comes 4 = .ok (.iload_n 1, 1) := by decide +kernel
theorem dX11_comes_5 : decode cX11_comes 5 = .ok (.invokevirtual 133, 3) := by decide +kernel
theorem dX11_comes_8 : decode cX11_comes 8 = .ok (.ifCond .eq 22, 3) := by decide +kernel
theorem dX11_comes_11 : decode cX11_comes 11 = .ok (.iload_n 2, 1) := by decide +kernel
theorem dX11_comes_12 : decode cX11_comes 12 = .ok (.ifCond .lt 18, 3) := by decide +kernel
theorem dX11_comes_15 : decode cX11_comes 15 = .ok (.iload_n 2, 1) := by decide +kernel
theorem dX11_comes_16 : decode cX11_comes 16 = .ok (.bipush 60, 2) := by decide +kernel
theorem dX11_comes_18 : decode cX11_comes 18 = .ok (.if_icmp .gt 12, 3) := by decide +kernel
theorem dX11_comes_21 : decode cX11_comes 21 = .ok (.iload_n 3, 1) := by decide +kernel
theorem dX11_comes_22 : decode cX11_comes 22 = .ok (.ifCond .lt 8, 3) := by decide +kernel
theorem dX11_comes_25 : decode cX11_comes 25 = .ok (.iload_n 3, 1) := by decide +kernel
theorem dX11_comes_26 : decode cX11_comes 26 = .ok (.iconst 2, 1) := by decide +kernel
theorem dX11_comes_27 : decode cX11_comes 27 = .ok (.if_icmp .le 5, 3) := by decide +kernel
theorem dX11_comes_30 : decode cX11_comes 30 = .ok (.iconst (-1), 1) := by decide +kernel
theorem dX11_comes_31 : decode cX11_comes 31 = .ok (.ireturn, 1) := by decide +kernel
theorem dX11_comes_32 : decode cX11_comes 32 = .ok (.aload_n 0, 1) := by decide +kernel
theorem dX11_comes_33 : decode cX11_comes 33 = .ok (.getfield 69, 3) := by decide +kernel
theorem dX11_comes_36 : decode cX11_comes 36 = .ok (.iload_n 1, 1) := by decide +kernel
theorem dX11_comes_37 : decode cX11_comes 37 = .ok (.iload_n 2, 1) := by decide +kernel
theorem dX11_comes_38 : decode cX11_comes 38 = .ok (.iload_n 3, 1) := by decide +kernel
theorem dX11_comes_39 : decode cX11_comes 39 = .ok (.invokevirtual 262, 3) := by decide +kernel
theorem dX11_comes_42 : decode cX11_comes 42 = .ok (.ireturn, 1) := by decide +kernel
theorem dX11_agree_0 : decode cX11_agree 0 = .ok (.aload_n 0, 1) := by decide +kernel
theorem dX11_agree_1 : decode cX11_agree 1 = .ok (.getfield 19, 3) := by decide +kernel
theorem dX11_agree_4 : decode cX11_agree 4 = .ok (.iload_n 1, 1) := by decide +kernel
theorem dX11_agree_5 : decode cX11_agree 5 = .ok (.invokevirtual 133, 3) := by decide +kernel
theorem dX11_agree_8 : decode cX11_agree 8 = .ok (.ifCond .ne 5, 3) := by decide +kernel
theorem dX11_agree_11 : decode cX11_agree 11 = .ok (.iconst (-1), 1) := by decide +kernel
theorem dX11_agree_12 : decode cX11_agree 12 = .ok (.ireturn, 1) := by decide +kernel
theorem dX11_agree_13 : decode cX11_agree 13 = .ok (.aload_n 0, 1) := by decide +kernel
theorem dX11_agree_14 : decode cX11_agree 14 = .ok (.getfield 37, 3) := by decide +kernel
theorem dX11_agree_17 : decode cX11_agree 17 = .ok (.getfield 143, 3) := by decide +kernel
theorem dX11_agree_20 : decode cX11_agree 20 = .ok (.iload_n 1, 1) := by decide +kernel
theorem dX11_agree_21 : decode cX11_agree 21 = .ok (.aaload, 1) := by decide +kernel
theorem dX11_agree_22 : decode cX11_agree 22 = .ok (.invokevirtual 266, 3) := by decide +kernel
theorem dX11_agree_25 : decode cX11_agree 25 = .ok (.ifCond .eq 7, 3) := by decide +kernel
theorem dX11_agree_28 : decode cX11_agree 28 = .ok (.iconst 1, 1) := by decide +kernel
theorem dX11_agree_29 : decode cX11_agree 29 = .ok (.goto 4, 3) := by decide +kernel
theorem dX11_agree_32 : decode cX11_agree 32 = .ok (.iconst 0, 1) := by decide +kernel
theorem dX11_agree_33 : decode cX11_agree 33 = .ok (.ireturn, 1) := by decide +kernel
theorem dX11_healed_0 : decode cX11_healed 0 = .ok (.aload_n 0, 1) := by decide +kernel
theorem dX11_healed_1 : decode cX11_healed 1 = .ok (.getfield 19, 3) := by decide +kernel
theorem dX11_healed_4 : decode cX11_healed 4 = .ok (.invokevirtual 123, 3) := by decide +kernel
theorem dX11_healed_7 : decode cX11_healed 7 = .ok (.ifCond .eq 13, 3) := by decide +kernel
theorem dX11_healed_10 : decode cX11_healed 10 = .ok (.aload_n 0, 1) := by decide +kernel
theorem dX11_healed_11 : decode cX11_healed 11 = .ok (.getfield 69, 3) := by decide +kernel
theorem dX11_healed_14 : decode cX11_healed 14 = .ok (.invokevirtual 269, 3) := by decide +kernel
theorem dX11_healed_17 : decode cX11_healed 17 = .ok (.goto 4, 3) := by decide +kernel
theorem dX11_healed_20 : decode cX11_healed 20 = .ok (.iconst (-1), 1) := by decide +kernel
theorem dX11_healed_21 : decode cX11_healed 21 = .ok (.ireturn, 1) := by decide +kernel
theorem dX11_steady_0 : decode cX11_steady 0 = .ok (.aload_n 0, 1) := by decide +kernel
theorem dX11_steady_1 : decode cX11_steady 1 = .ok (.getfield 19, 3) := by decide +kernel
theorem dX11_steady_4 : decode cX11_steady 4 = .ok (.invokevirtual 123, 3) := by decide +kernel
theorem dX11_steady_7 : decode cX11_steady 7 = .ok (.ifCond .eq 13, 3) := by decide +kernel
theorem dX11_steady_10 : decode cX11_steady 10 = .ok (.aload_n 0, 1) := by decide +kernel
theorem dX11_steady_11 : decode cX11_steady 11 = .ok (.getfield 69, 3) := by decide +kernel
theorem dX11_steady_14 : decode cX11_steady 14 = .ok (.invokevirtual 272, 3) := by decide +kernel
theorem dX11_steady_17 : decode cX11_steady 17 = .ok (.goto 4, 3) := by decide +kernel
theorem dX11_steady_20 : decode cX11_steady 20 = .ok (.iconst (-1), 1) := by decide +kernel
theorem dX11_steady_21 : decode cX11_steady 21 = .ok (.ireturn, 1) := by decide +kernel
theorem dX11_harm_0 : decode cX11_harm 0 = .ok (.aload_n 0, 1) := by decide +kernel
theorem dX11_harm_1 : decode cX11_harm 1 = .ok (.getfield 19, 3) := by decide +kernel
theorem dX11_harm_4 : decode cX11_harm 4 = .ok (.invokevirtual 123, 3) := by decide +kernel
theorem dX11_harm_7 : decode cX11_harm 7 = .ok (.ifCond .eq 23, 3) := by decide +kernel
theorem dX11_harm_10 : decode cX11_harm 10 = .ok (.iload_n 1, 1) := by decide +kernel
theorem dX11_harm_11 : decode cX11_harm 11 = .ok (.iconst 1, 1) := by decide +kernel
theorem dX11_harm_12 : decode cX11_harm 12 = .ok (.if_icmp .lt 18, 3) := by decide +kernel
theorem dX11_harm_15 : decode cX11_harm 15 = .ok (.iload_n 1, 1) := by decide +kernel
theorem dX11_harm_16 : decode cX11_harm 16 = .ok (.bipush 6, 2) := by decide +kernel
theorem dX11_harm_18 : decode cX11_harm 18 = .ok (.if_icmp .gt 12, 3) := by decide +kernel
theorem dX11_harm_21 : decode cX11_harm 21 = .ok (.iload_n 2, 1) := by decide +kernel
theorem dX11_harm_22 : decode cX11_harm 22 = .ok (.ifCond .lt 8, 3) := by decide +kernel
theorem dX11_harm_25 : decode cX11_harm 25 = .ok (.iload_n 2, 1) := by decide +kernel
theorem dX11_harm_26 : decode cX11_harm 26 = .ok (.iconst 1, 1) := by decide +kernel
theorem dX11_harm_27 : decode cX11_harm 27 = .ok (.if_icmp .le 5, 3) := by decide +kernel
theorem dX11_harm_30 : decode cX11_harm 30 = .ok (.iconst (-1), 1) := by decide +kernel
theorem dX11_harm_31 : decode cX11_harm 31 = .ok (.ireturn, 1) := by decide +kernel
theorem dX11_harm_32 : decode cX11_harm 32 = .ok (.iconst (-1), 1) := by decide +kernel
theorem dX11_harm_33 : decode cX11_harm 33 = .ok (.istore_n 3, 1) := by decide +kernel
theorem dX11_harm_34 : decode cX11_harm 34 = .ok (.iconst (-1), 1) := by decide +kernel
theorem dX11_harm_35 : decode cX11_harm 35 = .ok (.istore 4, 2) := by decide +kernel
theorem dX11_harm_37 : decode cX11_harm 37 = .ok (.iconst 0, 1) := by decide +kernel
theorem dX11_harm_38 : decode cX11_harm 38 = .ok (.istore 5, 2) := by decide +kernel
theorem dX11_harm_40 : decode cX11_harm 40 = .ok (.iload 5, 2) := by decide +kernel
theorem dX11_harm_42 : decode cX11_harm 42 = .ok (.iload_n 1, 1) := by decide +kernel
theorem dX11_harm_43 : decode cX11_harm 43 = .ok (.if_icmp .ge 63, 3) := by decide +kernel
theorem dX11_harm_46 : decode cX11_harm 46 = .ok (.iconst 0, 1) := by decide +kernel
theorem dX11_harm_47 : decode cX11_harm 47 = .ok (.istore 6, 2) := by decide +kernel
theorem dX11_harm_49 : decode cX11_harm 49 = .ok (.iload 6, 2) := by decide +kernel
theorem dX11_harm_51 : decode cX11_harm 51 = .ok (.aload_n 0, 1) := by decide +kernel
theorem dX11_harm_52 : decode cX11_harm 52 = .ok (.getfield 19, 3) := by decide +kernel
theorem dX11_harm_55 : decode cX11_harm 55 = .ok (.invokevirtual 114, 3) := by decide +kernel
theorem dX11_harm_58 : decode cX11_harm 58 = .ok (.if_icmp .ge 42, 3) := by decide +kernel
theorem dX11_harm_61 : decode cX11_harm 61 = .ok (.aload_n 0, 1) := by decide +kernel
theorem dX11_harm_62 : decode cX11_harm 62 = .ok (.getfield 69, 3) := by decide +kernel
theorem dX11_harm_65 : decode cX11_harm 65 = .ok (.iload 5, 2) := by decide +kernel
theorem dX11_harm_67 : decode cX11_harm 67 = .ok (.iload 6, 2) := by decide +kernel
theorem dX11_harm_69 : decode cX11_harm 69 = .ok (.invokevirtual 275, 3) := by decide +kernel
theorem dX11_harm_72 : decode cX11_harm 72 = .ok (.istore 7, 2) := by decide +kernel
theorem dX11_harm_74 : decode cX11_harm 74 = .ok (.iload 7, 2) := by decide +kernel
theorem dX11_harm_76 : decode cX11_harm 76 = .ok (.iload 4, 2) := by decide +kernel
theorem dX11_harm_78 : decode cX11_harm 78 = .ok (.if_icmp .le 16, 3) := by decide +kernel
theorem dX11_harm_81 : decode cX11_harm 81 = .ok (.iload 7, 2) := by decide +kernel
theorem dX11_harm_83 : decode cX11_harm 83 = .ok (.istore 4, 2) := by decide +kernel
theorem dX11_harm_85 : decode cX11_harm 85 = .ok (.bipush 10, 2) := by decide +kernel
theorem dX11_harm_87 : decode cX11_harm 87 = .ok (.iload 5, 2) := by decide +kernel
theorem dX11_harm_89 : decode cX11_harm 89 = .ok (.imul, 1) := by decide +kernel
theorem dX11_harm_90 : decode cX11_harm 90 = .ok (.iload 6, 2) := by decide +kernel
theorem dX11_harm_92 : decode cX11_harm 92 = .ok (.iadd, 1) := by decide +kernel
theorem dX11_harm_93 : decode cX11_harm 93 = .ok (.istore_n 3, 1) := by decide +kernel
theorem dX11_harm_94 : decode cX11_harm 94 = .ok (.iinc 6 1, 3) := by decide +kernel
theorem dX11_harm_97 : decode cX11_harm 97 = .ok (.goto (-48), 3) := by decide +kernel
theorem dX11_harm_100 : decode cX11_harm 100 = .ok (.iinc 5 1, 3) := by decide +kernel
theorem dX11_harm_103 : decode cX11_harm 103 = .ok (.goto (-63), 3) := by decide +kernel
theorem dX11_harm_106 : decode cX11_harm 106 = .ok (.iload_n 2, 1) := by decide +kernel
theorem dX11_harm_107 : decode cX11_harm 107 = .ok (.ifCond .ne 7, 3) := by decide +kernel
theorem dX11_harm_110 : decode cX11_harm 110 = .ok (.iload_n 3, 1) := by decide +kernel
theorem dX11_harm_111 : decode cX11_harm 111 = .ok (.goto 5, 3) := by decide +kernel
theorem dX11_harm_114 : decode cX11_harm 114 = .ok (.iload 4, 2) := by decide +kernel
theorem dX11_harm_116 : decode cX11_harm 116 = .ok (.ireturn, 1) := by decide +kernel
theorem dX11_odds_0 : decode cX11_odds 0 = .ok (.aload_n 0, 1) := by decide +kernel
theorem dX11_odds_1 : decode cX11_odds 1 = .ok (.getfield 19, 3) := by decide +kernel
theorem dX11_odds_4 : decode cX11_odds 4 = .ok (.invokevirtual 123, 3) := by decide +kernel
theorem dX11_odds_7 : decode cX11_odds 7 = .ok (.ifCond .eq 23, 3) := by decide +kernel
theorem dX11_odds_10 : decode cX11_odds 10 = .ok (.iload_n 1, 1) := by decide +kernel
theorem dX11_odds_11 : decode cX11_odds 11 = .ok (.ifCond .lt 19, 3) := by decide +kernel
theorem dX11_odds_14 : decode cX11_odds 14 = .ok (.iload_n 1, 1) := by decide +kernel
theorem dX11_odds_15 : decode cX11_odds 15 = .ok (.bipush 6, 2) := by decide +kernel
theorem dX11_odds_17 : decode cX11_odds 17 = .ok (.if_icmp .gt 13, 3) := by decide +kernel
theorem dX11_odds_20 : decode cX11_odds 20 = .ok (.iload_n 2, 1) := by decide +kernel
theorem dX11_odds_21 : decode cX11_odds 21 = .ok (.ifCond .lt 9, 3) := by decide +kernel
theorem dX11_odds_24 : decode cX11_odds 24 = .ok (.iload_n 2, 1) := by decide +kernel
theorem dX11_odds_25 : decode cX11_odds 25 = .ok (.bipush 100, 2) := by decide +kernel
theorem dX11_odds_27 : decode cX11_odds 27 = .ok (.if_icmp .le 5, 3) := by decide +kernel
theorem dX11_odds_30 : decode cX11_odds 30 = .ok (.iconst (-1), 1) := by decide +kernel
theorem dX11_odds_31 : decode cX11_odds 31 = .ok (.ireturn, 1) := by decide +kernel
theorem dX11_odds_32 : decode cX11_odds 32 = .ok (.lconst 0, 1) := by decide +kernel
theorem dX11_odds_33 : decode cX11_odds 33 = .ok (.lstore_n 3, 1) := by decide +kernel
theorem dX11_odds_34 : decode cX11_odds 34 = .ok (.iconst 0, 1) := by decide +kernel
theorem dX11_odds_35 : decode cX11_odds 35 = .ok (.istore 5, 2) := by decide +kernel
theorem dX11_odds_37 : decode cX11_odds 37 = .ok (.iload 5, 2) := by decide +kernel
theorem dX11_odds_39 : decode cX11_odds 39 = .ok (.iconst 1, 1) := by decide +kernel
theorem dX11_odds_40 : decode cX11_odds 40 = .ok (.iload_n 1, 1) := by decide +kernel
theorem dX11_odds_41 : decode cX11_odds 41 = .ok (.ishl, 1) := by decide +kernel
theorem dX11_odds_42 : decode cX11_odds 42 = .ok (.if_icmp .ge 23, 3) := by decide +kernel
theorem dX11_odds_45 : decode cX11_odds 45 = .ok (.lload_n 3, 1) := by decide +kernel
theorem dX11_odds_46 : decode cX11_odds 46 = .ok (.aload_n 0, 1) := by decide +kernel
theorem dX11_odds_47 : decode cX11_odds 47 = .ok (.getfield 69, 3) := by decide +kernel
theorem dX11_odds_50 : decode cX11_odds 50 = .ok (.iload 5, 2) := by decide +kernel
theorem dX11_odds_52 : decode cX11_odds 52 = .ok (.iload_n 1, 1) := by decide +kernel
theorem dX11_odds_53 : decode cX11_odds 53 = .ok (.iload_n 2, 1) := by decide +kernel
theorem dX11_odds_54 : decode cX11_odds 54 = .ok (.invokevirtual 278, 3) := by decide +kernel
theorem dX11_odds_57 : decode cX11_odds 57 = .ok (.ladd, 1) := by decide +kernel
theorem dX11_odds_58 : decode cX11_odds 58 = .ok (.lstore_n 3, 1) := by decide +kernel
theorem dX11_odds_59 : decode cX11_odds 59 = .ok (.iinc 5 1, 3) := by decide +kernel
theorem dX11_odds_62 : decode cX11_odds 62 = .ok (.goto (-25), 3) := by decide +kernel
theorem dX11_odds_65 : decode cX11_odds 65 = .ok (.lload_n 3, 1) := by decide +kernel
theorem dX11_odds_66 : decode cX11_odds 66 = .ok (.l2i, 1) := by decide +kernel
theorem dX11_odds_67 : decode cX11_odds 67 = .ok (.ireturn, 1) := by decide +kernel
theorem dX11_shares_0 : decode cX11_shares 0 = .ok (.aload_n 0, 1) := by decide +kernel
theorem dX11_shares_1 : decode cX11_shares 1 = .ok (.getfield 19, 3) := by decide +kernel
theorem dX11_shares_4 : decode cX11_shares 4 = .ok (.iload_n 1, 1) := by decide +kernel
theorem dX11_shares_5 : decode cX11_shares 5 = .ok (.invokevirtual 133, 3) := by decide +kernel
theorem dX11_shares_8 : decode cX11_shares 8 = .ok (.ifCond .eq 14, 3) := by decide +kernel
theorem dX11_shares_11 : decode cX11_shares 11 = .ok (.iload_n 2, 1) := by decide +kernel
theorem dX11_shares_12 : decode cX11_shares 12 = .ok (.ifCond .lt 10, 3) := by decide +kernel
theorem dX11_shares_15 : decode cX11_shares 15 = .ok (.iload_n 2, 1) := by decide +kernel
theorem dX11_shares_16 : decode cX11_shares 16 = .ok (.sipush 999, 3) := by decide +kernel
theorem dX11_shares_19 : decode cX11_shares 19 = .ok (.if_icmp .le 5, 3) := by decide +kernel
theorem dX11_shares_22 : decode cX11_shares 22 = .ok (.iconst (-1), 1) := by decide +kernel
theorem dX11_shares_23 : decode cX11_shares 23 = .ok (.ireturn, 1) := by decide +kernel
theorem dX11_shares_24 : decode cX11_shares 24 = .ok (.iconst 0, 1) := by decide +kernel
theorem dX11_shares_25 : decode cX11_shares 25 = .ok (.istore_n 3, 1) := by decide +kernel
theorem dX11_shares_26 : decode cX11_shares 26 = .ok (.iconst 0, 1) := by decide +kernel
theorem dX11_shares_27 : decode cX11_shares 27 = .ok (.istore 4, 2) := by decide +kernel
theorem dX11_shares_29 : decode cX11_shares 29 = .ok (.iload 4, 2) := by decide +kernel
theorem dX11_shares_31 : decode cX11_shares 31 = .ok (.aload_n 0, 1) := by decide +kernel
theorem dX11_shares_32 : decode cX11_shares 32 = .ok (.getfield 19, 3) := by decide +kernel
theorem dX11_shares_35 : decode cX11_shares 35 = .ok (.invokevirtual 114, 3) := by decide +kernel
theorem dX11_shares_38 : decode cX11_shares 38 = .ok (.if_icmp .ge 28, 3) := by decide +kernel
theorem dX11_shares_41 : decode cX11_shares 41 = .ok (.iload_n 3, 1) := by decide +kernel
theorem dX11_shares_42 : decode cX11_shares 42 = .ok (.aload_n 0, 1) := by decide +kernel
theorem dX11_shares_43 : decode cX11_shares 43 = .ok (.getfield 37, 3) := by decide +kernel
theorem dX11_shares_46 : decode cX11_shares 46 = .ok (.getfield 143, 3) := by decide +kernel
theorem dX11_shares_49 : decode cX11_shares 49 = .ok (.iload 4, 2) := by decide +kernel
theorem dX11_shares_51 : decode cX11_shares 51 = .ok (.aaload, 1) := by decide +kernel
theorem dX11_shares_52 : decode cX11_shares 52 = .ok (.getfield 152, 3) := by decide +kernel
theorem dX11_shares_55 : decode cX11_shares 55 = .ok (.invokevirtual 282, 3) := by decide +kernel
theorem dX11_shares_58 : decode cX11_shares 58 = .ok (.iadd, 1) := by decide +kernel
theorem dX11_shares_59 : decode cX11_shares 59 = .ok (.istore_n 3, 1) := by decide +kernel
theorem dX11_shares_60 : decode cX11_shares 60 = .ok (.iinc 4 1, 3) := by decide +kernel
theorem dX11_shares_63 : decode cX11_shares 63 = .ok (.goto (-34), 3) := by decide +kernel
theorem dX11_shares_66 : decode cX11_shares 66 = .ok (.iload_n 3, 1) := by decide +kernel
theorem dX11_shares_67 : decode cX11_shares 67 = .ok (.ifCond .le 25, 3) := by decide +kernel
theorem dX11_shares_70 : decode cX11_shares 70 = .ok (.iload_n 2, 1) := by decide +kernel
theorem dX11_shares_71 : decode cX11_shares 71 = .ok (.aload_n 0, 1) := by decide +kernel
theorem dX11_shares_72 : decode cX11_shares 72 = .ok (.getfield 37, 3) := by decide +kernel
theorem dX11_shares_75 : decode cX11_shares 75 = .ok (.getfield 143, 3) := by decide +kernel
theorem dX11_shares_78 : decode cX11_shares 78 = .ok (.iload_n 1, 1) := by decide +kernel
theorem dX11_shares_79 : decode cX11_shares 79 = .ok (.aaload, 1) := by decide +kernel
theorem dX11_shares_80 : decode cX11_shares 80 = .ok (.getfield 152, 3) := by decide +kernel
theorem dX11_shares_83 : decode cX11_shares 83 = .ok (.invokevirtual 282, 3) := by decide +kernel
theorem dX11_shares_86 : decode cX11_shares 86 = .ok (.imul, 1) := by decide +kernel
theorem dX11_shares_87 : decode cX11_shares 87 = .ok (.iload_n 3, 1) := by decide +kernel
theorem dX11_shares_88 : decode cX11_shares 88 = .ok (.idiv, 1) := by decide +kernel
theorem dX11_shares_89 : decode cX11_shares 89 = .ok (.goto 4, 3) := by decide +kernel
theorem dX11_shares_92 : decode cX11_shares 92 = .ok (.iconst 0, 1) := by decide +kernel
theorem dX11_shares_93 : decode cX11_shares 93 = .ok (.ireturn, 1) := by decide +kernel
theorem dX11_node_0 : decode cX11_node 0 = .ok (.aload_n 0, 1) := by decide +kernel
theorem dX11_node_1 : decode cX11_node 1 = .ok (.getfield 19, 3) := by decide +kernel
theorem dX11_node_4 : decode cX11_node 4 = .ok (.invokevirtual 123, 3) := by decide +kernel
theorem dX11_node_7 : decode cX11_node 7 = .ok (.ifCond .eq 13, 3) := by decide +kernel
theorem dX11_node_10 : decode cX11_node 10 = .ok (.iload_n 1, 1) := by decide +kernel
theorem dX11_node_11 : decode cX11_node 11 = .ok (.ifCond .lt 9, 3) := by decide +kernel
theorem dX11_node_14 : decode cX11_node 14 = .ok (.iload_n 1, 1) := by decide +kernel
theorem dX11_node_15 : decode cX11_node 15 = .ok (.bipush 6, 2) := by decide +kernel
theorem dX11_node_17 : decode cX11_node 17 = .ok (.if_icmp .lt 5, 3) := by decide +kernel
theorem dX11_node_20 : decode cX11_node 20 = .ok (.iconst (-1), 1) := by decide +kernel
theorem dX11_node_21 : decode cX11_node 21 = .ok (.ireturn, 1) := by decide +kernel
theorem dX11_node_22 : decode cX11_node 22 = .ok (.iload_n 2, 1) := by decide +kernel
theorem dX11_node_23 : decode cX11_node 23 = .ok (.ifCond .ne 12, 3) := by decide +kernel
theorem dX11_node_26 : decode cX11_node 26 = .ok (.aload_n 0, 1) := by decide +kernel
theorem dX11_node_27 : decode cX11_node 27 = .ok (.getfield 37, 3) := by decide +kernel
theorem dX11_node_30 : decode cX11_node 30 = .ok (.iload_n 1, 1) := by decide +kernel
theorem dX11_node_31 : decode cX11_node 31 = .ok (.invokevirtual 252, 3) := by decide +kernel
theorem dX11_node_34 : decode cX11_node 34 = .ok (.ireturn, 1) := by decide +kernel
theorem dX11_node_35 : decode cX11_node 35 = .ok (.iload_n 2, 1) := by decide +kernel
theorem dX11_node_36 : decode cX11_node 36 = .ok (.iconst 1, 1) := by decide +kernel
theorem dX11_node_37 : decode cX11_node 37 = .ok (.if_icmp .ne 14, 3) := by decide +kernel
theorem dX11_node_40 : decode cX11_node 40 = .ok (.aload_n 0, 1) := by decide +kernel
theorem dX11_node_41 : decode cX11_node 41 = .ok (.getfield 37, 3) := by decide +kernel
theorem dX11_node_44 : decode cX11_node 44 = .ok (.iload_n 1, 1) := by decide +kernel
theorem dX11_node_45 : decode cX11_node 45 = .ok (.invokevirtual 285, 3) := by decide +kernel
theorem dX11_node_48 : decode cX11_node 48 = .ok (.goto 4, 3) := by decide +kernel
theorem dX11_node_51 : decode cX11_node 51 = .ok (.iconst (-1), 1) := by decide +kernel
theorem dX11_node_52 : decode cX11_node 52 = .ok (.ireturn, 1) := by decide +kernel
theorem dX11_most_0 : decode cX11_most 0 = .ok (.aload_n 0, 1) := by decide +kernel
theorem dX11_most_1 : decode cX11_most 1 = .ok (.getfield 19, 3) := by decide +kernel
theorem dX11_most_4 : decode cX11_most 4 = .ok (.invokevirtual 123, 3) := by decide +kernel
theorem dX11_most_7 : decode cX11_most 7 = .ok (.ifCond .eq 13, 3) := by decide +kernel
theorem dX11_most_10 : decode cX11_most 10 = .ok (.iload_n 1, 1) := by decide +kernel
theorem dX11_most_11 : decode cX11_most 11 = .ok (.ifCond .lt 9, 3) := by decide +kernel
theorem dX11_most_14 : decode cX11_most 14 = .ok (.iload_n 1, 1) := by decide +kernel
theorem dX11_most_15 : decode cX11_most 15 = .ok (.bipush 9, 2) := by decide +kernel
theorem dX11_most_17 : decode cX11_most 17 = .ok (.if_icmp .le 7, 3) := by decide +kernel
theorem dX11_most_20 : decode cX11_most 20 = .ok (.ldc_w 288, 3) := by decide +kernel
theorem dX11_most_23 : decode cX11_most 23 = .ok (.ireturn, 1) := by decide +kernel
theorem dX11_most_24 : decode cX11_most 24 = .ok (.iload_n 1, 1) := by decide +kernel
theorem dX11_most_25 : decode cX11_most 25 = .ok (.tableswitch 79 5 9 #[35, 45, 54, 63, 71], 35) := by decide +kernel
theorem dX11_most_60 : decode cX11_most 60 = .ok (.aload_n 0, 1) := by decide +kernel
theorem dX11_most_61 : decode cX11_most 61 = .ok (.getfield 37, 3) := by decide +kernel
theorem dX11_most_64 : decode cX11_most 64 = .ok (.bipush 9, 2) := by decide +kernel
theorem dX11_most_66 : decode cX11_most 66 = .ok (.invokevirtual 289, 3) := by decide +kernel
theorem dX11_most_69 : decode cX11_most 69 = .ok (.ireturn, 1) := by decide +kernel
theorem dX11_most_70 : decode cX11_most 70 = .ok (.aload_n 0, 1) := by decide +kernel
theorem dX11_most_71 : decode cX11_most 71 = .ok (.getfield 37, 3) := by decide +kernel
theorem dX11_most_74 : decode cX11_most 74 = .ok (.iconst 4, 1) := by decide +kernel
theorem dX11_most_75 : decode cX11_most 75 = .ok (.invokevirtual 289, 3) := by decide +kernel
theorem dX11_most_78 : decode cX11_most 78 = .ok (.ireturn, 1) := by decide +kernel
theorem dX11_most_79 : decode cX11_most 79 = .ok (.aload_n 0, 1) := by decide +kernel
theorem dX11_most_80 : decode cX11_most 80 = .ok (.getfield 37, 3) := by decide +kernel
theorem dX11_most_83 : decode cX11_most 83 = .ok (.iconst 3, 1) := by decide +kernel
theorem dX11_most_84 : decode cX11_most 84 = .ok (.invokevirtual 289, 3) := by decide +kernel
theorem dX11_most_87 : decode cX11_most 87 = .ok (.ireturn, 1) := by decide +kernel
theorem dX11_most_88 : decode cX11_most 88 = .ok (.aload_n 0, 1) := by decide +kernel
theorem dX11_most_89 : decode cX11_most 89 = .ok (.getfield 37, 3) := by decide +kernel
theorem dX11_most_92 : decode cX11_most 92 = .ok (.invokevirtual 292, 3) := by decide +kernel
theorem dX11_most_95 : decode cX11_most 95 = .ok (.ireturn, 1) := by decide +kernel
theorem dX11_most_96 : decode cX11_most 96 = .ok (.aload_n 0, 1) := by decide +kernel
theorem dX11_most_97 : decode cX11_most 97 = .ok (.getfield 37, 3) := by decide +kernel
theorem dX11_most_100 : decode cX11_most 100 = .ok (.invokevirtual 295, 3) := by decide +kernel
theorem dX11_most_103 : decode cX11_most 103 = .ok (.ireturn, 1) := by decide +kernel
theorem dX11_most_104 : decode cX11_most 104 = .ok (.aload_n 0, 1) := by decide +kernel
theorem dX11_most_105 : decode cX11_most 105 = .ok (.getfield 37, 3) := by decide +kernel
theorem dX11_most_108 : decode cX11_most 108 = .ok (.iload_n 1, 1) := by decide +kernel
theorem dX11_most_109 : decode cX11_most 109 = .ok (.invokevirtual 298, 3) := by decide +kernel
theorem dX11_most_112 : decode cX11_most 112 = .ok (.ireturn, 1) := by decide +kernel
theorem dX11_image_0 : decode cX11_image 0 = .ok (.aload_n 0, 1) := by decide +kernel
theorem dX11_image_1 : decode cX11_image 1 = .ok (.getfield 19, 3) := by decide +kernel
theorem dX11_image_4 : decode cX11_image 4 = .ok (.invokevirtual 123, 3) := by decide +kernel
theorem dX11_image_7 : decode cX11_image 7 = .ok (.ifCond .ne 5, 3) := by decide +kernel
theorem dX11_image_10 : decode cX11_image 10 = .ok (.iconst (-1), 1) := by decide +kernel
theorem dX11_image_11 : decode cX11_image 11 = .ok (.ireturn, 1) := by decide +kernel
theorem dX11_image_12 : decode cX11_image 12 = .ok (.aload_n 0, 1) := by decide +kernel
theorem dX11_image_13 : decode cX11_image 13 = .ok (.getfield 62, 3) := by decide +kernel
theorem dX11_image_16 : decode cX11_image 16 = .ok (.aload_n 0, 1) := by decide +kernel
theorem dX11_image_17 : decode cX11_image 17 = .ok (.getfield 37, 3) := by decide +kernel
theorem dX11_image_20 : decode cX11_image 20 = .ok (.getfield 189, 3) := by decide +kernel
theorem dX11_image_23 : decode cX11_image 23 = .ok (.invokevirtual 301, 3) := by decide +kernel
theorem dX11_image_26 : decode cX11_image 26 = .ok (.aload_n 0, 1) := by decide +kernel
theorem dX11_image_27 : decode cX11_image 27 = .ok (.getfield 37, 3) := by decide +kernel
theorem dX11_image_30 : decode cX11_image 30 = .ok (.invokevirtual 186, 3) := by decide +kernel
theorem dX11_image_33 : decode cX11_image 33 = .ok (.ireturn, 1) := by decide +kernel
theorem dX11_back_0 : decode cX11_back 0 = .ok (.aload_n 0, 1) := by decide +kernel
theorem dX11_back_1 : decode cX11_back 1 = .ok (.getfield 62, 3) := by decide +kernel
theorem dX11_back_4 : decode cX11_back 4 = .ok (.aload_n 0, 1) := by decide +kernel
theorem dX11_back_5 : decode cX11_back 5 = .ok (.getfield 37, 3) := by decide +kernel
theorem dX11_back_8 : decode cX11_back 8 = .ok (.getfield 189, 3) := by decide +kernel
theorem dX11_back_11 : decode cX11_back 11 = .ok (.invokevirtual 304, 3) := by decide +kernel
theorem dX11_back_14 : decode cX11_back 14 = .ok (.ifCond .eq 13, 3) := by decide +kernel
theorem dX11_back_17 : decode cX11_back 17 = .ok (.aload_n 0, 1) := by decide +kernel
theorem dX11_back_18 : decode cX11_back 18 = .ok (.getfield 37, 3) := by decide +kernel
theorem dX11_back_21 : decode cX11_back 21 = .ok (.invokevirtual 186, 3) := by decide +kernel
theorem dX11_back_24 : decode cX11_back 24 = .ok (.goto 4, 3) := by decide +kernel
theorem dX11_back_27 : decode cX11_back 27 = .ok (.iconst (-1), 1) := by decide +kernel
theorem dX11_back_28 : decode cX11_back 28 = .ok (.ireturn, 1) := by decide +kernel
theorem dX11_count_0 : decode cX11_count 0 = .ok (.iload_n 1, 1) := by decide +kernel
theorem dX11_count_1 : decode cX11_count 1 = .ok (.tableswitch 96 0 6 #[43, 51, 59, 67, 75, 80, 88], 43) := by decide +kernel
theorem dX11_count_44 : decode cX11_count 44 = .ok (.aload_n 0, 1) := by decide +kernel
theorem dX11_count_45 : decode cX11_count 45 = .ok (.getfield 19, 3) := by decide +kernel
theorem dX11_count_48 : decode cX11_count 48 = .ok (.invokevirtual 114, 3) := by decide +kernel
theorem dX11_count_51 : decode cX11_count 51 = .ok (.ireturn, 1) := by decide +kernel
theorem dX11_count_52 : decode cX11_count 52 = .ok (.aload_n 0, 1) := by decide +kernel
theorem dX11_count_53 : decode cX11_count 53 = .ok (.getfield 19, 3) := by decide +kernel
theorem dX11_count_56 : decode cX11_count 56 = .ok (.invokevirtual 120, 3) := by decide +kernel
theorem dX11_count_59 : decode cX11_count 59 = .ok (.ireturn, 1) := by decide +kernel
theorem dX11_count_60 : decode cX11_count 60 = .ok (.aload_n 0, 1) := by decide +kernel
theorem dX11_count_61 : decode cX11_count 61 = .ok (.getfield 10, 3) := by decide +kernel
theorem dX11_count_64 : decode cX11_count 64 = .ok (.invokevirtual 93, 3) := by decide +kernel
theorem dX11_count_67 : decode cX11_count 67 = .ok (.ireturn, 1) := by decide +kernel
theorem dX11_count_68 : decode cX11_count 68 = .ok (.aload_n 0, 1) := by decide +kernel
theorem dX11_count_69 : decode cX11_count 69 = .ok (.getfield 37, 3) := by decide +kernel
theorem dX11_count_72 : decode cX11_count 72 = .ok (.invokevirtual 186, 3) := by decide +kernel
theorem dX11_count_75 : decode cX11_count 75 = .ok (.ireturn, 1) := by decide +kernel
theorem dX11_count_76 : decode cX11_count 76 = .ok (.aload_n 0, 1) := by decide +kernel
theorem dX11_count_77 : decode cX11_count 77 = .ok (.getfield 77, 3) := by decide +kernel
theorem dX11_count_80 : decode cX11_count 80 = .ok (.ireturn, 1) := by decide +kernel
theorem dX11_count_81 : decode cX11_count 81 = .ok (.aload_n 0, 1) := by decide +kernel
theorem dX11_count_82 : decode cX11_count 82 = .ok (.getfield 62, 3) := by decide +kernel
theorem dX11_count_85 : decode cX11_count 85 = .ok (.invokevirtual 307, 3) := by decide +kernel
theorem dX11_count_88 : decode cX11_count 88 = .ok (.ireturn, 1) := by decide +kernel
theorem dX11_count_89 : decode cX11_count 89 = .ok (.aload_n 0, 1) := by decide +kernel
theorem dX11_count_90 : decode cX11_count 90 = .ok (.getfield 62, 3) := by decide +kernel
theorem dX11_count_93 : decode cX11_count 93 = .ok (.invokevirtual 243, 3) := by decide +kernel
theorem dX11_count_96 : decode cX11_count 96 = .ok (.ireturn, 1) := by decide +kernel
theorem dX11_count_97 : decode cX11_count 97 = .ok (.ldc_w 288, 3) := by decide +kernel
theorem dX11_count_100 : decode cX11_count 100 = .ok (.ireturn, 1) := by decide +kernel
theorem dX11_refuse_0 : decode cX11_refuse 0 = .ok (.iload_n 1, 1) := by decide +kernel
theorem dX11_refuse_1 : decode cX11_refuse 1 = .ok (.ifCond .lt 22, 3) := by decide +kernel
theorem dX11_refuse_4 : decode cX11_refuse 4 = .ok (.iload_n 1, 1) := by decide +kernel
theorem dX11_refuse_5 : decode cX11_refuse 5 = .ok (.aload_n 0, 1) := by decide +kernel
theorem dX11_refuse_6 : decode cX11_refuse 6 = .ok (.getfield 73, 3) := by decide +kernel
theorem dX11_refuse_9 : decode cX11_refuse 9 = .ok (.arraylength, 1) := by decide +kernel
theorem dX11_refuse_10 : decode cX11_refuse 10 = .ok (.if_icmp .ge 13, 3) := by decide +kernel
theorem dX11_refuse_13 : decode cX11_refuse 13 = .ok (.aload_n 0, 1) := by decide +kernel
theorem dX11_refuse_14 : decode cX11_refuse 14 = .ok (.getfield 73, 3) := by decide +kernel
theorem dX11_refuse_17 : decode cX11_refuse 17 = .ok (.iload_n 1, 1) := by decide +kernel
theorem dX11_refuse_18 : decode cX11_refuse 18 = .ok (.dup2, 1) := by decide +kernel
theorem dX11_refuse_19 : decode cX11_refuse 19 = .ok (.iaload, 1) := by decide +kernel
theorem dX11_refuse_20 : decode cX11_refuse 20 = .ok (.iconst 1, 1) := by decide +kernel
theorem dX11_refuse_21 : decode cX11_refuse 21 = .ok (.iadd, 1) := by decide +kernel
theorem dX11_refuse_22 : decode cX11_refuse 22 = .ok (.iastore, 1) := by decide +kernel
theorem dX11_refuse_23 : decode cX11_refuse 23 = .ok (.iconst (-1), 1) := by decide +kernel
theorem dX11_refuse_24 : decode cX11_refuse 24 = .ok (.ireturn, 1) := by decide +kernel
theorem dX11_isDealing_0 : decode cX11_isDealing 0 = .ok (.iload_n 0, 1) := by decide +kernel
theorem dX11_isDealing_1 : decode cX11_isDealing 1 = .ok (.tableswitch 73 0 3 #[31, 31, 47, 63], 31) := by decide +kernel
theorem dX11_isDealing_32 : decode cX11_isDealing 32 = .ok (.iload_n 1, 1) := by decide +kernel
theorem dX11_isDealing_33 : decode cX11_isDealing 33 = .ok (.iconst 1, 1) := by decide +kernel
theorem dX11_isDealing_34 : decode cX11_isDealing 34 = .ok (.if_icmp .lt 12, 3) := by decide +kernel
theorem dX11_isDealing_37 : decode cX11_isDealing 37 = .ok (.iload_n 1, 1) := by decide +kernel
theorem dX11_isDealing_38 : decode cX11_isDealing 38 = .ok (.iconst 3, 1) := by decide +kernel
theorem dX11_isDealing_39 : decode cX11_isDealing 39 = .ok (.if_icmp .gt 7, 3) := by decide +kernel
theorem dX11_isDealing_42 : decode cX11_isDealing 42 = .ok (.iconst 1, 1) := by decide +kernel
theorem dX11_isDealing_43 : decode cX11_isDealing 43 = .ok (.goto 4, 3) := by decide +kernel
theorem dX11_isDealing_46 : decode cX11_isDealing 46 = .ok (.iconst 0, 1) := by decide +kernel
theorem dX11_isDealing_47 : decode cX11_isDealing 47 = .ok (.ireturn, 1) := by decide +kernel
theorem dX11_isDealing_48 : decode cX11_isDealing 48 = .ok (.iload_n 1, 1) := by decide +kernel
theorem dX11_isDealing_49 : decode cX11_isDealing 49 = .ok (.ifCond .lt 13, 3) := by decide +kernel
theorem dX11_isDealing_52 : decode cX11_isDealing 52 = .ok (.iload_n 1, 1) := by decide +kernel
theorem dX11_isDealing_53 : decode cX11_isDealing 53 = .ok (.bipush 6, 2) := by decide +kernel
theorem dX11_isDealing_55 : decode cX11_isDealing 55 = .ok (.if_icmp .ge 7, 3) := by decide +kernel
theorem dX11_isDealing_58 : decode cX11_isDealing 58 = .ok (.iconst 1, 1) := by decide +kernel
theorem dX11_isDealing_59 : decode cX11_isDealing 59 = .ok (.goto 4, 3) := by decide +kernel
theorem dX11_isDealing_62 : decode cX11_isDealing 62 = .ok (.iconst 0, 1) := by decide +kernel
theorem dX11_isDealing_63 : decode cX11_isDealing 63 = .ok (.ireturn, 1) := by decide +kernel
theorem dX11_isDealing_64 : decode cX11_isDealing 64 = .ok (.iload_n 1, 1) := by decide +kernel
theorem dX11_isDealing_65 : decode cX11_isDealing 65 = .ok (.ifCond .ne 7, 3) := by decide +kernel
theorem dX11_isDealing_68 : decode cX11_isDealing 68 = .ok (.iconst 1, 1) := by decide +kernel
theorem dX11_isDealing_69 : decode cX11_isDealing 69 = .ok (.goto 4, 3) := by decide +kernel
theorem dX11_isDealing_72 : decode cX11_isDealing 72 = .ok (.iconst 0, 1) := by decide +kernel
theorem dX11_isDealing_73 : decode cX11_isDealing 73 = .ok (.ireturn, 1) := by decide +kernel
theorem dX11_isDealing_74 : decode cX11_isDealing 74 = .ok (.iconst 0, 1) := by decide +kernel
theorem dX11_isDealing_75 : decode cX11_isDealing 75 = .ok (.ireturn, 1) := by decide +kernel
theorem dX11_goOneFrame_0 : decode cX11_goOneFrame 0 = .ok (.aload_n 0, 1) := by decide +kernel
theorem dX11_goOneFrame_1 : decode cX11_goOneFrame 1 = .ok (.getfield 55, 3) := by decide +kernel
theorem dX11_goOneFrame_4 : decode cX11_goOneFrame 4 = .ok (.invokevirtual 310, 3) := by decide +kernel
theorem dX11_goOneFrame_7 : decode cX11_goOneFrame 7 = .ok (.aload_n 0, 1) := by decide +kernel
theorem dX11_goOneFrame_8 : decode cX11_goOneFrame 8 = .ok (.getfield 62, 3) := by decide +kernel
theorem dX11_goOneFrame_11 : decode cX11_goOneFrame 11 = .ok (.aload_n 0, 1) := by decide +kernel
theorem dX11_goOneFrame_12 : decode cX11_goOneFrame 12 = .ok (.getfield 37, 3) := by decide +kernel
theorem dX11_goOneFrame_15 : decode cX11_goOneFrame 15 = .ok (.invokevirtual 313, 3) := by decide +kernel
theorem dX11_goOneFrame_18 : decode cX11_goOneFrame 18 = .ok (.aload_n 0, 1) := by decide +kernel
theorem dX11_goOneFrame_19 : decode cX11_goOneFrame 19 = .ok (.getfield 37, 3) := by decide +kernel
theorem dX11_goOneFrame_22 : decode cX11_goOneFrame 22 = .ok (.invokevirtual 316, 3) := by decide +kernel
theorem dX11_goOneFrame_25 : decode cX11_goOneFrame 25 = .ok (.aload_n 0, 1) := by decide +kernel
theorem dX11_goOneFrame_26 : decode cX11_goOneFrame 26 = .ok (.getfield 55, 3) := by decide +kernel
theorem dX11_goOneFrame_29 : decode cX11_goOneFrame 29 = .ok (.invokevirtual 319, 3) := by decide +kernel
theorem dX11_goOneFrame_32 : decode cX11_goOneFrame 32 = .ok (.invokevirtual 322, 3) := by decide +kernel
theorem dX11_goOneFrame_35 : decode cX11_goOneFrame 35 = .ok (.return_, 1) := by decide +kernel
theorem dX11_drawWhatIsAhead_0 : decode cX11_drawWhatIsAhead 0 = .ok (.aload_n 0, 1) := by decide +kernel
theorem dX11_drawWhatIsAhead_1 : decode cX11_drawWhatIsAhead 1 = .ok (.bipush 10, 2) := by decide +kernel
theorem dX11_drawWhatIsAhead_3 : decode cX11_drawWhatIsAhead 3 = .ok (.invokevirtual 326, 3) := by decide +kernel
theorem dX11_drawWhatIsAhead_6 : decode cX11_drawWhatIsAhead 6 = .ok (.aload_n 0, 1) := by decide +kernel
theorem dX11_drawWhatIsAhead_7 : decode cX11_drawWhatIsAhead 7 = .ok (.getfield 77, 3) := by decide +kernel
theorem dX11_drawWhatIsAhead_10 : decode cX11_drawWhatIsAhead 10 = .ok (.if_icmp .ge 41, 3) := by decide +kernel
theorem dX11_drawWhatIsAhead_13 : decode cX11_drawWhatIsAhead 13 = .ok (.aload_n 0, 1) := by decide +kernel
theorem dX11_drawWhatIsAhead_14 : decode cX11_drawWhatIsAhead 14 = .ok (.aload_n 0, 1) := by decide +kernel
theorem dX11_drawWhatIsAhead_15 : decode cX11_drawWhatIsAhead 15 = .ok (.getfield 19, 3) := by decide +kernel
theorem dX11_drawWhatIsAhead_18 : decode cX11_drawWhatIsAhead 18 = .ok (.invokevirtual 114, 3) := by decide +kernel
theorem dX11_drawWhatIsAhead_21 : decode cX11_drawWhatIsAhead 21 = .ok (.invokevirtual 326, 3) := by decide +kernel
theorem dX11_drawWhatIsAhead_24 : decode cX11_drawWhatIsAhead 24 = .ok (.istore_n 1, 1) := by decide +kernel
theorem dX11_drawWhatIsAhead_25 : decode cX11_drawWhatIsAhead 25 = .ok (.aload_n 0, 1) := by decide +kernel
theorem dX11_drawWhatIsAhead_26 : decode cX11_drawWhatIsAhead 26 = .ok (.getfield 19, 3) := by decide +kernel
theorem dX11_drawWhatIsAhead_29 : decode cX11_drawWhatIsAhead 29 = .ok (.iload_n 1, 1) := by decide +kernel
theorem dX11_drawWhatIsAhead_30 : decode cX11_drawWhatIsAhead 30 = .ok (.invokevirtual 133, 3) := by decide +kernel
theorem dX11_drawWhatIsAhead_33 : decode cX11_drawWhatIsAhead 33 = .ok (.ifCond .eq 18, 3) := by decide +kernel
theorem dX11_drawWhatIsAhead_36 : decode cX11_drawWhatIsAhead 36 = .ok (.aload_n 0, 1) := by decide +kernel
theorem dX11_drawWhatIsAhead_37 : decode cX11_drawWhatIsAhead 37 = .ok (.getfield 37, 3) := by decide +kernel
theorem dX11_drawWhatIsAhead_40 : decode cX11_drawWhatIsAhead 40 = .ok (.getfield 143, 3) := by decide +kernel
theorem dX11_drawWhatIsAhead_43 : decode cX11_drawWhatIsAhead 43 = .ok (.iload_n 1, 1) := by decide +kernel
theorem dX11_drawWhatIsAhead_44 : decode cX11_drawWhatIsAhead 44 = .ok (.aaload, 1) := by decide +kernel
theorem dX11_drawWhatIsAhead_45 : decode cX11_drawWhatIsAhead 45 = .ok (.getfield 170, 3) := by decide +kernel
theorem dX11_drawWhatIsAhead_48 : decode cX11_drawWhatIsAhead 48 = .ok (.invokevirtual 214, 3) := by decide +kernel
theorem dX11_drawWhatIsAhead_51 : decode cX11_drawWhatIsAhead 51 = .ok (.aload_n 0, 1) := by decide +kernel
theorem dX11_drawWhatIsAhead_52 : decode cX11_drawWhatIsAhead 52 = .ok (.bipush 20, 2) := by decide +kernel
theorem dX11_drawWhatIsAhead_54 : decode cX11_drawWhatIsAhead 54 = .ok (.invokevirtual 326, 3) := by decide +kernel
theorem dX11_drawWhatIsAhead_57 : decode cX11_drawWhatIsAhead 57 = .ok (.iconst 1, 1) := by decide +kernel
theorem dX11_drawWhatIsAhead_58 : decode cX11_drawWhatIsAhead 58 = .ok (.if_icmp .ge 16, 3) := by decide +kernel
theorem dX11_drawWhatIsAhead_61 : decode cX11_drawWhatIsAhead 61 = .ok (.aload_n 0, 1) := by decide +kernel
theorem dX11_drawWhatIsAhead_62 : decode cX11_drawWhatIsAhead 62 = .ok (.getfield 37, 3) := by decide +kernel
theorem dX11_drawWhatIsAhead_65 : decode cX11_drawWhatIsAhead 65 = .ok (.aload_n 0, 1) := by decide +kernel
theorem dX11_drawWhatIsAhead_66 : decode cX11_drawWhatIsAhead 66 = .ok (.bipush 16, 2) := by decide +kernel
theorem dX11_drawWhatIsAhead_68 : decode cX11_drawWhatIsAhead 68 = .ok (.invokevirtual 326, 3) := by decide +kernel
theorem dX11_drawWhatIsAhead_71 : decode cX11_drawWhatIsAhead 71 = .ok (.invokevirtual 220, 3) := by decide +kernel
theorem dX11_drawWhatIsAhead_74 : decode cX11_drawWhatIsAhead 74 = .ok (.return_, 1) := by decide +kernel
theorem dX11_drawBelow_0 : decode cX11_drawBelow 0 = .ok (.aload_n 0, 1) := by decide +kernel
theorem dX11_drawBelow_1 : decode cX11_drawBelow 1 = .ok (.aload_n 0, 1) := by decide +kernel
theorem dX11_drawBelow_2 : decode cX11_drawBelow 2 = .ok (.getfield 232, 3) := by decide +kernel
theorem dX11_drawBelow_5 : decode cX11_drawBelow 5 = .ok (.ldc2_w 329, 3) := by decide +kernel
theorem dX11_drawBelow_8 : decode cX11_drawBelow 8 = .ok (.lmul, 1) := by decide +kernel
theorem dX11_drawBelow_9 : decode cX11_drawBelow 9 = .ok (.ldc2_w 331, 3) := by decide +kernel
theorem dX11_drawBelow_12 : decode cX11_drawBelow 12 = .ok (.ladd, 1) := by decide +kernel
theorem dX11_drawBelow_13 : decode cX11_drawBelow 13 = .ok (.putfield 232, 3) := by decide +kernel
theorem dX11_drawBelow_16 : decode cX11_drawBelow 16 = .ok (.iload_n 1, 1) := by decide +kernel
theorem dX11_drawBelow_17 : decode cX11_drawBelow 17 = .ok (.ifCond .le 17, 3) := by decide +kernel
theorem dX11_drawBelow_20 : decode cX11_drawBelow 20 = .ok (.aload_n 0, 1) := by decide +kernel
theorem dX11_drawBelow_21 : decode cX11_drawBelow 21 = .ok (.getfield 232, 3) := by decide +kernel
theorem dX11_drawBelow_24 : decode cX11_drawBelow 24 = .ok (.bipush 33, 2) := by decide +kernel
theorem dX11_drawBelow_26 : decode cX11_drawBelow 26 = .ok (.lushr, 1) := by decide +kernel
theorem dX11_drawBelow_27 : decode cX11_drawBelow 27 = .ok (.iload_n 1, 1) := by decide +kernel
theorem dX11_drawBelow_28 : decode cX11_drawBelow 28 = .ok (.i2l, 1) := by decide +kernel
theorem dX11_drawBelow_29 : decode cX11_drawBelow 29 = .ok (.lrem, 1) := by decide +kernel
theorem dX11_drawBelow_30 : decode cX11_drawBelow 30 = .ok (.l2i, 1) := by decide +kernel
theorem dX11_drawBelow_31 : decode cX11_drawBelow 31 = .ok (.goto 4, 3) := by decide +kernel
theorem dX11_drawBelow_34 : decode cX11_drawBelow 34 = .ok (.iconst 0, 1) := by decide +kernel
theorem dX11_drawBelow_35 : decode cX11_drawBelow 35 = .ok (.ireturn, 1) := by decide +kernel
theorem dJ11_isValidCodePoint_9a6ad_0 : decode cJ11_isValidCodePoint_9a6ad 0 = .ok (.iload_n 0, 1) := by decide +kernel
theorem dJ11_isValidCodePoint_9a6ad_1 : decode cJ11_isValidCodePoint_9a6ad 1 = .ok (.bipush 16, 2) := by decide +kernel
theorem dJ11_isValidCodePoint_9a6ad_3 : decode cJ11_isValidCodePoint_9a6ad 3 = .ok (.iushr, 1) := by decide +kernel
theorem dJ11_isValidCodePoint_9a6ad_4 : decode cJ11_isValidCodePoint_9a6ad 4 = .ok (.istore_n 1, 1) := by decide +kernel
theorem dJ11_isValidCodePoint_9a6ad_5 : decode cJ11_isValidCodePoint_9a6ad 5 = .ok (.iload_n 1, 1) := by decide +kernel
theorem dJ11_isValidCodePoint_9a6ad_6 : decode cJ11_isValidCodePoint_9a6ad 6 = .ok (.bipush 17, 2) := by decide +kernel
theorem dJ11_isValidCodePoint_9a6ad_8 : decode cJ11_isValidCodePoint_9a6ad 8 = .ok (.if_icmp .ge 7, 3) := by decide +kernel
theorem dJ11_isValidCodePoint_9a6ad_11 : decode cJ11_isValidCodePoint_9a6ad 11 = .ok (.iconst 1, 1) := by decide +kernel
theorem dJ11_isValidCodePoint_9a6ad_12 : decode cJ11_isValidCodePoint_9a6ad 12 = .ok (.goto 4, 3) := by decide +kernel
theorem dJ11_isValidCodePoint_9a6ad_15 : decode cJ11_isValidCodePoint_9a6ad 15 = .ok (.iconst 0, 1) := by decide +kernel
theorem dJ11_isValidCodePoint_9a6ad_16 : decode cJ11_isValidCodePoint_9a6ad 16 = .ok (.ireturn, 1) := by decide +kernel
theorem dJ11_highSurrogate_5068e_0 : decode cJ11_highSurrogate_5068e 0 = .ok (.iload_n 0, 1) := by decide +kernel
theorem dJ11_highSurrogate_5068e_1 : decode cJ11_highSurrogate_5068e 1 = .ok (.bipush 10, 2) := by decide +kernel
theorem dJ11_highSurrogate_5068e_3 : decode cJ11_highSurrogate_5068e 3 = .ok (.iushr, 1) := by decide +kernel
theorem dJ11_highSurrogate_5068e_4 : decode cJ11_highSurrogate_5068e 4 = .ok (.ldc 110, 2) := by decide +kernel
theorem dJ11_highSurrogate_5068e_6 : decode cJ11_highSurrogate_5068e 6 = .ok (.iadd, 1) := by decide +kernel
theorem dJ11_highSurrogate_5068e_7 : decode cJ11_highSurrogate_5068e 7 = .ok (.i2c, 1) := by decide +kernel
theorem dJ11_highSurrogate_5068e_8 : decode cJ11_highSurrogate_5068e 8 = .ok (.ireturn, 1) := by decide +kernel
theorem dJ11_lowSurrogate_5068e_0 : decode cJ11_lowSurrogate_5068e 0 = .ok (.iload_n 0, 1) := by decide +kernel
theorem dJ11_lowSurrogate_5068e_1 : decode cJ11_lowSurrogate_5068e 1 = .ok (.sipush 1023, 3) := by decide +kernel
theorem dJ11_lowSurrogate_5068e_4 : decode cJ11_lowSurrogate_5068e 4 = .ok (.iand, 1) := by decide +kernel
theorem dJ11_lowSurrogate_5068e_5 : decode cJ11_lowSurrogate_5068e 5 = .ok (.ldc 76, 2) := by decide +kernel
theorem dJ11_lowSurrogate_5068e_7 : decode cJ11_lowSurrogate_5068e 7 = .ok (.iadd, 1) := by decide +kernel
theorem dJ11_lowSurrogate_5068e_8 : decode cJ11_lowSurrogate_5068e 8 = .ok (.i2c, 1) := by decide +kernel
theorem dJ11_lowSurrogate_5068e_9 : decode cJ11_lowSurrogate_5068e 9 = .ok (.ireturn, 1) := by decide +kernel
theorem dJ6_bitCount_0f7a4_0 : decode cJ6_bitCount_0f7a4 0 = .ok (.iload_n 0, 1) := by decide +kernel
theorem dJ6_bitCount_0f7a4_1 : decode cJ6_bitCount_0f7a4 1 = .ok (.iload_n 0, 1) := by decide +kernel
theorem dJ6_bitCount_0f7a4_2 : decode cJ6_bitCount_0f7a4 2 = .ok (.iconst 1, 1) := by decide +kernel
theorem dJ6_bitCount_0f7a4_3 : decode cJ6_bitCount_0f7a4 3 = .ok (.iushr, 1) := by decide +kernel
theorem dJ6_bitCount_0f7a4_4 : decode cJ6_bitCount_0f7a4 4 = .ok (.ldc_w 265, 3) := by decide +kernel
theorem dJ6_bitCount_0f7a4_7 : decode cJ6_bitCount_0f7a4 7 = .ok (.iand, 1) := by decide +kernel
theorem dJ6_bitCount_0f7a4_8 : decode cJ6_bitCount_0f7a4 8 = .ok (.isub, 1) := by decide +kernel
theorem dJ6_bitCount_0f7a4_9 : decode cJ6_bitCount_0f7a4 9 = .ok (.istore_n 0, 1) := by decide +kernel
theorem dJ6_bitCount_0f7a4_10 : decode cJ6_bitCount_0f7a4 10 = .ok (.iload_n 0, 1) := by decide +kernel
theorem dJ6_bitCount_0f7a4_11 : decode cJ6_bitCount_0f7a4 11 = .ok (.ldc_w 266, 3) := by decide +kernel
theorem dJ6_bitCount_0f7a4_14 : decode cJ6_bitCount_0f7a4 14 = .ok (.iand, 1) := by decide +kernel
theorem dJ6_bitCount_0f7a4_15 : decode cJ6_bitCount_0f7a4 15 = .ok (.iload_n 0, 1) := by decide +kernel
theorem dJ6_bitCount_0f7a4_16 : decode cJ6_bitCount_0f7a4 16 = .ok (.iconst 2, 1) := by decide +kernel
theorem dJ6_bitCount_0f7a4_17 : decode cJ6_bitCount_0f7a4 17 = .ok (.iushr, 1) := by decide +kernel
theorem dJ6_bitCount_0f7a4_18 : decode cJ6_bitCount_0f7a4 18 = .ok (.ldc_w 266, 3) := by decide +kernel
theorem dJ6_bitCount_0f7a4_21 : decode cJ6_bitCount_0f7a4 21 = .ok (.iand, 1) := by decide +kernel
theorem dJ6_bitCount_0f7a4_22 : decode cJ6_bitCount_0f7a4 22 = .ok (.iadd, 1) := by decide +kernel
theorem dJ6_bitCount_0f7a4_23 : decode cJ6_bitCount_0f7a4 23 = .ok (.istore_n 0, 1) := by decide +kernel
theorem dJ6_bitCount_0f7a4_24 : decode cJ6_bitCount_0f7a4 24 = .ok (.iload_n 0, 1) := by decide +kernel
theorem dJ6_bitCount_0f7a4_25 : decode cJ6_bitCount_0f7a4 25 = .ok (.iload_n 0, 1) := by decide +kernel
theorem dJ6_bitCount_0f7a4_26 : decode cJ6_bitCount_0f7a4 26 = .ok (.iconst 4, 1) := by decide +kernel
theorem dJ6_bitCount_0f7a4_27 : decode cJ6_bitCount_0f7a4 27 = .ok (.iushr, 1) := by decide +kernel
theorem dJ6_bitCount_0f7a4_28 : decode cJ6_bitCount_0f7a4 28 = .ok (.iadd, 1) := by decide +kernel
theorem dJ6_bitCount_0f7a4_29 : decode cJ6_bitCount_0f7a4 29 = .ok (.ldc_w 267, 3) := by decide +kernel
theorem dJ6_bitCount_0f7a4_32 : decode cJ6_bitCount_0f7a4 32 = .ok (.iand, 1) := by decide +kernel
theorem dJ6_bitCount_0f7a4_33 : decode cJ6_bitCount_0f7a4 33 = .ok (.istore_n 0, 1) := by decide +kernel
theorem dJ6_bitCount_0f7a4_34 : decode cJ6_bitCount_0f7a4 34 = .ok (.iload_n 0, 1) := by decide +kernel
theorem dJ6_bitCount_0f7a4_35 : decode cJ6_bitCount_0f7a4 35 = .ok (.iload_n 0, 1) := by decide +kernel
theorem dJ6_bitCount_0f7a4_36 : decode cJ6_bitCount_0f7a4 36 = .ok (.bipush 8, 2) := by decide +kernel
theorem dJ6_bitCount_0f7a4_38 : decode cJ6_bitCount_0f7a4 38 = .ok (.iushr, 1) := by decide +kernel
theorem dJ6_bitCount_0f7a4_39 : decode cJ6_bitCount_0f7a4 39 = .ok (.iadd, 1) := by decide +kernel
theorem dJ6_bitCount_0f7a4_40 : decode cJ6_bitCount_0f7a4 40 = .ok (.istore_n 0, 1) := by decide +kernel
theorem dJ6_bitCount_0f7a4_41 : decode cJ6_bitCount_0f7a4 41 = .ok (.iload_n 0, 1) := by decide +kernel
theorem dJ6_bitCount_0f7a4_42 : decode cJ6_bitCount_0f7a4 42 = .ok (.iload_n 0, 1) := by decide +kernel
theorem dJ6_bitCount_0f7a4_43 : decode cJ6_bitCount_0f7a4 43 = .ok (.bipush 16, 2) := by decide +kernel
theorem dJ6_bitCount_0f7a4_45 : decode cJ6_bitCount_0f7a4 45 = .ok (.iushr, 1) := by decide +kernel
theorem dJ6_bitCount_0f7a4_46 : decode cJ6_bitCount_0f7a4 46 = .ok (.iadd, 1) := by decide +kernel
theorem dJ6_bitCount_0f7a4_47 : decode cJ6_bitCount_0f7a4 47 = .ok (.istore_n 0, 1) := by decide +kernel
theorem dJ6_bitCount_0f7a4_48 : decode cJ6_bitCount_0f7a4 48 = .ok (.iload_n 0, 1) := by decide +kernel
theorem dJ6_bitCount_0f7a4_49 : decode cJ6_bitCount_0f7a4 49 = .ok (.bipush 63, 2) := by decide +kernel
theorem dJ6_bitCount_0f7a4_51 : decode cJ6_bitCount_0f7a4 51 = .ok (.iand, 1) := by decide +kernel
theorem dJ6_bitCount_0f7a4_52 : decode cJ6_bitCount_0f7a4 52 = .ok (.ireturn, 1) := by decide +kernel
theorem dJ9_max_7cf53_0 : decode cJ9_max_7cf53 0 = .ok (.iload_n 0, 1) := by decide +kernel
theorem dJ9_max_7cf53_1 : decode cJ9_max_7cf53 1 = .ok (.iload_n 1, 1) := by decide +kernel
theorem dJ9_max_7cf53_2 : decode cJ9_max_7cf53 2 = .ok (.if_icmp .lt 7, 3) := by decide +kernel
theorem dJ9_max_7cf53_5 : decode cJ9_max_7cf53 5 = .ok (.iload_n 0, 1) := by decide +kernel
theorem dJ9_max_7cf53_6 : decode cJ9_max_7cf53 6 = .ok (.goto 4, 3) := by decide +kernel
theorem dJ9_max_7cf53_9 : decode cJ9_max_7cf53 9 = .ok (.iload_n 1, 1) := by decide +kernel
theorem dJ9_max_7cf53_10 : decode cJ9_max_7cf53 10 = .ok (.ireturn, 1) := by decide +kernel
theorem dJ9_min_7cf53_0 : decode cJ9_min_7cf53 0 = .ok (.iload_n 0, 1) := by decide +kernel
theorem dJ9_min_7cf53_1 : decode cJ9_min_7cf53 1 = .ok (.iload_n 1, 1) := by decide +kernel
theorem dJ9_min_7cf53_2 : decode cJ9_min_7cf53 2 = .ok (.if_icmp .gt 7, 3) := by decide +kernel
theorem dJ9_min_7cf53_5 : decode cJ9_min_7cf53 5 = .ok (.iload_n 0, 1) := by decide +kernel
theorem dJ9_min_7cf53_6 : decode cJ9_min_7cf53 6 = .ok (.goto 4, 3) := by decide +kernel
theorem dJ9_min_7cf53_9 : decode cJ9_min_7cf53 9 = .ok (.iload_n 1, 1) := by decide +kernel
theorem dJ9_min_7cf53_10 : decode cJ9_min_7cf53 10 = .ok (.ireturn, 1) := by decide +kernel
theorem dJ0_length_8abf5_0 : decode cJ0_length_8abf5 0 = .ok (.aload_n 0, 1) := by decide +kernel
theorem dJ0_length_8abf5_1 : decode cJ0_length_8abf5 1 = .ok (.getfield 9, 3) := by decide +kernel
theorem dJ0_length_8abf5_4 : decode cJ0_length_8abf5 4 = .ok (.arraylength, 1) := by decide +kernel
theorem dJ0_length_8abf5_5 : decode cJ0_length_8abf5 5 = .ok (.aload_n 0, 1) := by decide +kernel
theorem dJ0_length_8abf5_6 : decode cJ0_length_8abf5 6 = .ok (.invokevirtual 335, 3) := by decide +kernel
theorem dJ0_length_8abf5_9 : decode cJ0_length_8abf5 9 = .ok (.ishr, 1) := by decide +kernel
theorem dJ0_length_8abf5_10 : decode cJ0_length_8abf5 10 = .ok (.ireturn, 1) := by decide +kernel
theorem dJ0_indexOf_0f7a4_0 : decode cJ0_indexOf_0f7a4 0 = .ok (.aload_n 0, 1) := by decide +kernel
theorem dJ0_indexOf_0f7a4_1 : decode cJ0_indexOf_0f7a4 1 = .ok (.iload_n 1, 1) := by decide +kernel
theorem dJ0_indexOf_0f7a4_2 : decode cJ0_indexOf_0f7a4 2 = .ok (.iconst 0, 1) := by decide +kernel
theorem dJ0_indexOf_0f7a4_3 : decode cJ0_indexOf_0f7a4 3 = .ok (.invokevirtual 633, 3) := by decide +kernel
theorem dJ0_indexOf_0f7a4_6 : decode cJ0_indexOf_0f7a4 6 = .ok (.ireturn, 1) := by decide +kernel
theorem dJ0_indexOf_7cf53_0 : decode cJ0_indexOf_7cf53 0 = .ok (.aload_n 0, 1) := by decide +kernel
theorem dJ0_indexOf_7cf53_1 : decode cJ0_indexOf_7cf53 1 = .ok (.invokevirtual 492, 3) := by decide +kernel
theorem dJ0_indexOf_7cf53_4 : decode cJ0_indexOf_7cf53 4 = .ok (.ifCond .eq 19, 3) := by decide +kernel
theorem dJ0_indexOf_7cf53_7 : decode cJ0_indexOf_7cf53 7 = .ok (.aload_n 0, 1) := by decide +kernel
theorem dJ0_indexOf_7cf53_8 : decode cJ0_indexOf_7cf53 8 = .ok (.getfield 9, 3) := by decide +kernel
theorem dJ0_indexOf_7cf53_11 : decode cJ0_indexOf_7cf53 11 = .ok (.iload_n 1, 1) := by decide +kernel
theorem dJ0_indexOf_7cf53_12 : decode cJ0_indexOf_7cf53 12 = .ok (.iload_n 2, 1) := by decide +kernel
theorem dJ0_indexOf_7cf53_13 : decode cJ0_indexOf_7cf53 13 = .ok (.aload_n 0, 1) := by decide +kernel
theorem dJ0_indexOf_7cf53_14 : decode cJ0_indexOf_7cf53 14 = .ok (.invokevirtual 505, 3) := by decide +kernel
theorem dJ0_indexOf_7cf53_17 : decode cJ0_indexOf_7cf53 17 = .ok (.invokestatic 637, 3) := by decide +kernel
theorem dJ0_indexOf_7cf53_20 : decode cJ0_indexOf_7cf53 20 = .ok (.goto 16, 3) := by decide +kernel
theorem dJ0_indexOf_7cf53_23 : decode cJ0_indexOf_7cf53 23 = .ok (.aload_n 0, 1) := by decide +kernel
theorem dJ0_indexOf_7cf53_24 : decode cJ0_indexOf_7cf53 24 = .ok (.getfield 9, 3) := by decide +kernel
theorem dJ0_indexOf_7cf53_27 : decode cJ0_indexOf_7cf53 27 = .ok (.iload_n 1, 1) := by decide +kernel
theorem dJ0_indexOf_7cf53_28 : decode cJ0_indexOf_7cf53 28 = .ok (.iload_n 2, 1) := by decide +kernel
theorem dJ0_indexOf_7cf53_29 : decode cJ0_indexOf_7cf53 29 = .ok (.aload_n 0, 1) := by decide +kernel
theorem dJ0_indexOf_7cf53_30 : decode cJ0_indexOf_7cf53 30 = .ok (.invokevirtual 505, 3) := by decide +kernel
theorem dJ0_indexOf_7cf53_33 : decode cJ0_indexOf_7cf53 33 = .ok (.invokestatic 640, 3) := by decide +kernel
theorem dJ0_indexOf_7cf53_36 : decode cJ0_indexOf_7cf53 36 = .ok (.ireturn, 1) := by decide +kernel
theorem dJ0_coder_7d493_0 : decode cJ0_coder_7d493 0 = .ok (.getstatic 38, 3) := by decide +kernel
theorem dJ0_coder_7d493_3 : decode cJ0_coder_7d493 3 = .ok (.ifCond .eq 10, 3) := by decide +kernel
theorem dJ0_coder_7d493_6 : decode cJ0_coder_7d493 6 = .ok (.aload_n 0, 1) := by decide +kernel
theorem dJ0_coder_7d493_7 : decode cJ0_coder_7d493 7 = .ok (.getfield 15, 3) := by decide +kernel
theorem dJ0_coder_7d493_10 : decode cJ0_coder_7d493 10 = .ok (.goto 4, 3) := by decide +kernel
theorem dJ0_coder_7d493_13 : decode cJ0_coder_7d493 13 = .ok (.iconst 1, 1) := by decide +kernel
theorem dJ0_coder_7d493_14 : decode cJ0_coder_7d493 14 = .ok (.ireturn, 1) := by decide +kernel
theorem dJ0_isLatin1_aae02_0 : decode cJ0_isLatin1_aae02 0 = .ok (.getstatic 38, 3) := by decide +kernel
theorem dJ0_isLatin1_aae02_3 : decode cJ0_isLatin1_aae02 3 = .ok (.ifCond .eq 14, 3) := by decide +kernel
theorem dJ0_isLatin1_aae02_6 : decode cJ0_isLatin1_aae02 6 = .ok (.aload_n 0, 1) := by decide +kernel
theorem dJ0_isLatin1_aae02_7 : decode cJ0_isLatin1_aae02 7 = .ok (.getfield 15, 3) := by decide +kernel
theorem dJ0_isLatin1_aae02_10 : decode cJ0_isLatin1_aae02 10 = .ok (.ifCond .ne 7, 3) := by decide +kernel
theorem dJ0_isLatin1_aae02_13 : decode cJ0_isLatin1_aae02 13 = .ok (.iconst 1, 1) := by decide +kernel
theorem dJ0_isLatin1_aae02_14 : decode cJ0_isLatin1_aae02 14 = .ok (.goto 4, 3) := by decide +kernel
theorem dJ0_isLatin1_aae02_17 : decode cJ0_isLatin1_aae02 17 = .ok (.iconst 0, 1) := by decide +kernel
theorem dJ0_isLatin1_aae02_18 : decode cJ0_isLatin1_aae02 18 = .ok (.ireturn, 1) := by decide +kernel
theorem dJ0_checkBoundsBeginEnd_23922_0 : decode cJ0_checkBoundsBeginEnd_23922 0 = .ok (.iload_n 0, 1) := by decide +kernel
theorem dJ0_checkBoundsBeginEnd_23922_1 : decode cJ0_checkBoundsBeginEnd_23922 1 = .ok (.iload_n 1, 1) := by decide +kernel
theorem dJ0_checkBoundsBeginEnd_23922_2 : decode cJ0_checkBoundsBeginEnd_23922 2 = .ok (.iload_n 2, 1) := by decide +kernel
theorem dJ0_checkBoundsBeginEnd_23922_3 : decode cJ0_checkBoundsBeginEnd_23922 3 = .ok (.getstatic 1053, 3) := by decide +kernel
theorem dJ0_checkBoundsBeginEnd_23922_6 : decode cJ0_checkBoundsBeginEnd_23922 6 = .ok (.invokestatic 1062, 3) := by decide +kernel
theorem dJ0_checkBoundsBeginEnd_23922_9 : decode cJ0_checkBoundsBeginEnd_23922 9 = .ok (.pop, 1) := by decide +kernel
theorem dJ0_checkBoundsBeginEnd_23922_10 : decode cJ0_checkBoundsBeginEnd_23922 10 = .ok (.return_, 1) := by decide +kernel
theorem dJ1_canEncode_9a6ad_0 : decode cJ1_canEncode_9a6ad 0 = .ok (.iload_n 0, 1) := by decide +kernel
theorem dJ1_canEncode_9a6ad_1 : decode cJ1_canEncode_9a6ad 1 = .ok (.ifCond .lt 14, 3) := by decide +kernel
theorem dJ1_canEncode_9a6ad_4 : decode cJ1_canEncode_9a6ad 4 = .ok (.iload_n 0, 1) := by decide +kernel
theorem dJ1_canEncode_9a6ad_5 : decode cJ1_canEncode_9a6ad 5 = .ok (.sipush 255, 3) := by decide +kernel
theorem dJ1_canEncode_9a6ad_8 : decode cJ1_canEncode_9a6ad 8 = .ok (.if_icmp .gt 7, 3) := by decide +kernel
theorem dJ1_canEncode_9a6ad_11 : decode cJ1_canEncode_9a6ad 11 = .ok (.iconst 1, 1) := by decide +kernel
theorem dJ1_canEncode_9a6ad_12 : decode cJ1_canEncode_9a6ad 12 = .ok (.goto 4, 3) := by decide +kernel
theorem dJ1_canEncode_9a6ad_15 : decode cJ1_canEncode_9a6ad 15 = .ok (.iconst 0, 1) := by decide +kernel
theorem dJ1_canEncode_9a6ad_16 : decode cJ1_canEncode_9a6ad 16 = .ok (.ireturn, 1) := by decide +kernel
theorem dJ1_indexOf_4cfef_0 : decode cJ1_indexOf_4cfef 0 = .ok (.iload_n 1, 1) := by decide +kernel
theorem dJ1_indexOf_4cfef_1 : decode cJ1_indexOf_4cfef 1 = .ok (.invokestatic 88, 3) := by decide +kernel
theorem dJ1_indexOf_4cfef_4 : decode cJ1_indexOf_4cfef 4 = .ok (.ifCond .ne 5, 3) := by decide +kernel
theorem dJ1_indexOf_4cfef_7 : decode cJ1_indexOf_4cfef 7 = .ok (.iconst (-1), 1) := by decide +kernel
theorem dJ1_indexOf_4cfef_8 : decode cJ1_indexOf_4cfef 8 = .ok (.ireturn, 1) := by decide +kernel
theorem dJ1_indexOf_4cfef_9 : decode cJ1_indexOf_4cfef 9 = .ok (.iload_n 2, 1) := by decide +kernel
theorem dJ1_indexOf_4cfef_10 : decode cJ1_indexOf_4cfef 10 = .ok (.iconst 0, 1) := by decide +kernel
theorem dJ1_indexOf_4cfef_11 : decode cJ1_indexOf_4cfef 11 = .ok (.invokestatic 92, 3) := by decide +kernel
theorem dJ1_indexOf_4cfef_14 : decode cJ1_indexOf_4cfef 14 = .ok (.istore_n 2, 1) := by decide +kernel
theorem dJ1_indexOf_4cfef_15 : decode cJ1_indexOf_4cfef 15 = .ok (.iload_n 3, 1) := by decide +kernel
theorem dJ1_indexOf_4cfef_16 : decode cJ1_indexOf_4cfef 16 = .ok (.aload_n 0, 1) := by decide +kernel
theorem dJ1_indexOf_4cfef_17 : decode cJ1_indexOf_4cfef 17 = .ok (.arraylength, 1) := by decide +kernel
theorem dJ1_indexOf_4cfef_18 : decode cJ1_indexOf_4cfef 18 = .ok (.invokestatic 38, 3) := by decide +kernel
theorem dJ1_indexOf_4cfef_21 : decode cJ1_indexOf_4cfef 21 = .ok (.istore_n 3, 1) := by decide +kernel
theorem dJ1_indexOf_4cfef_22 : decode cJ1_indexOf_4cfef 22 = .ok (.iload_n 2, 1) := by decide +kernel
theorem dJ1_indexOf_4cfef_23 : decode cJ1_indexOf_4cfef 23 = .ok (.iload_n 3, 1) := by decide +kernel
theorem dJ1_indexOf_4cfef_24 : decode cJ1_indexOf_4cfef 24 = .ok (.if_icmp .lt 5, 3) := by decide +kernel
theorem dJ1_indexOf_4cfef_27 : decode cJ1_indexOf_4cfef 27 = .ok (.iconst (-1), 1) := by decide +kernel
theorem dJ1_indexOf_4cfef_28 : decode cJ1_indexOf_4cfef 28 = .ok (.ireturn, 1) := by decide +kernel
theorem dJ1_indexOf_4cfef_29 : decode cJ1_indexOf_4cfef 29 = .ok (.aload_n 0, 1) := by decide +kernel
theorem dJ1_indexOf_4cfef_30 : decode cJ1_indexOf_4cfef 30 = .ok (.iload_n 1, 1) := by decide +kernel
theorem dJ1_indexOf_4cfef_31 : decode cJ1_indexOf_4cfef 31 = .ok (.iload_n 2, 1) := by decide +kernel
theorem dJ1_indexOf_4cfef_32 : decode cJ1_indexOf_4cfef 32 = .ok (.iload_n 3, 1) := by decide +kernel
theorem dJ1_indexOf_4cfef_33 : decode cJ1_indexOf_4cfef 33 = .ok (.invokestatic 95, 3) := by decide +kernel
theorem dJ1_indexOf_4cfef_36 : decode cJ1_indexOf_4cfef 36 = .ok (.ireturn, 1) := by decide +kernel
theorem dJ1_indexOfChar_4cfef_0 : decode cJ1_indexOfChar_4cfef 0 = .ok (.iload_n 1, 1) := by decide +kernel
theorem dJ1_indexOfChar_4cfef_1 : decode cJ1_indexOfChar_4cfef 1 = .ok (.i2b, 1) := by decide +kernel
theorem dJ1_indexOfChar_4cfef_2 : decode cJ1_indexOfChar_4cfef 2 = .ok (.istore 4, 2) := by decide +kernel
theorem dJ1_indexOfChar_4cfef_4 : decode cJ1_indexOfChar_4cfef 4 = .ok (.iload_n 2, 1) := by decide +kernel
theorem dJ1_indexOfChar_4cfef_5 : decode cJ1_indexOfChar_4cfef 5 = .ok (.istore 5, 2) := by decide +kernel
theorem dJ1_indexOfChar_4cfef_7 : decode cJ1_indexOfChar_4cfef 7 = .ok (.iload 5, 2) := by decide +kernel
theorem dJ1_indexOfChar_4cfef_9 : decode cJ1_indexOfChar_4cfef 9 = .ok (.iload_n 3, 1) := by decide +kernel
theorem dJ1_indexOfChar_4cfef_10 : decode cJ1_indexOfChar_4cfef 10 = .ok (.if_icmp .ge 21, 3) := by decide +kernel
theorem dJ1_indexOfChar_4cfef_13 : decode cJ1_indexOfChar_4cfef 13 = .ok (.aload_n 0, 1) := by decide +kernel
theorem dJ1_indexOfChar_4cfef_14 : decode cJ1_indexOfChar_4cfef 14 = .ok (.iload 5, 2) := by decide +kernel
theorem dJ1_indexOfChar_4cfef_16 : decode cJ1_indexOfChar_4cfef 16 = .ok (.baload, 1) := by decide +kernel
theorem dJ1_indexOfChar_4cfef_17 : decode cJ1_indexOfChar_4cfef 17 = .ok (.iload 4, 2) := by decide +kernel
theorem dJ1_indexOfChar_4cfef_19 : decode cJ1_indexOfChar_4cfef 19 = .ok (.if_icmp .ne 6, 3) := by decide +kernel
theorem dJ1_indexOfChar_4cfef_22 : decode cJ1_indexOfChar_4cfef 22 = .ok (.iload 5, 2) := by decide +kernel
theorem dJ1_indexOfChar_4cfef_24 : decode cJ1_indexOfChar_4cfef 24 = .ok (.ireturn, 1) := by decide +kernel
theorem dJ1_indexOfChar_4cfef_25 : decode cJ1_indexOfChar_4cfef 25 = .ok (.iinc 5 1, 3) := by decide +kernel
theorem dJ1_indexOfChar_4cfef_28 : decode cJ1_indexOfChar_4cfef 28 = .ok (.goto (-21), 3) := by decide +kernel
theorem dJ1_indexOfChar_4cfef_31 : decode cJ1_indexOfChar_4cfef 31 = .ok (.iconst (-1), 1) := by decide +kernel
theorem dJ1_indexOfChar_4cfef_32 : decode cJ1_indexOfChar_4cfef 32 = .ok (.ireturn, 1) := by decide +kernel
theorem dJ2_getChar_3b067_0 : decode cJ2_getChar_3b067 0 = .ok (.getstatic 44, 3) := by decide +kernel
theorem dJ2_getChar_3b067_3 : decode cJ2_getChar_3b067 3 = .ok (.ifCond .ne 25, 3) := by decide +kernel
theorem dJ2_getChar_3b067_6 : decode cJ2_getChar_3b067 6 = .ok (.iload_n 1, 1) := by decide +kernel
theorem dJ2_getChar_3b067_7 : decode cJ2_getChar_3b067 7 = .ok (.ifCond .lt 11, 3) := by decide +kernel
theorem dJ2_getChar_3b067_10 : decode cJ2_getChar_3b067 10 = .ok (.iload_n 1, 1) := by decide +kernel
theorem dJ2_getChar_3b067_11 : decode cJ2_getChar_3b067 11 = .ok (.aload_n 0, 1) := by decide +kernel
theorem dJ2_getChar_3b067_12 : decode cJ2_getChar_3b067 12 = .ok (.invokestatic 48, 3) := by decide +kernel
theorem dJ2_getChar_3b067_15 : decode cJ2_getChar_3b067 15 = .ok (.if_icmp .lt 13, 3) := by decide +kernel
theorem dJ2_getChar_3b067_18 : decode cJ2_getChar_3b067 18 = .ok (.new 52, 3) := by decide +kernel
theorem dJ2_getChar_3b067_21 : decode cJ2_getChar_3b067 21 = .ok (.dup, 1) := by decide +kernel
theorem dJ2_getChar_3b067_22 : decode cJ2_getChar_3b067 22 = .ok (.ldc 54, 2) := by decide +kernel
theorem dJ2_getChar_3b067_24 : decode cJ2_getChar_3b067 24 = .ok (.invokespecial 56, 3) := by decide +kernel
theorem dJ2_getChar_3b067_27 : decode cJ2_getChar_3b067 27 = .ok (.athrow, 1) := by decide +kernel
theorem dJ2_getChar_3b067_28 : decode cJ2_getChar_3b067 28 = .ok (.iload_n 1, 1) := by decide +kernel
theorem dJ2_getChar_3b067_29 : decode cJ2_getChar_3b067 29 = .ok (.iconst 1, 1) := by decide +kernel
theorem dJ2_getChar_3b067_30 : decode cJ2_getChar_3b067 30 = .ok (.ishl, 1) := by decide +kernel
theorem dJ2_getChar_3b067_31 : decode cJ2_getChar_3b067 31 = .ok (.istore_n 1, 1) := by decide +kernel
theorem dJ2_getChar_3b067_32 : decode cJ2_getChar_3b067 32 = .ok (.aload_n 0, 1) := by decide +kernel
theorem dJ2_getChar_3b067_33 : decode cJ2_getChar_3b067 33 = .ok (.iload_n 1, 1) := by decide +kernel
theorem dJ2_getChar_3b067_34 : decode cJ2_getChar_3b067 34 = .ok (.iinc 1 1, 3) := by decide +kernel
theorem dJ2_getChar_3b067_37 : decode cJ2_getChar_3b067 37 = .ok (.baload, 1) := by decide +kernel
theorem dJ2_getChar_3b067_38 : decode cJ2_getChar_3b067 38 = .ok (.sipush 255, 3) := by decide +kernel
theorem dJ2_getChar_3b067_41 : decode cJ2_getChar_3b067 41 = .ok (.iand, 1) := by decide +kernel
theorem dJ2_getChar_3b067_42 : decode cJ2_getChar_3b067 42 = .ok (.getstatic 59, 3) := by decide +kernel
theorem dJ2_getChar_3b067_45 : decode cJ2_getChar_3b067 45 = .ok (.ishl, 1) := by decide +kernel
theorem dJ2_getChar_3b067_46 : decode cJ2_getChar_3b067 46 = .ok (.aload_n 0, 1) := by decide +kernel
theorem dJ2_getChar_3b067_47 : decode cJ2_getChar_3b067 47 = .ok (.iload_n 1, 1) := by decide +kernel
theorem dJ2_getChar_3b067_48 : decode cJ2_getChar_3b067 48 = .ok (.baload, 1) := by decide +kernel
theorem dJ2_getChar_3b067_49 : decode cJ2_getChar_3b067 49 = .ok (.sipush 255, 3) := by decide +kernel
theorem dJ2_getChar_3b067_52 : decode cJ2_getChar_3b067 52 = .ok (.iand, 1) := by decide +kernel
theorem dJ2_getChar_3b067_53 : decode cJ2_getChar_3b067 53 = .ok (.getstatic 63, 3) := by decide +kernel
theorem dJ2_getChar_3b067_56 : decode cJ2_getChar_3b067 56 = .ok (.ishl, 1) := by decide +kernel
theorem dJ2_getChar_3b067_57 : decode cJ2_getChar_3b067 57 = .ok (.ior, 1) := by decide +kernel
theorem dJ2_getChar_3b067_58 : decode cJ2_getChar_3b067 58 = .ok (.i2c, 1) := by decide +kernel
theorem dJ2_getChar_3b067_59 : decode cJ2_getChar_3b067 59 = .ok (.ireturn, 1) := by decide +kernel
theorem dJ2_length_9d52b_0 : decode cJ2_length_9d52b 0 = .ok (.aload_n 0, 1) := by decide +kernel
theorem dJ2_length_9d52b_1 : decode cJ2_length_9d52b 1 = .ok (.arraylength, 1) := by decide +kernel
theorem dJ2_length_9d52b_2 : decode cJ2_length_9d52b 2 = .ok (.iconst 1, 1) := by decide +kernel
theorem dJ2_length_9d52b_3 : decode cJ2_length_9d52b 3 = .ok (.ishr, 1) := by decide +kernel
theorem dJ2_length_9d52b_4 : decode cJ2_length_9d52b 4 = .ok (.ireturn, 1) := by decide +kernel
theorem dJ2_indexOf_4cfef_0 : decode cJ2_indexOf_4cfef 0 = .ok (.iload_n 2, 1) := by decide +kernel
theorem dJ2_indexOf_4cfef_1 : decode cJ2_indexOf_4cfef 1 = .ok (.iconst 0, 1) := by decide +kernel
theorem dJ2_indexOf_4cfef_2 : decode cJ2_indexOf_4cfef 2 = .ok (.invokestatic 224, 3) := by decide +kernel
theorem dJ2_indexOf_4cfef_5 : decode cJ2_indexOf_4cfef 5 = .ok (.istore_n 2, 1) := by decide +kernel
theorem dJ2_indexOf_4cfef_6 : decode cJ2_indexOf_4cfef 6 = .ok (.iload_n 3, 1) := by decide +kernel
theorem dJ2_indexOf_4cfef_7 : decode cJ2_indexOf_4cfef 7 = .ok (.aload_n 0, 1) := by decide +kernel
theorem dJ2_indexOf_4cfef_8 : decode cJ2_indexOf_4cfef 8 = .ok (.arraylength, 1) := by decide +kernel
theorem dJ2_indexOf_4cfef_9 : decode cJ2_indexOf_4cfef 9 = .ok (.iconst 1, 1) := by decide +kernel
theorem dJ2_indexOf_4cfef_10 : decode cJ2_indexOf_4cfef 10 = .ok (.ishr, 1) := by decide +kernel
theorem dJ2_indexOf_4cfef_11 : decode cJ2_indexOf_4cfef 11 = .ok (.invokestatic 183, 3) := by decide +kernel
theorem dJ2_indexOf_4cfef_14 : decode cJ2_indexOf_4cfef 14 = .ok (.istore_n 3, 1) := by decide +kernel
theorem dJ2_indexOf_4cfef_15 : decode cJ2_indexOf_4cfef 15 = .ok (.iload_n 2, 1) := by decide +kernel
theorem dJ2_indexOf_4cfef_16 : decode cJ2_indexOf_4cfef 16 = .ok (.iload_n 3, 1) := by decide +kernel
theorem dJ2_indexOf_4cfef_17 : decode cJ2_indexOf_4cfef 17 = .ok (.if_icmp .lt 5, 3) := by decide +kernel
theorem dJ2_indexOf_4cfef_20 : decode cJ2_indexOf_4cfef 20 = .ok (.iconst (-1), 1) := by decide +kernel
theorem dJ2_indexOf_4cfef_21 : decode cJ2_indexOf_4cfef 21 = .ok (.ireturn, 1) := by decide +kernel
theorem dJ2_indexOf_4cfef_22 : decode cJ2_indexOf_4cfef 22 = .ok (.iload_n 1, 1) := by decide +kernel
theorem dJ2_indexOf_4cfef_23 : decode cJ2_indexOf_4cfef 23 = .ok (.ldc 227, 2) := by decide +kernel
theorem dJ2_indexOf_4cfef_25 : decode cJ2_indexOf_4cfef 25 = .ok (.if_icmp .ge 11, 3) := by decide +kernel
theorem dJ2_indexOf_4cfef_28 : decode cJ2_indexOf_4cfef 28 = .ok (.aload_n 0, 1) := by decide +kernel
theorem dJ2_indexOf_4cfef_29 : decode cJ2_indexOf_4cfef 29 = .ok (.iload_n 1, 1) := by decide +kernel
theorem dJ2_indexOf_4cfef_30 : decode cJ2_indexOf_4cfef 30 = .ok (.iload_n 2, 1) := by decide +kernel
theorem dJ2_indexOf_4cfef_31 : decode cJ2_indexOf_4cfef 31 = .ok (.iload_n 3, 1) := by decide +kernel
theorem dJ2_indexOf_4cfef_32 : decode cJ2_indexOf_4cfef 32 = .ok (.invokestatic 228, 3) := by decide +kernel
theorem dJ2_indexOf_4cfef_35 : decode cJ2_indexOf_4cfef 35 = .ok (.ireturn, 1) := by decide +kernel
theorem dJ2_indexOf_4cfef_36 : decode cJ2_indexOf_4cfef 36 = .ok (.aload_n 0, 1) := by decide +kernel
theorem dJ2_indexOf_4cfef_37 : decode cJ2_indexOf_4cfef 37 = .ok (.iload_n 1, 1) := by decide +kernel
theorem dJ2_indexOf_4cfef_38 : decode cJ2_indexOf_4cfef 38 = .ok (.iload_n 2, 1) := by decide +kernel
theorem dJ2_indexOf_4cfef_39 : decode cJ2_indexOf_4cfef 39 = .ok (.iload_n 3, 1) := by decide +kernel
theorem dJ2_indexOf_4cfef_40 : decode cJ2_indexOf_4cfef 40 = .ok (.invokestatic 232, 3) := by decide +kernel
theorem dJ2_indexOf_4cfef_43 : decode cJ2_indexOf_4cfef 43 = .ok (.ireturn, 1) := by decide +kernel
theorem dJ2_indexOfChar_4cfef_0 : decode cJ2_indexOfChar_4cfef 0 = .ok (.iload_n 2, 1) := by decide +kernel
theorem dJ2_indexOfChar_4cfef_1 : decode cJ2_indexOfChar_4cfef 1 = .ok (.iload_n 3, 1) := by decide +kernel
theorem dJ2_indexOfChar_4cfef_2 : decode cJ2_indexOfChar_4cfef 2 = .ok (.aload_n 0, 1) := by decide +kernel
theorem dJ2_indexOfChar_4cfef_3 : decode cJ2_indexOfChar_4cfef 3 = .ok (.invokestatic 96, 3) := by decide +kernel
theorem dJ2_indexOfChar_4cfef_6 : decode cJ2_indexOfChar_4cfef 6 = .ok (.aload_n 0, 1) := by decide +kernel
theorem dJ2_indexOfChar_4cfef_7 : decode cJ2_indexOfChar_4cfef 7 = .ok (.iload_n 1, 1) := by decide +kernel
theorem dJ2_indexOfChar_4cfef_8 : decode cJ2_indexOfChar_4cfef 8 = .ok (.iload_n 2, 1) := by decide +kernel
theorem dJ2_indexOfChar_4cfef_9 : decode cJ2_indexOfChar_4cfef 9 = .ok (.iload_n 3, 1) := by decide +kernel
theorem dJ2_indexOfChar_4cfef_10 : decode cJ2_indexOfChar_4cfef 10 = .ok (.invokestatic 244, 3) := by decide +kernel
theorem dJ2_indexOfChar_4cfef_13 : decode cJ2_indexOfChar_4cfef 13 = .ok (.ireturn, 1) := by decide +kernel
theorem dJ2_indexOfCharUnsafe_4cfef_0 : decode cJ2_indexOfCharUnsafe_4cfef 0 = .ok (.iload_n 2, 1) := by decide +kernel
theorem dJ2_indexOfCharUnsafe_4cfef_1 : decode cJ2_indexOfCharUnsafe_4cfef 1 = .ok (.istore 4, 2) := by decide +kernel
theorem dJ2_indexOfCharUnsafe_4cfef_3 : decode cJ2_indexOfCharUnsafe_4cfef 3 = .ok (.iload 4, 2) := by decide +kernel
theorem dJ2_indexOfCharUnsafe_4cfef_5 : decode cJ2_indexOfCharUnsafe_4cfef 5 = .ok (.iload_n 3, 1) := by decide +kernel
theorem dJ2_indexOfCharUnsafe_4cfef_6 : decode cJ2_indexOfCharUnsafe_4cfef 6 = .ok (.if_icmp .ge 22, 3) := by decide +kernel
theorem dJ2_indexOfCharUnsafe_4cfef_9 : decode cJ2_indexOfCharUnsafe_4cfef 9 = .ok (.aload_n 0, 1) := by decide +kernel
theorem dJ2_indexOfCharUnsafe_4cfef_10 : decode cJ2_indexOfCharUnsafe_4cfef 10 = .ok (.iload 4, 2) := by decide +kernel
theorem dJ2_indexOfCharUnsafe_4cfef_12 : decode cJ2_indexOfCharUnsafe_4cfef 12 = .ok (.invokestatic 71, 3) := by decide +kernel
theorem dJ2_indexOfCharUnsafe_4cfef_15 : decode cJ2_indexOfCharUnsafe_4cfef 15 = .ok (.iload_n 1, 1) := by decide +kernel
theorem dJ2_indexOfCharUnsafe_4cfef_16 : decode cJ2_indexOfCharUnsafe_4cfef 16 = .ok (.if_icmp .ne 6, 3) := by decide +kernel
theorem dJ2_indexOfCharUnsafe_4cfef_19 : decode cJ2_indexOfCharUnsafe_4cfef 19 = .ok (.iload 4, 2) := by decide +kernel
theorem dJ2_indexOfCharUnsafe_4cfef_21 : decode cJ2_indexOfCharUnsafe_4cfef 21 = .ok (.ireturn, 1) := by decide +kernel
theorem dJ2_indexOfCharUnsafe_4cfef_22 : decode cJ2_indexOfCharUnsafe_4cfef 22 = .ok (.iinc 4 1, 3) := by decide +kernel
theorem dJ2_indexOfCharUnsafe_4cfef_25 : decode cJ2_indexOfCharUnsafe_4cfef 25 = .ok (.goto (-22), 3) := by decide +kernel
theorem dJ2_indexOfCharUnsafe_4cfef_28 : decode cJ2_indexOfCharUnsafe_4cfef 28 = .ok (.iconst (-1), 1) := by decide +kernel
theorem dJ2_indexOfCharUnsafe_4cfef_29 : decode cJ2_indexOfCharUnsafe_4cfef 29 = .ok (.ireturn, 1) := by decide +kernel
theorem dJ2_indexOfSupplementary_4cfef_0 : decode cJ2_indexOfSupplementary_4cfef 0 = .ok (.iload_n 1, 1) := by decide +kernel
theorem dJ2_indexOfSupplementary_4cfef_1 : decode cJ2_indexOfSupplementary_4cfef 1 = .ok (.invokestatic 164, 3) := by decide +kernel
theorem dJ2_indexOfSupplementary_4cfef_4 : decode cJ2_indexOfSupplementary_4cfef 4 = .ok (.ifCond .eq 65, 3) := by decide +kernel
theorem dJ2_indexOfSupplementary_4cfef_7 : decode cJ2_indexOfSupplementary_4cfef 7 = .ok (.iload_n 1, 1) := by decide +kernel
theorem dJ2_indexOfSupplementary_4cfef_8 : decode cJ2_indexOfSupplementary_4cfef 8 = .ok (.invokestatic 157, 3) := by decide +kernel
theorem dJ2_indexOfSupplementary_4cfef_11 : decode cJ2_indexOfSupplementary_4cfef 11 = .ok (.istore 4, 2) := by decide +kernel
theorem dJ2_indexOfSupplementary_4cfef_13 : decode cJ2_indexOfSupplementary_4cfef 13 = .ok (.iload_n 1, 1) := by decide +kernel
theorem dJ2_indexOfSupplementary_4cfef_14 : decode cJ2_indexOfSupplementary_4cfef 14 = .ok (.invokestatic 161, 3) := by decide +kernel
theorem dJ2_indexOfSupplementary_4cfef_17 : decode cJ2_indexOfSupplementary_4cfef 17 = .ok (.istore 5, 2) := by decide +kernel
theorem dJ2_indexOfSupplementary_4cfef_19 : decode cJ2_indexOfSupplementary_4cfef 19 = .ok (.iload_n 2, 1) := by decide +kernel
theorem dJ2_indexOfSupplementary_4cfef_20 : decode cJ2_indexOfSupplementary_4cfef 20 = .ok (.iload_n 3, 1) := by decide +kernel
theorem dJ2_indexOfSupplementary_4cfef_21 : decode cJ2_indexOfSupplementary_4cfef 21 = .ok (.aload_n 0, 1) := by decide +kernel
theorem dJ2_indexOfSupplementary_4cfef_22 : decode cJ2_indexOfSupplementary_4cfef 22 = .ok (.invokestatic 96, 3) := by decide +kernel
theorem dJ2_indexOfSupplementary_4cfef_25 : decode cJ2_indexOfSupplementary_4cfef 25 = .ok (.iload_n 2, 1) := by decide +kernel
theorem dJ2_indexOfSupplementary_4cfef_26 : decode cJ2_indexOfSupplementary_4cfef 26 = .ok (.istore 6, 2) := by decide +kernel
theorem dJ2_indexOfSupplementary_4cfef_28 : decode cJ2_indexOfSupplementary_4cfef 28 = .ok (.iload 6, 2) := by decide +kernel
theorem dJ2_indexOfSupplementary_4cfef_30 : decode cJ2_indexOfSupplementary_4cfef 30 = .ok (.iload_n 3, 1) := by decide +kernel
theorem dJ2_indexOfSupplementary_4cfef_31 : decode cJ2_indexOfSupplementary_4cfef 31 = .ok (.iconst 1, 1) := by decide +kernel
theorem dJ2_indexOfSupplementary_4cfef_32 : decode cJ2_indexOfSupplementary_4cfef 32 = .ok (.isub, 1) := by decide +kernel
theorem dJ2_indexOfSupplementary_4cfef_33 : decode cJ2_indexOfSupplementary_4cfef 33 = .ok (.if_icmp .ge 36, 3) := by decide +kernel
theorem dJ2_indexOfSupplementary_4cfef_36 : decode cJ2_indexOfSupplementary_4cfef 36 = .ok (.aload_n 0, 1) := by decide +kernel
theorem dJ2_indexOfSupplementary_4cfef_37 : decode cJ2_indexOfSupplementary_4cfef 37 = .ok (.iload 6, 2) := by decide +kernel
theorem dJ2_indexOfSupplementary_4cfef_39 : decode cJ2_indexOfSupplementary_4cfef 39 = .ok (.invokestatic 71, 3) := by decide +kernel
theorem dJ2_indexOfSupplementary_4cfef_42 : decode cJ2_indexOfSupplementary_4cfef 42 = .ok (.iload 4, 2) := by decide +kernel
theorem dJ2_indexOfSupplementary_4cfef_44 : decode cJ2_indexOfSupplementary_4cfef 44 = .ok (.if_icmp .ne 19, 3) := by decide +kernel
theorem dJ2_indexOfSupplementary_4cfef_47 : decode cJ2_indexOfSupplementary_4cfef 47 = .ok (.aload_n 0, 1) := by decide +kernel
theorem dJ2_indexOfSupplementary_4cfef_48 : decode cJ2_indexOfSupplementary_4cfef 48 = .ok (.iload 6, 2) := by decide +kernel
theorem dJ2_indexOfSupplementary_4cfef_50 : decode cJ2_indexOfSupplementary_4cfef 50 = .ok (.iconst 1, 1) := by decide +kernel
theorem dJ2_indexOfSupplementary_4cfef_51 : decode cJ2_indexOfSupplementary_4cfef 51 = .ok (.iadd, 1) := by decide +kernel
theorem dJ2_indexOfSupplementary_4cfef_52 : decode cJ2_indexOfSupplementary_4cfef 52 = .ok (.invokestatic 71, 3) := by decide +kernel
theorem dJ2_indexOfSupplementary_4cfef_55 : decode cJ2_indexOfSupplementary_4cfef 55 = .ok (.iload 5, 2) := by decide +kernel
theorem dJ2_indexOfSupplementary_4cfef_57 : decode cJ2_indexOfSupplementary_4cfef 57 = .ok (.if_icmp .ne 6, 3) := by decide +kernel
theorem dJ2_indexOfSupplementary_4cfef_60 : decode cJ2_indexOfSupplementary_4cfef 60 = .ok (.iload 6, 2) := by decide +kernel
theorem dJ2_indexOfSupplementary_4cfef_62 : decode cJ2_indexOfSupplementary_4cfef 62 = .ok (.ireturn, 1) := by decide +kernel
theorem dJ2_indexOfSupplementary_4cfef_63 : decode cJ2_indexOfSupplementary_4cfef 63 = .ok (.iinc 6 1, 3) := by decide +kernel
theorem dJ2_indexOfSupplementary_4cfef_66 : decode cJ2_indexOfSupplementary_4cfef 66 = .ok (.goto (-38), 3) := by decide +kernel
theorem dJ2_indexOfSupplementary_4cfef_69 : decode cJ2_indexOfSupplementary_4cfef 69 = .ok (.iconst (-1), 1) := by decide +kernel
theorem dJ2_indexOfSupplementary_4cfef_70 : decode cJ2_indexOfSupplementary_4cfef 70 = .ok (.ireturn, 1) := by decide +kernel
theorem dJ2_checkBoundsBeginEnd_d044e_0 : decode cJ2_checkBoundsBeginEnd_d044e 0 = .ok (.iload_n 0, 1) := by decide +kernel
theorem dJ2_checkBoundsBeginEnd_d044e_1 : decode cJ2_checkBoundsBeginEnd_d044e 1 = .ok (.iload_n 1, 1) := by decide +kernel
theorem dJ2_checkBoundsBeginEnd_d044e_2 : decode cJ2_checkBoundsBeginEnd_d044e 2 = .ok (.aload_n 2, 1) := by decide +kernel
theorem dJ2_checkBoundsBeginEnd_d044e_3 : decode cJ2_checkBoundsBeginEnd_d044e 3 = .ok (.invokestatic 48, 3) := by decide +kernel
theorem dJ2_checkBoundsBeginEnd_d044e_6 : decode cJ2_checkBoundsBeginEnd_d044e 6 = .ok (.invokestatic 241, 3) := by decide +kernel
theorem dJ2_checkBoundsBeginEnd_d044e_9 : decode cJ2_checkBoundsBeginEnd_d044e 9 = .ok (.return_, 1) := by decide +kernel
theorem dJ7_fill_53178_0 : decode cJ7_fill_53178 0 = .ok (.iconst 0, 1) := by decide +kernel
theorem dJ7_fill_53178_1 : decode cJ7_fill_53178 1 = .ok (.istore_n 2, 1) := by decide +kernel
theorem dJ7_fill_53178_2 : decode cJ7_fill_53178 2 = .ok (.aload_n 0, 1) := by decide +kernel
theorem dJ7_fill_53178_3 : decode cJ7_fill_53178 3 = .ok (.arraylength, 1) := by decide +kernel
theorem dJ7_fill_53178_4 : decode cJ7_fill_53178 4 = .ok (.istore_n 3, 1) := by decide +kernel
theorem dJ7_fill_53178_5 : decode cJ7_fill_53178 5 = .ok (.iload_n 2, 1) := by decide +kernel
theorem dJ7_fill_53178_6 : decode cJ7_fill_53178 6 = .ok (.iload_n 3, 1) := by decide +kernel
theorem dJ7_fill_53178_7 : decode cJ7_fill_53178 7 = .ok (.if_icmp .ge 13, 3) := by decide +kernel
theorem dJ7_fill_53178_10 : decode cJ7_fill_53178 10 = .ok (.aload_n 0, 1) := by decide +kernel
theorem dJ7_fill_53178_11 : decode cJ7_fill_53178 11 = .ok (.iload_n 2, 1) := by decide +kernel
theorem dJ7_fill_53178_12 : decode cJ7_fill_53178 12 = .ok (.iload_n 1, 1) := by decide +kernel
theorem dJ7_fill_53178_13 : decode cJ7_fill_53178 13 = .ok (.iastore, 1) := by decide +kernel
theorem dJ7_fill_53178_14 : decode cJ7_fill_53178 14 = .ok (.iinc 2 1, 3) := by decide +kernel
theorem dJ7_fill_53178_17 : decode cJ7_fill_53178 17 = .ok (.goto (-12), 3) := by decide +kernel
theorem dJ7_fill_53178_20 : decode cJ7_fill_53178 20 = .ok (.return_, 1) := by decide +kernel
theorem dJ3_checkFromToIndex_8c36e_0 : decode cJ3_checkFromToIndex_8c36e 0 = .ok (.iload_n 0, 1) := by decide +kernel
theorem dJ3_checkFromToIndex_8c36e_1 : decode cJ3_checkFromToIndex_8c36e 1 = .ok (.ifCond .lt 13, 3) := by decide +kernel
theorem dJ3_checkFromToIndex_8c36e_4 : decode cJ3_checkFromToIndex_8c36e 4 = .ok (.iload_n 0, 1) := by decide +kernel
theorem dJ3_checkFromToIndex_8c36e_5 : decode cJ3_checkFromToIndex_8c36e 5 = .ok (.iload_n 1, 1) := by decide +kernel
theorem dJ3_checkFromToIndex_8c36e_6 : decode cJ3_checkFromToIndex_8c36e 6 = .ok (.if_icmp .gt 8, 3) := by decide +kernel
theorem dJ3_checkFromToIndex_8c36e_9 : decode cJ3_checkFromToIndex_8c36e 9 = .ok (.iload_n 1, 1) := by decide +kernel
theorem dJ3_checkFromToIndex_8c36e_10 : decode cJ3_checkFromToIndex_8c36e 10 = .ok (.iload_n 2, 1) := by decide +kernel
theorem dJ3_checkFromToIndex_8c36e_11 : decode cJ3_checkFromToIndex_8c36e 11 = .ok (.if_icmp .le 11, 3) := by decide +kernel
theorem dJ3_checkFromToIndex_8c36e_14 : decode cJ3_checkFromToIndex_8c36e 14 = .ok (.aload_n 3, 1) := by decide +kernel
theorem dJ3_checkFromToIndex_8c36e_15 : decode cJ3_checkFromToIndex_8c36e 15 = .ok (.iload_n 0, 1) := by decide +kernel
theorem dJ3_checkFromToIndex_8c36e_16 : decode cJ3_checkFromToIndex_8c36e 16 = .ok (.iload_n 1, 1) := by decide +kernel
theorem dJ3_checkFromToIndex_8c36e_17 : decode cJ3_checkFromToIndex_8c36e 17 = .ok (.iload_n 2, 1) := by decide +kernel
theorem dJ3_checkFromToIndex_8c36e_18 : decode cJ3_checkFromToIndex_8c36e 18 = .ok (.invokestatic 99, 3) := by decide +kernel
theorem dJ3_checkFromToIndex_8c36e_21 : decode cJ3_checkFromToIndex_8c36e 21 = .ok (.athrow, 1) := by decide +kernel
theorem dJ3_checkFromToIndex_8c36e_22 : decode cJ3_checkFromToIndex_8c36e 22 = .ok (.iload_n 0, 1) := by decide +kernel
theorem dJ3_checkFromToIndex_8c36e_23 : decode cJ3_checkFromToIndex_8c36e 23 = .ok (.ireturn, 1) := by decide +kernel
