/-! decode rows -/
theorem dX7_init_0 : decode cX7_init 0 = .ok (.aload_n 0, 1) := by decide +kernel
theorem dX7_init_1 : decode cX7_init 1 = .ok (.invokespecial 1, 3) := by decide +kernel
theorem dX7_init_4 : decode cX7_init 4 = .ok (.aload_n 0, 1) := by decide +kernel
theorem dX7_init_5 : decode cX7_init 5 = .ok (.sipush 240, 3) := by decide +kernel
theorem dX7_init_8 : decode cX7_init 8 = .ok (.newarray .int, 2) := by decide +kernel
theorem dX7_init_10 : decode cX7_init 10 = .ok (.putfield 7, 3) := by decide +kernel
theorem dX7_init_13 : decode cX7_init 13 = .ok (.aload_n 0, 1) := by decide +kernel
theorem dX7_init_14 : decode cX7_init 14 = .ok (.bipush 80, 2) := by decide +kernel
theorem dX7_init_16 : decode cX7_init 16 = .ok (.newarray .int, 2) := by decide +kernel
theorem dX7_init_18 : decode cX7_init 18 = .ok (.putfield 13, 3) := by decide +kernel
theorem dX7_init_21 : decode cX7_init 21 = .ok (.aload_n 0, 1) := by decide +kernel
theorem dX7_init_22 : decode cX7_init 22 = .ok (.iconst 2, 1) := by decide +kernel
theorem dX7_init_23 : decode cX7_init 23 = .ok (.newarray .boolean, 2) := by decide +kernel
theorem dX7_init_25 : decode cX7_init 25 = .ok (.putfield 16, 3) := by decide +kernel
theorem dX7_init_28 : decode cX7_init 28 = .ok (.aload_n 0, 1) := by decide +kernel
theorem dX7_init_29 : decode cX7_init 29 = .ok (.bipush 80, 2) := by decide +kernel
theorem dX7_init_31 : decode cX7_init 31 = .ok (.newarray .int, 2) := by decide +kernel
theorem dX7_init_33 : decode cX7_init 33 = .ok (.putfield 20, 3) := by decide +kernel
theorem dX7_init_36 : decode cX7_init 36 = .ok (.aload_n 0, 1) := by decide +kernel
theorem dX7_init_37 : decode cX7_init 37 = .ok (.iconst 2, 1) := by decide +kernel
theorem dX7_init_38 : decode cX7_init 38 = .ok (.newarray .int, 2) := by decide +kernel
theorem dX7_init_40 : decode cX7_init 40 = .ok (.putfield 23, 3) := by decide +kernel
theorem dX7_init_43 : decode cX7_init 43 = .ok (.aload_n 0, 1) := by decide +kernel
theorem dX7_init_44 : decode cX7_init 44 = .ok (.sipush 160, 3) := by decide +kernel
theorem dX7_init_47 : decode cX7_init 47 = .ok (.newarray .int, 2) := by decide +kernel
theorem dX7_init_49 : decode cX7_init 49 = .ok (.putfield 26, 3) := by decide +kernel
theorem dX7_init_52 : decode cX7_init 52 = .ok (.aload_n 0, 1) := by decide +kernel
theorem dX7_init_53 : decode cX7_init 53 = .ok (.iconst 4, 1) := by decide +kernel
theorem dX7_init_54 : decode cX7_init 54 = .ok (.newarray .int, 2) := by decide +kernel
theorem dX7_init_56 : decode cX7_init 56 = .ok (.putfield 29, 3) := by decide +kernel
theorem dX7_init_59 : decode cX7_init 59 = .ok (.aload_n 0, 1) := by decide +kernel
theorem dX7_init_60 : decode cX7_init 60 = .ok (.iconst 4, 1) := by decide +kernel
theorem dX7_init_61 : decode cX7_init 61 = .ok (.newarray .boolean, 2) := by decide +kernel
theorem dX7_init_63 : decode cX7_init 63 = .ok (.putfield 32, 3) := by decide +kernel
theorem dX7_init_66 : decode cX7_init 66 = .ok (.aload_n 0, 1) := by decide +kernel
theorem dX7_init_67 : decode cX7_init 67 = .ok (.sipush 1600, 3) := by decide +kernel
theorem dX7_init_70 : decode cX7_init 70 = .ok (.newarray .boolean, 2) := by decide +kernel
theorem dX7_init_72 : decode cX7_init 72 = .ok (.putfield 35, 3) := by decide +kernel
theorem dX7_init_75 : decode cX7_init 75 = .ok (.aload_n 0, 1) := by decide +kernel
theorem dX7_init_76 : decode cX7_init 76 = .ok (.bipush 8, 2) := by decide +kernel
theorem dX7_init_78 : decode cX7_init 78 = .ok (.newarray .long, 2) := by decide +kernel
theorem dX7_init_80 : decode cX7_init 80 = .ok (.putfield 38, 3) := by decide +kernel
theorem dX7_init_83 : decode cX7_init 83 = .ok (.aload_n 0, 1) := by decide +kernel
theorem dX7_init_84 : decode cX7_init 84 = .ok (.bipush 8, 2) := by decide +kernel
theorem dX7_init_86 : decode cX7_init 86 = .ok (.newarray .long, 2) := by decide +kernel
theorem dX7_init_88 : decode cX7_init 88 = .ok (.putfield 42, 3) := by decide +kernel
theorem dX7_init_91 : decode cX7_init 91 = .ok (.aload_n 0, 1) := by decide +kernel
theorem dX7_init_92 : decode cX7_init 92 = .ok (.iconst 4, 1) := by decide +kernel
theorem dX7_init_93 : decode cX7_init 93 = .ok (.newarray .int, 2) := by decide +kernel
theorem dX7_init_95 : decode cX7_init 95 = .ok (.putfield 45, 3) := by decide +kernel
theorem dX7_init_98 : decode cX7_init 98 = .ok (.aload_n 0, 1) := by decide +kernel
theorem dX7_init_99 : decode cX7_init 99 = .ok (.iconst 4, 1) := by decide +kernel
theorem dX7_init_100 : decode cX7_init 100 = .ok (.newarray .int, 2) := by decide +kernel
theorem dX7_init_102 : decode cX7_init 102 = .ok (.putfield 48, 3) := by decide +kernel
theorem dX7_init_105 : decode cX7_init 105 = .ok (.aload_n 0, 1) := by decide +kernel
theorem dX7_init_106 : decode cX7_init 106 = .ok (.sipush 160, 3) := by decide +kernel
theorem dX7_init_109 : decode cX7_init 109 = .ok (.newarray .int, 2) := by decide +kernel
theorem dX7_init_111 : decode cX7_init 111 = .ok (.putfield 51, 3) := by decide +kernel
theorem dX7_init_114 : decode cX7_init 114 = .ok (.aload_n 0, 1) := by decide +kernel
theorem dX7_init_115 : decode cX7_init 115 = .ok (.iconst 4, 1) := by decide +kernel
theorem dX7_init_116 : decode cX7_init 116 = .ok (.newarray .int, 2) := by decide +kernel
theorem dX7_init_118 : decode cX7_init 118 = .ok (.putfield 54, 3) := by decide +kernel
theorem dX7_init_121 : decode cX7_init 121 = .ok (.iconst 0, 1) := by decide +kernel
theorem dX7_init_122 : decode cX7_init 122 = .ok (.istore_n 1, 1) := by decide +kernel
theorem dX7_init_123 : decode cX7_init 123 = .ok (.iload_n 1, 1) := by decide +kernel
theorem dX7_init_124 : decode cX7_init 124 = .ok (.iconst 4, 1) := by decide +kernel
theorem dX7_init_125 : decode cX7_init 125 = .ok (.if_icmp .ge 17, 3) := by decide +kernel
theorem dX7_init_128 : decode cX7_init 128 = .ok (.aload_n 0, 1) := by decide +kernel
theorem dX7_init_129 : decode cX7_init 129 = .ok (.getfield 45, 3) := by decide +kernel
theorem dX7_init_132 : decode cX7_init 132 = .ok (.iload_n 1, 1) := by decide +kernel
theorem dX7_init_133 : decode cX7_init 133 = .ok (.bipush (-4), 2) := by decide +kernel
theorem dX7_init_135 : decode cX7_init 135 = .ok (.iastore, 1) := by decide +kernel
theorem dX7_init_136 : decode cX7_init 136 = .ok (.iinc 1 1, 3) := by decide +kernel
theorem dX7_init_139 : decode cX7_init 139 = .ok (.goto (-16), 3) := by decide +kernel
theorem dX7_init_142 : decode cX7_init 142 = .ok (.aload_n 0, 1) := by decide +kernel
theorem dX7_init_143 : decode cX7_init 143 = .ok (.invokevirtual 57, 3) := by decide +kernel
theorem dX7_init_146 : decode cX7_init 146 = .ok (.aload_n 0, 1) := by decide +kernel
theorem dX7_init_147 : decode cX7_init 147 = .ok (.invokevirtual 60, 3) := by decide +kernel
theorem dX7_init_150 : decode cX7_init 150 = .ok (.return_, 1) := by decide +kernel
theorem dX7_in_0 : decode cX7_in 0 = .ok (.lload_n 0, 1) := by decide +kernel
theorem dX7_in_1 : decode cX7_in 1 = .ok (.lload_n 2, 1) := by decide +kernel
theorem dX7_in_2 : decode cX7_in 2 = .ok (.lcmp, 1) := by decide +kernel
theorem dX7_in_3 : decode cX7_in 3 = .ok (.ifCond .lt 14, 3) := by decide +kernel
theorem dX7_in_6 : decode cX7_in 6 = .ok (.lload_n 0, 1) := by decide +kernel
theorem dX7_in_7 : decode cX7_in 7 = .ok (.lload 4, 2) := by decide +kernel
theorem dX7_in_9 : decode cX7_in 9 = .ok (.lcmp, 1) := by decide +kernel
theorem dX7_in_10 : decode cX7_in 10 = .ok (.ifCond .gt 7, 3) := by decide +kernel
theorem dX7_in_13 : decode cX7_in 13 = .ok (.iconst 1, 1) := by decide +kernel
theorem dX7_in_14 : decode cX7_in 14 = .ok (.goto 4, 3) := by decide +kernel
theorem dX7_in_17 : decode cX7_in 17 = .ok (.iconst 0, 1) := by decide +kernel
theorem dX7_in_18 : decode cX7_in 18 = .ok (.ireturn, 1) := by decide +kernel
theorem dX7_flag_0 : decode cX7_flag 0 = .ok (.iload_n 0, 1) := by decide +kernel
theorem dX7_flag_1 : decode cX7_flag 1 = .ok (.ifCond .eq 7, 3) := by decide +kernel
theorem dX7_flag_4 : decode cX7_flag 4 = .ok (.iconst 1, 1) := by decide +kernel
theorem dX7_flag_5 : decode cX7_flag 5 = .ok (.goto 4, 3) := by decide +kernel
theorem dX7_flag_8 : decode cX7_flag 8 = .ok (.iconst 0, 1) := by decide +kernel
theorem dX7_flag_9 : decode cX7_flag 9 = .ok (.ireturn, 1) := by decide +kernel
theorem dX7_firstDraft_0 : decode cX7_firstDraft 0 = .ok (.iconst 0, 1) := by decide +kernel
theorem dX7_firstDraft_1 : decode cX7_firstDraft 1 = .ok (.istore_n 1, 1) := by decide +kernel
theorem dX7_firstDraft_2 : decode cX7_firstDraft 2 = .ok (.iload_n 1, 1) := by decide +kernel
theorem dX7_firstDraft_3 : decode cX7_firstDraft 3 = .ok (.bipush 80, 2) := by decide +kernel
theorem dX7_firstDraft_5 : decode cX7_firstDraft 5 = .ok (.if_icmp .ge 27, 3) := by decide +kernel
theorem dX7_firstDraft_8 : decode cX7_firstDraft 8 = .ok (.aload_n 0, 1) := by decide +kernel
theorem dX7_firstDraft_9 : decode cX7_firstDraft 9 = .ok (.getfield 20, 3) := by decide +kernel
theorem dX7_firstDraft_12 : decode cX7_firstDraft 12 = .ok (.iload_n 1, 1) := by decide +kernel
theorem dX7_firstDraft_13 : decode cX7_firstDraft 13 = .ok (.iload_n 1, 1) := by decide +kernel
theorem dX7_firstDraft_14 : decode cX7_firstDraft 14 = .ok (.bipush 16, 2) := by decide +kernel
theorem dX7_firstDraft_16 : decode cX7_firstDraft 16 = .ok (.if_icmp .ge 8, 3) := by decide +kernel
theorem dX7_firstDraft_19 : decode cX7_firstDraft 19 = .ok (.bipush (-4), 2) := by decide +kernel
theorem dX7_firstDraft_21 : decode cX7_firstDraft 21 = .ok (.goto 4, 3) := by decide +kernel
theorem dX7_firstDraft_24 : decode cX7_firstDraft 24 = .ok (.iconst 0, 1) := by decide +kernel
theorem dX7_firstDraft_25 : decode cX7_firstDraft 25 = .ok (.iastore, 1) := by decide +kernel
theorem dX7_firstDraft_26 : decode cX7_firstDraft 26 = .ok (.iinc 1 1, 3) := by decide +kernel
theorem dX7_firstDraft_29 : decode cX7_firstDraft 29 = .ok (.goto (-27), 3) := by decide +kernel
theorem dX7_firstDraft_32 : decode cX7_firstDraft 32 = .ok (.aload_n 0, 1) := by decide +kernel
theorem dX7_firstDraft_33 : decode cX7_firstDraft 33 = .ok (.iconst 4, 1) := by decide +kernel
theorem dX7_firstDraft_34 : decode cX7_firstDraft 34 = .ok (.putfield 63, 3) := by decide +kernel
theorem dX7_firstDraft_37 : decode cX7_firstDraft 37 = .ok (.aload_n 0, 1) := by decide +kernel
theorem dX7_firstDraft_38 : decode cX7_firstDraft 38 = .ok (.iconst 0, 1) := by decide +kernel
theorem dX7_firstDraft_39 : decode cX7_firstDraft 39 = .ok (.putfield 67, 3) := by decide +kernel
theorem dX7_firstDraft_42 : decode cX7_firstDraft 42 = .ok (.aload_n 0, 1) := by decide +kernel
theorem dX7_firstDraft_43 : decode cX7_firstDraft 43 = .ok (.iconst 0, 1) := by decide +kernel
theorem dX7_firstDraft_44 : decode cX7_firstDraft 44 = .ok (.putfield 70, 3) := by decide +kernel
theorem dX7_firstDraft_47 : decode cX7_firstDraft 47 = .ok (.aload_n 0, 1) := by decide +kernel
theorem dX7_firstDraft_48 : decode cX7_firstDraft 48 = .ok (.getfield 23, 3) := by decide +kernel
theorem dX7_firstDraft_51 : decode cX7_firstDraft 51 = .ok (.iconst 0, 1) := by decide +kernel
theorem dX7_firstDraft_52 : decode cX7_firstDraft 52 = .ok (.iconst 0, 1) := by decide +kernel
theorem dX7_firstDraft_53 : decode cX7_firstDraft 53 = .ok (.iastore, 1) := by decide +kernel
theorem dX7_firstDraft_54 : decode cX7_firstDraft 54 = .ok (.aload_n 0, 1) := by decide +kernel
theorem dX7_firstDraft_55 : decode cX7_firstDraft 55 = .ok (.getfield 23, 3) := by decide +kernel
theorem dX7_firstDraft_58 : decode cX7_firstDraft 58 = .ok (.iconst 1, 1) := by decide +kernel
theorem dX7_firstDraft_59 : decode cX7_firstDraft 59 = .ok (.iconst 0, 1) := by decide +kernel
theorem dX7_firstDraft_60 : decode cX7_firstDraft 60 = .ok (.iastore, 1) := by decide +kernel
theorem dX7_firstDraft_61 : decode cX7_firstDraft 61 = .ok (.aload_n 0, 1) := by decide +kernel
theorem dX7_firstDraft_62 : decode cX7_firstDraft 62 = .ok (.bipush (-4), 2) := by decide +kernel
theorem dX7_firstDraft_64 : decode cX7_firstDraft 64 = .ok (.putfield 73, 3) := by decide +kernel
theorem dX7_firstDraft_67 : decode cX7_firstDraft 67 = .ok (.return_, 1) := by decide +kernel
theorem dX7_keepDraft_0 : decode cX7_keepDraft 0 = .ok (.iconst 0, 1) := by decide +kernel
theorem dX7_keepDraft_1 : decode cX7_keepDraft 1 = .ok (.istore_n 1, 1) := by decide +kernel
theorem dX7_keepDraft_2 : decode cX7_keepDraft 2 = .ok (.iload_n 1, 1) := by decide +kernel
theorem dX7_keepDraft_3 : decode cX7_keepDraft 3 = .ok (.bipush 80, 2) := by decide +kernel
theorem dX7_keepDraft_5 : decode cX7_keepDraft 5 = .ok (.if_icmp .ge 21, 3) := by decide +kernel
theorem dX7_keepDraft_8 : decode cX7_keepDraft 8 = .ok (.aload_n 0, 1) := by decide +kernel
theorem dX7_keepDraft_9 : decode cX7_keepDraft 9 = .ok (.getfield 7, 3) := by decide +kernel
theorem dX7_keepDraft_12 : decode cX7_keepDraft 12 = .ok (.iload_n 1, 1) := by decide +kernel
theorem dX7_keepDraft_13 : decode cX7_keepDraft 13 = .ok (.aload_n 0, 1) := by decide +kernel
theorem dX7_keepDraft_14 : decode cX7_keepDraft 14 = .ok (.getfield 20, 3) := by decide +kernel
theorem dX7_keepDraft_17 : decode cX7_keepDraft 17 = .ok (.iload_n 1, 1) := by decide +kernel
theorem dX7_keepDraft_18 : decode cX7_keepDraft 18 = .ok (.iaload, 1) := by decide +kernel
theorem dX7_keepDraft_19 : decode cX7_keepDraft 19 = .ok (.iastore, 1) := by decide +kernel
theorem dX7_keepDraft_20 : decode cX7_keepDraft 20 = .ok (.iinc 1 1, 3) := by decide +kernel
theorem dX7_keepDraft_23 : decode cX7_keepDraft 23 = .ok (.goto (-21), 3) := by decide +kernel
theorem dX7_keepDraft_26 : decode cX7_keepDraft 26 = .ok (.aload_n 0, 1) := by decide +kernel
theorem dX7_keepDraft_27 : decode cX7_keepDraft 27 = .ok (.aload_n 0, 1) := by decide +kernel
theorem dX7_keepDraft_28 : decode cX7_keepDraft 28 = .ok (.getfield 63, 3) := by decide +kernel
theorem dX7_keepDraft_31 : decode cX7_keepDraft 31 = .ok (.putfield 76, 3) := by decide +kernel
theorem dX7_keepDraft_34 : decode cX7_keepDraft 34 = .ok (.aload_n 0, 1) := by decide +kernel
theorem dX7_keepDraft_35 : decode cX7_keepDraft 35 = .ok (.aload_n 0, 1) := by decide +kernel
theorem dX7_keepDraft_36 : decode cX7_keepDraft 36 = .ok (.getfield 67, 3) := by decide +kernel
theorem dX7_keepDraft_39 : decode cX7_keepDraft 39 = .ok (.putfield 79, 3) := by decide +kernel
theorem dX7_keepDraft_42 : decode cX7_keepDraft 42 = .ok (.aload_n 0, 1) := by decide +kernel
theorem dX7_keepDraft_43 : decode cX7_keepDraft 43 = .ok (.getfield 16, 3) := by decide +kernel
theorem dX7_keepDraft_46 : decode cX7_keepDraft 46 = .ok (.iconst 0, 1) := by decide +kernel
theorem dX7_keepDraft_47 : decode cX7_keepDraft 47 = .ok (.iconst 0, 1) := by decide +kernel
theorem dX7_keepDraft_48 : decode cX7_keepDraft 48 = .ok (.bastore, 1) := by decide +kernel
theorem dX7_keepDraft_49 : decode cX7_keepDraft 49 = .ok (.aload_n 0, 1) := by decide +kernel
theorem dX7_keepDraft_50 : decode cX7_keepDraft 50 = .ok (.getfield 16, 3) := by decide +kernel
theorem dX7_keepDraft_53 : decode cX7_keepDraft 53 = .ok (.iconst 1, 1) := by decide +kernel
theorem dX7_keepDraft_54 : decode cX7_keepDraft 54 = .ok (.iconst 0, 1) := by decide +kernel
theorem dX7_keepDraft_55 : decode cX7_keepDraft 55 = .ok (.bastore, 1) := by decide +kernel
theorem dX7_keepDraft_56 : decode cX7_keepDraft 56 = .ok (.return_, 1) := by decide +kernel
theorem dX7_feed_0 : decode cX7_feed 0 = .ok (.iload_n 1, 1) := by decide +kernel
theorem dX7_feed_1 : decode cX7_feed 1 = .ok (.i2l, 1) := by decide +kernel
theorem dX7_feed_2 : decode cX7_feed 2 = .ok (.lconst 0, 1) := by decide +kernel
theorem dX7_feed_3 : decode cX7_feed 3 = .ok (.ldc2_w 82, 3) := by decide +kernel
theorem dX7_feed_6 : decode cX7_feed 6 = .ok (.invokestatic 84, 3) := by decide +kernel
theorem dX7_feed_9 : decode cX7_feed 9 = .ok (.ifCond .ne 5, 3) := by decide +kernel
theorem dX7_feed_12 : decode cX7_feed 12 = .ok (.iconst (-1), 1) := by decide +kernel
theorem dX7_feed_13 : decode cX7_feed 13 = .ok (.ireturn, 1) := by decide +kernel
theorem dX7_feed_14 : decode cX7_feed 14 = .ok (.aload_n 0, 1) := by decide +kernel
theorem dX7_feed_15 : decode cX7_feed 15 = .ok (.getfield 88, 3) := by decide +kernel
theorem dX7_feed_18 : decode cX7_feed 18 = .ok (.sipush 160, 3) := by decide +kernel
theorem dX7_feed_21 : decode cX7_feed 21 = .ok (.if_icmp .ne 6, 3) := by decide +kernel
theorem dX7_feed_24 : decode cX7_feed 24 = .ok (.bipush (-3), 2) := by decide +kernel
theorem dX7_feed_26 : decode cX7_feed 26 = .ok (.ireturn, 1) := by decide +kernel
theorem dX7_feed_27 : decode cX7_feed 27 = .ok (.aload_n 0, 1) := by decide +kernel
theorem dX7_feed_28 : decode cX7_feed 28 = .ok (.getfield 26, 3) := by decide +kernel
theorem dX7_feed_31 : decode cX7_feed 31 = .ok (.aload_n 0, 1) := by decide +kernel
theorem dX7_feed_32 : decode cX7_feed 32 = .ok (.getfield 88, 3) := by decide +kernel
theorem dX7_feed_35 : decode cX7_feed 35 = .ok (.iload_n 1, 1) := by decide +kernel
theorem dX7_feed_36 : decode cX7_feed 36 = .ok (.iastore, 1) := by decide +kernel
theorem dX7_feed_37 : decode cX7_feed 37 = .ok (.aload_n 0, 1) := by decide +kernel
theorem dX7_feed_38 : decode cX7_feed 38 = .ok (.dup, 1) := by decide +kernel
theorem dX7_feed_39 : decode cX7_feed 39 = .ok (.getfield 88, 3) := by decide +kernel
theorem dX7_feed_42 : decode cX7_feed 42 = .ok (.iconst 1, 1) := by decide +kernel
theorem dX7_feed_43 : decode cX7_feed 43 = .ok (.iadd, 1) := by decide +kernel
theorem dX7_feed_44 : decode cX7_feed 44 = .ok (.putfield 88, 3) := by decide +kernel
theorem dX7_feed_47 : decode cX7_feed 47 = .ok (.aload_n 0, 1) := by decide +kernel
theorem dX7_feed_48 : decode cX7_feed 48 = .ok (.getfield 88, 3) := by decide +kernel
theorem dX7_feed_51 : decode cX7_feed 51 = .ok (.ireturn, 1) := by decide +kernel
theorem dX7_end_0 : decode cX7_end 0 = .ok (.iload_n 1, 1) := by decide +kernel
theorem dX7_end_1 : decode cX7_end 1 = .ok (.i2l, 1) := by decide +kernel
theorem dX7_end_2 : decode cX7_end 2 = .ok (.lconst 0, 1) := by decide +kernel
theorem dX7_end_3 : decode cX7_end 3 = .ok (.aload_n 0, 1) := by decide +kernel
theorem dX7_end_4 : decode cX7_end 4 = .ok (.getfield 88, 3) := by decide +kernel
theorem dX7_end_7 : decode cX7_end 7 = .ok (.i2l, 1) := by decide +kernel
theorem dX7_end_8 : decode cX7_end 8 = .ok (.invokestatic 84, 3) := by decide +kernel
theorem dX7_end_11 : decode cX7_end 11 = .ok (.ifCond .ne 5, 3) := by decide +kernel
theorem dX7_end_14 : decode cX7_end 14 = .ok (.iconst (-1), 1) := by decide +kernel
theorem dX7_end_15 : decode cX7_end 15 = .ok (.ireturn, 1) := by decide +kernel
theorem dX7_end_16 : decode cX7_end 16 = .ok (.aload_n 0, 1) := by decide +kernel
theorem dX7_end_17 : decode cX7_end 17 = .ok (.getfield 88, 3) := by decide +kernel
theorem dX7_end_20 : decode cX7_end 20 = .ok (.istore_n 2, 1) := by decide +kernel
theorem dX7_end_21 : decode cX7_end 21 = .ok (.aload_n 0, 1) := by decide +kernel
theorem dX7_end_22 : decode cX7_end 22 = .ok (.iload_n 1, 1) := by decide +kernel
theorem dX7_end_23 : decode cX7_end 23 = .ok (.putfield 88, 3) := by decide +kernel
theorem dX7_end_26 : decode cX7_end 26 = .ok (.iload_n 2, 1) := by decide +kernel
theorem dX7_end_27 : decode cX7_end 27 = .ok (.ireturn, 1) := by decide +kernel
theorem dX7_needs0_0 : decode cX7_needs0 0 = .ok (.iload_n 1, 1) := by decide +kernel
theorem dX7_needs0_1 : decode cX7_needs0 1 = .ok (.ifCond .ne 23, 3) := by decide +kernel
theorem dX7_needs0_4 : decode cX7_needs0 4 = .ok (.aload_n 0, 1) := by decide +kernel
theorem dX7_needs0_5 : decode cX7_needs0 5 = .ok (.getfield 91, 3) := by decide +kernel
theorem dX7_needs0_8 : decode cX7_needs0 8 = .ok (.ifCond .ne 16, 3) := by decide +kernel
theorem dX7_needs0_11 : decode cX7_needs0 11 = .ok (.aload_n 0, 1) := by decide +kernel
theorem dX7_needs0_12 : decode cX7_needs0 12 = .ok (.iload_n 2, 1) := by decide +kernel
theorem dX7_needs0_13 : decode cX7_needs0 13 = .ok (.putfield 91, 3) := by decide +kernel
theorem dX7_needs0_16 : decode cX7_needs0 16 = .ok (.aload_n 0, 1) := by decide +kernel
theorem dX7_needs0_17 : decode cX7_needs0 17 = .ok (.aload_n 0, 1) := by decide +kernel
theorem dX7_needs0_18 : decode cX7_needs0 18 = .ok (.getfield 94, 3) := by decide +kernel
theorem dX7_needs0_21 : decode cX7_needs0 21 = .ok (.putfield 97, 3) := by decide +kernel
theorem dX7_needs0_24 : decode cX7_needs0 24 = .ok (.return_, 1) := by decide +kernel
theorem dX7_byteAt_0 : decode cX7_byteAt 0 = .ok (.iload_n 1, 1) := by decide +kernel
theorem dX7_byteAt_1 : decode cX7_byteAt 1 = .ok (.aload_n 0, 1) := by decide +kernel
theorem dX7_byteAt_2 : decode cX7_byteAt 2 = .ok (.getfield 88, 3) := by decide +kernel
theorem dX7_byteAt_5 : decode cX7_byteAt 5 = .ok (.if_icmp .ge 12, 3) := by decide +kernel
theorem dX7_byteAt_8 : decode cX7_byteAt 8 = .ok (.aload_n 0, 1) := by decide +kernel
theorem dX7_byteAt_9 : decode cX7_byteAt 9 = .ok (.getfield 26, 3) := by decide +kernel
theorem dX7_byteAt_12 : decode cX7_byteAt 12 = .ok (.iload_n 1, 1) := by decide +kernel
theorem dX7_byteAt_13 : decode cX7_byteAt 13 = .ok (.iaload, 1) := by decide +kernel
theorem dX7_byteAt_14 : decode cX7_byteAt 14 = .ok (.goto 4, 3) := by decide +kernel
theorem dX7_byteAt_17 : decode cX7_byteAt 17 = .ok (.iconst (-1), 1) := by decide +kernel
theorem dX7_byteAt_18 : decode cX7_byteAt 18 = .ok (.ireturn, 1) := by decide +kernel
theorem dX7_is_0 : decode cX7_is 0 = .ok (.aload_n 0, 1) := by decide +kernel
theorem dX7_is_1 : decode cX7_is 1 = .ok (.getfield 100, 3) := by decide +kernel
theorem dX7_is_4 : decode cX7_is 4 = .ok (.aload_n 0, 1) := by decide +kernel
theorem dX7_is_5 : decode cX7_is 5 = .ok (.getfield 94, 3) := by decide +kernel
theorem dX7_is_8 : decode cX7_is 8 = .ok (.isub, 1) := by decide +kernel
theorem dX7_is_9 : decode cX7_is 9 = .ok (.iload_n 1, 1) := by decide +kernel
theorem dX7_is_10 : decode cX7_is 10 = .ok (.if_icmp .ne 63, 3) := by decide +kernel
theorem dX7_is_13 : decode cX7_is 13 = .ok (.aload_n 0, 1) := by decide +kernel
theorem dX7_is_14 : decode cX7_is 14 = .ok (.aload_n 0, 1) := by decide +kernel
theorem dX7_is_15 : decode cX7_is 15 = .ok (.getfield 94, 3) := by decide +kernel
theorem dX7_is_18 : decode cX7_is 18 = .ok (.invokevirtual 103, 3) := by decide +kernel
theorem dX7_is_21 : decode cX7_is 21 = .ok (.iload_n 2, 1) := by decide +kernel
theorem dX7_is_22 : decode cX7_is 22 = .ok (.if_icmp .ne 51, 3) := by decide +kernel
theorem dX7_is_25 : decode cX7_is 25 = .ok (.aload_n 0, 1) := by decide +kernel
theorem dX7_is_26 : decode cX7_is 26 = .ok (.aload_n 0, 1) := by decide +kernel
theorem dX7_is_27 : decode cX7_is 27 = .ok (.getfield 94, 3) := by decide +kernel
theorem dX7_is_30 : decode cX7_is 30 = .ok (.iconst 1, 1) := by decide +kernel
theorem dX7_is_31 : decode cX7_is 31 = .ok (.iadd, 1) := by decide +kernel
theorem dX7_is_32 : decode cX7_is 32 = .ok (.invokevirtual 103, 3) := by decide +kernel
theorem dX7_is_35 : decode cX7_is 35 = .ok (.iload_n 3, 1) := by decide +kernel
theorem dX7_is_36 : decode cX7_is 36 = .ok (.if_icmp .ne 37, 3) := by decide +kernel
theorem dX7_is_39 : decode cX7_is 39 = .ok (.aload_n 0, 1) := by decide +kernel
theorem dX7_is_40 : decode cX7_is 40 = .ok (.aload_n 0, 1) := by decide +kernel
theorem dX7_is_41 : decode cX7_is 41 = .ok (.getfield 94, 3) := by decide +kernel
theorem dX7_is_44 : decode cX7_is 44 = .ok (.iconst 2, 1) := by decide +kernel
theorem dX7_is_45 : decode cX7_is 45 = .ok (.iadd, 1) := by decide +kernel
theorem dX7_is_46 : decode cX7_is 46 = .ok (.invokevirtual 103, 3) := by decide +kernel
theorem dX7_is_49 : decode cX7_is 49 = .ok (.iload 4, 2) := by decide +kernel
theorem dX7_is_51 : decode cX7_is 51 = .ok (.if_icmp .ne 22, 3) := by decide +kernel
theorem dX7_is_54 : decode cX7_is 54 = .ok (.aload_n 0, 1) := by decide +kernel
theorem dX7_is_55 : decode cX7_is 55 = .ok (.aload_n 0, 1) := by decide +kernel
theorem dX7_is_56 : decode cX7_is 56 = .ok (.getfield 94, 3) := by decide +kernel
theorem dX7_is_59 : decode cX7_is 59 = .ok (.iconst 3, 1) := by decide +kernel
theorem dX7_is_60 : decode cX7_is 60 = .ok (.iadd, 1) := by decide +kernel
theorem dX7_is_61 : decode cX7_is 61 = .ok (.invokevirtual 103, 3) := by decide +kernel
theorem dX7_is_64 : decode cX7_is 64 = .ok (.iload 5, 2) := by decide +kernel
theorem dX7_is_66 : decode cX7_is 66 = .ok (.if_icmp .ne 7, 3) := by decide +kernel
theorem dX7_is_69 : decode cX7_is 69 = .ok (.iconst 1, 1) := by decide +kernel
theorem dX7_is_70 : decode cX7_is 70 = .ok (.goto 4, 3) := by decide +kernel
theorem dX7_is_73 : decode cX7_is 73 = .ok (.iconst 0, 1) := by decide +kernel
theorem dX7_is_74 : decode cX7_is 74 = .ok (.ireturn, 1) := by decide +kernel
theorem dX7_ends_0 : decode cX7_ends 0 = .ok (.aload_n 0, 1) := by decide +kernel
theorem dX7_ends_1 : decode cX7_ends 1 = .ok (.aload_n 0, 1) := by decide +kernel
theorem dX7_ends_2 : decode cX7_ends 2 = .ok (.getfield 94, 3) := by decide +kernel
theorem dX7_ends_5 : decode cX7_ends 5 = .ok (.iconst 4, 1) := by decide +kernel
theorem dX7_ends_6 : decode cX7_ends 6 = .ok (.iadd, 1) := by decide +kernel
theorem dX7_ends_7 : decode cX7_ends 7 = .ok (.invokevirtual 103, 3) := by decide +kernel
theorem dX7_ends_10 : decode cX7_ends 10 = .ok (.iload_n 1, 1) := by decide +kernel
theorem dX7_ends_11 : decode cX7_ends 11 = .ok (.if_icmp .ne 25, 3) := by decide +kernel
theorem dX7_ends_14 : decode cX7_ends 14 = .ok (.iload_n 2, 1) := by decide +kernel
theorem dX7_ends_15 : decode cX7_ends 15 = .ok (.ifCond .eq 17, 3) := by decide +kernel
theorem dX7_ends_18 : decode cX7_ends 18 = .ok (.aload_n 0, 1) := by decide +kernel
theorem dX7_ends_19 : decode cX7_ends 19 = .ok (.aload_n 0, 1) := by decide +kernel
theorem dX7_ends_20 : decode cX7_ends 20 = .ok (.getfield 94, 3) := by decide +kernel
theorem dX7_ends_23 : decode cX7_ends 23 = .ok (.iconst 5, 1) := by decide +kernel
theorem dX7_ends_24 : decode cX7_ends 24 = .ok (.iadd, 1) := by decide +kernel
theorem dX7_ends_25 : decode cX7_ends 25 = .ok (.invokevirtual 103, 3) := by decide +kernel
theorem dX7_ends_28 : decode cX7_ends 28 = .ok (.iload_n 2, 1) := by decide +kernel
theorem dX7_ends_29 : decode cX7_ends 29 = .ok (.if_icmp .ne 7, 3) := by decide +kernel
theorem dX7_ends_32 : decode cX7_ends 32 = .ok (.iconst 1, 1) := by decide +kernel
theorem dX7_ends_33 : decode cX7_ends 33 = .ok (.goto 4, 3) := by decide +kernel
theorem dX7_ends_36 : decode cX7_ends 36 = .ok (.iconst 0, 1) := by decide +kernel
theorem dX7_ends_37 : decode cX7_ends 37 = .ok (.ireturn, 1) := by decide +kernel
theorem dX7_sideNow_0 : decode cX7_sideNow 0 = .ok (.aload_n 0, 1) := by decide +kernel
theorem dX7_sideNow_1 : decode cX7_sideNow 1 = .ok (.iconst 4, 1) := by decide +kernel
theorem dX7_sideNow_2 : decode cX7_sideNow 2 = .ok (.bipush 108, 2) := by decide +kernel
theorem dX7_sideNow_4 : decode cX7_sideNow 4 = .ok (.bipush 101, 2) := by decide +kernel
theorem dX7_sideNow_6 : decode cX7_sideNow 6 = .ok (.bipush 102, 2) := by decide +kernel
theorem dX7_sideNow_8 : decode cX7_sideNow 8 = .ok (.bipush 116, 2) := by decide +kernel
theorem dX7_sideNow_10 : decode cX7_sideNow 10 = .ok (.invokevirtual 107, 3) := by decide +kernel
theorem dX7_sideNow_13 : decode cX7_sideNow 13 = .ok (.ifCond .eq 7, 3) := by decide +kernel
theorem dX7_sideNow_16 : decode cX7_sideNow 16 = .ok (.iconst 0, 1) := by decide +kernel
theorem dX7_sideNow_17 : decode cX7_sideNow 17 = .ok (.goto 35, 3) := by decide +kernel
theorem dX7_sideNow_20 : decode cX7_sideNow 20 = .ok (.aload_n 0, 1) := by decide +kernel
theorem dX7_sideNow_21 : decode cX7_sideNow 21 = .ok (.iconst 5, 1) := by decide +kernel
theorem dX7_sideNow_22 : decode cX7_sideNow 22 = .ok (.bipush 114, 2) := by decide +kernel
theorem dX7_sideNow_24 : decode cX7_sideNow 24 = .ok (.bipush 105, 2) := by decide +kernel
theorem dX7_sideNow_26 : decode cX7_sideNow 26 = .ok (.bipush 103, 2) := by decide +kernel
theorem dX7_sideNow_28 : decode cX7_sideNow 28 = .ok (.bipush 104, 2) := by decide +kernel
theorem dX7_sideNow_30 : decode cX7_sideNow 30 = .ok (.invokevirtual 107, 3) := by decide +kernel
theorem dX7_sideNow_33 : decode cX7_sideNow 33 = .ok (.ifCond .eq 17, 3) := by decide +kernel
theorem dX7_sideNow_36 : decode cX7_sideNow 36 = .ok (.aload_n 0, 1) := by decide +kernel
theorem dX7_sideNow_37 : decode cX7_sideNow 37 = .ok (.bipush 116, 2) := by decide +kernel
theorem dX7_sideNow_39 : decode cX7_sideNow 39 = .ok (.iconst 0, 1) := by decide +kernel
theorem dX7_sideNow_40 : decode cX7_sideNow 40 = .ok (.invokevirtual 111, 3) := by decide +kernel
theorem dX7_sideNow_43 : decode cX7_sideNow 43 = .ok (.ifCond .eq 7, 3) := by decide +kernel
theorem dX7_sideNow_46 : decode cX7_sideNow 46 = .ok (.iconst 1, 1) := by decide +kernel
theorem dX7_sideNow_47 : decode cX7_sideNow 47 = .ok (.goto 5, 3) := by decide +kernel
theorem dX7_sideNow_50 : decode cX7_sideNow 50 = .ok (.bipush (-4), 2) := by decide +kernel
theorem dX7_sideNow_52 : decode cX7_sideNow 52 = .ok (.ireturn, 1) := by decide +kernel
theorem dX7_lineNow_0 : decode cX7_lineNow 0 = .ok (.aload_n 0, 1) := by decide +kernel
theorem dX7_lineNow_1 : decode cX7_lineNow 1 = .ok (.invokevirtual 115, 3) := by decide +kernel
theorem dX7_lineNow_4 : decode cX7_lineNow 4 = .ok (.bipush (-4), 2) := by decide +kernel
theorem dX7_lineNow_6 : decode cX7_lineNow 6 = .ok (.if_icmp .eq 8, 3) := by decide +kernel
theorem dX7_lineNow_9 : decode cX7_lineNow 9 = .ok (.aload_n 0, 1) := by decide +kernel
theorem dX7_lineNow_10 : decode cX7_lineNow 10 = .ok (.invokevirtual 115, 3) := by decide +kernel
theorem dX7_lineNow_13 : decode cX7_lineNow 13 = .ok (.ireturn, 1) := by decide +kernel
theorem dX7_lineNow_14 : decode cX7_lineNow 14 = .ok (.aload_n 0, 1) := by decide +kernel
theorem dX7_lineNow_15 : decode cX7_lineNow 15 = .ok (.iconst 4, 1) := by decide +kernel
theorem dX7_lineNow_16 : decode cX7_lineNow 16 = .ok (.bipush 99, 2) := by decide +kernel
theorem dX7_lineNow_18 : decode cX7_lineNow 18 = .ok (.bipush 105, 2) := by decide +kernel
theorem dX7_lineNow_20 : decode cX7_lineNow 20 = .ok (.bipush 116, 2) := by decide +kernel
theorem dX7_lineNow_22 : decode cX7_lineNow 22 = .ok (.bipush 121, 2) := by decide +kernel
theorem dX7_lineNow_24 : decode cX7_lineNow 24 = .ok (.invokevirtual 107, 3) := by decide +kernel
theorem dX7_lineNow_27 : decode cX7_lineNow 27 = .ok (.ifCond .eq 5, 3) := by decide +kernel
theorem dX7_lineNow_30 : decode cX7_lineNow 30 = .ok (.iconst 2, 1) := by decide +kernel
theorem dX7_lineNow_31 : decode cX7_lineNow 31 = .ok (.ireturn, 1) := by decide +kernel
theorem dX7_lineNow_32 : decode cX7_lineNow 32 = .ok (.aload_n 0, 1) := by decide +kernel
theorem dX7_lineNow_33 : decode cX7_lineNow 33 = .ok (.iconst 4, 1) := by decide +kernel
theorem dX7_lineNow_34 : decode cX7_lineNow 34 = .ok (.bipush 104, 2) := by decide +kernel
theorem dX7_lineNow_36 : decode cX7_lineNow 36 = .ok (.bipush 111, 2) := by decide +kernel
theorem dX7_lineNow_38 : decode cX7_lineNow 38 = .ok (.bipush 117, 2) := by decide +kernel
theorem dX7_lineNow_40 : decode cX7_lineNow 40 = .ok (.bipush 114, 2) := by decide +kernel
theorem dX7_lineNow_42 : decode cX7_lineNow 42 = .ok (.invokevirtual 107, 3) := by decide +kernel
theorem dX7_lineNow_45 : decode cX7_lineNow 45 = .ok (.ifCond .eq 5, 3) := by decide +kernel
theorem dX7_lineNow_48 : decode cX7_lineNow 48 = .ok (.iconst 3, 1) := by decide +kernel
theorem dX7_lineNow_49 : decode cX7_lineNow 49 = .ok (.ireturn, 1) := by decide +kernel
theorem dX7_lineNow_50 : decode cX7_lineNow 50 = .ok (.aload_n 0, 1) := by decide +kernel
theorem dX7_lineNow_51 : decode cX7_lineNow 51 = .ok (.bipush 6, 2) := by decide +kernel
theorem dX7_lineNow_53 : decode cX7_lineNow 53 = .ok (.bipush 103, 2) := by decide +kernel
theorem dX7_lineNow_55 : decode cX7_lineNow 55 = .ok (.bipush 108, 2) := by decide +kernel
theorem dX7_lineNow_57 : decode cX7_lineNow 57 = .ok (.bipush 111, 2) := by decide +kernel
theorem dX7_lineNow_59 : decode cX7_lineNow 59 = .ok (.bipush 118, 2) := by decide +kernel
theorem dX7_lineNow_61 : decode cX7_lineNow 61 = .ok (.invokevirtual 107, 3) := by decide +kernel
theorem dX7_lineNow_64 : decode cX7_lineNow 64 = .ok (.ifCond .eq 16, 3) := by decide +kernel
theorem dX7_lineNow_67 : decode cX7_lineNow 67 = .ok (.aload_n 0, 1) := by decide +kernel
theorem dX7_lineNow_68 : decode cX7_lineNow 68 = .ok (.bipush 101, 2) := by decide +kernel
theorem dX7_lineNow_70 : decode cX7_lineNow 70 = .ok (.bipush 115, 2) := by decide +kernel
theorem dX7_lineNow_72 : decode cX7_lineNow 72 = .ok (.invokevirtual 111, 3) := by decide +kernel
theorem dX7_lineNow_75 : decode cX7_lineNow 75 = .ok (.ifCond .eq 5, 3) := by decide +kernel
theorem dX7_lineNow_78 : decode cX7_lineNow 78 = .ok (.iconst 4, 1) := by decide +kernel
theorem dX7_lineNow_79 : decode cX7_lineNow 79 = .ok (.ireturn, 1) := by decide +kernel
theorem dX7_lineNow_80 : decode cX7_lineNow 80 = .ok (.aload_n 0, 1) := by decide +kernel
theorem dX7_lineNow_81 : decode cX7_lineNow 81 = .ok (.iconst 4, 1) := by decide +kernel
theorem dX7_lineNow_82 : decode cX7_lineNow 82 = .ok (.bipush 115, 2) := by decide +kernel
theorem dX7_lineNow_84 : decode cX7_lineNow 84 = .ok (.bipush 105, 2) := by decide +kernel
theorem dX7_lineNow_86 : decode cX7_lineNow 86 = .ok (.bipush 103, 2) := by decide +kernel
theorem dX7_lineNow_88 : decode cX7_lineNow 88 = .ok (.bipush 110, 2) := by decide +kernel
theorem dX7_lineNow_90 : decode cX7_lineNow 90 = .ok (.invokevirtual 107, 3) := by decide +kernel
theorem dX7_lineNow_93 : decode cX7_lineNow 93 = .ok (.ifCond .eq 5, 3) := by decide +kernel
theorem dX7_lineNow_96 : decode cX7_lineNow 96 = .ok (.iconst 5, 1) := by decide +kernel
theorem dX7_lineNow_97 : decode cX7_lineNow 97 = .ok (.ireturn, 1) := by decide +kernel
theorem dX7_lineNow_98 : decode cX7_lineNow 98 = .ok (.aload_n 0, 1) := by decide +kernel
theorem dX7_lineNow_99 : decode cX7_lineNow 99 = .ok (.bipush 6, 2) := by decide +kernel
theorem dX7_lineNow_101 : decode cX7_lineNow 101 = .ok (.bipush 119, 2) := by decide +kernel
theorem dX7_lineNow_103 : decode cX7_lineNow 103 = .ok (.bipush 97, 2) := by decide +kernel
theorem dX7_lineNow_105 : decode cX7_lineNow 105 = .ok (.bipush 108, 2) := by decide +kernel
theorem dX7_lineNow_107 : decode cX7_lineNow 107 = .ok (.bipush 107, 2) := by decide +kernel
theorem dX7_lineNow_109 : decode cX7_lineNow 109 = .ok (.invokevirtual 107, 3) := by decide +kernel
theorem dX7_lineNow_112 : decode cX7_lineNow 112 = .ok (.ifCond .eq 19, 3) := by decide +kernel
theorem dX7_lineNow_115 : decode cX7_lineNow 115 = .ok (.aload_n 0, 1) := by decide +kernel
theorem dX7_lineNow_116 : decode cX7_lineNow 116 = .ok (.bipush 101, 2) := by decide +kernel
theorem dX7_lineNow_118 : decode cX7_lineNow 118 = .ok (.bipush 114, 2) := by decide +kernel
theorem dX7_lineNow_120 : decode cX7_lineNow 120 = .ok (.invokevirtual 111, 3) := by decide +kernel
theorem dX7_lineNow_123 : decode cX7_lineNow 123 = .ok (.ifCond .eq 8, 3) := by decide +kernel
theorem dX7_lineNow_126 : decode cX7_lineNow 126 = .ok (.bipush 6, 2) := by decide +kernel
theorem dX7_lineNow_128 : decode cX7_lineNow 128 = .ok (.goto 38, 3) := by decide +kernel
theorem dX7_lineNow_131 : decode cX7_lineNow 131 = .ok (.aload_n 0, 1) := by decide +kernel
theorem dX7_lineNow_132 : decode cX7_lineNow 132 = .ok (.bipush 6, 2) := by decide +kernel
theorem dX7_lineNow_134 : decode cX7_lineNow 134 = .ok (.bipush 107, 2) := by decide +kernel
theorem dX7_lineNow_136 : decode cX7_lineNow 136 = .ok (.bipush 101, 2) := by decide +kernel
theorem dX7_lineNow_138 : decode cX7_lineNow 138 = .ok (.bipush 101, 2) := by decide +kernel
theorem dX7_lineNow_140 : decode cX7_lineNow 140 = .ok (.bipush 112, 2) := by decide +kernel
theorem dX7_lineNow_142 : decode cX7_lineNow 142 = .ok (.invokevirtual 107, 3) := by decide +kernel
theorem dX7_lineNow_145 : decode cX7_lineNow 145 = .ok (.ifCond .eq 19, 3) := by decide +kernel
theorem dX7_lineNow_148 : decode cX7_lineNow 148 = .ok (.aload_n 0, 1) := by decide +kernel
theorem dX7_lineNow_149 : decode cX7_lineNow 149 = .ok (.bipush 101, 2) := by decide +kernel
theorem dX7_lineNow_151 : decode cX7_lineNow 151 = .ok (.bipush 114, 2) := by decide +kernel
theorem dX7_lineNow_153 : decode cX7_lineNow 153 = .ok (.invokevirtual 111, 3) := by decide +kernel
theorem dX7_lineNow_156 : decode cX7_lineNow 156 = .ok (.ifCond .eq 8, 3) := by decide +kernel
theorem dX7_lineNow_159 : decode cX7_lineNow 159 = .ok (.bipush 7, 2) := by decide +kernel
theorem dX7_lineNow_161 : decode cX7_lineNow 161 = .ok (.goto 5, 3) := by decide +kernel
theorem dX7_lineNow_164 : decode cX7_lineNow 164 = .ok (.bipush (-4), 2) := by decide +kernel
theorem dX7_lineNow_166 : decode cX7_lineNow 166 = .ok (.ireturn, 1) := by decide +kernel
theorem dX7_nextToken_0 : decode cX7_nextToken 0 = .ok (.aload_n 0, 1) := by decide +kernel
theorem dX7_nextToken_1 : decode cX7_nextToken 1 = .ok (.getfield 91, 3) := by decide +kernel
theorem dX7_nextToken_4 : decode cX7_nextToken 4 = .ok (.ifCond .le 4, 3) := by decide +kernel
theorem dX7_nextToken_7 : decode cX7_nextToken 7 = .ok (.return_, 1) := by decide +kernel
theorem dX7_nextToken_8 : decode cX7_nextToken 8 = .ok (.aload_n 0, 1) := by decide +kernel
theorem dX7_nextToken_9 : decode cX7_nextToken 9 = .ok (.aload_n 0, 1) := by decide +kernel
theorem dX7_nextToken_10 : decode cX7_nextToken 10 = .ok (.getfield 100, 3) := by decide +kernel
theorem dX7_nextToken_13 : decode cX7_nextToken 13 = .ok (.invokevirtual 103, 3) := by decide +kernel
theorem dX7_nextToken_16 : decode cX7_nextToken 16 = .ok (.bipush 32, 2) := by decide +kernel
theorem dX7_nextToken_18 : decode cX7_nextToken 18 = .ok (.if_icmp .ne 16, 3) := by decide +kernel
theorem dX7_nextToken_21 : decode cX7_nextToken 21 = .ok (.aload_n 0, 1) := by decide +kernel
theorem dX7_nextToken_22 : decode cX7_nextToken 22 = .ok (.dup, 1) := by decide +kernel
theorem dX7_nextToken_23 : decode cX7_nextToken 23 = .ok (.getfield 100, 3) := by decide +kernel
theorem dX7_nextToken_26 : decode cX7_nextToken 26 = .ok (.iconst 1, 1) := by decide +kernel
theorem dX7_nextToken_27 : decode cX7_nextToken 27 = .ok (.iadd, 1) := by decide +kernel
theorem dX7_nextToken_28 : decode cX7_nextToken 28 = .ok (.putfield 100, 3) := by decide +kernel
theorem dX7_nextToken_31 : decode cX7_nextToken 31 = .ok (.goto (-23), 3) := by decide +kernel
theorem dX7_nextToken_34 : decode cX7_nextToken 34 = .ok (.aload_n 0, 1) := by decide +kernel
theorem dX7_nextToken_35 : decode cX7_nextToken 35 = .ok (.aload_n 0, 1) := by decide +kernel
theorem dX7_nextToken_36 : decode cX7_nextToken 36 = .ok (.getfield 100, 3) := by decide +kernel
theorem dX7_nextToken_39 : decode cX7_nextToken 39 = .ok (.putfield 94, 3) := by decide +kernel
theorem dX7_nextToken_42 : decode cX7_nextToken 42 = .ok (.aload_n 0, 1) := by decide +kernel
theorem dX7_nextToken_43 : decode cX7_nextToken 43 = .ok (.aload_n 0, 1) := by decide +kernel
theorem dX7_nextToken_44 : decode cX7_nextToken 44 = .ok (.getfield 100, 3) := by decide +kernel
theorem dX7_nextToken_47 : decode cX7_nextToken 47 = .ok (.invokevirtual 103, 3) := by decide +kernel
theorem dX7_nextToken_50 : decode cX7_nextToken 50 = .ok (.istore_n 1, 1) := by decide +kernel
theorem dX7_nextToken_51 : decode cX7_nextToken 51 = .ok (.iload_n 1, 1) := by decide +kernel
theorem dX7_nextToken_52 : decode cX7_nextToken 52 = .ok (.ifCond .ge 11, 3) := by decide +kernel
theorem dX7_nextToken_55 : decode cX7_nextToken 55 = .ok (.aload_n 0, 1) := by decide +kernel
theorem dX7_nextToken_56 : decode cX7_nextToken 56 = .ok (.iconst 0, 1) := by decide +kernel
theorem dX7_nextToken_57 : decode cX7_nextToken 57 = .ok (.putfield 119, 3) := by decide +kernel
theorem dX7_nextToken_60 : decode cX7_nextToken 60 = .ok (.goto 214, 3) := by decide +kernel
theorem dX7_nextToken_63 : decode cX7_nextToken 63 = .ok (.iload_n 1, 1) := by decide +kernel
theorem dX7_nextToken_64 : decode cX7_nextToken 64 = .ok (.i2l, 1) := by decide +kernel
theorem dX7_nextToken_65 : decode cX7_nextToken 65 = .ok (.ldc2_w 122, 3) := by decide +kernel
theorem dX7_nextToken_68 : decode cX7_nextToken 68 = .ok (.ldc2_w 124, 3) := by decide +kernel
theorem dX7_nextToken_71 : decode cX7_nextToken 71 = .ok (.invokestatic 84, 3) := by decide +kernel
theorem dX7_nextToken_74 : decode cX7_nextToken 74 = .ok (.ifCond .eq 42, 3) := by decide +kernel
theorem dX7_nextToken_77 : decode cX7_nextToken 77 = .ok (.aload_n 0, 1) := by decide +kernel
theorem dX7_nextToken_78 : decode cX7_nextToken 78 = .ok (.iconst 1, 1) := by decide +kernel
theorem dX7_nextToken_79 : decode cX7_nextToken 79 = .ok (.putfield 119, 3) := by decide +kernel
theorem dX7_nextToken_82 : decode cX7_nextToken 82 = .ok (.aload_n 0, 1) := by decide +kernel
theorem dX7_nextToken_83 : decode cX7_nextToken 83 = .ok (.aload_n 0, 1) := by decide +kernel
theorem dX7_nextToken_84 : decode cX7_nextToken 84 = .ok (.getfield 100, 3) := by decide +kernel
theorem dX7_nextToken_87 : decode cX7_nextToken 87 = .ok (.invokevirtual 103, 3) := by decide +kernel
theorem dX7_nextToken_90 : decode cX7_nextToken 90 = .ok (.i2l, 1) := by decide +kernel
theorem dX7_nextToken_91 : decode cX7_nextToken 91 = .ok (.ldc2_w 122, 3) := by decide +kernel
theorem dX7_nextToken_94 : decode cX7_nextToken 94 = .ok (.ldc2_w 124, 3) := by decide +kernel
theorem dX7_nextToken_97 : decode cX7_nextToken 97 = .ok (.invokestatic 84, 3) := by decide +kernel
theorem dX7_nextToken_100 : decode cX7_nextToken 100 = .ok (.ifCond .eq 174, 3) := by decide +kernel
theorem dX7_nextToken_103 : decode cX7_nextToken 103 = .ok (.aload_n 0, 1) := by decide +kernel
theorem dX7_nextToken_104 : decode cX7_nextToken 104 = .ok (.dup, 1) := by decide +kernel
theorem dX7_nextToken_105 : decode cX7_nextToken 105 = .ok (.getfield 100, 3) := by decide +kernel
theorem dX7_nextToken_108 : decode cX7_nextToken 108 = .ok (.iconst 1, 1) := by decide +kernel
theorem dX7_nextToken_109 : decode cX7_nextToken 109 = .ok (.iadd, 1) := by decide +kernel
theorem dX7_nextToken_110 : decode cX7_nextToken 110 = .ok (.putfield 100, 3) := by decide +kernel
theorem dX7_nextToken_113 : decode cX7_nextToken 113 = .ok (.goto (-31), 3) := by decide +kernel
theorem dX7_nextToken_116 : decode cX7_nextToken 116 = .ok (.iload_n 1, 1) := by decide +kernel
theorem dX7_nextToken_117 : decode cX7_nextToken 117 = .ok (.i2l, 1) := by decide +kernel
theorem dX7_nextToken_118 : decode cX7_nextToken 118 = .ok (.ldc2_w 126, 3) := by decide +kernel
theorem dX7_nextToken_121 : decode cX7_nextToken 121 = .ok (.ldc2_w 128, 3) := by decide +kernel
theorem dX7_nextToken_124 : decode cX7_nextToken 124 = .ok (.invokestatic 84, 3) := by decide +kernel
theorem dX7_nextToken_127 : decode cX7_nextToken 127 = .ok (.ifCond .eq 116, 3) := by decide +kernel
theorem dX7_nextToken_130 : decode cX7_nextToken 130 = .ok (.aload_n 0, 1) := by decide +kernel
theorem dX7_nextToken_131 : decode cX7_nextToken 131 = .ok (.iconst 2, 1) := by decide +kernel
theorem dX7_nextToken_132 : decode cX7_nextToken 132 = .ok (.putfield 119, 3) := by decide +kernel
theorem dX7_nextToken_135 : decode cX7_nextToken 135 = .ok (.aload_n 0, 1) := by decide +kernel
theorem dX7_nextToken_136 : decode cX7_nextToken 136 = .ok (.iconst 0, 1) := by decide +kernel
theorem dX7_nextToken_137 : decode cX7_nextToken 137 = .ok (.putfield 130, 3) := by decide +kernel
theorem dX7_nextToken_140 : decode cX7_nextToken 140 = .ok (.aload_n 0, 1) := by decide +kernel
theorem dX7_nextToken_141 : decode cX7_nextToken 141 = .ok (.aload_n 0, 1) := by decide +kernel
theorem dX7_nextToken_142 : decode cX7_nextToken 142 = .ok (.getfield 100, 3) := by decide +kernel
theorem dX7_nextToken_145 : decode cX7_nextToken 145 = .ok (.invokevirtual 103, 3) := by decide +kernel
theorem dX7_nextToken_148 : decode cX7_nextToken 148 = .ok (.i2l, 1) := by decide +kernel
theorem dX7_nextToken_149 : decode cX7_nextToken 149 = .ok (.ldc2_w 126, 3) := by decide +kernel
theorem dX7_nextToken_152 : decode cX7_nextToken 152 = .ok (.ldc2_w 128, 3) := by decide +kernel
theorem dX7_nextToken_155 : decode cX7_nextToken 155 = .ok (.invokestatic 84, 3) := by decide +kernel
theorem dX7_nextToken_158 : decode cX7_nextToken 158 = .ok (.ifCond .eq 59, 3) := by decide +kernel
theorem dX7_nextToken_161 : decode cX7_nextToken 161 = .ok (.aload_n 0, 1) := by decide +kernel
theorem dX7_nextToken_162 : decode cX7_nextToken 162 = .ok (.aload_n 0, 1) := by decide +kernel
theorem dX7_nextToken_163 : decode cX7_nextToken 163 = .ok (.getfield 100, 3) := by decide +kernel
theorem dX7_nextToken_166 : decode cX7_nextToken 166 = .ok (.aload_n 0, 1) := by decide +kernel
theorem dX7_nextToken_167 : decode cX7_nextToken 167 = .ok (.getfield 94, 3) := by decide +kernel
theorem dX7_nextToken_170 : decode cX7_nextToken 170 = .ok (.isub, 1) := by decide +kernel
theorem dX7_nextToken_171 : decode cX7_nextToken 171 = .ok (.iconst 2, 1) := by decide +kernel
theorem dX7_nextToken_172 : decode cX7_nextToken 172 = .ok (.if_icmp .ge 25, 3) := by decide +kernel
theorem dX7_nextToken_175 : decode cX7_nextToken 175 = .ok (.bipush 10, 2) := by decide +kernel
theorem dX7_nextToken_177 : decode cX7_nextToken 177 = .ok (.aload_n 0, 1) := by decide +kernel
theorem dX7_nextToken_178 : decode cX7_nextToken 178 = .ok (.getfield 130, 3) := by decide +kernel
theorem dX7_nextToken_181 : decode cX7_nextToken 181 = .ok (.imul, 1) := by decide +kernel
theorem dX7_nextToken_182 : decode cX7_nextToken 182 = .ok (.aload_n 0, 1) := by decide +kernel
theorem dX7_nextToken_183 : decode cX7_nextToken 183 = .ok (.aload_n 0, 1) := by decide +kernel
theorem dX7_nextToken_184 : decode cX7_nextToken 184 = .ok (.getfield 100, 3) := by decide +kernel
theorem dX7_nextToken_187 : decode cX7_nextToken 187 = .ok (.invokevirtual 103, 3) := by decide +kernel
theorem dX7_nextToken_190 : decode cX7_nextToken 190 = .ok (.iadd, 1) := by decide +kernel
theorem dX7_nextToken_191 : decode cX7_nextToken 191 = .ok (.bipush 48, 2) := by decide +kernel
theorem dX7_nextToken_193 : decode cX7_nextToken 193 = .ok (.isub, 1) := by decide +kernel
theorem dX7_nextToken_194 : decode cX7_nextToken 194 = .ok (.goto 7, 3) := by decide +kernel
theorem dX7_nextToken_197 : decode cX7_nextToken 197 = .ok (.aload_n 0, 1) := by decide +kernel
theorem dX7_nextToken_198 : decode cX7_nextToken 198 = .ok (.getfield 130, 3) := by decide +kernel
theorem dX7_nextToken_201 : decode cX7_nextToken 201 = .ok (.putfield 130, 3) := by decide +kernel
theorem dX7_nextToken_204 : decode cX7_nextToken 204 = .ok (.aload_n 0, 1) := by decide +kernel
theorem dX7_nextToken_205 : decode cX7_nextToken 205 = .ok (.dup, 1) := by decide +kernel
theorem dX7_nextToken_206 : decode cX7_nextToken 206 = .ok (.getfield 100, 3) := by decide +kernel
theorem dX7_nextToken_209 : decode cX7_nextToken 209 = .ok (.iconst 1, 1) := by decide +kernel
theorem dX7_nextToken_210 : decode cX7_nextToken 210 = .ok (.iadd, 1) := by decide +kernel
theorem dX7_nextToken_211 : decode cX7_nextToken 211 = .ok (.putfield 100, 3) := by decide +kernel
theorem dX7_nextToken_214 : decode cX7_nextToken 214 = .ok (.goto (-74), 3) := by decide +kernel
theorem dX7_nextToken_217 : decode cX7_nextToken 217 = .ok (.aload_n 0, 1) := by decide +kernel
theorem dX7_nextToken_218 : decode cX7_nextToken 218 = .ok (.aload_n 0, 1) := by decide +kernel
theorem dX7_nextToken_219 : decode cX7_nextToken 219 = .ok (.getfield 100, 3) := by decide +kernel
theorem dX7_nextToken_222 : decode cX7_nextToken 222 = .ok (.aload_n 0, 1) := by decide +kernel
theorem dX7_nextToken_223 : decode cX7_nextToken 223 = .ok (.getfield 94, 3) := by decide +kernel
theorem dX7_nextToken_226 : decode cX7_nextToken 226 = .ok (.isub, 1) := by decide +kernel
theorem dX7_nextToken_227 : decode cX7_nextToken 227 = .ok (.iconst 2, 1) := by decide +kernel
theorem dX7_nextToken_228 : decode cX7_nextToken 228 = .ok (.if_icmp .gt 7, 3) := by decide +kernel
theorem dX7_nextToken_231 : decode cX7_nextToken 231 = .ok (.iconst 1, 1) := by decide +kernel
theorem dX7_nextToken_232 : decode cX7_nextToken 232 = .ok (.goto 4, 3) := by decide +kernel
theorem dX7_nextToken_235 : decode cX7_nextToken 235 = .ok (.iconst 0, 1) := by decide +kernel
theorem dX7_nextToken_236 : decode cX7_nextToken 236 = .ok (.iconst 1, 1) := by decide +kernel
theorem dX7_nextToken_237 : decode cX7_nextToken 237 = .ok (.invokevirtual 133, 3) := by decide +kernel
theorem dX7_nextToken_240 : decode cX7_nextToken 240 = .ok (.goto 34, 3) := by decide +kernel
theorem dX7_nextToken_243 : decode cX7_nextToken 243 = .ok (.aload_n 0, 1) := by decide +kernel
theorem dX7_nextToken_244 : decode cX7_nextToken 244 = .ok (.iconst 3, 1) := by decide +kernel
theorem dX7_nextToken_245 : decode cX7_nextToken 245 = .ok (.putfield 119, 3) := by decide +kernel
theorem dX7_nextToken_248 : decode cX7_nextToken 248 = .ok (.aload_n 0, 1) := by decide +kernel
theorem dX7_nextToken_249 : decode cX7_nextToken 249 = .ok (.iload_n 1, 1) := by decide +kernel
theorem dX7_nextToken_250 : decode cX7_nextToken 250 = .ok (.bipush 59, 2) := by decide +kernel
theorem dX7_nextToken_252 : decode cX7_nextToken 252 = .ok (.if_icmp .ne 7, 3) := by decide +kernel
theorem dX7_nextToken_255 : decode cX7_nextToken 255 = .ok (.iconst 1, 1) := by decide +kernel
theorem dX7_nextToken_256 : decode cX7_nextToken 256 = .ok (.goto 4, 3) := by decide +kernel
theorem dX7_nextToken_259 : decode cX7_nextToken 259 = .ok (.iconst 0, 1) := by decide +kernel
theorem dX7_nextToken_260 : decode cX7_nextToken 260 = .ok (.iconst 1, 1) := by decide +kernel
theorem dX7_nextToken_261 : decode cX7_nextToken 261 = .ok (.invokevirtual 133, 3) := by decide +kernel
theorem dX7_nextToken_264 : decode cX7_nextToken 264 = .ok (.aload_n 0, 1) := by decide +kernel
theorem dX7_nextToken_265 : decode cX7_nextToken 265 = .ok (.dup, 1) := by decide +kernel
theorem dX7_nextToken_266 : decode cX7_nextToken 266 = .ok (.getfield 100, 3) := by decide +kernel
theorem dX7_nextToken_269 : decode cX7_nextToken 269 = .ok (.iconst 1, 1) := by decide +kernel
theorem dX7_nextToken_270 : decode cX7_nextToken 270 = .ok (.iadd, 1) := by decide +kernel
theorem dX7_nextToken_271 : decode cX7_nextToken 271 = .ok (.putfield 100, 3) := by decide +kernel
theorem dX7_nextToken_274 : decode cX7_nextToken 274 = .ok (.return_, 1) := by decide +kernel
theorem dX7_looked_0 : decode cX7_looked 0 = .ok (.aload_n 0, 1) := by decide +kernel
theorem dX7_looked_1 : decode cX7_looked 1 = .ok (.getfield 91, 3) := by decide +kernel
theorem dX7_looked_4 : decode cX7_looked 4 = .ok (.ifCond .ne 21, 3) := by decide +kernel
theorem dX7_looked_7 : decode cX7_looked 7 = .ok (.aload_n 0, 1) := by decide +kernel
theorem dX7_looked_8 : decode cX7_looked 8 = .ok (.aload_n 0, 1) := by decide +kernel
theorem dX7_looked_9 : decode cX7_looked 9 = .ok (.getfield 119, 3) := by decide +kernel
theorem dX7_looked_12 : decode cX7_looked 12 = .ok (.iconst 2, 1) := by decide +kernel
theorem dX7_looked_13 : decode cX7_looked 13 = .ok (.if_icmp .ne 7, 3) := by decide +kernel
theorem dX7_looked_16 : decode cX7_looked 16 = .ok (.iconst 1, 1) := by decide +kernel
theorem dX7_looked_17 : decode cX7_looked 17 = .ok (.goto 4, 3) := by decide +kernel
theorem dX7_looked_20 : decode cX7_looked 20 = .ok (.iconst 0, 1) := by decide +kernel
theorem dX7_looked_21 : decode cX7_looked 21 = .ok (.iconst 2, 1) := by decide +kernel
theorem dX7_looked_22 : decode cX7_looked 22 = .ok (.invokevirtual 133, 3) := by decide +kernel
theorem dX7_looked_25 : decode cX7_looked 25 = .ok (.aload_n 0, 1) := by decide +kernel
theorem dX7_looked_26 : decode cX7_looked 26 = .ok (.getfield 91, 3) := by decide +kernel
theorem dX7_looked_29 : decode cX7_looked 29 = .ok (.ifCond .ne 20, 3) := by decide +kernel
theorem dX7_looked_32 : decode cX7_looked 32 = .ok (.aload_n 0, 1) := by decide +kernel
theorem dX7_looked_33 : decode cX7_looked 33 = .ok (.aload_n 0, 1) := by decide +kernel
theorem dX7_looked_34 : decode cX7_looked 34 = .ok (.getfield 130, 3) := by decide +kernel
theorem dX7_looked_37 : decode cX7_looked 37 = .ok (.i2l, 1) := by decide +kernel
theorem dX7_looked_38 : decode cX7_looked 38 = .ok (.iload_n 1, 1) := by decide +kernel
theorem dX7_looked_39 : decode cX7_looked 39 = .ok (.i2l, 1) := by decide +kernel
theorem dX7_looked_40 : decode cX7_looked 40 = .ok (.iload_n 2, 1) := by decide +kernel
theorem dX7_looked_41 : decode cX7_looked 41 = .ok (.i2l, 1) := by decide +kernel
theorem dX7_looked_42 : decode cX7_looked 42 = .ok (.invokestatic 84, 3) := by decide +kernel
theorem dX7_looked_45 : decode cX7_looked 45 = .ok (.iconst 3, 1) := by decide +kernel
theorem dX7_looked_46 : decode cX7_looked 46 = .ok (.invokevirtual 133, 3) := by decide +kernel
theorem dX7_looked_49 : decode cX7_looked 49 = .ok (.aload_n 0, 1) := by decide +kernel
theorem dX7_looked_50 : decode cX7_looked 50 = .ok (.getfield 91, 3) := by decide +kernel
theorem dX7_looked_53 : decode cX7_looked 53 = .ok (.ifCond .ne 10, 3) := by decide +kernel
theorem dX7_looked_56 : decode cX7_looked 56 = .ok (.aload_n 0, 1) := by decide +kernel
theorem dX7_looked_57 : decode cX7_looked 57 = .ok (.getfield 130, 3) := by decide +kernel
theorem dX7_looked_60 : decode cX7_looked 60 = .ok (.goto 4, 3) := by decide +kernel
theorem dX7_looked_63 : decode cX7_looked 63 = .ok (.iconst 0, 1) := by decide +kernel
theorem dX7_looked_64 : decode cX7_looked 64 = .ok (.ireturn, 1) := by decide +kernel
theorem dX7_readNumber_0 : decode cX7_readNumber 0 = .ok (.aload_n 0, 1) := by decide +kernel
theorem dX7_readNumber_1 : decode cX7_readNumber 1 = .ok (.iload_n 1, 1) := by decide +kernel
theorem dX7_readNumber_2 : decode cX7_readNumber 2 = .ok (.iload_n 2, 1) := by decide +kernel
theorem dX7_readNumber_3 : decode cX7_readNumber 3 = .ok (.invokevirtual 137, 3) := by decide +kernel
theorem dX7_readNumber_6 : decode cX7_readNumber 6 = .ok (.istore_n 3, 1) := by decide +kernel
theorem dX7_readNumber_7 : decode cX7_readNumber 7 = .ok (.aload_n 0, 1) := by decide +kernel
theorem dX7_readNumber_8 : decode cX7_readNumber 8 = .ok (.invokevirtual 141, 3) := by decide +kernel
theorem dX7_readNumber_11 : decode cX7_readNumber 11 = .ok (.iload_n 3, 1) := by decide +kernel
theorem dX7_readNumber_12 : decode cX7_readNumber 12 = .ok (.ireturn, 1) := by decide +kernel
theorem dX7_readCornerBut_0 : decode cX7_readCornerBut 0 = .ok (.aload_n 0, 1) := by decide +kernel
theorem dX7_readCornerBut_1 : decode cX7_readCornerBut 1 = .ok (.iconst 0, 1) := by decide +kernel
theorem dX7_readCornerBut_2 : decode cX7_readCornerBut 2 = .ok (.bipush 7, 2) := by decide +kernel
theorem dX7_readCornerBut_4 : decode cX7_readCornerBut 4 = .ok (.invokevirtual 137, 3) := by decide +kernel
theorem dX7_readCornerBut_7 : decode cX7_readCornerBut 7 = .ok (.istore_n 2, 1) := by decide +kernel
theorem dX7_readCornerBut_8 : decode cX7_readCornerBut 8 = .ok (.aload_n 0, 1) := by decide +kernel
theorem dX7_readCornerBut_9 : decode cX7_readCornerBut 9 = .ok (.getfield 91, 3) := by decide +kernel
theorem dX7_readCornerBut_12 : decode cX7_readCornerBut 12 = .ok (.ifCond .ne 21, 3) := by decide +kernel
theorem dX7_readCornerBut_15 : decode cX7_readCornerBut 15 = .ok (.aload_n 0, 1) := by decide +kernel
theorem dX7_readCornerBut_16 : decode cX7_readCornerBut 16 = .ok (.iload_n 1, 1) := by decide +kernel
theorem dX7_readCornerBut_17 : decode cX7_readCornerBut 17 = .ok (.iload_n 2, 1) := by decide +kernel
theorem dX7_readCornerBut_18 : decode cX7_readCornerBut 18 = .ok (.ishr, 1) := by decide +kernel
theorem dX7_readCornerBut_19 : decode cX7_readCornerBut 19 = .ok (.iconst 1, 1) := by decide +kernel
theorem dX7_readCornerBut_20 : decode cX7_readCornerBut 20 = .ok (.iand, 1) := by decide +kernel
theorem dX7_readCornerBut_21 : decode cX7_readCornerBut 21 = .ok (.ifCond .ne 7, 3) := by decide +kernel
theorem dX7_readCornerBut_24 : decode cX7_readCornerBut 24 = .ok (.iconst 1, 1) := by decide +kernel
theorem dX7_readCornerBut_25 : decode cX7_readCornerBut 25 = .ok (.goto 4, 3) := by decide +kernel
theorem dX7_readCornerBut_28 : decode cX7_readCornerBut 28 = .ok (.iconst 0, 1) := by decide +kernel
theorem dX7_readCornerBut_29 : decode cX7_readCornerBut 29 = .ok (.iconst 4, 1) := by decide +kernel
theorem dX7_readCornerBut_30 : decode cX7_readCornerBut 30 = .ok (.invokevirtual 133, 3) := by decide +kernel
theorem dX7_readCornerBut_33 : decode cX7_readCornerBut 33 = .ok (.aload_n 0, 1) := by decide +kernel
theorem dX7_readCornerBut_34 : decode cX7_readCornerBut 34 = .ok (.aload_n 0, 1) := by decide +kernel
theorem dX7_readCornerBut_35 : decode cX7_readCornerBut 35 = .ok (.getfield 91, 3) := by decide +kernel
theorem dX7_readCornerBut_38 : decode cX7_readCornerBut 38 = .ok (.ifCond .ne 15, 3) := by decide +kernel
theorem dX7_readCornerBut_41 : decode cX7_readCornerBut 41 = .ok (.iload_n 2, 1) := by decide +kernel
theorem dX7_readCornerBut_42 : decode cX7_readCornerBut 42 = .ok (.aload_n 0, 1) := by decide +kernel
theorem dX7_readCornerBut_43 : decode cX7_readCornerBut 43 = .ok (.getfield 73, 3) := by decide +kernel
theorem dX7_readCornerBut_46 : decode cX7_readCornerBut 46 = .ok (.if_icmp .le 7, 3) := by decide +kernel
theorem dX7_readCornerBut_49 : decode cX7_readCornerBut 49 = .ok (.iload_n 2, 1) := by decide +kernel
theorem dX7_readCornerBut_50 : decode cX7_readCornerBut 50 = .ok (.goto 7, 3) := by decide +kernel
theorem dX7_readCornerBut_53 : decode cX7_readCornerBut 53 = .ok (.aload_n 0, 1) := by decide +kernel
theorem dX7_readCornerBut_54 : decode cX7_readCornerBut 54 = .ok (.getfield 73, 3) := by decide +kernel
theorem dX7_readCornerBut_57 : decode cX7_readCornerBut 57 = .ok (.putfield 73, 3) := by decide +kernel
theorem dX7_readCornerBut_60 : decode cX7_readCornerBut 60 = .ok (.aload_n 0, 1) := by decide +kernel
theorem dX7_readCornerBut_61 : decode cX7_readCornerBut 61 = .ok (.invokevirtual 141, 3) := by decide +kernel
theorem dX7_readCornerBut_64 : decode cX7_readCornerBut 64 = .ok (.iload_n 2, 1) := by decide +kernel
theorem dX7_readCornerBut_65 : decode cX7_readCornerBut 65 = .ok (.ireturn, 1) := by decide +kernel
theorem dX7_readStreet_0 : decode cX7_readStreet 0 = .ok (.aload_n 0, 1) := by decide +kernel
theorem dX7_readStreet_1 : decode cX7_readStreet 1 = .ok (.aload_n 0, 1) := by decide +kernel
theorem dX7_readStreet_2 : decode cX7_readStreet 2 = .ok (.getfield 23, 3) := by decide +kernel
theorem dX7_readStreet_5 : decode cX7_readStreet 5 = .ok (.iload_n 1, 1) := by decide +kernel
theorem dX7_readStreet_6 : decode cX7_readStreet 6 = .ok (.iaload, 1) := by decide +kernel
theorem dX7_readStreet_7 : decode cX7_readStreet 7 = .ok (.invokevirtual 144, 3) := by decide +kernel
theorem dX7_readStreet_10 : decode cX7_readStreet 10 = .ok (.istore_n 2, 1) := by decide +kernel
theorem dX7_readStreet_11 : decode cX7_readStreet 11 = .ok (.aload_n 0, 1) := by decide +kernel
theorem dX7_readStreet_12 : decode cX7_readStreet 12 = .ok (.getfield 23, 3) := by decide +kernel
theorem dX7_readStreet_15 : decode cX7_readStreet 15 = .ok (.iload_n 1, 1) := by decide +kernel
theorem dX7_readStreet_16 : decode cX7_readStreet 16 = .ok (.dup2, 1) := by decide +kernel
theorem dX7_readStreet_17 : decode cX7_readStreet 17 = .ok (.iaload, 1) := by decide +kernel
theorem dX7_readStreet_18 : decode cX7_readStreet 18 = .ok (.iconst 1, 1) := by decide +kernel
theorem dX7_readStreet_19 : decode cX7_readStreet 19 = .ok (.iload_n 2, 1) := by decide +kernel
theorem dX7_readStreet_20 : decode cX7_readStreet 20 = .ok (.ishl, 1) := by decide +kernel
theorem dX7_readStreet_21 : decode cX7_readStreet 21 = .ok (.ior, 1) := by decide +kernel
theorem dX7_readStreet_22 : decode cX7_readStreet 22 = .ok (.iastore, 1) := by decide +kernel
theorem dX7_readStreet_23 : decode cX7_readStreet 23 = .ok (.aload_n 0, 1) := by decide +kernel
theorem dX7_readStreet_24 : decode cX7_readStreet 24 = .ok (.iconst 0, 1) := by decide +kernel
theorem dX7_readStreet_25 : decode cX7_readStreet 25 = .ok (.invokevirtual 144, 3) := by decide +kernel
theorem dX7_readStreet_28 : decode cX7_readStreet 28 = .ok (.istore_n 3, 1) := by decide +kernel
theorem dX7_readStreet_29 : decode cX7_readStreet 29 = .ok (.aload_n 0, 1) := by decide +kernel
theorem dX7_readStreet_30 : decode cX7_readStreet 30 = .ok (.getfield 20, 3) := by decide +kernel
theorem dX7_readStreet_33 : decode cX7_readStreet 33 = .ok (.iconst 0, 1) := by decide +kernel
theorem dX7_readStreet_34 : decode cX7_readStreet 34 = .ok (.bipush 8, 2) := by decide +kernel
theorem dX7_readStreet_36 : decode cX7_readStreet 36 = .ok (.iload_n 1, 1) := by decide +kernel
theorem dX7_readStreet_37 : decode cX7_readStreet 37 = .ok (.imul, 1) := by decide +kernel
theorem dX7_readStreet_38 : decode cX7_readStreet 38 = .ok (.iadd, 1) := by decide +kernel
theorem dX7_readStreet_39 : decode cX7_readStreet 39 = .ok (.iload_n 2, 1) := by decide +kernel
theorem dX7_readStreet_40 : decode cX7_readStreet 40 = .ok (.iadd, 1) := by decide +kernel
theorem dX7_readStreet_41 : decode cX7_readStreet 41 = .ok (.aload_n 0, 1) := by decide +kernel
theorem dX7_readStreet_42 : decode cX7_readStreet 42 = .ok (.getfield 91, 3) := by decide +kernel
theorem dX7_readStreet_45 : decode cX7_readStreet 45 = .ok (.ifCond .ne 7, 3) := by decide +kernel
theorem dX7_readStreet_48 : decode cX7_readStreet 48 = .ok (.iload_n 3, 1) := by decide +kernel
theorem dX7_readStreet_49 : decode cX7_readStreet 49 = .ok (.goto 5, 3) := by decide +kernel
theorem dX7_readStreet_52 : decode cX7_readStreet 52 = .ok (.bipush (-4), 2) := by decide +kernel
theorem dX7_readStreet_54 : decode cX7_readStreet 54 = .ok (.iastore, 1) := by decide +kernel
theorem dX7_readStreet_55 : decode cX7_readStreet 55 = .ok (.return_, 1) := by decide +kernel
theorem dX7_readRoute_0 : decode cX7_readRoute 0 = .ok (.iconst 0, 1) := by decide +kernel
theorem dX7_readRoute_1 : decode cX7_readRoute 1 = .ok (.istore_n 1, 1) := by decide +kernel
theorem dX7_readRoute_2 : decode cX7_readRoute 2 = .ok (.aload_n 0, 1) := by decide +kernel
theorem dX7_readRoute_3 : decode cX7_readRoute 3 = .ok (.getfield 91, 3) := by decide +kernel
theorem dX7_readRoute_6 : decode cX7_readRoute 6 = .ok (.ifCond .ne 21, 3) := by decide +kernel
theorem dX7_readRoute_9 : decode cX7_readRoute 9 = .ok (.aload_n 0, 1) := by decide +kernel
theorem dX7_readRoute_10 : decode cX7_readRoute 10 = .ok (.aload_n 0, 1) := by decide +kernel
theorem dX7_readRoute_11 : decode cX7_readRoute 11 = .ok (.getfield 119, 3) := by decide +kernel
theorem dX7_readRoute_14 : decode cX7_readRoute 14 = .ok (.iconst 1, 1) := by decide +kernel
theorem dX7_readRoute_15 : decode cX7_readRoute 15 = .ok (.if_icmp .ne 7, 3) := by decide +kernel
theorem dX7_readRoute_18 : decode cX7_readRoute 18 = .ok (.iconst 1, 1) := by decide +kernel
theorem dX7_readRoute_19 : decode cX7_readRoute 19 = .ok (.goto 4, 3) := by decide +kernel
theorem dX7_readRoute_22 : decode cX7_readRoute 22 = .ok (.iconst 0, 1) := by decide +kernel
theorem dX7_readRoute_23 : decode cX7_readRoute 23 = .ok (.iconst 2, 1) := by decide +kernel
theorem dX7_readRoute_24 : decode cX7_readRoute 24 = .ok (.invokevirtual 133, 3) := by decide +kernel
theorem dX7_readRoute_27 : decode cX7_readRoute 27 = .ok (.aload_n 0, 1) := by decide +kernel
theorem dX7_readRoute_28 : decode cX7_readRoute 28 = .ok (.getfield 100, 3) := by decide +kernel
theorem dX7_readRoute_31 : decode cX7_readRoute 31 = .ok (.aload_n 0, 1) := by decide +kernel
theorem dX7_readRoute_32 : decode cX7_readRoute 32 = .ok (.getfield 94, 3) := by decide +kernel
theorem dX7_readRoute_35 : decode cX7_readRoute 35 = .ok (.isub, 1) := by decide +kernel
theorem dX7_readRoute_36 : decode cX7_readRoute 36 = .ok (.istore_n 2, 1) := by decide +kernel
theorem dX7_readRoute_37 : decode cX7_readRoute 37 = .ok (.aload_n 0, 1) := by decide +kernel
theorem dX7_readRoute_38 : decode cX7_readRoute 38 = .ok (.getfield 91, 3) := by decide +kernel
theorem dX7_readRoute_41 : decode cX7_readRoute 41 = .ok (.ifCond .ne 19, 3) := by decide +kernel
theorem dX7_readRoute_44 : decode cX7_readRoute 44 = .ok (.aload_n 0, 1) := by decide +kernel
theorem dX7_readRoute_45 : decode cX7_readRoute 45 = .ok (.iload_n 2, 1) := by decide +kernel
theorem dX7_readRoute_46 : decode cX7_readRoute 46 = .ok (.bipush 10, 2) := by decide +kernel
theorem dX7_readRoute_48 : decode cX7_readRoute 48 = .ok (.if_icmp .gt 7, 3) := by decide +kernel
theorem dX7_readRoute_51 : decode cX7_readRoute 51 = .ok (.iconst 1, 1) := by decide +kernel
theorem dX7_readRoute_52 : decode cX7_readRoute 52 = .ok (.goto 4, 3) := by decide +kernel
theorem dX7_readRoute_55 : decode cX7_readRoute 55 = .ok (.iconst 0, 1) := by decide +kernel
theorem dX7_readRoute_56 : decode cX7_readRoute 56 = .ok (.iconst 3, 1) := by decide +kernel
theorem dX7_readRoute_57 : decode cX7_readRoute 57 = .ok (.invokevirtual 133, 3) := by decide +kernel
theorem dX7_readRoute_60 : decode cX7_readRoute 60 = .ok (.iconst 0, 1) := by decide +kernel
theorem dX7_readRoute_61 : decode cX7_readRoute 61 = .ok (.istore_n 3, 1) := by decide +kernel
theorem dX7_readRoute_62 : decode cX7_readRoute 62 = .ok (.iload_n 3, 1) := by decide +kernel
theorem dX7_readRoute_63 : decode cX7_readRoute 63 = .ok (.iload_n 2, 1) := by decide +kernel
theorem dX7_readRoute_64 : decode cX7_readRoute 64 = .ok (.if_icmp .ge 72, 3) := by decide +kernel
theorem dX7_readRoute_67 : decode cX7_readRoute 67 = .ok (.aload_n 0, 1) := by decide +kernel
theorem dX7_readRoute_68 : decode cX7_readRoute 68 = .ok (.getfield 91, 3) := by decide +kernel
theorem dX7_readRoute_71 : decode cX7_readRoute 71 = .ok (.ifCond .ne 65, 3) := by decide +kernel
theorem dX7_readRoute_74 : decode cX7_readRoute 74 = .ok (.aload_n 0, 1) := by decide +kernel
theorem dX7_readRoute_75 : decode cX7_readRoute 75 = .ok (.aload_n 0, 1) := by decide +kernel
theorem dX7_readRoute_76 : decode cX7_readRoute 76 = .ok (.getfield 94, 3) := by decide +kernel
theorem dX7_readRoute_79 : decode cX7_readRoute 79 = .ok (.iload_n 3, 1) := by decide +kernel
theorem dX7_readRoute_80 : decode cX7_readRoute 80 = .ok (.iadd, 1) := by decide +kernel
theorem dX7_readRoute_81 : decode cX7_readRoute 81 = .ok (.invokevirtual 103, 3) := by decide +kernel
theorem dX7_readRoute_84 : decode cX7_readRoute 84 = .ok (.istore 4, 2) := by decide +kernel
theorem dX7_readRoute_86 : decode cX7_readRoute 86 = .ok (.aload_n 0, 1) := by decide +kernel
theorem dX7_readRoute_87 : decode cX7_readRoute 87 = .ok (.iload 4, 2) := by decide +kernel
theorem dX7_readRoute_89 : decode cX7_readRoute 89 = .ok (.bipush 108, 2) := by decide +kernel
theorem dX7_readRoute_91 : decode cX7_readRoute 91 = .ok (.if_icmp .eq 10, 3) := by decide +kernel
theorem dX7_readRoute_94 : decode cX7_readRoute 94 = .ok (.iload 4, 2) := by decide +kernel
theorem dX7_readRoute_96 : decode cX7_readRoute 96 = .ok (.bipush 114, 2) := by decide +kernel
theorem dX7_readRoute_98 : decode cX7_readRoute 98 = .ok (.if_icmp .ne 7, 3) := by decide +kernel
theorem dX7_readRoute_101 : decode cX7_readRoute 101 = .ok (.iconst 1, 1) := by decide +kernel
theorem dX7_readRoute_102 : decode cX7_readRoute 102 = .ok (.goto 4, 3) := by decide +kernel
theorem dX7_readRoute_105 : decode cX7_readRoute 105 = .ok (.iconst 0, 1) := by decide +kernel
theorem dX7_readRoute_106 : decode cX7_readRoute 106 = .ok (.iconst 3, 1) := by decide +kernel
theorem dX7_readRoute_107 : decode cX7_readRoute 107 = .ok (.invokevirtual 133, 3) := by decide +kernel
theorem dX7_readRoute_110 : decode cX7_readRoute 110 = .ok (.iload_n 1, 1) := by decide +kernel
theorem dX7_readRoute_111 : decode cX7_readRoute 111 = .ok (.iload 4, 2) := by decide +kernel
theorem dX7_readRoute_113 : decode cX7_readRoute 113 = .ok (.bipush 114, 2) := by decide +kernel
theorem dX7_readRoute_115 : decode cX7_readRoute 115 = .ok (.if_icmp .ne 7, 3) := by decide +kernel
theorem dX7_readRoute_118 : decode cX7_readRoute 118 = .ok (.iconst 1, 1) := by decide +kernel
theorem dX7_readRoute_119 : decode cX7_readRoute 119 = .ok (.goto 4, 3) := by decide +kernel
theorem dX7_readRoute_122 : decode cX7_readRoute 122 = .ok (.iconst 0, 1) := by decide +kernel
theorem dX7_readRoute_123 : decode cX7_readRoute 123 = .ok (.invokestatic 147, 3) := by decide +kernel
theorem dX7_readRoute_126 : decode cX7_readRoute 126 = .ok (.iload_n 3, 1) := by decide +kernel
theorem dX7_readRoute_127 : decode cX7_readRoute 127 = .ok (.ishl, 1) := by decide +kernel
theorem dX7_readRoute_128 : decode cX7_readRoute 128 = .ok (.ior, 1) := by decide +kernel
theorem dX7_readRoute_129 : decode cX7_readRoute 129 = .ok (.istore_n 1, 1) := by decide +kernel
theorem dX7_readRoute_130 : decode cX7_readRoute 130 = .ok (.iinc 3 1, 3) := by decide +kernel
theorem dX7_readRoute_133 : decode cX7_readRoute 133 = .ok (.goto (-71), 3) := by decide +kernel
theorem dX7_readRoute_136 : decode cX7_readRoute 136 = .ok (.aload_n 0, 1) := by decide +kernel
theorem dX7_readRoute_137 : decode cX7_readRoute 137 = .ok (.invokevirtual 141, 3) := by decide +kernel
theorem dX7_readRoute_140 : decode cX7_readRoute 140 = .ok (.iload_n 1, 1) := by decide +kernel
theorem dX7_readRoute_141 : decode cX7_readRoute 141 = .ok (.ireturn, 1) := by decide +kernel
theorem dX7_readWalker_0 : decode cX7_readWalker 0 = .ok (.bipush 18, 2) := by decide +kernel
theorem dX7_readWalker_2 : decode cX7_readWalker 2 = .ok (.bipush 6, 2) := by decide +kernel
theorem dX7_readWalker_4 : decode cX7_readWalker 4 = .ok (.aload_n 0, 1) := by decide +kernel
theorem dX7_readWalker_5 : decode cX7_readWalker 5 = .ok (.getfield 67, 3) := by decide +kernel
theorem dX7_readWalker_8 : decode cX7_readWalker 8 = .ok (.imul, 1) := by decide +kernel
theorem dX7_readWalker_9 : decode cX7_readWalker 9 = .ok (.iadd, 1) := by decide +kernel
theorem dX7_readWalker_10 : decode cX7_readWalker 10 = .ok (.istore_n 2, 1) := by decide +kernel
theorem dX7_readWalker_11 : decode cX7_readWalker 11 = .ok (.aload_n 0, 1) := by decide +kernel
theorem dX7_readWalker_12 : decode cX7_readWalker 12 = .ok (.getfield 20, 3) := by decide +kernel
theorem dX7_readWalker_15 : decode cX7_readWalker 15 = .ok (.iload_n 2, 1) := by decide +kernel
theorem dX7_readWalker_16 : decode cX7_readWalker 16 = .ok (.iconst 0, 1) := by decide +kernel
theorem dX7_readWalker_17 : decode cX7_readWalker 17 = .ok (.iadd, 1) := by decide +kernel
theorem dX7_readWalker_18 : decode cX7_readWalker 18 = .ok (.aload_n 0, 1) := by decide +kernel
theorem dX7_readWalker_19 : decode cX7_readWalker 19 = .ok (.iconst 0, 1) := by decide +kernel
theorem dX7_readWalker_20 : decode cX7_readWalker 20 = .ok (.invokevirtual 144, 3) := by decide +kernel
theorem dX7_readWalker_23 : decode cX7_readWalker 23 = .ok (.iastore, 1) := by decide +kernel
theorem dX7_readWalker_24 : decode cX7_readWalker 24 = .ok (.aload_n 0, 1) := by decide +kernel
theorem dX7_readWalker_25 : decode cX7_readWalker 25 = .ok (.getfield 91, 3) := by decide +kernel
theorem dX7_readWalker_28 : decode cX7_readWalker 28 = .ok (.ifCond .ne 18, 3) := by decide +kernel
theorem dX7_readWalker_31 : decode cX7_readWalker 31 = .ok (.aload_n 0, 1) := by decide +kernel
theorem dX7_readWalker_32 : decode cX7_readWalker 32 = .ok (.getfield 119, 3) := by decide +kernel
theorem dX7_readWalker_35 : decode cX7_readWalker 35 = .ok (.iconst 1, 1) := by decide +kernel
theorem dX7_readWalker_36 : decode cX7_readWalker 36 = .ok (.if_icmp .ne 10, 3) := by decide +kernel
theorem dX7_readWalker_39 : decode cX7_readWalker 39 = .ok (.aload_n 0, 1) := by decide +kernel
theorem dX7_readWalker_40 : decode cX7_readWalker 40 = .ok (.invokevirtual 115, 3) := by decide +kernel
theorem dX7_readWalker_43 : decode cX7_readWalker 43 = .ok (.goto 5, 3) := by decide +kernel
theorem dX7_readWalker_46 : decode cX7_readWalker 46 = .ok (.bipush (-4), 2) := by decide +kernel
theorem dX7_readWalker_48 : decode cX7_readWalker 48 = .ok (.istore_n 3, 1) := by decide +kernel
theorem dX7_readWalker_49 : decode cX7_readWalker 49 = .ok (.aload_n 0, 1) := by decide +kernel
theorem dX7_readWalker_50 : decode cX7_readWalker 50 = .ok (.iload_n 3, 1) := by decide +kernel
theorem dX7_readWalker_51 : decode cX7_readWalker 51 = .ok (.bipush (-4), 2) := by decide +kernel
theorem dX7_readWalker_53 : decode cX7_readWalker 53 = .ok (.if_icmp .eq 7, 3) := by decide +kernel
theorem dX7_readWalker_56 : decode cX7_readWalker 56 = .ok (.iconst 1, 1) := by decide +kernel
theorem dX7_readWalker_57 : decode cX7_readWalker 57 = .ok (.goto 4, 3) := by decide +kernel
theorem dX7_readWalker_60 : decode cX7_readWalker 60 = .ok (.iconst 0, 1) := by decide +kernel
theorem dX7_readWalker_61 : decode cX7_readWalker 61 = .ok (.iconst 2, 1) := by decide +kernel
theorem dX7_readWalker_62 : decode cX7_readWalker 62 = .ok (.invokevirtual 133, 3) := by decide +kernel
theorem dX7_readWalker_65 : decode cX7_readWalker 65 = .ok (.aload_n 0, 1) := by decide +kernel
theorem dX7_readWalker_66 : decode cX7_readWalker 66 = .ok (.invokevirtual 141, 3) := by decide +kernel
theorem dX7_readWalker_69 : decode cX7_readWalker 69 = .ok (.aload_n 0, 1) := by decide +kernel
theorem dX7_readWalker_70 : decode cX7_readWalker 70 = .ok (.getfield 20, 3) := by decide +kernel
theorem dX7_readWalker_73 : decode cX7_readWalker 73 = .ok (.iload_n 2, 1) := by decide +kernel
theorem dX7_readWalker_74 : decode cX7_readWalker 74 = .ok (.iconst 1, 1) := by decide +kernel
theorem dX7_readWalker_75 : decode cX7_readWalker 75 = .ok (.iadd, 1) := by decide +kernel
theorem dX7_readWalker_76 : decode cX7_readWalker 76 = .ok (.iload_n 3, 1) := by decide +kernel
theorem dX7_readWalker_77 : decode cX7_readWalker 77 = .ok (.iastore, 1) := by decide +kernel
theorem dX7_readWalker_78 : decode cX7_readWalker 78 = .ok (.aload_n 0, 1) := by decide +kernel
theorem dX7_readWalker_79 : decode cX7_readWalker 79 = .ok (.getfield 20, 3) := by decide +kernel
theorem dX7_readWalker_82 : decode cX7_readWalker 82 = .ok (.iload_n 2, 1) := by decide +kernel
theorem dX7_readWalker_83 : decode cX7_readWalker 83 = .ok (.iconst 2, 1) := by decide +kernel
theorem dX7_readWalker_84 : decode cX7_readWalker 84 = .ok (.iadd, 1) := by decide +kernel
theorem dX7_readWalker_85 : decode cX7_readWalker 85 = .ok (.iload_n 1, 1) := by decide +kernel
theorem dX7_readWalker_86 : decode cX7_readWalker 86 = .ok (.iastore, 1) := by decide +kernel
theorem dX7_readWalker_87 : decode cX7_readWalker 87 = .ok (.aload_n 0, 1) := by decide +kernel
theorem dX7_readWalker_88 : decode cX7_readWalker 88 = .ok (.getfield 20, 3) := by decide +kernel
theorem dX7_readWalker_91 : decode cX7_readWalker 91 = .ok (.iload_n 2, 1) := by decide +kernel
theorem dX7_readWalker_92 : decode cX7_readWalker 92 = .ok (.iconst 3, 1) := by decide +kernel
theorem dX7_readWalker_93 : decode cX7_readWalker 93 = .ok (.iadd, 1) := by decide +kernel
theorem dX7_readWalker_94 : decode cX7_readWalker 94 = .ok (.aload_n 0, 1) := by decide +kernel
theorem dX7_readWalker_95 : decode cX7_readWalker 95 = .ok (.getfield 100, 3) := by decide +kernel
theorem dX7_readWalker_98 : decode cX7_readWalker 98 = .ok (.aload_n 0, 1) := by decide +kernel
theorem dX7_readWalker_99 : decode cX7_readWalker 99 = .ok (.getfield 94, 3) := by decide +kernel
theorem dX7_readWalker_102 : decode cX7_readWalker 102 = .ok (.isub, 1) := by decide +kernel
theorem dX7_readWalker_103 : decode cX7_readWalker 103 = .ok (.iastore, 1) := by decide +kernel
theorem dX7_readWalker_104 : decode cX7_readWalker 104 = .ok (.aload_n 0, 1) := by decide +kernel
theorem dX7_readWalker_105 : decode cX7_readWalker 105 = .ok (.getfield 20, 3) := by decide +kernel
theorem dX7_readWalker_108 : decode cX7_readWalker 108 = .ok (.iload_n 2, 1) := by decide +kernel
theorem dX7_readWalker_109 : decode cX7_readWalker 109 = .ok (.iconst 4, 1) := by decide +kernel
theorem dX7_readWalker_110 : decode cX7_readWalker 110 = .ok (.iadd, 1) := by decide +kernel
theorem dX7_readWalker_111 : decode cX7_readWalker 111 = .ok (.aload_n 0, 1) := by decide +kernel
theorem dX7_readWalker_112 : decode cX7_readWalker 112 = .ok (.invokevirtual 151, 3) := by decide +kernel
theorem dX7_readWalker_115 : decode cX7_readWalker 115 = .ok (.iastore, 1) := by decide +kernel
theorem dX7_readWalker_116 : decode cX7_readWalker 116 = .ok (.aload_n 0, 1) := by decide +kernel
theorem dX7_readWalker_117 : decode cX7_readWalker 117 = .ok (.getfield 20, 3) := by decide +kernel
theorem dX7_readWalker_120 : decode cX7_readWalker 120 = .ok (.iload_n 2, 1) := by decide +kernel
theorem dX7_readWalker_121 : decode cX7_readWalker 121 = .ok (.iconst 5, 1) := by decide +kernel
theorem dX7_readWalker_122 : decode cX7_readWalker 122 = .ok (.iadd, 1) := by decide +kernel
theorem dX7_readWalker_123 : decode cX7_readWalker 123 = .ok (.iconst 0, 1) := by decide +kernel
theorem dX7_readWalker_124 : decode cX7_readWalker 124 = .ok (.iastore, 1) := by decide +kernel
theorem dX7_readWalker_125 : decode cX7_readWalker 125 = .ok (.aload_n 0, 1) := by decide +kernel
theorem dX7_readWalker_126 : decode cX7_readWalker 126 = .ok (.dup, 1) := by decide +kernel
theorem dX7_readWalker_127 : decode cX7_readWalker 127 = .ok (.getfield 67, 3) := by decide +kernel
theorem dX7_readWalker_130 : decode cX7_readWalker 130 = .ok (.iconst 1, 1) := by decide +kernel
theorem dX7_readWalker_131 : decode cX7_readWalker 131 = .ok (.iadd, 1) := by decide +kernel
theorem dX7_readWalker_132 : decode cX7_readWalker 132 = .ok (.putfield 67, 3) := by decide +kernel
theorem dX7_readWalker_135 : decode cX7_readWalker 135 = .ok (.return_, 1) := by decide +kernel
theorem dX7_readLineOf_0 : decode cX7_readLineOf 0 = .ok (.iload_n 1, 1) := by decide +kernel
theorem dX7_readLineOf_1 : decode cX7_readLineOf 1 = .ok (.tableswitch 136 0 5 #[39, 39, 47, 61, 78, 110], 39) := by decide +kernel
theorem dX7_readLineOf_40 : decode cX7_readLineOf 40 = .ok (.aload_n 0, 1) := by decide +kernel
theorem dX7_readLineOf_41 : decode cX7_readLineOf 41 = .ok (.iload_n 1, 1) := by decide +kernel
theorem dX7_readLineOf_42 : decode cX7_readLineOf 42 = .ok (.invokevirtual 154, 3) := by decide +kernel
theorem dX7_readLineOf_45 : decode cX7_readLineOf 45 = .ok (.goto 110, 3) := by decide +kernel
theorem dX7_readLineOf_48 : decode cX7_readLineOf 48 = .ok (.aload_n 0, 1) := by decide +kernel
theorem dX7_readLineOf_49 : decode cX7_readLineOf 49 = .ok (.aload_n 0, 1) := by decide +kernel
theorem dX7_readLineOf_50 : decode cX7_readLineOf 50 = .ok (.iconst 2, 1) := by decide +kernel
theorem dX7_readLineOf_51 : decode cX7_readLineOf 51 = .ok (.bipush 8, 2) := by decide +kernel
theorem dX7_readLineOf_53 : decode cX7_readLineOf 53 = .ok (.invokevirtual 158, 3) := by decide +kernel
theorem dX7_readLineOf_56 : decode cX7_readLineOf 56 = .ok (.putfield 63, 3) := by decide +kernel
theorem dX7_readLineOf_59 : decode cX7_readLineOf 59 = .ok (.goto 96, 3) := by decide +kernel
theorem dX7_readLineOf_62 : decode cX7_readLineOf 62 = .ok (.aload_n 0, 1) := by decide +kernel
theorem dX7_readLineOf_63 : decode cX7_readLineOf 63 = .ok (.getfield 20, 3) := by decide +kernel
theorem dX7_readLineOf_66 : decode cX7_readLineOf 66 = .ok (.bipush 17, 2) := by decide +kernel
theorem dX7_readLineOf_68 : decode cX7_readLineOf 68 = .ok (.aload_n 0, 1) := by decide +kernel
theorem dX7_readLineOf_69 : decode cX7_readLineOf 69 = .ok (.iconst 0, 1) := by decide +kernel
theorem dX7_readLineOf_70 : decode cX7_readLineOf 70 = .ok (.bipush 23, 2) := by decide +kernel
theorem dX7_readLineOf_72 : decode cX7_readLineOf 72 = .ok (.invokevirtual 158, 3) := by decide +kernel
theorem dX7_readLineOf_75 : decode cX7_readLineOf 75 = .ok (.iastore, 1) := by decide +kernel
theorem dX7_readLineOf_76 : decode cX7_readLineOf 76 = .ok (.goto 79, 3) := by decide +kernel
theorem dX7_readLineOf_79 : decode cX7_readLineOf 79 = .ok (.iconst 0, 1) := by decide +kernel
theorem dX7_readLineOf_80 : decode cX7_readLineOf 80 = .ok (.istore_n 2, 1) := by decide +kernel
theorem dX7_readLineOf_81 : decode cX7_readLineOf 81 = .ok (.iload_n 2, 1) := by decide +kernel
theorem dX7_readLineOf_82 : decode cX7_readLineOf 82 = .ok (.iconst 4, 1) := by decide +kernel
theorem dX7_readLineOf_83 : decode cX7_readLineOf 83 = .ok (.if_icmp .ge 25, 3) := by decide +kernel
theorem dX7_readLineOf_86 : decode cX7_readLineOf 86 = .ok (.aload_n 0, 1) := by decide +kernel
theorem dX7_readLineOf_87 : decode cX7_readLineOf 87 = .ok (.getfield 20, 3) := by decide +kernel
theorem dX7_readLineOf_90 : decode cX7_readLineOf 90 = .ok (.bipush 43, 2) := by decide +kernel
theorem dX7_readLineOf_92 : decode cX7_readLineOf 92 = .ok (.iload_n 2, 1) := by decide +kernel
theorem dX7_readLineOf_93 : decode cX7_readLineOf 93 = .ok (.iadd, 1) := by decide +kernel
theorem dX7_readLineOf_94 : decode cX7_readLineOf 94 = .ok (.aload_n 0, 1) := by decide +kernel
theorem dX7_readLineOf_95 : decode cX7_readLineOf 95 = .ok (.iconst 0, 1) := by decide +kernel
theorem dX7_readLineOf_96 : decode cX7_readLineOf 96 = .ok (.bipush 9, 2) := by decide +kernel
theorem dX7_readLineOf_98 : decode cX7_readLineOf 98 = .ok (.invokevirtual 158, 3) := by decide +kernel
theorem dX7_readLineOf_101 : decode cX7_readLineOf 101 = .ok (.iastore, 1) := by decide +kernel
theorem dX7_readLineOf_102 : decode cX7_readLineOf 102 = .ok (.iinc 2 1, 3) := by decide +kernel
theorem dX7_readLineOf_105 : decode cX7_readLineOf 105 = .ok (.goto (-24), 3) := by decide +kernel
theorem dX7_readLineOf_108 : decode cX7_readLineOf 108 = .ok (.goto 47, 3) := by decide +kernel
theorem dX7_readLineOf_111 : decode cX7_readLineOf 111 = .ok (.aload_n 0, 1) := by decide +kernel
theorem dX7_readLineOf_112 : decode cX7_readLineOf 112 = .ok (.getfield 20, 3) := by decide +kernel
theorem dX7_readLineOf_115 : decode cX7_readLineOf 115 = .ok (.bipush 16, 2) := by decide +kernel
theorem dX7_readLineOf_117 : decode cX7_readLineOf 117 = .ok (.dup2, 1) := by decide +kernel
theorem dX7_readLineOf_118 : decode cX7_readLineOf 118 = .ok (.iaload, 1) := by decide +kernel
theorem dX7_readLineOf_119 : decode cX7_readLineOf 119 = .ok (.iconst 1, 1) := by decide +kernel
theorem dX7_readLineOf_120 : decode cX7_readLineOf 120 = .ok (.aload_n 0, 1) := by decide +kernel
theorem dX7_readLineOf_121 : decode cX7_readLineOf 121 = .ok (.aload_n 0, 1) := by decide +kernel
theorem dX7_readLineOf_122 : decode cX7_readLineOf 122 = .ok (.getfield 20, 3) := by decide +kernel
theorem dX7_readLineOf_125 : decode cX7_readLineOf 125 = .ok (.bipush 16, 2) := by decide +kernel
theorem dX7_readLineOf_127 : decode cX7_readLineOf 127 = .ok (.iaload, 1) := by decide +kernel
theorem dX7_readLineOf_128 : decode cX7_readLineOf 128 = .ok (.invokevirtual 144, 3) := by decide +kernel
theorem dX7_readLineOf_131 : decode cX7_readLineOf 131 = .ok (.ishl, 1) := by decide +kernel
theorem dX7_readLineOf_132 : decode cX7_readLineOf 132 = .ok (.ior, 1) := by decide +kernel
theorem dX7_readLineOf_133 : decode cX7_readLineOf 133 = .ok (.iastore, 1) := by decide +kernel
theorem dX7_readLineOf_134 : decode cX7_readLineOf 134 = .ok (.goto 21, 3) := by decide +kernel
theorem dX7_readLineOf_137 : decode cX7_readLineOf 137 = .ok (.aload_n 0, 1) := by decide +kernel
theorem dX7_readLineOf_138 : decode cX7_readLineOf 138 = .ok (.iload_n 1, 1) := by decide +kernel
theorem dX7_readLineOf_139 : decode cX7_readLineOf 139 = .ok (.bipush 7, 2) := by decide +kernel
theorem dX7_readLineOf_141 : decode cX7_readLineOf 141 = .ok (.if_icmp .ne 7, 3) := by decide +kernel
theorem dX7_readLineOf_144 : decode cX7_readLineOf 144 = .ok (.iconst 1, 1) := by decide +kernel
theorem dX7_readLineOf_145 : decode cX7_readLineOf 145 = .ok (.goto 4, 3) := by decide +kernel
theorem dX7_readLineOf_148 : decode cX7_readLineOf 148 = .ok (.iconst 0, 1) := by decide +kernel
theorem dX7_readLineOf_149 : decode cX7_readLineOf 149 = .ok (.invokestatic 147, 3) := by decide +kernel
theorem dX7_readLineOf_152 : decode cX7_readLineOf 152 = .ok (.invokevirtual 161, 3) := by decide +kernel
theorem dX7_readLineOf_155 : decode cX7_readLineOf 155 = .ok (.return_, 1) := by decide +kernel
theorem dX7_readLine_0 : decode cX7_readLine 0 = .ok (.aload_n 0, 1) := by decide +kernel
theorem dX7_readLine_1 : decode cX7_readLine 1 = .ok (.getfield 119, 3) := by decide +kernel
theorem dX7_readLine_4 : decode cX7_readLine 4 = .ok (.iconst 1, 1) := by decide +kernel
theorem dX7_readLine_5 : decode cX7_readLine 5 = .ok (.if_icmp .ne 10, 3) := by decide +kernel
theorem dX7_readLine_8 : decode cX7_readLine 8 = .ok (.aload_n 0, 1) := by decide +kernel
theorem dX7_readLine_9 : decode cX7_readLine 9 = .ok (.invokevirtual 164, 3) := by decide +kernel
theorem dX7_readLine_12 : decode cX7_readLine 12 = .ok (.goto 5, 3) := by decide +kernel
theorem dX7_readLine_15 : decode cX7_readLine 15 = .ok (.bipush (-4), 2) := by decide +kernel
theorem dX7_readLine_17 : decode cX7_readLine 17 = .ok (.istore_n 1, 1) := by decide +kernel
theorem dX7_readLine_18 : decode cX7_readLine 18 = .ok (.aload_n 0, 1) := by decide +kernel
theorem dX7_readLine_19 : decode cX7_readLine 19 = .ok (.iload_n 1, 1) := by decide +kernel
theorem dX7_readLine_20 : decode cX7_readLine 20 = .ok (.bipush (-4), 2) := by decide +kernel
theorem dX7_readLine_22 : decode cX7_readLine 22 = .ok (.if_icmp .eq 7, 3) := by decide +kernel
theorem dX7_readLine_25 : decode cX7_readLine 25 = .ok (.iconst 1, 1) := by decide +kernel
theorem dX7_readLine_26 : decode cX7_readLine 26 = .ok (.goto 4, 3) := by decide +kernel
theorem dX7_readLine_29 : decode cX7_readLine 29 = .ok (.iconst 0, 1) := by decide +kernel
theorem dX7_readLine_30 : decode cX7_readLine 30 = .ok (.iconst 2, 1) := by decide +kernel
theorem dX7_readLine_31 : decode cX7_readLine 31 = .ok (.invokevirtual 133, 3) := by decide +kernel
theorem dX7_readLine_34 : decode cX7_readLine 34 = .ok (.aload_n 0, 1) := by decide +kernel
theorem dX7_readLine_35 : decode cX7_readLine 35 = .ok (.iload_n 1, 1) := by decide +kernel
theorem dX7_readLine_36 : decode cX7_readLine 36 = .ok (.bipush 6, 2) := by decide +kernel
theorem dX7_readLine_38 : decode cX7_readLine 38 = .ok (.if_icmp .lt 11, 3) := by decide +kernel
theorem dX7_readLine_41 : decode cX7_readLine 41 = .ok (.aload_n 0, 1) := by decide +kernel
theorem dX7_readLine_42 : decode cX7_readLine 42 = .ok (.getfield 67, 3) := by decide +kernel
theorem dX7_readLine_45 : decode cX7_readLine 45 = .ok (.iconst 4, 1) := by decide +kernel
theorem dX7_readLine_46 : decode cX7_readLine 46 = .ok (.if_icmp .ge 7, 3) := by decide +kernel
theorem dX7_readLine_49 : decode cX7_readLine 49 = .ok (.iconst 1, 1) := by decide +kernel
theorem dX7_readLine_50 : decode cX7_readLine 50 = .ok (.goto 4, 3) := by decide +kernel
theorem dX7_readLine_53 : decode cX7_readLine 53 = .ok (.iconst 0, 1) := by decide +kernel
theorem dX7_readLine_54 : decode cX7_readLine 54 = .ok (.iconst 5, 1) := by decide +kernel
theorem dX7_readLine_55 : decode cX7_readLine 55 = .ok (.invokevirtual 133, 3) := by decide +kernel
theorem dX7_readLine_58 : decode cX7_readLine 58 = .ok (.aload_n 0, 1) := by decide +kernel
theorem dX7_readLine_59 : decode cX7_readLine 59 = .ok (.getfield 91, 3) := by decide +kernel
theorem dX7_readLine_62 : decode cX7_readLine 62 = .ok (.ifCond .ne 50, 3) := by decide +kernel
theorem dX7_readLine_65 : decode cX7_readLine 65 = .ok (.iload_n 1, 1) := by decide +kernel
theorem dX7_readLine_66 : decode cX7_readLine 66 = .ok (.i2l, 1) := by decide +kernel
theorem dX7_readLine_67 : decode cX7_readLine 67 = .ok (.ldc2_w 167, 3) := by decide +kernel
theorem dX7_readLine_70 : decode cX7_readLine 70 = .ok (.ldc2_w 169, 3) := by decide +kernel
theorem dX7_readLine_73 : decode cX7_readLine 73 = .ok (.invokestatic 84, 3) := by decide +kernel
theorem dX7_readLine_76 : decode cX7_readLine 76 = .ok (.ifCond .eq 36, 3) := by decide +kernel
theorem dX7_readLine_79 : decode cX7_readLine 79 = .ok (.aload_n 0, 1) := by decide +kernel
theorem dX7_readLine_80 : decode cX7_readLine 80 = .ok (.aload_n 0, 1) := by decide +kernel
theorem dX7_readLine_81 : decode cX7_readLine 81 = .ok (.getfield 70, 3) := by decide +kernel
theorem dX7_readLine_84 : decode cX7_readLine 84 = .ok (.iload_n 1, 1) := by decide +kernel
theorem dX7_readLine_85 : decode cX7_readLine 85 = .ok (.ishr, 1) := by decide +kernel
theorem dX7_readLine_86 : decode cX7_readLine 86 = .ok (.iconst 1, 1) := by decide +kernel
theorem dX7_readLine_87 : decode cX7_readLine 87 = .ok (.iand, 1) := by decide +kernel
theorem dX7_readLine_88 : decode cX7_readLine 88 = .ok (.ifCond .ne 7, 3) := by decide +kernel
theorem dX7_readLine_91 : decode cX7_readLine 91 = .ok (.iconst 1, 1) := by decide +kernel
theorem dX7_readLine_92 : decode cX7_readLine 92 = .ok (.goto 4, 3) := by decide +kernel
theorem dX7_readLine_95 : decode cX7_readLine 95 = .ok (.iconst 0, 1) := by decide +kernel
theorem dX7_readLine_96 : decode cX7_readLine 96 = .ok (.iconst 4, 1) := by decide +kernel
theorem dX7_readLine_97 : decode cX7_readLine 97 = .ok (.invokevirtual 133, 3) := by decide +kernel
theorem dX7_readLine_100 : decode cX7_readLine 100 = .ok (.aload_n 0, 1) := by decide +kernel
theorem dX7_readLine_101 : decode cX7_readLine 101 = .ok (.dup, 1) := by decide +kernel
theorem dX7_readLine_102 : decode cX7_readLine 102 = .ok (.getfield 70, 3) := by decide +kernel
theorem dX7_readLine_105 : decode cX7_readLine 105 = .ok (.iconst 1, 1) := by decide +kernel
theorem dX7_readLine_106 : decode cX7_readLine 106 = .ok (.iload_n 1, 1) := by decide +kernel
theorem dX7_readLine_107 : decode cX7_readLine 107 = .ok (.ishl, 1) := by decide +kernel
theorem dX7_readLine_108 : decode cX7_readLine 108 = .ok (.ior, 1) := by decide +kernel
theorem dX7_readLine_109 : decode cX7_readLine 109 = .ok (.putfield 70, 3) := by decide +kernel
theorem dX7_readLine_112 : decode cX7_readLine 112 = .ok (.aload_n 0, 1) := by decide +kernel
theorem dX7_readLine_113 : decode cX7_readLine 113 = .ok (.invokevirtual 141, 3) := by decide +kernel
theorem dX7_readLine_116 : decode cX7_readLine 116 = .ok (.aload_n 0, 1) := by decide +kernel
theorem dX7_readLine_117 : decode cX7_readLine 117 = .ok (.getfield 91, 3) := by decide +kernel
theorem dX7_readLine_120 : decode cX7_readLine 120 = .ok (.ifCond .le 4, 3) := by decide +kernel
theorem dX7_readLine_123 : decode cX7_readLine 123 = .ok (.return_, 1) := by decide +kernel
theorem dX7_readLine_124 : decode cX7_readLine 124 = .ok (.aload_n 0, 1) := by decide +kernel
theorem dX7_readLine_125 : decode cX7_readLine 125 = .ok (.iload_n 1, 1) := by decide +kernel
theorem dX7_readLine_126 : decode cX7_readLine 126 = .ok (.invokevirtual 171, 3) := by decide +kernel
theorem dX7_readLine_129 : decode cX7_readLine 129 = .ok (.aload_n 0, 1) := by decide +kernel
theorem dX7_readLine_130 : decode cX7_readLine 130 = .ok (.getfield 91, 3) := by decide +kernel
theorem dX7_readLine_133 : decode cX7_readLine 133 = .ok (.ifCond .ne 21, 3) := by decide +kernel
theorem dX7_readLine_136 : decode cX7_readLine 136 = .ok (.aload_n 0, 1) := by decide +kernel
theorem dX7_readLine_137 : decode cX7_readLine 137 = .ok (.aload_n 0, 1) := by decide +kernel
theorem dX7_readLine_138 : decode cX7_readLine 138 = .ok (.getfield 119, 3) := by decide +kernel
theorem dX7_readLine_141 : decode cX7_readLine 141 = .ok (.iconst 3, 1) := by decide +kernel
theorem dX7_readLine_142 : decode cX7_readLine 142 = .ok (.if_icmp .ne 7, 3) := by decide +kernel
theorem dX7_readLine_145 : decode cX7_readLine 145 = .ok (.iconst 1, 1) := by decide +kernel
theorem dX7_readLine_146 : decode cX7_readLine 146 = .ok (.goto 4, 3) := by decide +kernel
theorem dX7_readLine_149 : decode cX7_readLine 149 = .ok (.iconst 0, 1) := by decide +kernel
theorem dX7_readLine_150 : decode cX7_readLine 150 = .ok (.iconst 2, 1) := by decide +kernel
theorem dX7_readLine_151 : decode cX7_readLine 151 = .ok (.invokevirtual 133, 3) := by decide +kernel
theorem dX7_readLine_154 : decode cX7_readLine 154 = .ok (.aload_n 0, 1) := by decide +kernel
theorem dX7_readLine_155 : decode cX7_readLine 155 = .ok (.invokevirtual 141, 3) := by decide +kernel
theorem dX7_readLine_158 : decode cX7_readLine 158 = .ok (.return_, 1) := by decide +kernel
theorem dX7_text_0 : decode cX7_text 0 = .ok (.iconst 0, 1) := by decide +kernel
theorem dX7_text_1 : decode cX7_text 1 = .ok (.istore_n 1, 1) := by decide +kernel
theorem dX7_text_2 : decode cX7_text 2 = .ok (.aload_n 0, 1) := by decide +kernel
theorem dX7_text_3 : decode cX7_text 3 = .ok (.iconst 0, 1) := by decide +kernel
theorem dX7_text_4 : decode cX7_text 4 = .ok (.putfield 91, 3) := by decide +kernel
theorem dX7_text_7 : decode cX7_text 7 = .ok (.aload_n 0, 1) := by decide +kernel
theorem dX7_text_8 : decode cX7_text 8 = .ok (.iconst 0, 1) := by decide +kernel
theorem dX7_text_9 : decode cX7_text 9 = .ok (.putfield 100, 3) := by decide +kernel
theorem dX7_text_12 : decode cX7_text 12 = .ok (.aload_n 0, 1) := by decide +kernel
theorem dX7_text_13 : decode cX7_text 13 = .ok (.invokevirtual 57, 3) := by decide +kernel
theorem dX7_text_16 : decode cX7_text 16 = .ok (.aload_n 0, 1) := by decide +kernel
theorem dX7_text_17 : decode cX7_text 17 = .ok (.invokevirtual 141, 3) := by decide +kernel
theorem dX7_text_20 : decode cX7_text 20 = .ok (.aload_n 0, 1) := by decide +kernel
theorem dX7_text_21 : decode cX7_text 21 = .ok (.getfield 91, 3) := by decide +kernel
theorem dX7_text_24 : decode cX7_text 24 = .ok (.ifCond .ne 20, 3) := by decide +kernel
theorem dX7_text_27 : decode cX7_text 27 = .ok (.aload_n 0, 1) := by decide +kernel
theorem dX7_text_28 : decode cX7_text 28 = .ok (.getfield 119, 3) := by decide +kernel
theorem dX7_text_31 : decode cX7_text 31 = .ok (.ifCond .eq 13, 3) := by decide +kernel
theorem dX7_text_34 : decode cX7_text 34 = .ok (.aload_n 0, 1) := by decide +kernel
theorem dX7_text_35 : decode cX7_text 35 = .ok (.invokevirtual 174, 3) := by decide +kernel
theorem dX7_text_38 : decode cX7_text 38 = .ok (.iinc 1 1, 3) := by decide +kernel
theorem dX7_text_41 : decode cX7_text 41 = .ok (.goto (-21), 3) := by decide +kernel
theorem dX7_text_44 : decode cX7_text 44 = .ok (.aload_n 0, 1) := by decide +kernel
theorem dX7_text_45 : decode cX7_text 45 = .ok (.getfield 91, 3) := by decide +kernel
theorem dX7_text_48 : decode cX7_text 48 = .ok (.ifCond .ne 25, 3) := by decide +kernel
theorem dX7_text_51 : decode cX7_text 51 = .ok (.aload_n 0, 1) := by decide +kernel
theorem dX7_text_52 : decode cX7_text 52 = .ok (.aload_n 0, 1) := by decide +kernel
theorem dX7_text_53 : decode cX7_text 53 = .ok (.getfield 73, 3) := by decide +kernel
theorem dX7_text_56 : decode cX7_text 56 = .ok (.aload_n 0, 1) := by decide +kernel
theorem dX7_text_57 : decode cX7_text 57 = .ok (.getfield 63, 3) := by decide +kernel
theorem dX7_text_60 : decode cX7_text 60 = .ok (.if_icmp .ge 7, 3) := by decide +kernel
theorem dX7_text_63 : decode cX7_text 63 = .ok (.iconst 1, 1) := by decide +kernel
theorem dX7_text_64 : decode cX7_text 64 = .ok (.goto 4, 3) := by decide +kernel
theorem dX7_text_67 : decode cX7_text 67 = .ok (.iconst 0, 1) := by decide +kernel
theorem dX7_text_68 : decode cX7_text 68 = .ok (.bipush 6, 2) := by decide +kernel
theorem dX7_text_70 : decode cX7_text 70 = .ok (.invokevirtual 133, 3) := by decide +kernel
theorem dX7_text_73 : decode cX7_text 73 = .ok (.aload_n 0, 1) := by decide +kernel
theorem dX7_text_74 : decode cX7_text 74 = .ok (.iconst 0, 1) := by decide +kernel
theorem dX7_text_75 : decode cX7_text 75 = .ok (.putfield 88, 3) := by decide +kernel
theorem dX7_text_78 : decode cX7_text 78 = .ok (.aload_n 0, 1) := by decide +kernel
theorem dX7_text_79 : decode cX7_text 79 = .ok (.getfield 91, 3) := by decide +kernel
theorem dX7_text_82 : decode cX7_text 82 = .ok (.ifCond .le 11, 3) := by decide +kernel
theorem dX7_text_85 : decode cX7_text 85 = .ok (.bipush (-10), 2) := by decide +kernel
theorem dX7_text_87 : decode cX7_text 87 = .ok (.aload_n 0, 1) := by decide +kernel
theorem dX7_text_88 : decode cX7_text 88 = .ok (.getfield 97, 3) := by decide +kernel
theorem dX7_text_91 : decode cX7_text 91 = .ok (.isub, 1) := by decide +kernel
theorem dX7_text_92 : decode cX7_text 92 = .ok (.ireturn, 1) := by decide +kernel
theorem dX7_text_93 : decode cX7_text 93 = .ok (.aload_n 0, 1) := by decide +kernel
theorem dX7_text_94 : decode cX7_text 94 = .ok (.invokevirtual 60, 3) := by decide +kernel
theorem dX7_text_97 : decode cX7_text 97 = .ok (.iload_n 1, 1) := by decide +kernel
theorem dX7_text_98 : decode cX7_text 98 = .ok (.ireturn, 1) := by decide +kernel
theorem dX7_fault_0 : decode cX7_fault 0 = .ok (.aload_n 0, 1) := by decide +kernel
theorem dX7_fault_1 : decode cX7_fault 1 = .ok (.getfield 91, 3) := by decide +kernel
theorem dX7_fault_4 : decode cX7_fault 4 = .ok (.ireturn, 1) := by decide +kernel
theorem dX7_isCorner_0 : decode cX7_isCorner 0 = .ok (.iload_n 1, 1) := by decide +kernel
theorem dX7_isCorner_1 : decode cX7_isCorner 1 = .ok (.i2l, 1) := by decide +kernel
theorem dX7_isCorner_2 : decode cX7_isCorner 2 = .ok (.lconst 0, 1) := by decide +kernel
theorem dX7_isCorner_3 : decode cX7_isCorner 3 = .ok (.aload_n 0, 1) := by decide +kernel
theorem dX7_isCorner_4 : decode cX7_isCorner 4 = .ok (.getfield 76, 3) := by decide +kernel
theorem dX7_isCorner_7 : decode cX7_isCorner 7 = .ok (.iconst 1, 1) := by decide +kernel
theorem dX7_isCorner_8 : decode cX7_isCorner 8 = .ok (.isub, 1) := by decide +kernel
theorem dX7_isCorner_9 : decode cX7_isCorner 9 = .ok (.i2l, 1) := by decide +kernel
theorem dX7_isCorner_10 : decode cX7_isCorner 10 = .ok (.invokestatic 84, 3) := by decide +kernel
theorem dX7_isCorner_13 : decode cX7_isCorner 13 = .ok (.ireturn, 1) := by decide +kernel
theorem dX7_isWalker_0 : decode cX7_isWalker 0 = .ok (.iload_n 1, 1) := by decide +kernel
theorem dX7_isWalker_1 : decode cX7_isWalker 1 = .ok (.i2l, 1) := by decide +kernel
theorem dX7_isWalker_2 : decode cX7_isWalker 2 = .ok (.lconst 0, 1) := by decide +kernel
theorem dX7_isWalker_3 : decode cX7_isWalker 3 = .ok (.aload_n 0, 1) := by decide +kernel
theorem dX7_isWalker_4 : decode cX7_isWalker 4 = .ok (.getfield 79, 3) := by decide +kernel
theorem dX7_isWalker_7 : decode cX7_isWalker 7 = .ok (.iconst 1, 1) := by decide +kernel
theorem dX7_isWalker_8 : decode cX7_isWalker 8 = .ok (.isub, 1) := by decide +kernel
theorem dX7_isWalker_9 : decode cX7_isWalker 9 = .ok (.i2l, 1) := by decide +kernel
theorem dX7_isWalker_10 : decode cX7_isWalker 10 = .ok (.invokestatic 84, 3) := by decide +kernel
theorem dX7_isWalker_13 : decode cX7_isWalker 13 = .ok (.ireturn, 1) := by decide +kernel
theorem dX7_isHour_0 : decode cX7_isHour 0 = .ok (.iload_n 0, 1) := by decide +kernel
theorem dX7_isHour_1 : decode cX7_isHour 1 = .ok (.i2l, 1) := by decide +kernel
theorem dX7_isHour_2 : decode cX7_isHour 2 = .ok (.lconst 0, 1) := by decide +kernel
theorem dX7_isHour_3 : decode cX7_isHour 3 = .ok (.ldc2_w 177, 3) := by decide +kernel
theorem dX7_isHour_6 : decode cX7_isHour 6 = .ok (.invokestatic 84, 3) := by decide +kernel
theorem dX7_isHour_9 : decode cX7_isHour 9 = .ok (.ireturn, 1) := by decide +kernel
theorem dX7_isPart_0 : decode cX7_isPart 0 = .ok (.iload_n 0, 1) := by decide +kernel
theorem dX7_isPart_1 : decode cX7_isPart 1 = .ok (.i2l, 1) := by decide +kernel
theorem dX7_isPart_2 : decode cX7_isPart 2 = .ok (.lconst 0, 1) := by decide +kernel
theorem dX7_isPart_3 : decode cX7_isPart 3 = .ok (.lconst 1, 1) := by decide +kernel
theorem dX7_isPart_4 : decode cX7_isPart 4 = .ok (.invokestatic 84, 3) := by decide +kernel
theorem dX7_isPart_7 : decode cX7_isPart 7 = .ok (.ireturn, 1) := by decide +kernel
theorem dX7_isTurned_0 : decode cX7_isTurned 0 = .ok (.iload_n 0, 1) := by decide +kernel
theorem dX7_isTurned_1 : decode cX7_isTurned 1 = .ok (.bipush 24, 2) := by decide +kernel
theorem dX7_isTurned_3 : decode cX7_isTurned 3 = .ok (.irem, 1) := by decide +kernel
theorem dX7_isTurned_4 : decode cX7_isTurned 4 = .ok (.bipush 12, 2) := by decide +kernel
theorem dX7_isTurned_6 : decode cX7_isTurned 6 = .ok (.if_icmp .lt 7, 3) := by decide +kernel
theorem dX7_isTurned_9 : decode cX7_isTurned 9 = .ok (.iconst 1, 1) := by decide +kernel
theorem dX7_isTurned_10 : decode cX7_isTurned 10 = .ok (.goto 4, 3) := by decide +kernel
theorem dX7_isTurned_13 : decode cX7_isTurned 13 = .ok (.iconst 0, 1) := by decide +kernel
theorem dX7_isTurned_14 : decode cX7_isTurned 14 = .ok (.ireturn, 1) := by decide +kernel
theorem dX7_bitsOf_0 : decode cX7_bitsOf 0 = .ok (.iconst 0, 1) := by decide +kernel
theorem dX7_bitsOf_1 : decode cX7_bitsOf 1 = .ok (.istore_n 1, 1) := by decide +kernel
theorem dX7_bitsOf_2 : decode cX7_bitsOf 2 = .ok (.iconst 0, 1) := by decide +kernel
theorem dX7_bitsOf_3 : decode cX7_bitsOf 3 = .ok (.istore_n 2, 1) := by decide +kernel
theorem dX7_bitsOf_4 : decode cX7_bitsOf 4 = .ok (.iload_n 2, 1) := by decide +kernel
theorem dX7_bitsOf_5 : decode cX7_bitsOf 5 = .ok (.bipush 8, 2) := by decide +kernel
theorem dX7_bitsOf_7 : decode cX7_bitsOf 7 = .ok (.if_icmp .ge 17, 3) := by decide +kernel
theorem dX7_bitsOf_10 : decode cX7_bitsOf 10 = .ok (.iload_n 1, 1) := by decide +kernel
theorem dX7_bitsOf_11 : decode cX7_bitsOf 11 = .ok (.iload_n 0, 1) := by decide +kernel
theorem dX7_bitsOf_12 : decode cX7_bitsOf 12 = .ok (.iload_n 2, 1) := by decide +kernel
theorem dX7_bitsOf_13 : decode cX7_bitsOf 13 = .ok (.ishr, 1) := by decide +kernel
theorem dX7_bitsOf_14 : decode cX7_bitsOf 14 = .ok (.iconst 1, 1) := by decide +kernel
theorem dX7_bitsOf_15 : decode cX7_bitsOf 15 = .ok (.iand, 1) := by decide +kernel
theorem dX7_bitsOf_16 : decode cX7_bitsOf 16 = .ok (.iadd, 1) := by decide +kernel
theorem dX7_bitsOf_17 : decode cX7_bitsOf 17 = .ok (.istore_n 1, 1) := by decide +kernel
theorem dX7_bitsOf_18 : decode cX7_bitsOf 18 = .ok (.iinc 2 1, 3) := by decide +kernel
theorem dX7_bitsOf_21 : decode cX7_bitsOf 21 = .ok (.goto (-17), 3) := by decide +kernel
theorem dX7_bitsOf_24 : decode cX7_bitsOf 24 = .ok (.iload_n 1, 1) := by decide +kernel
theorem dX7_bitsOf_25 : decode cX7_bitsOf 25 = .ok (.ireturn, 1) := by decide +kernel
theorem dX7_starts_0 : decode cX7_starts 0 = .ok (.iconst 0, 1) := by decide +kernel
theorem dX7_starts_1 : decode cX7_starts 1 = .ok (.istore_n 1, 1) := by decide +kernel
theorem dX7_starts_2 : decode cX7_starts 2 = .ok (.iload_n 1, 1) := by decide +kernel
theorem dX7_starts_3 : decode cX7_starts 3 = .ok (.bipush 80, 2) := by decide +kernel
theorem dX7_starts_5 : decode cX7_starts 5 = .ok (.if_icmp .ge 21, 3) := by decide +kernel
theorem dX7_starts_8 : decode cX7_starts 8 = .ok (.aload_n 0, 1) := by decide +kernel
theorem dX7_starts_9 : decode cX7_starts 9 = .ok (.getfield 13, 3) := by decide +kernel
theorem dX7_starts_12 : decode cX7_starts 12 = .ok (.iload_n 1, 1) := by decide +kernel
theorem dX7_starts_13 : decode cX7_starts 13 = .ok (.aload_n 0, 1) := by decide +kernel
theorem dX7_starts_14 : decode cX7_starts 14 = .ok (.getfield 7, 3) := by decide +kernel
theorem dX7_starts_17 : decode cX7_starts 17 = .ok (.iload_n 1, 1) := by decide +kernel
theorem dX7_starts_18 : decode cX7_starts 18 = .ok (.iaload, 1) := by decide +kernel
theorem dX7_starts_19 : decode cX7_starts 19 = .ok (.iastore, 1) := by decide +kernel
theorem dX7_starts_20 : decode cX7_starts 20 = .ok (.iinc 1 1, 3) := by decide +kernel
theorem dX7_starts_23 : decode cX7_starts 23 = .ok (.goto (-21), 3) := by decide +kernel
theorem dX7_starts_26 : decode cX7_starts 26 = .ok (.return_, 1) := by decide +kernel
theorem dX7_of_0 : decode cX7_of 0 = .ok (.aload_n 0, 1) := by decide +kernel
theorem dX7_of_1 : decode cX7_of 1 = .ok (.getfield 13, 3) := by decide +kernel
theorem dX7_of_4 : decode cX7_of 4 = .ok (.bipush 18, 2) := by decide +kernel
theorem dX7_of_6 : decode cX7_of 6 = .ok (.bipush 6, 2) := by decide +kernel
theorem dX7_of_8 : decode cX7_of 8 = .ok (.iload_n 1, 1) := by decide +kernel
theorem dX7_of_9 : decode cX7_of 9 = .ok (.imul, 1) := by decide +kernel
theorem dX7_of_10 : decode cX7_of 10 = .ok (.iadd, 1) := by decide +kernel
theorem dX7_of_11 : decode cX7_of 11 = .ok (.iload_n 2, 1) := by decide +kernel
theorem dX7_of_12 : decode cX7_of 12 = .ok (.iadd, 1) := by decide +kernel
theorem dX7_of_13 : decode cX7_of 13 = .ok (.iaload, 1) := by decide +kernel
theorem dX7_of_14 : decode cX7_of 14 = .ok (.ireturn, 1) := by decide +kernel
theorem dX7_becomesOf_0 : decode cX7_becomesOf 0 = .ok (.aload_n 0, 1) := by decide +kernel
theorem dX7_becomesOf_1 : decode cX7_becomesOf 1 = .ok (.getfield 13, 3) := by decide +kernel
theorem dX7_becomesOf_4 : decode cX7_becomesOf 4 = .ok (.bipush 18, 2) := by decide +kernel
theorem dX7_becomesOf_6 : decode cX7_becomesOf 6 = .ok (.bipush 6, 2) := by decide +kernel
theorem dX7_becomesOf_8 : decode cX7_becomesOf 8 = .ok (.iload_n 1, 1) := by decide +kernel
theorem dX7_becomesOf_9 : decode cX7_becomesOf 9 = .ok (.imul, 1) := by decide +kernel
theorem dX7_becomesOf_10 : decode cX7_becomesOf 10 = .ok (.iadd, 1) := by decide +kernel
theorem dX7_becomesOf_11 : decode cX7_becomesOf 11 = .ok (.iload_n 2, 1) := by decide +kernel
theorem dX7_becomesOf_12 : decode cX7_becomesOf 12 = .ok (.iadd, 1) := by decide +kernel
theorem dX7_becomesOf_13 : decode cX7_becomesOf 13 = .ok (.iload_n 3, 1) := by decide +kernel
theorem dX7_becomesOf_14 : decode cX7_becomesOf 14 = .ok (.iastore, 1) := by decide +kernel
theorem dX7_becomesOf_15 : decode cX7_becomesOf 15 = .ok (.return_, 1) := by decide +kernel
theorem dX7_leadsBy_0 : decode cX7_leadsBy 0 = .ok (.iload_n 3, 1) := by decide +kernel
theorem dX7_leadsBy_1 : decode cX7_leadsBy 1 = .ok (.invokestatic 179, 3) := by decide +kernel
theorem dX7_leadsBy_4 : decode cX7_leadsBy 4 = .ok (.ifCond .eq 21, 3) := by decide +kernel
theorem dX7_leadsBy_7 : decode cX7_leadsBy 7 = .ok (.iload 4, 2) := by decide +kernel
theorem dX7_leadsBy_9 : decode cX7_leadsBy 9 = .ok (.ifCond .ne 16, 3) := by decide +kernel
theorem dX7_leadsBy_12 : decode cX7_leadsBy 12 = .ok (.iload 5, 2) := by decide +kernel
theorem dX7_leadsBy_14 : decode cX7_leadsBy 14 = .ok (.iload_n 1, 1) := by decide +kernel
theorem dX7_leadsBy_15 : decode cX7_leadsBy 15 = .ok (.ishr, 1) := by decide +kernel
theorem dX7_leadsBy_16 : decode cX7_leadsBy 16 = .ok (.iconst 1, 1) := by decide +kernel
theorem dX7_leadsBy_17 : decode cX7_leadsBy 17 = .ok (.iand, 1) := by decide +kernel
theorem dX7_leadsBy_18 : decode cX7_leadsBy 18 = .ok (.ifCond .ne 7, 3) := by decide +kernel
theorem dX7_leadsBy_21 : decode cX7_leadsBy 21 = .ok (.iconst 1, 1) := by decide +kernel
theorem dX7_leadsBy_22 : decode cX7_leadsBy 22 = .ok (.goto 4, 3) := by decide +kernel
theorem dX7_leadsBy_25 : decode cX7_leadsBy 25 = .ok (.iconst 0, 1) := by decide +kernel
theorem dX7_leadsBy_26 : decode cX7_leadsBy 26 = .ok (.istore 6, 2) := by decide +kernel
theorem dX7_leadsBy_28 : decode cX7_leadsBy 28 = .ok (.aload_n 0, 1) := by decide +kernel
theorem dX7_leadsBy_29 : decode cX7_leadsBy 29 = .ok (.getfield 13, 3) := by decide +kernel
theorem dX7_leadsBy_32 : decode cX7_leadsBy 32 = .ok (.iconst 0, 1) := by decide +kernel
theorem dX7_leadsBy_33 : decode cX7_leadsBy 33 = .ok (.bipush 8, 2) := by decide +kernel
theorem dX7_leadsBy_35 : decode cX7_leadsBy 35 = .ok (.iload 6, 2) := by decide +kernel
theorem dX7_leadsBy_37 : decode cX7_leadsBy 37 = .ok (.ifCond .eq 9, 3) := by decide +kernel
theorem dX7_leadsBy_40 : decode cX7_leadsBy 40 = .ok (.iconst 1, 1) := by decide +kernel
theorem dX7_leadsBy_41 : decode cX7_leadsBy 41 = .ok (.iload_n 2, 1) := by decide +kernel
theorem dX7_leadsBy_42 : decode cX7_leadsBy 42 = .ok (.isub, 1) := by decide +kernel
theorem dX7_leadsBy_43 : decode cX7_leadsBy 43 = .ok (.goto 4, 3) := by decide +kernel
theorem dX7_leadsBy_46 : decode cX7_leadsBy 46 = .ok (.iload_n 2, 1) := by decide +kernel
theorem dX7_leadsBy_47 : decode cX7_leadsBy 47 = .ok (.imul, 1) := by decide +kernel
theorem dX7_leadsBy_48 : decode cX7_leadsBy 48 = .ok (.iadd, 1) := by decide +kernel
theorem dX7_leadsBy_49 : decode cX7_leadsBy 49 = .ok (.iload_n 1, 1) := by decide +kernel
theorem dX7_leadsBy_50 : decode cX7_leadsBy 50 = .ok (.iadd, 1) := by decide +kernel
theorem dX7_leadsBy_51 : decode cX7_leadsBy 51 = .ok (.iaload, 1) := by decide +kernel
theorem dX7_leadsBy_52 : decode cX7_leadsBy 52 = .ok (.ireturn, 1) := by decide +kernel
theorem dX7_goesFrom_0 : decode cX7_goesFrom 0 = .ok (.aload_n 0, 1) := by decide +kernel
theorem dX7_goesFrom_1 : decode cX7_goesFrom 1 = .ok (.iload_n 1, 1) := by decide +kernel
theorem dX7_goesFrom_2 : decode cX7_goesFrom 2 = .ok (.iload_n 2, 1) := by decide +kernel
theorem dX7_goesFrom_3 : decode cX7_goesFrom 3 = .ok (.iload_n 3, 1) := by decide +kernel
theorem dX7_goesFrom_4 : decode cX7_goesFrom 4 = .ok (.iload 4, 2) := by decide +kernel
theorem dX7_goesFrom_6 : decode cX7_goesFrom 6 = .ok (.aload_n 0, 1) := by decide +kernel
theorem dX7_goesFrom_7 : decode cX7_goesFrom 7 = .ok (.getfield 13, 3) := by decide +kernel
theorem dX7_goesFrom_10 : decode cX7_goesFrom 10 = .ok (.bipush 16, 2) := by decide +kernel
theorem dX7_goesFrom_12 : decode cX7_goesFrom 12 = .ok (.iaload, 1) := by decide +kernel
theorem dX7_goesFrom_13 : decode cX7_goesFrom 13 = .ok (.invokevirtual 183, 3) := by decide +kernel
theorem dX7_goesFrom_16 : decode cX7_goesFrom 16 = .ok (.istore 5, 2) := by decide +kernel
theorem dX7_goesFrom_18 : decode cX7_goesFrom 18 = .ok (.iload 5, 2) := by decide +kernel
theorem dX7_goesFrom_20 : decode cX7_goesFrom 20 = .ok (.bipush (-4), 2) := by decide +kernel
theorem dX7_goesFrom_22 : decode cX7_goesFrom 22 = .ok (.if_icmp .ne 7, 3) := by decide +kernel
theorem dX7_goesFrom_25 : decode cX7_goesFrom 25 = .ok (.iload_n 1, 1) := by decide +kernel
theorem dX7_goesFrom_26 : decode cX7_goesFrom 26 = .ok (.goto 5, 3) := by decide +kernel
theorem dX7_goesFrom_29 : decode cX7_goesFrom 29 = .ok (.iload 5, 2) := by decide +kernel
theorem dX7_goesFrom_31 : decode cX7_goesFrom 31 = .ok (.ireturn, 1) := by decide +kernel
theorem dX7_leftOf_0 : decode cX7_leftOf 0 = .ok (.aload_n 0, 1) := by decide +kernel
theorem dX7_leftOf_1 : decode cX7_leftOf 1 = .ok (.iload_n 1, 1) := by decide +kernel
theorem dX7_leftOf_2 : decode cX7_leftOf 2 = .ok (.iconst 3, 1) := by decide +kernel
theorem dX7_leftOf_3 : decode cX7_leftOf 3 = .ok (.invokevirtual 187, 3) := by decide +kernel
theorem dX7_leftOf_6 : decode cX7_leftOf 6 = .ok (.aload_n 0, 1) := by decide +kernel
theorem dX7_leftOf_7 : decode cX7_leftOf 7 = .ok (.iload_n 1, 1) := by decide +kernel
theorem dX7_leftOf_8 : decode cX7_leftOf 8 = .ok (.iconst 5, 1) := by decide +kernel
theorem dX7_leftOf_9 : decode cX7_leftOf 9 = .ok (.invokevirtual 187, 3) := by decide +kernel
theorem dX7_leftOf_12 : decode cX7_leftOf 12 = .ok (.isub, 1) := by decide +kernel
theorem dX7_leftOf_13 : decode cX7_leftOf 13 = .ok (.ireturn, 1) := by decide +kernel
theorem dX7_arrive_0 : decode cX7_arrive 0 = .ok (.iconst 0, 1) := by decide +kernel
theorem dX7_arrive_1 : decode cX7_arrive 1 = .ok (.istore_n 1, 1) := by decide +kernel
theorem dX7_arrive_2 : decode cX7_arrive 2 = .ok (.iconst 0, 1) := by decide +kernel
theorem dX7_arrive_3 : decode cX7_arrive 3 = .ok (.istore_n 2, 1) := by decide +kernel
theorem dX7_arrive_4 : decode cX7_arrive 4 = .ok (.iload_n 2, 1) := by decide +kernel
theorem dX7_arrive_5 : decode cX7_arrive 5 = .ok (.aload_n 0, 1) := by decide +kernel
theorem dX7_arrive_6 : decode cX7_arrive 6 = .ok (.getfield 79, 3) := by decide +kernel
theorem dX7_arrive_9 : decode cX7_arrive 9 = .ok (.if_icmp .ge 34, 3) := by decide +kernel
theorem dX7_arrive_12 : decode cX7_arrive 12 = .ok (.iconst 0, 1) := by decide +kernel
theorem dX7_arrive_13 : decode cX7_arrive 13 = .ok (.istore_n 3, 1) := by decide +kernel
theorem dX7_arrive_14 : decode cX7_arrive 14 = .ok (.iload_n 3, 1) := by decide +kernel
theorem dX7_arrive_15 : decode cX7_arrive 15 = .ok (.iload_n 2, 1) := by decide +kernel
theorem dX7_arrive_16 : decode cX7_arrive 16 = .ok (.if_icmp .ge 21, 3) := by decide +kernel
theorem dX7_arrive_19 : decode cX7_arrive 19 = .ok (.iload_n 1, 1) := by decide +kernel
theorem dX7_arrive_20 : decode cX7_arrive 20 = .ok (.aload_n 0, 1) := by decide +kernel
theorem dX7_arrive_21 : decode cX7_arrive 21 = .ok (.iload_n 2, 1) := by decide +kernel
theorem dX7_arrive_22 : decode cX7_arrive 22 = .ok (.iload_n 3, 1) := by decide +kernel
theorem dX7_arrive_23 : decode cX7_arrive 23 = .ok (.invokevirtual 190, 3) := by decide +kernel
theorem dX7_arrive_26 : decode cX7_arrive 26 = .ok (.invokestatic 147, 3) := by decide +kernel
theorem dX7_arrive_29 : decode cX7_arrive 29 = .ok (.iadd, 1) := by decide +kernel
theorem dX7_arrive_30 : decode cX7_arrive 30 = .ok (.istore_n 1, 1) := by decide +kernel
theorem dX7_arrive_31 : decode cX7_arrive 31 = .ok (.iinc 3 1, 3) := by decide +kernel
theorem dX7_arrive_34 : decode cX7_arrive 34 = .ok (.goto (-20), 3) := by decide +kernel
theorem dX7_arrive_37 : decode cX7_arrive 37 = .ok (.iinc 2 1, 3) := by decide +kernel
theorem dX7_arrive_40 : decode cX7_arrive 40 = .ok (.goto (-36), 3) := by decide +kernel
theorem dX7_arrive_43 : decode cX7_arrive 43 = .ok (.iconst 0, 1) := by decide +kernel
theorem dX7_arrive_44 : decode cX7_arrive 44 = .ok (.istore_n 2, 1) := by decide +kernel
theorem dX7_arrive_45 : decode cX7_arrive 45 = .ok (.iload_n 2, 1) := by decide +kernel
theorem dX7_arrive_46 : decode cX7_arrive 46 = .ok (.aload_n 0, 1) := by decide +kernel
theorem dX7_arrive_47 : decode cX7_arrive 47 = .ok (.getfield 79, 3) := by decide +kernel
theorem dX7_arrive_50 : decode cX7_arrive 50 = .ok (.if_icmp .ge 21, 3) := by decide +kernel
theorem dX7_arrive_53 : decode cX7_arrive 53 = .ok (.aload_n 0, 1) := by decide +kernel
theorem dX7_arrive_54 : decode cX7_arrive 54 = .ok (.iload_n 2, 1) := by decide +kernel
theorem dX7_arrive_55 : decode cX7_arrive 55 = .ok (.iconst 0, 1) := by decide +kernel
theorem dX7_arrive_56 : decode cX7_arrive 56 = .ok (.aload_n 0, 1) := by decide +kernel
theorem dX7_arrive_57 : decode cX7_arrive 57 = .ok (.getfield 29, 3) := by decide +kernel
theorem dX7_arrive_60 : decode cX7_arrive 60 = .ok (.iload_n 2, 1) := by decide +kernel
theorem dX7_arrive_61 : decode cX7_arrive 61 = .ok (.iaload, 1) := by decide +kernel
theorem dX7_arrive_62 : decode cX7_arrive 62 = .ok (.invokevirtual 193, 3) := by decide +kernel
theorem dX7_arrive_65 : decode cX7_arrive 65 = .ok (.iinc 2 1, 3) := by decide +kernel
theorem dX7_arrive_68 : decode cX7_arrive 68 = .ok (.goto (-23), 3) := by decide +kernel
theorem dX7_arrive_71 : decode cX7_arrive 71 = .ok (.aload_n 0, 1) := by decide +kernel
theorem dX7_arrive_72 : decode cX7_arrive 72 = .ok (.getfield 13, 3) := by decide +kernel
theorem dX7_arrive_75 : decode cX7_arrive 75 = .ok (.bipush 17, 2) := by decide +kernel
theorem dX7_arrive_77 : decode cX7_arrive 77 = .ok (.dup2, 1) := by decide +kernel
theorem dX7_arrive_78 : decode cX7_arrive 78 = .ok (.iaload, 1) := by decide +kernel
theorem dX7_arrive_79 : decode cX7_arrive 79 = .ok (.iconst 1, 1) := by decide +kernel
theorem dX7_arrive_80 : decode cX7_arrive 80 = .ok (.iadd, 1) := by decide +kernel
theorem dX7_arrive_81 : decode cX7_arrive 81 = .ok (.iastore, 1) := by decide +kernel
theorem dX7_arrive_82 : decode cX7_arrive 82 = .ok (.iload_n 1, 1) := by decide +kernel
theorem dX7_arrive_83 : decode cX7_arrive 83 = .ok (.ireturn, 1) := by decide +kernel
theorem dX7_doClash_0 : decode cX7_doClash 0 = .ok (.aload_n 0, 1) := by decide +kernel
theorem dX7_doClash_1 : decode cX7_doClash 1 = .ok (.iload_n 1, 1) := by decide +kernel
theorem dX7_doClash_2 : decode cX7_doClash 2 = .ok (.iconst 0, 1) := by decide +kernel
theorem dX7_doClash_3 : decode cX7_doClash 3 = .ok (.invokevirtual 187, 3) := by decide +kernel
theorem dX7_doClash_6 : decode cX7_doClash 6 = .ok (.aload_n 0, 1) := by decide +kernel
theorem dX7_doClash_7 : decode cX7_doClash 7 = .ok (.iload_n 2, 1) := by decide +kernel
theorem dX7_doClash_8 : decode cX7_doClash 8 = .ok (.iconst 0, 1) := by decide +kernel
theorem dX7_doClash_9 : decode cX7_doClash 9 = .ok (.invokevirtual 187, 3) := by decide +kernel
theorem dX7_doClash_12 : decode cX7_doClash 12 = .ok (.if_icmp .eq 7, 3) := by decide +kernel
theorem dX7_doClash_15 : decode cX7_doClash 15 = .ok (.iconst 1, 1) := by decide +kernel
theorem dX7_doClash_16 : decode cX7_doClash 16 = .ok (.goto 4, 3) := by decide +kernel
theorem dX7_doClash_19 : decode cX7_doClash 19 = .ok (.iconst 0, 1) := by decide +kernel
theorem dX7_doClash_20 : decode cX7_doClash 20 = .ok (.istore_n 3, 1) := by decide +kernel
theorem dX7_doClash_21 : decode cX7_doClash 21 = .ok (.aload_n 0, 1) := by decide +kernel
theorem dX7_doClash_22 : decode cX7_doClash 22 = .ok (.getfield 32, 3) := by decide +kernel
theorem dX7_doClash_25 : decode cX7_doClash 25 = .ok (.iload_n 1, 1) := by decide +kernel
theorem dX7_doClash_26 : decode cX7_doClash 26 = .ok (.baload, 1) := by decide +kernel
theorem dX7_doClash_27 : decode cX7_doClash 27 = .ok (.ifCond .eq 50, 3) := by decide +kernel
theorem dX7_doClash_30 : decode cX7_doClash 30 = .ok (.aload_n 0, 1) := by decide +kernel
theorem dX7_doClash_31 : decode cX7_doClash 31 = .ok (.getfield 32, 3) := by decide +kernel
theorem dX7_doClash_34 : decode cX7_doClash 34 = .ok (.iload_n 2, 1) := by decide +kernel
theorem dX7_doClash_35 : decode cX7_doClash 35 = .ok (.baload, 1) := by decide +kernel
theorem dX7_doClash_36 : decode cX7_doClash 36 = .ok (.ifCond .eq 41, 3) := by decide +kernel
theorem dX7_doClash_39 : decode cX7_doClash 39 = .ok (.iload_n 3, 1) := by decide +kernel
theorem dX7_doClash_40 : decode cX7_doClash 40 = .ok (.ifCond .eq 37, 3) := by decide +kernel
theorem dX7_doClash_43 : decode cX7_doClash 43 = .ok (.aload_n 0, 1) := by decide +kernel
theorem dX7_doClash_44 : decode cX7_doClash 44 = .ok (.getfield 29, 3) := by decide +kernel
theorem dX7_doClash_47 : decode cX7_doClash 47 = .ok (.iload_n 1, 1) := by decide +kernel
theorem dX7_doClash_48 : decode cX7_doClash 48 = .ok (.iaload, 1) := by decide +kernel
theorem dX7_doClash_49 : decode cX7_doClash 49 = .ok (.aload_n 0, 1) := by decide +kernel
theorem dX7_doClash_50 : decode cX7_doClash 50 = .ok (.iload_n 2, 1) := by decide +kernel
theorem dX7_doClash_51 : decode cX7_doClash 51 = .ok (.iconst 0, 1) := by decide +kernel
theorem dX7_doClash_52 : decode cX7_doClash 52 = .ok (.invokevirtual 187, 3) := by decide +kernel
theorem dX7_doClash_55 : decode cX7_doClash 55 = .ok (.if_icmp .ne 22, 3) := by decide +kernel
theorem dX7_doClash_58 : decode cX7_doClash 58 = .ok (.aload_n 0, 1) := by decide +kernel
theorem dX7_doClash_59 : decode cX7_doClash 59 = .ok (.getfield 29, 3) := by decide +kernel
theorem dX7_doClash_62 : decode cX7_doClash 62 = .ok (.iload_n 2, 1) := by decide +kernel
theorem dX7_doClash_63 : decode cX7_doClash 63 = .ok (.iaload, 1) := by decide +kernel
theorem dX7_doClash_64 : decode cX7_doClash 64 = .ok (.aload_n 0, 1) := by decide +kernel
theorem dX7_doClash_65 : decode cX7_doClash 65 = .ok (.iload_n 1, 1) := by decide +kernel
theorem dX7_doClash_66 : decode cX7_doClash 66 = .ok (.iconst 0, 1) := by decide +kernel
theorem dX7_doClash_67 : decode cX7_doClash 67 = .ok (.invokevirtual 187, 3) := by decide +kernel
theorem dX7_doClash_70 : decode cX7_doClash 70 = .ok (.if_icmp .ne 7, 3) := by decide +kernel
theorem dX7_doClash_73 : decode cX7_doClash 73 = .ok (.iconst 1, 1) := by decide +kernel
theorem dX7_doClash_74 : decode cX7_doClash 74 = .ok (.goto 4, 3) := by decide +kernel
theorem dX7_doClash_77 : decode cX7_doClash 77 = .ok (.iconst 0, 1) := by decide +kernel
theorem dX7_doClash_78 : decode cX7_doClash 78 = .ok (.ireturn, 1) := by decide +kernel
theorem dX7_setsOut_0 : decode cX7_setsOut 0 = .ok (.iconst 0, 1) := by decide +kernel
theorem dX7_setsOut_1 : decode cX7_setsOut 1 = .ok (.istore_n 1, 1) := by decide +kernel
theorem dX7_setsOut_2 : decode cX7_setsOut 2 = .ok (.iload_n 1, 1) := by decide +kernel
theorem dX7_setsOut_3 : decode cX7_setsOut 3 = .ok (.aload_n 0, 1) := by decide +kernel
theorem dX7_setsOut_4 : decode cX7_setsOut 4 = .ok (.getfield 79, 3) := by decide +kernel
theorem dX7_setsOut_7 : decode cX7_setsOut 7 = .ok (.if_icmp .ge 101, 3) := by decide +kernel
theorem dX7_setsOut_10 : decode cX7_setsOut 10 = .ok (.aload_n 0, 1) := by decide +kernel
theorem dX7_setsOut_11 : decode cX7_setsOut 11 = .ok (.getfield 32, 3) := by decide +kernel
theorem dX7_setsOut_14 : decode cX7_setsOut 14 = .ok (.iload_n 1, 1) := by decide +kernel
theorem dX7_setsOut_15 : decode cX7_setsOut 15 = .ok (.aload_n 0, 1) := by decide +kernel
theorem dX7_setsOut_16 : decode cX7_setsOut 16 = .ok (.iload_n 1, 1) := by decide +kernel
theorem dX7_setsOut_17 : decode cX7_setsOut 17 = .ok (.invokevirtual 197, 3) := by decide +kernel
theorem dX7_setsOut_20 : decode cX7_setsOut 20 = .ok (.ifCond .le 7, 3) := by decide +kernel
theorem dX7_setsOut_23 : decode cX7_setsOut 23 = .ok (.iconst 1, 1) := by decide +kernel
theorem dX7_setsOut_24 : decode cX7_setsOut 24 = .ok (.goto 4, 3) := by decide +kernel
theorem dX7_setsOut_27 : decode cX7_setsOut 27 = .ok (.iconst 0, 1) := by decide +kernel
theorem dX7_setsOut_28 : decode cX7_setsOut 28 = .ok (.bastore, 1) := by decide +kernel
theorem dX7_setsOut_29 : decode cX7_setsOut 29 = .ok (.aload_n 0, 1) := by decide +kernel
theorem dX7_setsOut_30 : decode cX7_setsOut 30 = .ok (.iload_n 1, 1) := by decide +kernel
theorem dX7_setsOut_31 : decode cX7_setsOut 31 = .ok (.iconst 4, 1) := by decide +kernel
theorem dX7_setsOut_32 : decode cX7_setsOut 32 = .ok (.invokevirtual 187, 3) := by decide +kernel
theorem dX7_setsOut_35 : decode cX7_setsOut 35 = .ok (.aload_n 0, 1) := by decide +kernel
theorem dX7_setsOut_36 : decode cX7_setsOut 36 = .ok (.iload_n 1, 1) := by decide +kernel
theorem dX7_setsOut_37 : decode cX7_setsOut 37 = .ok (.iconst 5, 1) := by decide +kernel
theorem dX7_setsOut_38 : decode cX7_setsOut 38 = .ok (.invokevirtual 187, 3) := by decide +kernel
theorem dX7_setsOut_41 : decode cX7_setsOut 41 = .ok (.ishr, 1) := by decide +kernel
theorem dX7_setsOut_42 : decode cX7_setsOut 42 = .ok (.iconst 1, 1) := by decide +kernel
theorem dX7_setsOut_43 : decode cX7_setsOut 43 = .ok (.iand, 1) := by decide +kernel
theorem dX7_setsOut_44 : decode cX7_setsOut 44 = .ok (.istore_n 2, 1) := by decide +kernel
theorem dX7_setsOut_45 : decode cX7_setsOut 45 = .ok (.aload_n 0, 1) := by decide +kernel
theorem dX7_setsOut_46 : decode cX7_setsOut 46 = .ok (.getfield 29, 3) := by decide +kernel
theorem dX7_setsOut_49 : decode cX7_setsOut 49 = .ok (.iload_n 1, 1) := by decide +kernel
theorem dX7_setsOut_50 : decode cX7_setsOut 50 = .ok (.aload_n 0, 1) := by decide +kernel
theorem dX7_setsOut_51 : decode cX7_setsOut 51 = .ok (.getfield 32, 3) := by decide +kernel
theorem dX7_setsOut_54 : decode cX7_setsOut 54 = .ok (.iload_n 1, 1) := by decide +kernel
theorem dX7_setsOut_55 : decode cX7_setsOut 55 = .ok (.baload, 1) := by decide +kernel
theorem dX7_setsOut_56 : decode cX7_setsOut 56 = .ok (.ifCond .eq 39, 3) := by decide +kernel
theorem dX7_setsOut_59 : decode cX7_setsOut 59 = .ok (.aload_n 0, 1) := by decide +kernel
theorem dX7_setsOut_60 : decode cX7_setsOut 60 = .ok (.aload_n 0, 1) := by decide +kernel
theorem dX7_setsOut_61 : decode cX7_setsOut 61 = .ok (.iload_n 1, 1) := by decide +kernel
theorem dX7_setsOut_62 : decode cX7_setsOut 62 = .ok (.iconst 0, 1) := by decide +kernel
theorem dX7_setsOut_63 : decode cX7_setsOut 63 = .ok (.invokevirtual 187, 3) := by decide +kernel
theorem dX7_setsOut_66 : decode cX7_setsOut 66 = .ok (.iload_n 2, 1) := by decide +kernel
theorem dX7_setsOut_67 : decode cX7_setsOut 67 = .ok (.aload_n 0, 1) := by decide +kernel
theorem dX7_setsOut_68 : decode cX7_setsOut 68 = .ok (.getfield 13, 3) := by decide +kernel
theorem dX7_setsOut_71 : decode cX7_setsOut 71 = .ok (.bipush 17, 2) := by decide +kernel
theorem dX7_setsOut_73 : decode cX7_setsOut 73 = .ok (.iaload, 1) := by decide +kernel
theorem dX7_setsOut_74 : decode cX7_setsOut 74 = .ok (.aload_n 0, 1) := by decide +kernel
theorem dX7_setsOut_75 : decode cX7_setsOut 75 = .ok (.iload_n 1, 1) := by decide +kernel
theorem dX7_setsOut_76 : decode cX7_setsOut 76 = .ok (.iconst 2, 1) := by decide +kernel
theorem dX7_setsOut_77 : decode cX7_setsOut 77 = .ok (.invokevirtual 187, 3) := by decide +kernel
theorem dX7_setsOut_80 : decode cX7_setsOut 80 = .ok (.iconst 1, 1) := by decide +kernel
theorem dX7_setsOut_81 : decode cX7_setsOut 81 = .ok (.if_icmp .ne 7, 3) := by decide +kernel
theorem dX7_setsOut_84 : decode cX7_setsOut 84 = .ok (.iconst 1, 1) := by decide +kernel
theorem dX7_setsOut_85 : decode cX7_setsOut 85 = .ok (.goto 4, 3) := by decide +kernel
theorem dX7_setsOut_88 : decode cX7_setsOut 88 = .ok (.iconst 0, 1) := by decide +kernel
theorem dX7_setsOut_89 : decode cX7_setsOut 89 = .ok (.invokevirtual 200, 3) := by decide +kernel
theorem dX7_setsOut_92 : decode cX7_setsOut 92 = .ok (.goto 9, 3) := by decide +kernel
theorem dX7_setsOut_95 : decode cX7_setsOut 95 = .ok (.aload_n 0, 1) := by decide +kernel
theorem dX7_setsOut_96 : decode cX7_setsOut 96 = .ok (.iload_n 1, 1) := by decide +kernel
theorem dX7_setsOut_97 : decode cX7_setsOut 97 = .ok (.iconst 0, 1) := by decide +kernel
theorem dX7_setsOut_98 : decode cX7_setsOut 98 = .ok (.invokevirtual 187, 3) := by decide +kernel
theorem dX7_setsOut_101 : decode cX7_setsOut 101 = .ok (.iastore, 1) := by decide +kernel
theorem dX7_setsOut_102 : decode cX7_setsOut 102 = .ok (.iinc 1 1, 3) := by decide +kernel
theorem dX7_setsOut_105 : decode cX7_setsOut 105 = .ok (.goto (-103), 3) := by decide +kernel
theorem dX7_setsOut_108 : decode cX7_setsOut 108 = .ok (.return_, 1) := by decide +kernel
theorem dX7_hourGoes_0 : decode cX7_hourGoes 0 = .ok (.aload_n 0, 1) := by decide +kernel
theorem dX7_hourGoes_1 : decode cX7_hourGoes 1 = .ok (.invokevirtual 204, 3) := by decide +kernel
theorem dX7_hourGoes_4 : decode cX7_hourGoes 4 = .ok (.aload_n 0, 1) := by decide +kernel
theorem dX7_hourGoes_5 : decode cX7_hourGoes 5 = .ok (.invokevirtual 207, 3) := by decide +kernel
theorem dX7_hourGoes_8 : decode cX7_hourGoes 8 = .ok (.istore_n 1, 1) := by decide +kernel
theorem dX7_hourGoes_9 : decode cX7_hourGoes 9 = .ok (.iconst 0, 1) := by decide +kernel
theorem dX7_hourGoes_10 : decode cX7_hourGoes 10 = .ok (.istore_n 2, 1) := by decide +kernel
theorem dX7_hourGoes_11 : decode cX7_hourGoes 11 = .ok (.iload_n 2, 1) := by decide +kernel
theorem dX7_hourGoes_12 : decode cX7_hourGoes 12 = .ok (.aload_n 0, 1) := by decide +kernel
theorem dX7_hourGoes_13 : decode cX7_hourGoes 13 = .ok (.getfield 79, 3) := by decide +kernel
theorem dX7_hourGoes_16 : decode cX7_hourGoes 16 = .ok (.if_icmp .ge 38, 3) := by decide +kernel
theorem dX7_hourGoes_19 : decode cX7_hourGoes 19 = .ok (.aload_n 0, 1) := by decide +kernel
theorem dX7_hourGoes_20 : decode cX7_hourGoes 20 = .ok (.iload_n 2, 1) := by decide +kernel
theorem dX7_hourGoes_21 : decode cX7_hourGoes 21 = .ok (.iconst 5, 1) := by decide +kernel
theorem dX7_hourGoes_22 : decode cX7_hourGoes 22 = .ok (.aload_n 0, 1) := by decide +kernel
theorem dX7_hourGoes_23 : decode cX7_hourGoes 23 = .ok (.iload_n 2, 1) := by decide +kernel
theorem dX7_hourGoes_24 : decode cX7_hourGoes 24 = .ok (.iconst 5, 1) := by decide +kernel
theorem dX7_hourGoes_25 : decode cX7_hourGoes 25 = .ok (.invokevirtual 187, 3) := by decide +kernel
theorem dX7_hourGoes_28 : decode cX7_hourGoes 28 = .ok (.aload_n 0, 1) := by decide +kernel
theorem dX7_hourGoes_29 : decode cX7_hourGoes 29 = .ok (.iload_n 2, 1) := by decide +kernel
theorem dX7_hourGoes_30 : decode cX7_hourGoes 30 = .ok (.invokevirtual 197, 3) := by decide +kernel
theorem dX7_hourGoes_33 : decode cX7_hourGoes 33 = .ok (.ifCond .le 7, 3) := by decide +kernel
theorem dX7_hourGoes_36 : decode cX7_hourGoes 36 = .ok (.iconst 1, 1) := by decide +kernel
theorem dX7_hourGoes_37 : decode cX7_hourGoes 37 = .ok (.goto 4, 3) := by decide +kernel
theorem dX7_hourGoes_40 : decode cX7_hourGoes 40 = .ok (.iconst 0, 1) := by decide +kernel
theorem dX7_hourGoes_41 : decode cX7_hourGoes 41 = .ok (.invokestatic 147, 3) := by decide +kernel
theorem dX7_hourGoes_44 : decode cX7_hourGoes 44 = .ok (.iadd, 1) := by decide +kernel
theorem dX7_hourGoes_45 : decode cX7_hourGoes 45 = .ok (.invokevirtual 193, 3) := by decide +kernel
theorem dX7_hourGoes_48 : decode cX7_hourGoes 48 = .ok (.iinc 2 1, 3) := by decide +kernel
theorem dX7_hourGoes_51 : decode cX7_hourGoes 51 = .ok (.goto (-40), 3) := by decide +kernel
theorem dX7_hourGoes_54 : decode cX7_hourGoes 54 = .ok (.aload_n 0, 1) := by decide +kernel
theorem dX7_hourGoes_55 : decode cX7_hourGoes 55 = .ok (.getfield 13, 3) := by decide +kernel
theorem dX7_hourGoes_58 : decode cX7_hourGoes 58 = .ok (.bipush 42, 2) := by decide +kernel
theorem dX7_hourGoes_60 : decode cX7_hourGoes 60 = .ok (.dup2, 1) := by decide +kernel
theorem dX7_hourGoes_61 : decode cX7_hourGoes 61 = .ok (.iaload, 1) := by decide +kernel
theorem dX7_hourGoes_62 : decode cX7_hourGoes 62 = .ok (.iload_n 1, 1) := by decide +kernel
theorem dX7_hourGoes_63 : decode cX7_hourGoes 63 = .ok (.iadd, 1) := by decide +kernel
theorem dX7_hourGoes_64 : decode cX7_hourGoes 64 = .ok (.iastore, 1) := by decide +kernel
theorem dX7_hourGoes_65 : decode cX7_hourGoes 65 = .ok (.iload_n 1, 1) := by decide +kernel
theorem dX7_hourGoes_66 : decode cX7_hourGoes 66 = .ok (.ireturn, 1) := by decide +kernel
theorem dX7_handIn_0 : decode cX7_handIn 0 = .ok (.aload_n 0, 1) := by decide +kernel
theorem dX7_handIn_1 : decode cX7_handIn 1 = .ok (.getfield 7, 3) := by decide +kernel
theorem dX7_handIn_4 : decode cX7_handIn 4 = .ok (.bipush 18, 2) := by decide +kernel
theorem dX7_handIn_6 : decode cX7_handIn 6 = .ok (.bipush 6, 2) := by decide +kernel
theorem dX7_handIn_8 : decode cX7_handIn 8 = .ok (.iload_n 1, 1) := by decide +kernel
theorem dX7_handIn_9 : decode cX7_handIn 9 = .ok (.imul, 1) := by decide +kernel
theorem dX7_handIn_10 : decode cX7_handIn 10 = .ok (.iadd, 1) := by decide +kernel
theorem dX7_handIn_11 : decode cX7_handIn 11 = .ok (.iconst 1, 1) := by decide +kernel
theorem dX7_handIn_12 : decode cX7_handIn 12 = .ok (.iadd, 1) := by decide +kernel
theorem dX7_handIn_13 : decode cX7_handIn 13 = .ok (.iaload, 1) := by decide +kernel
theorem dX7_handIn_14 : decode cX7_handIn 14 = .ok (.istore_n 3, 1) := by decide +kernel
theorem dX7_handIn_15 : decode cX7_handIn 15 = .ok (.iload_n 2, 1) := by decide +kernel
theorem dX7_handIn_16 : decode cX7_handIn 16 = .ok (.invokestatic 179, 3) := by decide +kernel
theorem dX7_handIn_19 : decode cX7_handIn 19 = .ok (.ifCond .eq 26, 3) := by decide +kernel
theorem dX7_handIn_22 : decode cX7_handIn 22 = .ok (.aload_n 0, 1) := by decide +kernel
theorem dX7_handIn_23 : decode cX7_handIn 23 = .ok (.getfield 7, 3) := by decide +kernel
theorem dX7_handIn_26 : decode cX7_handIn 26 = .ok (.bipush 18, 2) := by decide +kernel
theorem dX7_handIn_28 : decode cX7_handIn 28 = .ok (.bipush 6, 2) := by decide +kernel
theorem dX7_handIn_30 : decode cX7_handIn 30 = .ok (.iload_n 1, 1) := by decide +kernel
theorem dX7_handIn_31 : decode cX7_handIn 31 = .ok (.imul, 1) := by decide +kernel
theorem dX7_handIn_32 : decode cX7_handIn 32 = .ok (.iadd, 1) := by decide +kernel
theorem dX7_handIn_33 : decode cX7_handIn 33 = .ok (.iconst 2, 1) := by decide +kernel
theorem dX7_handIn_34 : decode cX7_handIn 34 = .ok (.iadd, 1) := by decide +kernel
theorem dX7_handIn_35 : decode cX7_handIn 35 = .ok (.iaload, 1) := by decide +kernel
theorem dX7_handIn_36 : decode cX7_handIn 36 = .ok (.ifCond .ne 9, 3) := by decide +kernel
theorem dX7_handIn_39 : decode cX7_handIn 39 = .ok (.iconst 1, 1) := by decide +kernel
theorem dX7_handIn_40 : decode cX7_handIn 40 = .ok (.iload_n 3, 1) := by decide +kernel
theorem dX7_handIn_41 : decode cX7_handIn 41 = .ok (.isub, 1) := by decide +kernel
theorem dX7_handIn_42 : decode cX7_handIn 42 = .ok (.goto 4, 3) := by decide +kernel
theorem dX7_handIn_45 : decode cX7_handIn 45 = .ok (.iload_n 3, 1) := by decide +kernel
theorem dX7_handIn_46 : decode cX7_handIn 46 = .ok (.ireturn, 1) := by decide +kernel
theorem dX7_rule_0 : decode cX7_rule 0 = .ok (.iload_n 1, 1) := by decide +kernel
theorem dX7_rule_1 : decode cX7_rule 1 = .ok (.tableswitch 87 0 5 #[39, 44, 52, 57, 65, 73], 39) := by decide +kernel
theorem dX7_rule_40 : decode cX7_rule 40 = .ok (.aload_n 0, 1) := by decide +kernel
theorem dX7_rule_41 : decode cX7_rule 41 = .ok (.getfield 76, 3) := by decide +kernel
theorem dX7_rule_44 : decode cX7_rule 44 = .ok (.ireturn, 1) := by decide +kernel
theorem dX7_rule_45 : decode cX7_rule 45 = .ok (.aload_n 0, 1) := by decide +kernel
theorem dX7_rule_46 : decode cX7_rule 46 = .ok (.getfield 7, 3) := by decide +kernel
theorem dX7_rule_49 : decode cX7_rule 49 = .ok (.bipush 17, 2) := by decide +kernel
theorem dX7_rule_51 : decode cX7_rule 51 = .ok (.iaload, 1) := by decide +kernel
theorem dX7_rule_52 : decode cX7_rule 52 = .ok (.ireturn, 1) := by decide +kernel
theorem dX7_rule_53 : decode cX7_rule 53 = .ok (.aload_n 0, 1) := by decide +kernel
theorem dX7_rule_54 : decode cX7_rule 54 = .ok (.getfield 79, 3) := by decide +kernel
theorem dX7_rule_57 : decode cX7_rule 57 = .ok (.ireturn, 1) := by decide +kernel
theorem dX7_rule_58 : decode cX7_rule 58 = .ok (.aload_n 0, 1) := by decide +kernel
theorem dX7_rule_59 : decode cX7_rule 59 = .ok (.getfield 7, 3) := by decide +kernel
theorem dX7_rule_62 : decode cX7_rule 62 = .ok (.bipush 16, 2) := by decide +kernel
theorem dX7_rule_64 : decode cX7_rule 64 = .ok (.iaload, 1) := by decide +kernel
theorem dX7_rule_65 : decode cX7_rule 65 = .ok (.ireturn, 1) := by decide +kernel
theorem dX7_rule_66 : decode cX7_rule 66 = .ok (.aload_n 0, 1) := by decide +kernel
theorem dX7_rule_67 : decode cX7_rule 67 = .ok (.getfield 7, 3) := by decide +kernel
theorem dX7_rule_70 : decode cX7_rule 70 = .ok (.bipush 42, 2) := by decide +kernel
theorem dX7_rule_72 : decode cX7_rule 72 = .ok (.iaload, 1) := by decide +kernel
theorem dX7_rule_73 : decode cX7_rule 73 = .ok (.ireturn, 1) := by decide +kernel
theorem dX7_rule_74 : decode cX7_rule 74 = .ok (.aload_n 0, 1) := by decide +kernel
theorem dX7_rule_75 : decode cX7_rule 75 = .ok (.getfield 7, 3) := by decide +kernel
theorem dX7_rule_78 : decode cX7_rule 78 = .ok (.bipush 17, 2) := by decide +kernel
theorem dX7_rule_80 : decode cX7_rule 80 = .ok (.iaload, 1) := by decide +kernel
theorem dX7_rule_81 : decode cX7_rule 81 = .ok (.invokestatic 179, 3) := by decide +kernel
theorem dX7_rule_84 : decode cX7_rule 84 = .ok (.invokestatic 147, 3) := by decide +kernel
theorem dX7_rule_87 : decode cX7_rule 87 = .ok (.ireturn, 1) := by decide +kernel
theorem dX7_rule_88 : decode cX7_rule 88 = .ok (.iconst (-1), 1) := by decide +kernel
theorem dX7_rule_89 : decode cX7_rule 89 = .ok (.ireturn, 1) := by decide +kernel
theorem dX7_corner_0 : decode cX7_corner 0 = .ok (.aload_n 0, 1) := by decide +kernel
theorem dX7_corner_1 : decode cX7_corner 1 = .ok (.iload_n 1, 1) := by decide +kernel
theorem dX7_corner_2 : decode cX7_corner 2 = .ok (.invokevirtual 210, 3) := by decide +kernel
theorem dX7_corner_5 : decode cX7_corner 5 = .ok (.ifCond .eq 26, 3) := by decide +kernel
theorem dX7_corner_8 : decode cX7_corner 8 = .ok (.iload_n 2, 1) := by decide +kernel
theorem dX7_corner_9 : decode cX7_corner 9 = .ok (.invokestatic 213, 3) := by decide +kernel
theorem dX7_corner_12 : decode cX7_corner 12 = .ok (.ifCond .eq 19, 3) := by decide +kernel
theorem dX7_corner_15 : decode cX7_corner 15 = .ok (.aload_n 0, 1) := by decide +kernel
theorem dX7_corner_16 : decode cX7_corner 16 = .ok (.getfield 7, 3) := by decide +kernel
theorem dX7_corner_19 : decode cX7_corner 19 = .ok (.iconst 0, 1) := by decide +kernel
theorem dX7_corner_20 : decode cX7_corner 20 = .ok (.bipush 8, 2) := by decide +kernel
theorem dX7_corner_22 : decode cX7_corner 22 = .ok (.iload_n 2, 1) := by decide +kernel
theorem dX7_corner_23 : decode cX7_corner 23 = .ok (.imul, 1) := by decide +kernel
theorem dX7_corner_24 : decode cX7_corner 24 = .ok (.iadd, 1) := by decide +kernel
theorem dX7_corner_25 : decode cX7_corner 25 = .ok (.iload_n 1, 1) := by decide +kernel
theorem dX7_corner_26 : decode cX7_corner 26 = .ok (.iadd, 1) := by decide +kernel
theorem dX7_corner_27 : decode cX7_corner 27 = .ok (.iaload, 1) := by decide +kernel
theorem dX7_corner_28 : decode cX7_corner 28 = .ok (.goto 4, 3) := by decide +kernel
theorem dX7_corner_31 : decode cX7_corner 31 = .ok (.iconst (-1), 1) := by decide +kernel
theorem dX7_corner_32 : decode cX7_corner 32 = .ok (.ireturn, 1) := by decide +kernel
theorem dX7_walker_0 : decode cX7_walker 0 = .ok (.aload_n 0, 1) := by decide +kernel
theorem dX7_walker_1 : decode cX7_walker 1 = .ok (.iload_n 1, 1) := by decide +kernel
theorem dX7_walker_2 : decode cX7_walker 2 = .ok (.invokevirtual 216, 3) := by decide +kernel
theorem dX7_walker_5 : decode cX7_walker 5 = .ok (.ifCond .ne 5, 3) := by decide +kernel
theorem dX7_walker_8 : decode cX7_walker 8 = .ok (.iconst (-1), 1) := by decide +kernel
theorem dX7_walker_9 : decode cX7_walker 9 = .ok (.ireturn, 1) := by decide +kernel
theorem dX7_walker_10 : decode cX7_walker 10 = .ok (.aload_n 0, 1) := by decide +kernel
theorem dX7_walker_11 : decode cX7_walker 11 = .ok (.invokevirtual 219, 3) := by decide +kernel
theorem dX7_walker_14 : decode cX7_walker 14 = .ok (.iload_n 2, 1) := by decide +kernel
theorem dX7_walker_15 : decode cX7_walker 15 = .ok (.tableswitch 62 0 3 #[29, 36, 49, 56], 29) := by decide +kernel
theorem dX7_walker_44 : decode cX7_walker 44 = .ok (.aload_n 0, 1) := by decide +kernel
theorem dX7_walker_45 : decode cX7_walker 45 = .ok (.iload_n 1, 1) := by decide +kernel
theorem dX7_walker_46 : decode cX7_walker 46 = .ok (.iconst 0, 1) := by decide +kernel
theorem dX7_walker_47 : decode cX7_walker 47 = .ok (.invokevirtual 187, 3) := by decide +kernel
theorem dX7_walker_50 : decode cX7_walker 50 = .ok (.ireturn, 1) := by decide +kernel
theorem dX7_walker_51 : decode cX7_walker 51 = .ok (.aload_n 0, 1) := by decide +kernel
theorem dX7_walker_52 : decode cX7_walker 52 = .ok (.iload_n 1, 1) := by decide +kernel
theorem dX7_walker_53 : decode cX7_walker 53 = .ok (.aload_n 0, 1) := by decide +kernel
theorem dX7_walker_54 : decode cX7_walker 54 = .ok (.getfield 7, 3) := by decide +kernel
theorem dX7_walker_57 : decode cX7_walker 57 = .ok (.bipush 17, 2) := by decide +kernel
theorem dX7_walker_59 : decode cX7_walker 59 = .ok (.iaload, 1) := by decide +kernel
theorem dX7_walker_60 : decode cX7_walker 60 = .ok (.invokevirtual 222, 3) := by decide +kernel
theorem dX7_walker_63 : decode cX7_walker 63 = .ok (.ireturn, 1) := by decide +kernel
theorem dX7_walker_64 : decode cX7_walker 64 = .ok (.aload_n 0, 1) := by decide +kernel
theorem dX7_walker_65 : decode cX7_walker 65 = .ok (.iload_n 1, 1) := by decide +kernel
theorem dX7_walker_66 : decode cX7_walker 66 = .ok (.iconst 2, 1) := by decide +kernel
theorem dX7_walker_67 : decode cX7_walker 67 = .ok (.invokevirtual 187, 3) := by decide +kernel
theorem dX7_walker_70 : decode cX7_walker 70 = .ok (.ireturn, 1) := by decide +kernel
theorem dX7_walker_71 : decode cX7_walker 71 = .ok (.aload_n 0, 1) := by decide +kernel
theorem dX7_walker_72 : decode cX7_walker 72 = .ok (.iload_n 1, 1) := by decide +kernel
theorem dX7_walker_73 : decode cX7_walker 73 = .ok (.invokevirtual 197, 3) := by decide +kernel
theorem dX7_walker_76 : decode cX7_walker 76 = .ok (.ireturn, 1) := by decide +kernel
theorem dX7_walker_77 : decode cX7_walker 77 = .ok (.iconst (-1), 1) := by decide +kernel
theorem dX7_walker_78 : decode cX7_walker 78 = .ok (.ireturn, 1) := by decide +kernel
theorem dX7_letter_0 : decode cX7_letter 0 = .ok (.bipush 18, 2) := by decide +kernel
theorem dX7_letter_2 : decode cX7_letter 2 = .ok (.bipush 6, 2) := by decide +kernel
theorem dX7_letter_4 : decode cX7_letter 4 = .ok (.iload_n 1, 1) := by decide +kernel
theorem dX7_letter_5 : decode cX7_letter 5 = .ok (.imul, 1) := by decide +kernel
theorem dX7_letter_6 : decode cX7_letter 6 = .ok (.iadd, 1) := by decide +kernel
theorem dX7_letter_7 : decode cX7_letter 7 = .ok (.istore_n 3, 1) := by decide +kernel
theorem dX7_letter_8 : decode cX7_letter 8 = .ok (.aload_n 0, 1) := by decide +kernel
theorem dX7_letter_9 : decode cX7_letter 9 = .ok (.iload_n 1, 1) := by decide +kernel
theorem dX7_letter_10 : decode cX7_letter 10 = .ok (.invokevirtual 216, 3) := by decide +kernel
theorem dX7_letter_13 : decode cX7_letter 13 = .ok (.ifCond .eq 38, 3) := by decide +kernel
theorem dX7_letter_16 : decode cX7_letter 16 = .ok (.iload_n 2, 1) := by decide +kernel
theorem dX7_letter_17 : decode cX7_letter 17 = .ok (.i2l, 1) := by decide +kernel
theorem dX7_letter_18 : decode cX7_letter 18 = .ok (.lconst 0, 1) := by decide +kernel
theorem dX7_letter_19 : decode cX7_letter 19 = .ok (.aload_n 0, 1) := by decide +kernel
theorem dX7_letter_20 : decode cX7_letter 20 = .ok (.getfield 7, 3) := by decide +kernel
theorem dX7_letter_23 : decode cX7_letter 23 = .ok (.iload_n 3, 1) := by decide +kernel
theorem dX7_letter_24 : decode cX7_letter 24 = .ok (.iconst 3, 1) := by decide +kernel
theorem dX7_letter_25 : decode cX7_letter 25 = .ok (.iadd, 1) := by decide +kernel
theorem dX7_letter_26 : decode cX7_letter 26 = .ok (.iaload, 1) := by decide +kernel
theorem dX7_letter_27 : decode cX7_letter 27 = .ok (.iconst 1, 1) := by decide +kernel
theorem dX7_letter_28 : decode cX7_letter 28 = .ok (.isub, 1) := by decide +kernel
theorem dX7_letter_29 : decode cX7_letter 29 = .ok (.i2l, 1) := by decide +kernel
theorem dX7_letter_30 : decode cX7_letter 30 = .ok (.invokestatic 84, 3) := by decide +kernel
theorem dX7_letter_33 : decode cX7_letter 33 = .ok (.ifCond .eq 18, 3) := by decide +kernel
theorem dX7_letter_36 : decode cX7_letter 36 = .ok (.aload_n 0, 1) := by decide +kernel
theorem dX7_letter_37 : decode cX7_letter 37 = .ok (.getfield 7, 3) := by decide +kernel
theorem dX7_letter_40 : decode cX7_letter 40 = .ok (.iload_n 3, 1) := by decide +kernel
theorem dX7_letter_41 : decode cX7_letter 41 = .ok (.iconst 4, 1) := by decide +kernel
theorem dX7_letter_42 : decode cX7_letter 42 = .ok (.iadd, 1) := by decide +kernel
theorem dX7_letter_43 : decode cX7_letter 43 = .ok (.iaload, 1) := by decide +kernel
theorem dX7_letter_44 : decode cX7_letter 44 = .ok (.iload_n 2, 1) := by decide +kernel
theorem dX7_letter_45 : decode cX7_letter 45 = .ok (.ishr, 1) := by decide +kernel
theorem dX7_letter_46 : decode cX7_letter 46 = .ok (.iconst 1, 1) := by decide +kernel
theorem dX7_letter_47 : decode cX7_letter 47 = .ok (.iand, 1) := by decide +kernel
theorem dX7_letter_48 : decode cX7_letter 48 = .ok (.goto 4, 3) := by decide +kernel
theorem dX7_letter_51 : decode cX7_letter 51 = .ok (.iconst (-1), 1) := by decide +kernel
theorem dX7_letter_52 : decode cX7_letter 52 = .ok (.ireturn, 1) := by decide +kernel
theorem dX7_gloves_0 : decode cX7_gloves 0 = .ok (.aload_n 0, 1) := by decide +kernel
theorem dX7_gloves_1 : decode cX7_gloves 1 = .ok (.getfield 7, 3) := by decide +kernel
theorem dX7_gloves_4 : decode cX7_gloves 4 = .ok (.bipush 17, 2) := by decide +kernel
theorem dX7_gloves_6 : decode cX7_gloves 6 = .ok (.iaload, 1) := by decide +kernel
theorem dX7_gloves_7 : decode cX7_gloves 7 = .ok (.invokestatic 179, 3) := by decide +kernel
theorem dX7_gloves_10 : decode cX7_gloves 10 = .ok (.istore_n 2, 1) := by decide +kernel
theorem dX7_gloves_11 : decode cX7_gloves 11 = .ok (.aload_n 0, 1) := by decide +kernel
theorem dX7_gloves_12 : decode cX7_gloves 12 = .ok (.getfield 7, 3) := by decide +kernel
theorem dX7_gloves_15 : decode cX7_gloves 15 = .ok (.bipush 43, 2) := by decide +kernel
theorem dX7_gloves_17 : decode cX7_gloves 17 = .ok (.iload_n 2, 1) := by decide +kernel
theorem dX7_gloves_18 : decode cX7_gloves 18 = .ok (.invokestatic 147, 3) := by decide +kernel
theorem dX7_gloves_21 : decode cX7_gloves 21 = .ok (.iadd, 1) := by decide +kernel
theorem dX7_gloves_22 : decode cX7_gloves 22 = .ok (.iaload, 1) := by decide +kernel
theorem dX7_gloves_23 : decode cX7_gloves 23 = .ok (.aload_n 0, 1) := by decide +kernel
theorem dX7_gloves_24 : decode cX7_gloves 24 = .ok (.getfield 7, 3) := by decide +kernel
theorem dX7_gloves_27 : decode cX7_gloves 27 = .ok (.bipush 45, 2) := by decide +kernel
theorem dX7_gloves_29 : decode cX7_gloves 29 = .ok (.iaload, 1) := by decide +kernel
theorem dX7_gloves_30 : decode cX7_gloves 30 = .ok (.iadd, 1) := by decide +kernel
theorem dX7_gloves_31 : decode cX7_gloves 31 = .ok (.istore_n 3, 1) := by decide +kernel
theorem dX7_gloves_32 : decode cX7_gloves 32 = .ok (.aload_n 0, 1) := by decide +kernel
theorem dX7_gloves_33 : decode cX7_gloves 33 = .ok (.getfield 7, 3) := by decide +kernel
theorem dX7_gloves_36 : decode cX7_gloves 36 = .ok (.bipush 43, 2) := by decide +kernel
theorem dX7_gloves_38 : decode cX7_gloves 38 = .ok (.iload_n 2, 1) := by decide +kernel
theorem dX7_gloves_39 : decode cX7_gloves 39 = .ok (.ifCond .ne 7, 3) := by decide +kernel
theorem dX7_gloves_42 : decode cX7_gloves 42 = .ok (.iconst 1, 1) := by decide +kernel
theorem dX7_gloves_43 : decode cX7_gloves 43 = .ok (.goto 4, 3) := by decide +kernel
theorem dX7_gloves_46 : decode cX7_gloves 46 = .ok (.iconst 0, 1) := by decide +kernel
theorem dX7_gloves_47 : decode cX7_gloves 47 = .ok (.invokestatic 147, 3) := by decide +kernel
theorem dX7_gloves_50 : decode cX7_gloves 50 = .ok (.iadd, 1) := by decide +kernel
theorem dX7_gloves_51 : decode cX7_gloves 51 = .ok (.iaload, 1) := by decide +kernel
theorem dX7_gloves_52 : decode cX7_gloves 52 = .ok (.aload_n 0, 1) := by decide +kernel
theorem dX7_gloves_53 : decode cX7_gloves 53 = .ok (.getfield 7, 3) := by decide +kernel
theorem dX7_gloves_56 : decode cX7_gloves 56 = .ok (.bipush 46, 2) := by decide +kernel
theorem dX7_gloves_58 : decode cX7_gloves 58 = .ok (.iaload, 1) := by decide +kernel
theorem dX7_gloves_59 : decode cX7_gloves 59 = .ok (.iadd, 1) := by decide +kernel
theorem dX7_gloves_60 : decode cX7_gloves 60 = .ok (.istore 4, 2) := by decide +kernel
theorem dX7_gloves_62 : decode cX7_gloves 62 = .ok (.iload_n 1, 1) := by decide +kernel
theorem dX7_gloves_63 : decode cX7_gloves 63 = .ok (.i2l, 1) := by decide +kernel
theorem dX7_gloves_64 : decode cX7_gloves 64 = .ok (.lconst 0, 1) := by decide +kernel
theorem dX7_gloves_65 : decode cX7_gloves 65 = .ok (.ldc2_w 167, 3) := by decide +kernel
theorem dX7_gloves_68 : decode cX7_gloves 68 = .ok (.invokestatic 84, 3) := by decide +kernel
theorem dX7_gloves_71 : decode cX7_gloves 71 = .ok (.ifCond .ne 7, 3) := by decide +kernel
theorem dX7_gloves_74 : decode cX7_gloves 74 = .ok (.iconst (-1), 1) := by decide +kernel
theorem dX7_gloves_75 : decode cX7_gloves 75 = .ok (.goto 25, 3) := by decide +kernel
theorem dX7_gloves_78 : decode cX7_gloves 78 = .ok (.iload_n 1, 1) := by decide +kernel
theorem dX7_gloves_79 : decode cX7_gloves 79 = .ok (.ifCond .ne 7, 3) := by decide +kernel
theorem dX7_gloves_82 : decode cX7_gloves 82 = .ok (.iload_n 3, 1) := by decide +kernel
theorem dX7_gloves_83 : decode cX7_gloves 83 = .ok (.goto 17, 3) := by decide +kernel
theorem dX7_gloves_86 : decode cX7_gloves 86 = .ok (.iload_n 1, 1) := by decide +kernel
theorem dX7_gloves_87 : decode cX7_gloves 87 = .ok (.iconst 1, 1) := by decide +kernel
theorem dX7_gloves_88 : decode cX7_gloves 88 = .ok (.if_icmp .ne 8, 3) := by decide +kernel
theorem dX7_gloves_91 : decode cX7_gloves 91 = .ok (.iload 4, 2) := by decide +kernel
theorem dX7_gloves_93 : decode cX7_gloves 93 = .ok (.goto 7, 3) := by decide +kernel
theorem dX7_gloves_96 : decode cX7_gloves 96 = .ok (.iload_n 3, 1) := by decide +kernel
theorem dX7_gloves_97 : decode cX7_gloves 97 = .ok (.iload 4, 2) := by decide +kernel
theorem dX7_gloves_99 : decode cX7_gloves 99 = .ok (.iadd, 1) := by decide +kernel
theorem dX7_gloves_100 : decode cX7_gloves 100 = .ok (.ireturn, 1) := by decide +kernel
theorem dX7_leads_0 : decode cX7_leads 0 = .ok (.aload_n 0, 1) := by decide +kernel
theorem dX7_leads_1 : decode cX7_leads 1 = .ok (.iload_n 1, 1) := by decide +kernel
theorem dX7_leads_2 : decode cX7_leads 2 = .ok (.invokevirtual 210, 3) := by decide +kernel
theorem dX7_leads_5 : decode cX7_leads 5 = .ok (.ifCond .eq 17, 3) := by decide +kernel
theorem dX7_leads_8 : decode cX7_leads 8 = .ok (.iload_n 2, 1) := by decide +kernel
theorem dX7_leads_9 : decode cX7_leads 9 = .ok (.invokestatic 213, 3) := by decide +kernel
theorem dX7_leads_12 : decode cX7_leads 12 = .ok (.ifCond .eq 10, 3) := by decide +kernel
theorem dX7_leads_15 : decode cX7_leads 15 = .ok (.iload_n 3, 1) := by decide +kernel
theorem dX7_leads_16 : decode cX7_leads 16 = .ok (.invokestatic 225, 3) := by decide +kernel
theorem dX7_leads_19 : decode cX7_leads 19 = .ok (.ifCond .ne 5, 3) := by decide +kernel
theorem dX7_leads_22 : decode cX7_leads 22 = .ok (.iconst (-1), 1) := by decide +kernel
theorem dX7_leads_23 : decode cX7_leads 23 = .ok (.ireturn, 1) := by decide +kernel
theorem dX7_leads_24 : decode cX7_leads 24 = .ok (.aload_n 0, 1) := by decide +kernel
theorem dX7_leads_25 : decode cX7_leads 25 = .ok (.invokevirtual 219, 3) := by decide +kernel
theorem dX7_leads_28 : decode cX7_leads 28 = .ok (.aload_n 0, 1) := by decide +kernel
theorem dX7_leads_29 : decode cX7_leads 29 = .ok (.iload_n 1, 1) := by decide +kernel
theorem dX7_leads_30 : decode cX7_leads 30 = .ok (.iload_n 2, 1) := by decide +kernel
theorem dX7_leads_31 : decode cX7_leads 31 = .ok (.iload_n 3, 1) := by decide +kernel
theorem dX7_leads_32 : decode cX7_leads 32 = .ok (.iconst 0, 1) := by decide +kernel
theorem dX7_leads_33 : decode cX7_leads 33 = .ok (.aload_n 0, 1) := by decide +kernel
theorem dX7_leads_34 : decode cX7_leads 34 = .ok (.getfield 7, 3) := by decide +kernel
theorem dX7_leads_37 : decode cX7_leads 37 = .ok (.bipush 16, 2) := by decide +kernel
theorem dX7_leads_39 : decode cX7_leads 39 = .ok (.iaload, 1) := by decide +kernel
theorem dX7_leads_40 : decode cX7_leads 40 = .ok (.invokevirtual 183, 3) := by decide +kernel
theorem dX7_leads_43 : decode cX7_leads 43 = .ok (.ireturn, 1) := by decide +kernel
theorem dX7_becomes_0 : decode cX7_becomes 0 = .ok (.aload_n 0, 1) := by decide +kernel
theorem dX7_becomes_1 : decode cX7_becomes 1 = .ok (.getfield 7, 3) := by decide +kernel
theorem dX7_becomes_4 : decode cX7_becomes 4 = .ok (.iload_n 1, 1) := by decide +kernel
theorem dX7_becomes_5 : decode cX7_becomes 5 = .ok (.iaload, 1) := by decide +kernel
theorem dX7_becomes_6 : decode cX7_becomes 6 = .ok (.istore_n 3, 1) := by decide +kernel
theorem dX7_becomes_7 : decode cX7_becomes 7 = .ok (.aload_n 0, 1) := by decide +kernel
theorem dX7_becomes_8 : decode cX7_becomes 8 = .ok (.getfield 7, 3) := by decide +kernel
theorem dX7_becomes_11 : decode cX7_becomes 11 = .ok (.iload_n 1, 1) := by decide +kernel
theorem dX7_becomes_12 : decode cX7_becomes 12 = .ok (.iload_n 2, 1) := by decide +kernel
theorem dX7_becomes_13 : decode cX7_becomes 13 = .ok (.iastore, 1) := by decide +kernel
theorem dX7_becomes_14 : decode cX7_becomes 14 = .ok (.iload_n 3, 1) := by decide +kernel
theorem dX7_becomes_15 : decode cX7_becomes 15 = .ok (.ireturn, 1) := by decide +kernel
theorem dX7_street_0 : decode cX7_street 0 = .ok (.aload_n 0, 1) := by decide +kernel
theorem dX7_street_1 : decode cX7_street 1 = .ok (.iload_n 1, 1) := by decide +kernel
theorem dX7_street_2 : decode cX7_street 2 = .ok (.invokevirtual 210, 3) := by decide +kernel
theorem dX7_street_5 : decode cX7_street 5 = .ok (.ifCond .eq 40, 3) := by decide +kernel
theorem dX7_street_8 : decode cX7_street 8 = .ok (.iload_n 2, 1) := by decide +kernel
theorem dX7_street_9 : decode cX7_street 9 = .ok (.invokestatic 213, 3) := by decide +kernel
theorem dX7_street_12 : decode cX7_street 12 = .ok (.ifCond .eq 33, 3) := by decide +kernel
theorem dX7_street_15 : decode cX7_street 15 = .ok (.iload_n 3, 1) := by decide +kernel
theorem dX7_street_16 : decode cX7_street 16 = .ok (.bipush (-4), 2) := by decide +kernel
theorem dX7_street_18 : decode cX7_street 18 = .ok (.if_icmp .eq 11, 3) := by decide +kernel
theorem dX7_street_21 : decode cX7_street 21 = .ok (.aload_n 0, 1) := by decide +kernel
theorem dX7_street_22 : decode cX7_street 22 = .ok (.iload_n 3, 1) := by decide +kernel
theorem dX7_street_23 : decode cX7_street 23 = .ok (.invokevirtual 210, 3) := by decide +kernel
theorem dX7_street_26 : decode cX7_street 26 = .ok (.ifCond .eq 19, 3) := by decide +kernel
theorem dX7_street_29 : decode cX7_street 29 = .ok (.aload_n 0, 1) := by decide +kernel
theorem dX7_street_30 : decode cX7_street 30 = .ok (.iconst 0, 1) := by decide +kernel
theorem dX7_street_31 : decode cX7_street 31 = .ok (.bipush 8, 2) := by decide +kernel
theorem dX7_street_33 : decode cX7_street 33 = .ok (.iload_n 2, 1) := by decide +kernel
theorem dX7_street_34 : decode cX7_street 34 = .ok (.imul, 1) := by decide +kernel
theorem dX7_street_35 : decode cX7_street 35 = .ok (.iadd, 1) := by decide +kernel
theorem dX7_street_36 : decode cX7_street 36 = .ok (.iload_n 1, 1) := by decide +kernel
theorem dX7_street_37 : decode cX7_street 37 = .ok (.iadd, 1) := by decide +kernel
theorem dX7_street_38 : decode cX7_street 38 = .ok (.iload_n 3, 1) := by decide +kernel
theorem dX7_street_39 : decode cX7_street 39 = .ok (.invokevirtual 228, 3) := by decide +kernel
theorem dX7_street_42 : decode cX7_street 42 = .ok (.goto 4, 3) := by decide +kernel
theorem dX7_street_45 : decode cX7_street 45 = .ok (.iconst (-1), 1) := by decide +kernel
theorem dX7_street_46 : decode cX7_street 46 = .ok (.ireturn, 1) := by decide +kernel
theorem dX7_sign_0 : decode cX7_sign 0 = .ok (.aload_n 0, 1) := by decide +kernel
theorem dX7_sign_1 : decode cX7_sign 1 = .ok (.iload_n 1, 1) := by decide +kernel
theorem dX7_sign_2 : decode cX7_sign 2 = .ok (.invokevirtual 210, 3) := by decide +kernel
theorem dX7_sign_5 : decode cX7_sign 5 = .ok (.ifCond .ne 5, 3) := by decide +kernel
theorem dX7_sign_8 : decode cX7_sign 8 = .ok (.iconst (-1), 1) := by decide +kernel
theorem dX7_sign_9 : decode cX7_sign 9 = .ok (.ireturn, 1) := by decide +kernel
theorem dX7_sign_10 : decode cX7_sign 10 = .ok (.aload_n 0, 1) := by decide +kernel
theorem dX7_sign_11 : decode cX7_sign 11 = .ok (.getfield 7, 3) := by decide +kernel
theorem dX7_sign_14 : decode cX7_sign 14 = .ok (.bipush 16, 2) := by decide +kernel
theorem dX7_sign_16 : decode cX7_sign 16 = .ok (.iaload, 1) := by decide +kernel
theorem dX7_sign_17 : decode cX7_sign 17 = .ok (.iload_n 1, 1) := by decide +kernel
theorem dX7_sign_18 : decode cX7_sign 18 = .ok (.ishr, 1) := by decide +kernel
theorem dX7_sign_19 : decode cX7_sign 19 = .ok (.iconst 1, 1) := by decide +kernel
theorem dX7_sign_20 : decode cX7_sign 20 = .ok (.iand, 1) := by decide +kernel
theorem dX7_sign_21 : decode cX7_sign 21 = .ok (.istore_n 3, 1) := by decide +kernel
theorem dX7_sign_22 : decode cX7_sign 22 = .ok (.aload_n 0, 1) := by decide +kernel
theorem dX7_sign_23 : decode cX7_sign 23 = .ok (.getfield 7, 3) := by decide +kernel
theorem dX7_sign_26 : decode cX7_sign 26 = .ok (.bipush 16, 2) := by decide +kernel
theorem dX7_sign_28 : decode cX7_sign 28 = .ok (.iload_n 2, 1) := by decide +kernel
theorem dX7_sign_29 : decode cX7_sign 29 = .ok (.ifCond .eq 17, 3) := by decide +kernel
theorem dX7_sign_32 : decode cX7_sign 32 = .ok (.aload_n 0, 1) := by decide +kernel
theorem dX7_sign_33 : decode cX7_sign 33 = .ok (.getfield 7, 3) := by decide +kernel
theorem dX7_sign_36 : decode cX7_sign 36 = .ok (.bipush 16, 2) := by decide +kernel
theorem dX7_sign_38 : decode cX7_sign 38 = .ok (.iaload, 1) := by decide +kernel
theorem dX7_sign_39 : decode cX7_sign 39 = .ok (.iconst 1, 1) := by decide +kernel
theorem dX7_sign_40 : decode cX7_sign 40 = .ok (.iload_n 1, 1) := by decide +kernel
theorem dX7_sign_41 : decode cX7_sign 41 = .ok (.ishl, 1) := by decide +kernel
theorem dX7_sign_42 : decode cX7_sign 42 = .ok (.ior, 1) := by decide +kernel
theorem dX7_sign_43 : decode cX7_sign 43 = .ok (.goto 16, 3) := by decide +kernel
theorem dX7_sign_46 : decode cX7_sign 46 = .ok (.aload_n 0, 1) := by decide +kernel
theorem dX7_sign_47 : decode cX7_sign 47 = .ok (.getfield 7, 3) := by decide +kernel
theorem dX7_sign_50 : decode cX7_sign 50 = .ok (.bipush 16, 2) := by decide +kernel
theorem dX7_sign_52 : decode cX7_sign 52 = .ok (.iaload, 1) := by decide +kernel
theorem dX7_sign_53 : decode cX7_sign 53 = .ok (.iconst 1, 1) := by decide +kernel
theorem dX7_sign_54 : decode cX7_sign 54 = .ok (.iload_n 1, 1) := by decide +kernel
theorem dX7_sign_55 : decode cX7_sign 55 = .ok (.ishl, 1) := by decide +kernel
theorem dX7_sign_56 : decode cX7_sign 56 = .ok (.iconst (-1), 1) := by decide +kernel
theorem dX7_sign_57 : decode cX7_sign 57 = .ok (.ixor, 1) := by decide +kernel
theorem dX7_sign_58 : decode cX7_sign 58 = .ok (.iand, 1) := by decide +kernel
theorem dX7_sign_59 : decode cX7_sign 59 = .ok (.iastore, 1) := by decide +kernel
theorem dX7_sign_60 : decode cX7_sign 60 = .ok (.iload_n 3, 1) := by decide +kernel
theorem dX7_sign_61 : decode cX7_sign 61 = .ok (.ireturn, 1) := by decide +kernel
theorem dX7_clock_0 : decode cX7_clock 0 = .ok (.iload_n 1, 1) := by decide +kernel
theorem dX7_clock_1 : decode cX7_clock 1 = .ok (.invokestatic 225, 3) := by decide +kernel
theorem dX7_clock_4 : decode cX7_clock 4 = .ok (.ifCond .eq 16, 3) := by decide +kernel
theorem dX7_clock_7 : decode cX7_clock 7 = .ok (.aload_n 0, 1) := by decide +kernel
theorem dX7_clock_8 : decode cX7_clock 8 = .ok (.bipush 17, 2) := by decide +kernel
theorem dX7_clock_10 : decode cX7_clock 10 = .ok (.iload_n 1, 1) := by decide +kernel
theorem dX7_clock_11 : decode cX7_clock 11 = .ok (.invokevirtual 228, 3) := by decide +kernel
theorem dX7_clock_14 : decode cX7_clock 14 = .ok (.bipush 24, 2) := by decide +kernel
theorem dX7_clock_16 : decode cX7_clock 16 = .ok (.irem, 1) := by decide +kernel
theorem dX7_clock_17 : decode cX7_clock 17 = .ok (.goto 4, 3) := by decide +kernel
theorem dX7_clock_20 : decode cX7_clock 20 = .ok (.iconst (-1), 1) := by decide +kernel
theorem dX7_clock_21 : decode cX7_clock 21 = .ok (.ireturn, 1) := by decide +kernel
theorem dX7_put_0 : decode cX7_put 0 = .ok (.aload_n 0, 1) := by decide +kernel
theorem dX7_put_1 : decode cX7_put 1 = .ok (.iload_n 1, 1) := by decide +kernel
theorem dX7_put_2 : decode cX7_put 2 = .ok (.invokevirtual 216, 3) := by decide +kernel
theorem dX7_put_5 : decode cX7_put 5 = .ok (.ifCond .eq 28, 3) := by decide +kernel
theorem dX7_put_8 : decode cX7_put 8 = .ok (.aload_n 0, 1) := by decide +kernel
theorem dX7_put_9 : decode cX7_put 9 = .ok (.iload_n 2, 1) := by decide +kernel
theorem dX7_put_10 : decode cX7_put 10 = .ok (.invokevirtual 210, 3) := by decide +kernel
theorem dX7_put_13 : decode cX7_put 13 = .ok (.ifCond .eq 20, 3) := by decide +kernel
theorem dX7_put_16 : decode cX7_put 16 = .ok (.aload_n 0, 1) := by decide +kernel
theorem dX7_put_17 : decode cX7_put 17 = .ok (.bipush 18, 2) := by decide +kernel
theorem dX7_put_19 : decode cX7_put 19 = .ok (.bipush 6, 2) := by decide +kernel
theorem dX7_put_21 : decode cX7_put 21 = .ok (.iload_n 1, 1) := by decide +kernel
theorem dX7_put_22 : decode cX7_put 22 = .ok (.imul, 1) := by decide +kernel
theorem dX7_put_23 : decode cX7_put 23 = .ok (.iadd, 1) := by decide +kernel
theorem dX7_put_24 : decode cX7_put 24 = .ok (.iconst 0, 1) := by decide +kernel
theorem dX7_put_25 : decode cX7_put 25 = .ok (.iadd, 1) := by decide +kernel
theorem dX7_put_26 : decode cX7_put 26 = .ok (.iload_n 2, 1) := by decide +kernel
theorem dX7_put_27 : decode cX7_put 27 = .ok (.invokevirtual 228, 3) := by decide +kernel
theorem dX7_put_30 : decode cX7_put 30 = .ok (.goto 4, 3) := by decide +kernel
theorem dX7_put_33 : decode cX7_put 33 = .ok (.iconst (-1), 1) := by decide +kernel
theorem dX7_put_34 : decode cX7_put 34 = .ok (.ireturn, 1) := by decide +kernel
theorem dX7_keeps_0 : decode cX7_keeps 0 = .ok (.aload_n 0, 1) := by decide +kernel
theorem dX7_keeps_1 : decode cX7_keeps 1 = .ok (.iload_n 1, 1) := by decide +kernel
theorem dX7_keeps_2 : decode cX7_keeps 2 = .ok (.invokevirtual 216, 3) := by decide +kernel
theorem dX7_keeps_5 : decode cX7_keeps 5 = .ok (.ifCond .eq 23, 3) := by decide +kernel
theorem dX7_keeps_8 : decode cX7_keeps 8 = .ok (.aload_n 0, 1) := by decide +kernel
theorem dX7_keeps_9 : decode cX7_keeps 9 = .ok (.bipush 18, 2) := by decide +kernel
theorem dX7_keeps_11 : decode cX7_keeps 11 = .ok (.bipush 6, 2) := by decide +kernel
theorem dX7_keeps_13 : decode cX7_keeps 13 = .ok (.iload_n 1, 1) := by decide +kernel
theorem dX7_keeps_14 : decode cX7_keeps 14 = .ok (.imul, 1) := by decide +kernel
theorem dX7_keeps_15 : decode cX7_keeps 15 = .ok (.iadd, 1) := by decide +kernel
theorem dX7_keeps_16 : decode cX7_keeps 16 = .ok (.iconst 2, 1) := by decide +kernel
theorem dX7_keeps_17 : decode cX7_keeps 17 = .ok (.iadd, 1) := by decide +kernel
theorem dX7_keeps_18 : decode cX7_keeps 18 = .ok (.iload_n 2, 1) := by decide +kernel
theorem dX7_keeps_19 : decode cX7_keeps 19 = .ok (.invokestatic 147, 3) := by decide +kernel
theorem dX7_keeps_22 : decode cX7_keeps 22 = .ok (.invokevirtual 228, 3) := by decide +kernel
theorem dX7_keeps_25 : decode cX7_keeps 25 = .ok (.goto 4, 3) := by decide +kernel
theorem dX7_keeps_28 : decode cX7_keeps 28 = .ok (.iconst (-1), 1) := by decide +kernel
theorem dX7_keeps_29 : decode cX7_keeps 29 = .ok (.ireturn, 1) := by decide +kernel
theorem dX7_adds_0 : decode cX7_adds 0 = .ok (.aload_n 0, 1) := by decide +kernel
theorem dX7_adds_1 : decode cX7_adds 1 = .ok (.iload_n 1, 1) := by decide +kernel
theorem dX7_adds_2 : decode cX7_adds 2 = .ok (.invokevirtual 216, 3) := by decide +kernel
theorem dX7_adds_5 : decode cX7_adds 5 = .ok (.ifCond .eq 10, 3) := by decide +kernel
theorem dX7_adds_8 : decode cX7_adds 8 = .ok (.iload_n 2, 1) := by decide +kernel
theorem dX7_adds_9 : decode cX7_adds 9 = .ok (.invokestatic 213, 3) := by decide +kernel
theorem dX7_adds_12 : decode cX7_adds 12 = .ok (.ifCond .ne 5, 3) := by decide +kernel
theorem dX7_adds_15 : decode cX7_adds 15 = .ok (.iconst (-1), 1) := by decide +kernel
theorem dX7_adds_16 : decode cX7_adds 16 = .ok (.ireturn, 1) := by decide +kernel
theorem dX7_adds_17 : decode cX7_adds 17 = .ok (.bipush 18, 2) := by decide +kernel
theorem dX7_adds_19 : decode cX7_adds 19 = .ok (.bipush 6, 2) := by decide +kernel
theorem dX7_adds_21 : decode cX7_adds 21 = .ok (.iload_n 1, 1) := by decide +kernel
theorem dX7_adds_22 : decode cX7_adds 22 = .ok (.imul, 1) := by decide +kernel
theorem dX7_adds_23 : decode cX7_adds 23 = .ok (.iadd, 1) := by decide +kernel
theorem dX7_adds_24 : decode cX7_adds 24 = .ok (.istore_n 3, 1) := by decide +kernel
theorem dX7_adds_25 : decode cX7_adds 25 = .ok (.aload_n 0, 1) := by decide +kernel
theorem dX7_adds_26 : decode cX7_adds 26 = .ok (.getfield 7, 3) := by decide +kernel
theorem dX7_adds_29 : decode cX7_adds 29 = .ok (.iload_n 3, 1) := by decide +kernel
theorem dX7_adds_30 : decode cX7_adds 30 = .ok (.iconst 3, 1) := by decide +kernel
theorem dX7_adds_31 : decode cX7_adds 31 = .ok (.iadd, 1) := by decide +kernel
theorem dX7_adds_32 : decode cX7_adds 32 = .ok (.iaload, 1) := by decide +kernel
theorem dX7_adds_33 : decode cX7_adds 33 = .ok (.bipush 10, 2) := by decide +kernel
theorem dX7_adds_35 : decode cX7_adds 35 = .ok (.if_icmp .ne 6, 3) := by decide +kernel
theorem dX7_adds_38 : decode cX7_adds 38 = .ok (.bipush (-3), 2) := by decide +kernel
theorem dX7_adds_40 : decode cX7_adds 40 = .ok (.ireturn, 1) := by decide +kernel
theorem dX7_adds_41 : decode cX7_adds 41 = .ok (.aload_n 0, 1) := by decide +kernel
theorem dX7_adds_42 : decode cX7_adds 42 = .ok (.getfield 7, 3) := by decide +kernel
theorem dX7_adds_45 : decode cX7_adds 45 = .ok (.iload_n 3, 1) := by decide +kernel
theorem dX7_adds_46 : decode cX7_adds 46 = .ok (.iconst 4, 1) := by decide +kernel
theorem dX7_adds_47 : decode cX7_adds 47 = .ok (.iadd, 1) := by decide +kernel
theorem dX7_adds_48 : decode cX7_adds 48 = .ok (.dup2, 1) := by decide +kernel
theorem dX7_adds_49 : decode cX7_adds 49 = .ok (.iaload, 1) := by decide +kernel
theorem dX7_adds_50 : decode cX7_adds 50 = .ok (.iload_n 2, 1) := by decide +kernel
theorem dX7_adds_51 : decode cX7_adds 51 = .ok (.aload_n 0, 1) := by decide +kernel
theorem dX7_adds_52 : decode cX7_adds 52 = .ok (.getfield 7, 3) := by decide +kernel
theorem dX7_adds_55 : decode cX7_adds 55 = .ok (.iload_n 3, 1) := by decide +kernel
theorem dX7_adds_56 : decode cX7_adds 56 = .ok (.iconst 3, 1) := by decide +kernel
theorem dX7_adds_57 : decode cX7_adds 57 = .ok (.iadd, 1) := by decide +kernel
theorem dX7_adds_58 : decode cX7_adds 58 = .ok (.iaload, 1) := by decide +kernel
theorem dX7_adds_59 : decode cX7_adds 59 = .ok (.ishl, 1) := by decide +kernel
theorem dX7_adds_60 : decode cX7_adds 60 = .ok (.ior, 1) := by decide +kernel
theorem dX7_adds_61 : decode cX7_adds 61 = .ok (.iastore, 1) := by decide +kernel
theorem dX7_adds_62 : decode cX7_adds 62 = .ok (.aload_n 0, 1) := by decide +kernel
theorem dX7_adds_63 : decode cX7_adds 63 = .ok (.getfield 7, 3) := by decide +kernel
theorem dX7_adds_66 : decode cX7_adds 66 = .ok (.iload_n 3, 1) := by decide +kernel
theorem dX7_adds_67 : decode cX7_adds 67 = .ok (.iconst 3, 1) := by decide +kernel
theorem dX7_adds_68 : decode cX7_adds 68 = .ok (.iadd, 1) := by decide +kernel
theorem dX7_adds_69 : decode cX7_adds 69 = .ok (.dup2, 1) := by decide +kernel
theorem dX7_adds_70 : decode cX7_adds 70 = .ok (.iaload, 1) := by decide +kernel
theorem dX7_adds_71 : decode cX7_adds 71 = .ok (.iconst 1, 1) := by decide +kernel
theorem dX7_adds_72 : decode cX7_adds 72 = .ok (.iadd, 1) := by decide +kernel
theorem dX7_adds_73 : decode cX7_adds 73 = .ok (.iastore, 1) := by decide +kernel
theorem dX7_adds_74 : decode cX7_adds 74 = .ok (.aload_n 0, 1) := by decide +kernel
theorem dX7_adds_75 : decode cX7_adds 75 = .ok (.getfield 7, 3) := by decide +kernel
theorem dX7_adds_78 : decode cX7_adds 78 = .ok (.iload_n 3, 1) := by decide +kernel
theorem dX7_adds_79 : decode cX7_adds 79 = .ok (.iconst 3, 1) := by decide +kernel
theorem dX7_adds_80 : decode cX7_adds 80 = .ok (.iadd, 1) := by decide +kernel
theorem dX7_adds_81 : decode cX7_adds 81 = .ok (.iaload, 1) := by decide +kernel
theorem dX7_adds_82 : decode cX7_adds 82 = .ok (.ireturn, 1) := by decide +kernel
theorem dX7_again_0 : decode cX7_again 0 = .ok (.aload_n 0, 1) := by decide +kernel
theorem dX7_again_1 : decode cX7_again 1 = .ok (.iload_n 1, 1) := by decide +kernel
theorem dX7_again_2 : decode cX7_again 2 = .ok (.invokevirtual 216, 3) := by decide +kernel
theorem dX7_again_5 : decode cX7_again 5 = .ok (.ifCond .eq 20, 3) := by decide +kernel
theorem dX7_again_8 : decode cX7_again 8 = .ok (.aload_n 0, 1) := by decide +kernel
theorem dX7_again_9 : decode cX7_again 9 = .ok (.bipush 18, 2) := by decide +kernel
theorem dX7_again_11 : decode cX7_again 11 = .ok (.bipush 6, 2) := by decide +kernel
theorem dX7_again_13 : decode cX7_again 13 = .ok (.iload_n 1, 1) := by decide +kernel
theorem dX7_again_14 : decode cX7_again 14 = .ok (.imul, 1) := by decide +kernel
theorem dX7_again_15 : decode cX7_again 15 = .ok (.iadd, 1) := by decide +kernel
theorem dX7_again_16 : decode cX7_again 16 = .ok (.iconst 5, 1) := by decide +kernel
theorem dX7_again_17 : decode cX7_again 17 = .ok (.iadd, 1) := by decide +kernel
theorem dX7_again_18 : decode cX7_again 18 = .ok (.iconst 0, 1) := by decide +kernel
theorem dX7_again_19 : decode cX7_again 19 = .ok (.invokevirtual 228, 3) := by decide +kernel
theorem dX7_again_22 : decode cX7_again 22 = .ok (.goto 4, 3) := by decide +kernel
theorem dX7_again_25 : decode cX7_again 25 = .ok (.iconst (-1), 1) := by decide +kernel
theorem dX7_again_26 : decode cX7_again 26 = .ok (.ireturn, 1) := by decide +kernel
theorem dX7_buy_0 : decode cX7_buy 0 = .ok (.iload_n 1, 1) := by decide +kernel
theorem dX7_buy_1 : decode cX7_buy 1 = .ok (.i2l, 1) := by decide +kernel
theorem dX7_buy_2 : decode cX7_buy 2 = .ok (.lconst 0, 1) := by decide +kernel
theorem dX7_buy_3 : decode cX7_buy 3 = .ok (.ldc2_w 231, 3) := by decide +kernel
theorem dX7_buy_6 : decode cX7_buy 6 = .ok (.invokestatic 84, 3) := by decide +kernel
theorem dX7_buy_9 : decode cX7_buy 9 = .ok (.ifCond .eq 27, 3) := by decide +kernel
theorem dX7_buy_12 : decode cX7_buy 12 = .ok (.iload_n 2, 1) := by decide +kernel
theorem dX7_buy_13 : decode cX7_buy 13 = .ok (.i2l, 1) := by decide +kernel
theorem dX7_buy_14 : decode cX7_buy 14 = .ok (.lconst 0, 1) := by decide +kernel
theorem dX7_buy_15 : decode cX7_buy 15 = .ok (.ldc2_w 233, 3) := by decide +kernel
theorem dX7_buy_18 : decode cX7_buy 18 = .ok (.invokestatic 84, 3) := by decide +kernel
theorem dX7_buy_21 : decode cX7_buy 21 = .ok (.ifCond .eq 15, 3) := by decide +kernel
theorem dX7_buy_24 : decode cX7_buy 24 = .ok (.aload_n 0, 1) := by decide +kernel
theorem dX7_buy_25 : decode cX7_buy 25 = .ok (.bipush 43, 2) := by decide +kernel
theorem dX7_buy_27 : decode cX7_buy 27 = .ok (.iload_n 1, 1) := by decide +kernel
theorem dX7_buy_28 : decode cX7_buy 28 = .ok (.iadd, 1) := by decide +kernel
theorem dX7_buy_29 : decode cX7_buy 29 = .ok (.iload_n 2, 1) := by decide +kernel
theorem dX7_buy_30 : decode cX7_buy 30 = .ok (.invokevirtual 228, 3) := by decide +kernel
theorem dX7_buy_33 : decode cX7_buy 33 = .ok (.goto 4, 3) := by decide +kernel
theorem dX7_buy_36 : decode cX7_buy 36 = .ok (.iconst (-1), 1) := by decide +kernel
theorem dX7_buy_37 : decode cX7_buy 37 = .ok (.ireturn, 1) := by decide +kernel
theorem dX7_go_0 : decode cX7_go 0 = .ok (.iload_n 1, 1) := by decide +kernel
theorem dX7_go_1 : decode cX7_go 1 = .ok (.i2l, 1) := by decide +kernel
theorem dX7_go_2 : decode cX7_go 2 = .ok (.lconst 0, 1) := by decide +kernel
theorem dX7_go_3 : decode cX7_go 3 = .ok (.ldc2_w 235, 3) := by decide +kernel
theorem dX7_go_6 : decode cX7_go 6 = .ok (.invokestatic 84, 3) := by decide +kernel
theorem dX7_go_9 : decode cX7_go 9 = .ok (.ifCond .ne 5, 3) := by decide +kernel
theorem dX7_go_12 : decode cX7_go 12 = .ok (.iconst (-1), 1) := by decide +kernel
theorem dX7_go_13 : decode cX7_go 13 = .ok (.ireturn, 1) := by decide +kernel
theorem dX7_go_14 : decode cX7_go 14 = .ok (.aload_n 0, 1) := by decide +kernel
theorem dX7_go_15 : decode cX7_go 15 = .ok (.getfield 7, 3) := by decide +kernel
theorem dX7_go_18 : decode cX7_go 18 = .ok (.bipush 17, 2) := by decide +kernel
theorem dX7_go_20 : decode cX7_go 20 = .ok (.iaload, 1) := by decide +kernel
theorem dX7_go_21 : decode cX7_go 21 = .ok (.iload_n 1, 1) := by decide +kernel
theorem dX7_go_22 : decode cX7_go 22 = .ok (.iadd, 1) := by decide +kernel
theorem dX7_go_23 : decode cX7_go 23 = .ok (.sipush 999, 3) := by decide +kernel
theorem dX7_go_26 : decode cX7_go 26 = .ok (.if_icmp .le 6, 3) := by decide +kernel
theorem dX7_go_29 : decode cX7_go 29 = .ok (.bipush (-3), 2) := by decide +kernel
theorem dX7_go_31 : decode cX7_go 31 = .ok (.ireturn, 1) := by decide +kernel
theorem dX7_go_32 : decode cX7_go 32 = .ok (.iconst 0, 1) := by decide +kernel
theorem dX7_go_33 : decode cX7_go 33 = .ok (.istore_n 2, 1) := by decide +kernel
theorem dX7_go_34 : decode cX7_go 34 = .ok (.aload_n 0, 1) := by decide +kernel
theorem dX7_go_35 : decode cX7_go 35 = .ok (.invokevirtual 219, 3) := by decide +kernel
theorem dX7_go_38 : decode cX7_go 38 = .ok (.iconst 0, 1) := by decide +kernel
theorem dX7_go_39 : decode cX7_go 39 = .ok (.istore_n 3, 1) := by decide +kernel
theorem dX7_go_40 : decode cX7_go 40 = .ok (.iload_n 3, 1) := by decide +kernel
theorem dX7_go_41 : decode cX7_go 41 = .ok (.iload_n 1, 1) := by decide +kernel
theorem dX7_go_42 : decode cX7_go 42 = .ok (.if_icmp .ge 16, 3) := by decide +kernel
theorem dX7_go_45 : decode cX7_go 45 = .ok (.iload_n 2, 1) := by decide +kernel
theorem dX7_go_46 : decode cX7_go 46 = .ok (.aload_n 0, 1) := by decide +kernel
theorem dX7_go_47 : decode cX7_go 47 = .ok (.invokevirtual 237, 3) := by decide +kernel
theorem dX7_go_50 : decode cX7_go 50 = .ok (.iadd, 1) := by decide +kernel
theorem dX7_go_51 : decode cX7_go 51 = .ok (.istore_n 2, 1) := by decide +kernel
theorem dX7_go_52 : decode cX7_go 52 = .ok (.iinc 3 1, 3) := by decide +kernel
theorem dX7_go_55 : decode cX7_go 55 = .ok (.goto (-15), 3) := by decide +kernel
theorem dX7_go_58 : decode cX7_go 58 = .ok (.iconst 0, 1) := by decide +kernel
theorem dX7_go_59 : decode cX7_go 59 = .ok (.istore_n 3, 1) := by decide +kernel
theorem dX7_go_60 : decode cX7_go 60 = .ok (.iload_n 3, 1) := by decide +kernel
theorem dX7_go_61 : decode cX7_go 61 = .ok (.bipush 80, 2) := by decide +kernel
theorem dX7_go_63 : decode cX7_go 63 = .ok (.if_icmp .ge 21, 3) := by decide +kernel
theorem dX7_go_66 : decode cX7_go 66 = .ok (.aload_n 0, 1) := by decide +kernel
theorem dX7_go_67 : decode cX7_go 67 = .ok (.getfield 7, 3) := by decide +kernel
theorem dX7_go_70 : decode cX7_go 70 = .ok (.iload_n 3, 1) := by decide +kernel
theorem dX7_go_71 : decode cX7_go 71 = .ok (.aload_n 0, 1) := by decide +kernel
theorem dX7_go_72 : decode cX7_go 72 = .ok (.getfield 13, 3) := by decide +kernel
theorem dX7_go_75 : decode cX7_go 75 = .ok (.iload_n 3, 1) := by decide +kernel
theorem dX7_go_76 : decode cX7_go 76 = .ok (.iaload, 1) := by decide +kernel
theorem dX7_go_77 : decode cX7_go 77 = .ok (.iastore, 1) := by decide +kernel
theorem dX7_go_78 : decode cX7_go 78 = .ok (.iinc 3 1, 3) := by decide +kernel
theorem dX7_go_81 : decode cX7_go 81 = .ok (.goto (-21), 3) := by decide +kernel
theorem dX7_go_84 : decode cX7_go 84 = .ok (.iload_n 2, 1) := by decide +kernel
theorem dX7_go_85 : decode cX7_go 85 = .ok (.ireturn, 1) := by decide +kernel
theorem dX7_ahead_0 : decode cX7_ahead 0 = .ok (.aload_n 0, 1) := by decide +kernel
theorem dX7_ahead_1 : decode cX7_ahead 1 = .ok (.iload_n 1, 1) := by decide +kernel
theorem dX7_ahead_2 : decode cX7_ahead 2 = .ok (.invokevirtual 216, 3) := by decide +kernel
theorem dX7_ahead_5 : decode cX7_ahead 5 = .ok (.ifCond .eq 22, 3) := by decide +kernel
theorem dX7_ahead_8 : decode cX7_ahead 8 = .ok (.iload_n 2, 1) := by decide +kernel
theorem dX7_ahead_9 : decode cX7_ahead 9 = .ok (.i2l, 1) := by decide +kernel
theorem dX7_ahead_10 : decode cX7_ahead 10 = .ok (.lconst 0, 1) := by decide +kernel
theorem dX7_ahead_11 : decode cX7_ahead 11 = .ok (.ldc2_w 235, 3) := by decide +kernel
theorem dX7_ahead_14 : decode cX7_ahead 14 = .ok (.invokestatic 84, 3) := by decide +kernel
theorem dX7_ahead_17 : decode cX7_ahead 17 = .ok (.ifCond .eq 10, 3) := by decide +kernel
theorem dX7_ahead_20 : decode cX7_ahead 20 = .ok (.iload_n 3, 1) := by decide +kernel
theorem dX7_ahead_21 : decode cX7_ahead 21 = .ok (.invokestatic 213, 3) := by decide +kernel
theorem dX7_ahead_24 : decode cX7_ahead 24 = .ok (.ifCond .ne 5, 3) := by decide +kernel
theorem dX7_ahead_27 : decode cX7_ahead 27 = .ok (.iconst (-1), 1) := by decide +kernel
theorem dX7_ahead_28 : decode cX7_ahead 28 = .ok (.ireturn, 1) := by decide +kernel
theorem dX7_ahead_29 : decode cX7_ahead 29 = .ok (.aload_n 0, 1) := by decide +kernel
theorem dX7_ahead_30 : decode cX7_ahead 30 = .ok (.invokevirtual 219, 3) := by decide +kernel
theorem dX7_ahead_33 : decode cX7_ahead 33 = .ok (.iconst 0, 1) := by decide +kernel
theorem dX7_ahead_34 : decode cX7_ahead 34 = .ok (.istore 4, 2) := by decide +kernel
theorem dX7_ahead_36 : decode cX7_ahead 36 = .ok (.iload 4, 2) := by decide +kernel
theorem dX7_ahead_38 : decode cX7_ahead 38 = .ok (.iload_n 2, 1) := by decide +kernel
theorem dX7_ahead_39 : decode cX7_ahead 39 = .ok (.if_icmp .ge 14, 3) := by decide +kernel
theorem dX7_ahead_42 : decode cX7_ahead 42 = .ok (.aload_n 0, 1) := by decide +kernel
theorem dX7_ahead_43 : decode cX7_ahead 43 = .ok (.invokevirtual 237, 3) := by decide +kernel
theorem dX7_ahead_46 : decode cX7_ahead 46 = .ok (.pop, 1) := by decide +kernel
theorem dX7_ahead_47 : decode cX7_ahead 47 = .ok (.iinc 4 1, 3) := by decide +kernel
theorem dX7_ahead_50 : decode cX7_ahead 50 = .ok (.goto (-14), 3) := by decide +kernel
theorem dX7_ahead_53 : decode cX7_ahead 53 = .ok (.iload_n 3, 1) := by decide +kernel
theorem dX7_ahead_54 : decode cX7_ahead 54 = .ok (.ifCond .ne 12, 3) := by decide +kernel
theorem dX7_ahead_57 : decode cX7_ahead 57 = .ok (.aload_n 0, 1) := by decide +kernel
theorem dX7_ahead_58 : decode cX7_ahead 58 = .ok (.iload_n 1, 1) := by decide +kernel
theorem dX7_ahead_59 : decode cX7_ahead 59 = .ok (.iconst 0, 1) := by decide +kernel
theorem dX7_ahead_60 : decode cX7_ahead 60 = .ok (.invokevirtual 187, 3) := by decide +kernel
theorem dX7_ahead_63 : decode cX7_ahead 63 = .ok (.goto 8, 3) := by decide +kernel
theorem dX7_ahead_66 : decode cX7_ahead 66 = .ok (.aload_n 0, 1) := by decide +kernel
theorem dX7_ahead_67 : decode cX7_ahead 67 = .ok (.iload_n 1, 1) := by decide +kernel
theorem dX7_ahead_68 : decode cX7_ahead 68 = .ok (.invokevirtual 197, 3) := by decide +kernel
theorem dX7_ahead_71 : decode cX7_ahead 71 = .ok (.ireturn, 1) := by decide +kernel
theorem dX7_clash_0 : decode cX7_clash 0 = .ok (.aload_n 0, 1) := by decide +kernel
theorem dX7_clash_1 : decode cX7_clash 1 = .ok (.iload_n 1, 1) := by decide +kernel
theorem dX7_clash_2 : decode cX7_clash 2 = .ok (.invokevirtual 216, 3) := by decide +kernel
theorem dX7_clash_5 : decode cX7_clash 5 = .ok (.ifCond .eq 16, 3) := by decide +kernel
theorem dX7_clash_8 : decode cX7_clash 8 = .ok (.aload_n 0, 1) := by decide +kernel
theorem dX7_clash_9 : decode cX7_clash 9 = .ok (.iload_n 2, 1) := by decide +kernel
theorem dX7_clash_10 : decode cX7_clash 10 = .ok (.invokevirtual 216, 3) := by decide +kernel
theorem dX7_clash_13 : decode cX7_clash 13 = .ok (.ifCond .eq 8, 3) := by decide +kernel
theorem dX7_clash_16 : decode cX7_clash 16 = .ok (.iload_n 1, 1) := by decide +kernel
theorem dX7_clash_17 : decode cX7_clash 17 = .ok (.iload_n 2, 1) := by decide +kernel
theorem dX7_clash_18 : decode cX7_clash 18 = .ok (.if_icmp .ne 5, 3) := by decide +kernel
theorem dX7_clash_21 : decode cX7_clash 21 = .ok (.iconst (-1), 1) := by decide +kernel
theorem dX7_clash_22 : decode cX7_clash 22 = .ok (.ireturn, 1) := by decide +kernel
theorem dX7_clash_23 : decode cX7_clash 23 = .ok (.aload_n 0, 1) := by decide +kernel
theorem dX7_clash_24 : decode cX7_clash 24 = .ok (.invokevirtual 219, 3) := by decide +kernel
theorem dX7_clash_27 : decode cX7_clash 27 = .ok (.iconst 1, 1) := by decide +kernel
theorem dX7_clash_28 : decode cX7_clash 28 = .ok (.istore_n 3, 1) := by decide +kernel
theorem dX7_clash_29 : decode cX7_clash 29 = .ok (.iload_n 3, 1) := by decide +kernel
theorem dX7_clash_30 : decode cX7_clash 30 = .ok (.bipush 10, 2) := by decide +kernel
theorem dX7_clash_32 : decode cX7_clash 32 = .ok (.if_icmp .gt 29, 3) := by decide +kernel
theorem dX7_clash_35 : decode cX7_clash 35 = .ok (.aload_n 0, 1) := by decide +kernel
theorem dX7_clash_36 : decode cX7_clash 36 = .ok (.invokevirtual 204, 3) := by decide +kernel
theorem dX7_clash_39 : decode cX7_clash 39 = .ok (.aload_n 0, 1) := by decide +kernel
theorem dX7_clash_40 : decode cX7_clash 40 = .ok (.iload_n 1, 1) := by decide +kernel
theorem dX7_clash_41 : decode cX7_clash 41 = .ok (.iload_n 2, 1) := by decide +kernel
theorem dX7_clash_42 : decode cX7_clash 42 = .ok (.invokevirtual 190, 3) := by decide +kernel
theorem dX7_clash_45 : decode cX7_clash 45 = .ok (.ifCond .eq 5, 3) := by decide +kernel
theorem dX7_clash_48 : decode cX7_clash 48 = .ok (.iload_n 3, 1) := by decide +kernel
theorem dX7_clash_49 : decode cX7_clash 49 = .ok (.ireturn, 1) := by decide +kernel
theorem dX7_clash_50 : decode cX7_clash 50 = .ok (.aload_n 0, 1) := by decide +kernel
theorem dX7_clash_51 : decode cX7_clash 51 = .ok (.invokevirtual 237, 3) := by decide +kernel
theorem dX7_clash_54 : decode cX7_clash 54 = .ok (.pop, 1) := by decide +kernel
theorem dX7_clash_55 : decode cX7_clash 55 = .ok (.iinc 3 1, 3) := by decide +kernel
theorem dX7_clash_58 : decode cX7_clash 58 = .ok (.goto (-29), 3) := by decide +kernel
theorem dX7_clash_61 : decode cX7_clash 61 = .ok (.bipush (-4), 2) := by decide +kernel
theorem dX7_clash_63 : decode cX7_clash 63 = .ok (.ireturn, 1) := by decide +kernel
theorem dX7_findWay_0 : decode cX7_findWay 0 = .ok (.iload 6, 2) := by decide +kernel
theorem dX7_findWay_2 : decode cX7_findWay 2 = .ok (.istore 8, 2) := by decide +kernel
theorem dX7_findWay_4 : decode cX7_findWay 4 = .ok (.iload 8, 2) := by decide +kernel
theorem dX7_findWay_6 : decode cX7_findWay 6 = .ok (.ifCond .lt 163, 3) := by decide +kernel
theorem dX7_findWay_9 : decode cX7_findWay 9 = .ok (.iconst 0, 1) := by decide +kernel
theorem dX7_findWay_10 : decode cX7_findWay 10 = .ok (.istore 9, 2) := by decide +kernel
theorem dX7_findWay_12 : decode cX7_findWay 12 = .ok (.iload 9, 2) := by decide +kernel
theorem dX7_findWay_14 : decode cX7_findWay 14 = .ok (.bipush 64, 2) := by decide +kernel
theorem dX7_findWay_16 : decode cX7_findWay 16 = .ok (.if_icmp .ge 147, 3) := by decide +kernel
theorem dX7_findWay_19 : decode cX7_findWay 19 = .ok (.iload 9, 2) := by decide +kernel
theorem dX7_findWay_21 : decode cX7_findWay 21 = .ok (.bipush 8, 2) := by decide +kernel
theorem dX7_findWay_23 : decode cX7_findWay 23 = .ok (.idiv, 1) := by decide +kernel
theorem dX7_findWay_24 : decode cX7_findWay 24 = .ok (.istore 10, 2) := by decide +kernel
theorem dX7_findWay_26 : decode cX7_findWay 26 = .ok (.iload 9, 2) := by decide +kernel
theorem dX7_findWay_28 : decode cX7_findWay 28 = .ok (.bipush 8, 2) := by decide +kernel
theorem dX7_findWay_30 : decode cX7_findWay 30 = .ok (.irem, 1) := by decide +kernel
theorem dX7_findWay_31 : decode cX7_findWay 31 = .ok (.istore 11, 2) := by decide +kernel
theorem dX7_findWay_33 : decode cX7_findWay 33 = .ok (.iload 8, 2) := by decide +kernel
theorem dX7_findWay_35 : decode cX7_findWay 35 = .ok (.iload 6, 2) := by decide +kernel
theorem dX7_findWay_37 : decode cX7_findWay 37 = .ok (.if_icmp .ne 19, 3) := by decide +kernel
theorem dX7_findWay_40 : decode cX7_findWay 40 = .ok (.iload 10, 2) := by decide +kernel
theorem dX7_findWay_42 : decode cX7_findWay 42 = .ok (.iload_n 3, 1) := by decide +kernel
theorem dX7_findWay_43 : decode cX7_findWay 43 = .ok (.if_icmp .ne 13, 3) := by decide +kernel
theorem dX7_findWay_46 : decode cX7_findWay 46 = .ok (.iload 11, 2) := by decide +kernel
theorem dX7_findWay_48 : decode cX7_findWay 48 = .ok (.iload_n 3, 1) := by decide +kernel
theorem dX7_findWay_49 : decode cX7_findWay 49 = .ok (.if_icmp .ne 7, 3) := by decide +kernel
theorem dX7_findWay_52 : decode cX7_findWay 52 = .ok (.iconst 1, 1) := by decide +kernel
theorem dX7_findWay_53 : decode cX7_findWay 53 = .ok (.goto 4, 3) := by decide +kernel
theorem dX7_findWay_56 : decode cX7_findWay 56 = .ok (.iconst 0, 1) := by decide +kernel
theorem dX7_findWay_57 : decode cX7_findWay 57 = .ok (.istore 12, 2) := by decide +kernel
theorem dX7_findWay_59 : decode cX7_findWay 59 = .ok (.iconst 0, 1) := by decide +kernel
theorem dX7_findWay_60 : decode cX7_findWay 60 = .ok (.istore 13, 2) := by decide +kernel
theorem dX7_findWay_62 : decode cX7_findWay 62 = .ok (.iload 13, 2) := by decide +kernel
theorem dX7_findWay_64 : decode cX7_findWay 64 = .ok (.iconst 2, 1) := by decide +kernel
theorem dX7_findWay_65 : decode cX7_findWay 65 = .ok (.if_icmp .ge 77, 3) := by decide +kernel
theorem dX7_findWay_68 : decode cX7_findWay 68 = .ok (.iload 8, 2) := by decide +kernel
theorem dX7_findWay_70 : decode cX7_findWay 70 = .ok (.iload 6, 2) := by decide +kernel
theorem dX7_findWay_72 : decode cX7_findWay 72 = .ok (.if_icmp .ge 70, 3) := by decide +kernel
theorem dX7_findWay_75 : decode cX7_findWay 75 = .ok (.aload_n 0, 1) := by decide +kernel
theorem dX7_findWay_76 : decode cX7_findWay 76 = .ok (.iload 10, 2) := by decide +kernel
theorem dX7_findWay_78 : decode cX7_findWay 78 = .ok (.iload 11, 2) := by decide +kernel
theorem dX7_findWay_80 : decode cX7_findWay 80 = .ok (.iload 13, 2) := by decide +kernel
theorem dX7_findWay_82 : decode cX7_findWay 82 = .ok (.iload 4, 2) := by decide +kernel
theorem dX7_findWay_84 : decode cX7_findWay 84 = .ok (.iload 8, 2) := by decide +kernel
theorem dX7_findWay_86 : decode cX7_findWay 86 = .ok (.iadd, 1) := by decide +kernel
theorem dX7_findWay_87 : decode cX7_findWay 87 = .ok (.iload 5, 2) := by decide +kernel
theorem dX7_findWay_89 : decode cX7_findWay 89 = .ok (.iload 8, 2) := by decide +kernel
theorem dX7_findWay_91 : decode cX7_findWay 91 = .ok (.iadd, 1) := by decide +kernel
theorem dX7_findWay_92 : decode cX7_findWay 92 = .ok (.iload 7, 2) := by decide +kernel
theorem dX7_findWay_94 : decode cX7_findWay 94 = .ok (.invokevirtual 240, 3) := by decide +kernel
theorem dX7_findWay_97 : decode cX7_findWay 97 = .ok (.istore 14, 2) := by decide +kernel
theorem dX7_findWay_99 : decode cX7_findWay 99 = .ok (.iload 12, 2) := by decide +kernel
theorem dX7_findWay_101 : decode cX7_findWay 101 = .ok (.ifCond .ne 28, 3) := by decide +kernel
theorem dX7_findWay_104 : decode cX7_findWay 104 = .ok (.iload 14, 2) := by decide +kernel
theorem dX7_findWay_106 : decode cX7_findWay 106 = .ok (.bipush (-4), 2) := by decide +kernel
theorem dX7_findWay_108 : decode cX7_findWay 108 = .ok (.if_icmp .eq 25, 3) := by decide +kernel
theorem dX7_findWay_111 : decode cX7_findWay 111 = .ok (.aload_n 0, 1) := by decide +kernel
theorem dX7_findWay_112 : decode cX7_findWay 112 = .ok (.getfield 35, 3) := by decide +kernel
theorem dX7_findWay_115 : decode cX7_findWay 115 = .ok (.bipush 64, 2) := by decide +kernel
theorem dX7_findWay_117 : decode cX7_findWay 117 = .ok (.iload 8, 2) := by decide +kernel
theorem dX7_findWay_119 : decode cX7_findWay 119 = .ok (.iconst 1, 1) := by decide +kernel
theorem dX7_findWay_120 : decode cX7_findWay 120 = .ok (.iadd, 1) := by decide +kernel
theorem dX7_findWay_121 : decode cX7_findWay 121 = .ok (.imul, 1) := by decide +kernel
theorem dX7_findWay_122 : decode cX7_findWay 122 = .ok (.iload 14, 2) := by decide +kernel
theorem dX7_findWay_124 : decode cX7_findWay 124 = .ok (.iadd, 1) := by decide +kernel
theorem dX7_findWay_125 : decode cX7_findWay 125 = .ok (.baload, 1) := by decide +kernel
theorem dX7_findWay_126 : decode cX7_findWay 126 = .ok (.ifCond .eq 7, 3) := by decide +kernel
theorem dX7_findWay_129 : decode cX7_findWay 129 = .ok (.iconst 1, 1) := by decide +kernel
theorem dX7_findWay_130 : decode cX7_findWay 130 = .ok (.goto 4, 3) := by decide +kernel
theorem dX7_findWay_133 : decode cX7_findWay 133 = .ok (.iconst 0, 1) := by decide +kernel
theorem dX7_findWay_134 : decode cX7_findWay 134 = .ok (.istore 12, 2) := by decide +kernel
theorem dX7_findWay_136 : decode cX7_findWay 136 = .ok (.iinc 13 1, 3) := by decide +kernel
theorem dX7_findWay_139 : decode cX7_findWay 139 = .ok (.goto (-77), 3) := by decide +kernel
theorem dX7_findWay_142 : decode cX7_findWay 142 = .ok (.aload_n 0, 1) := by decide +kernel
theorem dX7_findWay_143 : decode cX7_findWay 143 = .ok (.getfield 35, 3) := by decide +kernel
theorem dX7_findWay_146 : decode cX7_findWay 146 = .ok (.bipush 64, 2) := by decide +kernel
theorem dX7_findWay_148 : decode cX7_findWay 148 = .ok (.iload 8, 2) := by decide +kernel
theorem dX7_findWay_150 : decode cX7_findWay 150 = .ok (.imul, 1) := by decide +kernel
theorem dX7_findWay_151 : decode cX7_findWay 151 = .ok (.iload 9, 2) := by decide +kernel
theorem dX7_findWay_153 : decode cX7_findWay 153 = .ok (.iadd, 1) := by decide +kernel
theorem dX7_findWay_154 : decode cX7_findWay 154 = .ok (.iload 12, 2) := by decide +kernel
theorem dX7_findWay_156 : decode cX7_findWay 156 = .ok (.bastore, 1) := by decide +kernel
theorem dX7_findWay_157 : decode cX7_findWay 157 = .ok (.iinc 9 1, 3) := by decide +kernel
theorem dX7_findWay_160 : decode cX7_findWay 160 = .ok (.goto (-148), 3) := by decide +kernel
theorem dX7_findWay_163 : decode cX7_findWay 163 = .ok (.iinc 8 (-1), 3) := by decide +kernel
theorem dX7_findWay_166 : decode cX7_findWay 166 = .ok (.goto (-162), 3) := by decide +kernel
theorem dX7_findWay_169 : decode cX7_findWay 169 = .ok (.aload_n 0, 1) := by decide +kernel
theorem dX7_findWay_170 : decode cX7_findWay 170 = .ok (.getfield 35, 3) := by decide +kernel
theorem dX7_findWay_173 : decode cX7_findWay 173 = .ok (.bipush 8, 2) := by decide +kernel
theorem dX7_findWay_175 : decode cX7_findWay 175 = .ok (.iload_n 1, 1) := by decide +kernel
theorem dX7_findWay_176 : decode cX7_findWay 176 = .ok (.imul, 1) := by decide +kernel
theorem dX7_findWay_177 : decode cX7_findWay 177 = .ok (.iload_n 2, 1) := by decide +kernel
theorem dX7_findWay_178 : decode cX7_findWay 178 = .ok (.iadd, 1) := by decide +kernel
theorem dX7_findWay_179 : decode cX7_findWay 179 = .ok (.baload, 1) := by decide +kernel
theorem dX7_findWay_180 : decode cX7_findWay 180 = .ok (.ireturn, 1) := by decide +kernel
theorem dX7_pairBy_0 : decode cX7_pairBy 0 = .ok (.iload_n 1, 1) := by decide +kernel
theorem dX7_pairBy_1 : decode cX7_pairBy 1 = .ok (.aload_n 0, 1) := by decide +kernel
theorem dX7_pairBy_2 : decode cX7_pairBy 2 = .ok (.getfield 76, 3) := by decide +kernel
theorem dX7_pairBy_5 : decode cX7_pairBy 5 = .ok (.if_icmp .ge 17, 3) := by decide +kernel
theorem dX7_pairBy_8 : decode cX7_pairBy 8 = .ok (.aload_n 0, 1) := by decide +kernel
theorem dX7_pairBy_9 : decode cX7_pairBy 9 = .ok (.iload_n 1, 1) := by decide +kernel
theorem dX7_pairBy_10 : decode cX7_pairBy 10 = .ok (.iload_n 3, 1) := by decide +kernel
theorem dX7_pairBy_11 : decode cX7_pairBy 11 = .ok (.iload 4, 2) := by decide +kernel
theorem dX7_pairBy_13 : decode cX7_pairBy 13 = .ok (.iconst 0, 1) := by decide +kernel
theorem dX7_pairBy_14 : decode cX7_pairBy 14 = .ok (.iload 6, 2) := by decide +kernel
theorem dX7_pairBy_16 : decode cX7_pairBy 16 = .ok (.invokevirtual 183, 3) := by decide +kernel
theorem dX7_pairBy_19 : decode cX7_pairBy 19 = .ok (.goto 5, 3) := by decide +kernel
theorem dX7_pairBy_22 : decode cX7_pairBy 22 = .ok (.bipush (-4), 2) := by decide +kernel
theorem dX7_pairBy_24 : decode cX7_pairBy 24 = .ok (.istore 7, 2) := by decide +kernel
theorem dX7_pairBy_26 : decode cX7_pairBy 26 = .ok (.iload_n 2, 1) := by decide +kernel
theorem dX7_pairBy_27 : decode cX7_pairBy 27 = .ok (.aload_n 0, 1) := by decide +kernel
theorem dX7_pairBy_28 : decode cX7_pairBy 28 = .ok (.getfield 76, 3) := by decide +kernel
theorem dX7_pairBy_31 : decode cX7_pairBy 31 = .ok (.if_icmp .ge 17, 3) := by decide +kernel
theorem dX7_pairBy_34 : decode cX7_pairBy 34 = .ok (.aload_n 0, 1) := by decide +kernel
theorem dX7_pairBy_35 : decode cX7_pairBy 35 = .ok (.iload_n 2, 1) := by decide +kernel
theorem dX7_pairBy_36 : decode cX7_pairBy 36 = .ok (.iload_n 3, 1) := by decide +kernel
theorem dX7_pairBy_37 : decode cX7_pairBy 37 = .ok (.iload 5, 2) := by decide +kernel
theorem dX7_pairBy_39 : decode cX7_pairBy 39 = .ok (.iconst 0, 1) := by decide +kernel
theorem dX7_pairBy_40 : decode cX7_pairBy 40 = .ok (.iload 6, 2) := by decide +kernel
theorem dX7_pairBy_42 : decode cX7_pairBy 42 = .ok (.invokevirtual 183, 3) := by decide +kernel
theorem dX7_pairBy_45 : decode cX7_pairBy 45 = .ok (.goto 5, 3) := by decide +kernel
theorem dX7_pairBy_48 : decode cX7_pairBy 48 = .ok (.bipush (-4), 2) := by decide +kernel
theorem dX7_pairBy_50 : decode cX7_pairBy 50 = .ok (.istore 8, 2) := by decide +kernel
theorem dX7_pairBy_52 : decode cX7_pairBy 52 = .ok (.iload 7, 2) := by decide +kernel
theorem dX7_pairBy_54 : decode cX7_pairBy 54 = .ok (.bipush (-4), 2) := by decide +kernel
theorem dX7_pairBy_56 : decode cX7_pairBy 56 = .ok (.if_icmp .eq 10, 3) := by decide +kernel
theorem dX7_pairBy_59 : decode cX7_pairBy 59 = .ok (.iload 8, 2) := by decide +kernel
theorem dX7_pairBy_61 : decode cX7_pairBy 61 = .ok (.bipush (-4), 2) := by decide +kernel
theorem dX7_pairBy_63 : decode cX7_pairBy 63 = .ok (.if_icmp .ne 8, 3) := by decide +kernel
theorem dX7_pairBy_66 : decode cX7_pairBy 66 = .ok (.bipush (-4), 2) := by decide +kernel
theorem dX7_pairBy_68 : decode cX7_pairBy 68 = .ok (.goto 11, 3) := by decide +kernel
theorem dX7_pairBy_71 : decode cX7_pairBy 71 = .ok (.bipush 8, 2) := by decide +kernel
theorem dX7_pairBy_73 : decode cX7_pairBy 73 = .ok (.iload 7, 2) := by decide +kernel
theorem dX7_pairBy_75 : decode cX7_pairBy 75 = .ok (.imul, 1) := by decide +kernel
theorem dX7_pairBy_76 : decode cX7_pairBy 76 = .ok (.iload 8, 2) := by decide +kernel
theorem dX7_pairBy_78 : decode cX7_pairBy 78 = .ok (.iadd, 1) := by decide +kernel
theorem dX7_pairBy_79 : decode cX7_pairBy 79 = .ok (.ireturn, 1) := by decide +kernel
theorem dX7_shortest_0 : decode cX7_shortest 0 = .ok (.iconst 0, 1) := by decide +kernel
theorem dX7_shortest_1 : decode cX7_shortest 1 = .ok (.istore 5, 2) := by decide +kernel
theorem dX7_shortest_3 : decode cX7_shortest 3 = .ok (.iload 5, 2) := by decide +kernel
theorem dX7_shortest_5 : decode cX7_shortest 5 = .ok (.bipush 24, 2) := by decide +kernel
theorem dX7_shortest_7 : decode cX7_shortest 7 = .ok (.if_icmp .gt 34, 3) := by decide +kernel
theorem dX7_shortest_10 : decode cX7_shortest 10 = .ok (.aload_n 0, 1) := by decide +kernel
theorem dX7_shortest_11 : decode cX7_shortest 11 = .ok (.iload_n 1, 1) := by decide +kernel
theorem dX7_shortest_12 : decode cX7_shortest 12 = .ok (.iload_n 1, 1) := by decide +kernel
theorem dX7_shortest_13 : decode cX7_shortest 13 = .ok (.iload_n 2, 1) := by decide +kernel
theorem dX7_shortest_14 : decode cX7_shortest 14 = .ok (.iload_n 3, 1) := by decide +kernel
theorem dX7_shortest_15 : decode cX7_shortest 15 = .ok (.iload 4, 2) := by decide +kernel
theorem dX7_shortest_17 : decode cX7_shortest 17 = .ok (.iload 5, 2) := by decide +kernel
theorem dX7_shortest_19 : decode cX7_shortest 19 = .ok (.aload_n 0, 1) := by decide +kernel
theorem dX7_shortest_20 : decode cX7_shortest 20 = .ok (.getfield 13, 3) := by decide +kernel
theorem dX7_shortest_23 : decode cX7_shortest 23 = .ok (.bipush 16, 2) := by decide +kernel
theorem dX7_shortest_25 : decode cX7_shortest 25 = .ok (.iaload, 1) := by decide +kernel
theorem dX7_shortest_26 : decode cX7_shortest 26 = .ok (.invokevirtual 244, 3) := by decide +kernel
theorem dX7_shortest_29 : decode cX7_shortest 29 = .ok (.ifCond .eq 6, 3) := by decide +kernel
theorem dX7_shortest_32 : decode cX7_shortest 32 = .ok (.iload 5, 2) := by decide +kernel
theorem dX7_shortest_34 : decode cX7_shortest 34 = .ok (.ireturn, 1) := by decide +kernel
theorem dX7_shortest_35 : decode cX7_shortest 35 = .ok (.iinc 5 1, 3) := by decide +kernel
theorem dX7_shortest_38 : decode cX7_shortest 38 = .ok (.goto (-35), 3) := by decide +kernel
theorem dX7_shortest_41 : decode cX7_shortest 41 = .ok (.bipush (-4), 2) := by decide +kernel
theorem dX7_shortest_43 : decode cX7_shortest 43 = .ok (.ireturn, 1) := by decide +kernel
theorem dX7_letterOf_0 : decode cX7_letterOf 0 = .ok (.bipush 8, 2) := by decide +kernel
theorem dX7_letterOf_2 : decode cX7_letterOf 2 = .ok (.iload_n 1, 1) := by decide +kernel
theorem dX7_letterOf_3 : decode cX7_letterOf 3 = .ok (.imul, 1) := by decide +kernel
theorem dX7_letterOf_4 : decode cX7_letterOf 4 = .ok (.iload_n 1, 1) := by decide +kernel
theorem dX7_letterOf_5 : decode cX7_letterOf 5 = .ok (.iadd, 1) := by decide +kernel
theorem dX7_letterOf_6 : decode cX7_letterOf 6 = .ok (.istore 6, 2) := by decide +kernel
theorem dX7_letterOf_8 : decode cX7_letterOf 8 = .ok (.bipush (-4), 2) := by decide +kernel
theorem dX7_letterOf_10 : decode cX7_letterOf 10 = .ok (.istore 7, 2) := by decide +kernel
theorem dX7_letterOf_12 : decode cX7_letterOf 12 = .ok (.iconst 0, 1) := by decide +kernel
theorem dX7_letterOf_13 : decode cX7_letterOf 13 = .ok (.istore 8, 2) := by decide +kernel
theorem dX7_letterOf_15 : decode cX7_letterOf 15 = .ok (.iload 8, 2) := by decide +kernel
theorem dX7_letterOf_17 : decode cX7_letterOf 17 = .ok (.iload 5, 2) := by decide +kernel
theorem dX7_letterOf_19 : decode cX7_letterOf 19 = .ok (.if_icmp .gt 122, 3) := by decide +kernel
theorem dX7_letterOf_22 : decode cX7_letterOf 22 = .ok (.iload 5, 2) := by decide +kernel
theorem dX7_letterOf_24 : decode cX7_letterOf 24 = .ok (.iload 4, 2) := by decide +kernel
theorem dX7_letterOf_26 : decode cX7_letterOf 26 = .ok (.if_icmp .ge 115, 3) := by decide +kernel
theorem dX7_letterOf_29 : decode cX7_letterOf 29 = .ok (.aload_n 0, 1) := by decide +kernel
theorem dX7_letterOf_30 : decode cX7_letterOf 30 = .ok (.iload 6, 2) := by decide +kernel
theorem dX7_letterOf_32 : decode cX7_letterOf 32 = .ok (.bipush 8, 2) := by decide +kernel
theorem dX7_letterOf_34 : decode cX7_letterOf 34 = .ok (.idiv, 1) := by decide +kernel
theorem dX7_letterOf_35 : decode cX7_letterOf 35 = .ok (.iload 6, 2) := by decide +kernel
theorem dX7_letterOf_37 : decode cX7_letterOf 37 = .ok (.bipush 8, 2) := by decide +kernel
theorem dX7_letterOf_39 : decode cX7_letterOf 39 = .ok (.irem, 1) := by decide +kernel
theorem dX7_letterOf_40 : decode cX7_letterOf 40 = .ok (.iconst 0, 1) := by decide +kernel
theorem dX7_letterOf_41 : decode cX7_letterOf 41 = .ok (.iload_n 2, 1) := by decide +kernel
theorem dX7_letterOf_42 : decode cX7_letterOf 42 = .ok (.iload 8, 2) := by decide +kernel
theorem dX7_letterOf_44 : decode cX7_letterOf 44 = .ok (.iadd, 1) := by decide +kernel
theorem dX7_letterOf_45 : decode cX7_letterOf 45 = .ok (.iload_n 3, 1) := by decide +kernel
theorem dX7_letterOf_46 : decode cX7_letterOf 46 = .ok (.iload 8, 2) := by decide +kernel
theorem dX7_letterOf_48 : decode cX7_letterOf 48 = .ok (.iadd, 1) := by decide +kernel
theorem dX7_letterOf_49 : decode cX7_letterOf 49 = .ok (.aload_n 0, 1) := by decide +kernel
theorem dX7_letterOf_50 : decode cX7_letterOf 50 = .ok (.getfield 13, 3) := by decide +kernel
theorem dX7_letterOf_53 : decode cX7_letterOf 53 = .ok (.bipush 16, 2) := by decide +kernel
theorem dX7_letterOf_55 : decode cX7_letterOf 55 = .ok (.iaload, 1) := by decide +kernel
theorem dX7_letterOf_56 : decode cX7_letterOf 56 = .ok (.invokevirtual 240, 3) := by decide +kernel
theorem dX7_letterOf_59 : decode cX7_letterOf 59 = .ok (.istore 9, 2) := by decide +kernel
theorem dX7_letterOf_61 : decode cX7_letterOf 61 = .ok (.iload 9, 2) := by decide +kernel
theorem dX7_letterOf_63 : decode cX7_letterOf 63 = .ok (.bipush (-4), 2) := by decide +kernel
theorem dX7_letterOf_65 : decode cX7_letterOf 65 = .ok (.if_icmp .eq 25, 3) := by decide +kernel
theorem dX7_letterOf_68 : decode cX7_letterOf 68 = .ok (.aload_n 0, 1) := by decide +kernel
theorem dX7_letterOf_69 : decode cX7_letterOf 69 = .ok (.getfield 35, 3) := by decide +kernel
theorem dX7_letterOf_72 : decode cX7_letterOf 72 = .ok (.bipush 64, 2) := by decide +kernel
theorem dX7_letterOf_74 : decode cX7_letterOf 74 = .ok (.iload 8, 2) := by decide +kernel
theorem dX7_letterOf_76 : decode cX7_letterOf 76 = .ok (.iconst 1, 1) := by decide +kernel
theorem dX7_letterOf_77 : decode cX7_letterOf 77 = .ok (.iadd, 1) := by decide +kernel
theorem dX7_letterOf_78 : decode cX7_letterOf 78 = .ok (.imul, 1) := by decide +kernel
theorem dX7_letterOf_79 : decode cX7_letterOf 79 = .ok (.iload 9, 2) := by decide +kernel
theorem dX7_letterOf_81 : decode cX7_letterOf 81 = .ok (.iadd, 1) := by decide +kernel
theorem dX7_letterOf_82 : decode cX7_letterOf 82 = .ok (.baload, 1) := by decide +kernel
theorem dX7_letterOf_83 : decode cX7_letterOf 83 = .ok (.ifCond .eq 7, 3) := by decide +kernel
theorem dX7_letterOf_86 : decode cX7_letterOf 86 = .ok (.iconst 0, 1) := by decide +kernel
theorem dX7_letterOf_87 : decode cX7_letterOf 87 = .ok (.goto 4, 3) := by decide +kernel
theorem dX7_letterOf_90 : decode cX7_letterOf 90 = .ok (.iconst 1, 1) := by decide +kernel
theorem dX7_letterOf_91 : decode cX7_letterOf 91 = .ok (.istore 7, 2) := by decide +kernel
theorem dX7_letterOf_93 : decode cX7_letterOf 93 = .ok (.iload 7, 2) := by decide +kernel
theorem dX7_letterOf_95 : decode cX7_letterOf 95 = .ok (.ifCond .ne 8, 3) := by decide +kernel
theorem dX7_letterOf_98 : decode cX7_letterOf 98 = .ok (.iload 9, 2) := by decide +kernel
theorem dX7_letterOf_100 : decode cX7_letterOf 100 = .ok (.goto 33, 3) := by decide +kernel
theorem dX7_letterOf_103 : decode cX7_letterOf 103 = .ok (.aload_n 0, 1) := by decide +kernel
theorem dX7_letterOf_104 : decode cX7_letterOf 104 = .ok (.iload 6, 2) := by decide +kernel
theorem dX7_letterOf_106 : decode cX7_letterOf 106 = .ok (.bipush 8, 2) := by decide +kernel
theorem dX7_letterOf_108 : decode cX7_letterOf 108 = .ok (.idiv, 1) := by decide +kernel
theorem dX7_letterOf_109 : decode cX7_letterOf 109 = .ok (.iload 6, 2) := by decide +kernel
theorem dX7_letterOf_111 : decode cX7_letterOf 111 = .ok (.bipush 8, 2) := by decide +kernel
theorem dX7_letterOf_113 : decode cX7_letterOf 113 = .ok (.irem, 1) := by decide +kernel
theorem dX7_letterOf_114 : decode cX7_letterOf 114 = .ok (.iconst 1, 1) := by decide +kernel
theorem dX7_letterOf_115 : decode cX7_letterOf 115 = .ok (.iload_n 2, 1) := by decide +kernel
theorem dX7_letterOf_116 : decode cX7_letterOf 116 = .ok (.iload 8, 2) := by decide +kernel
theorem dX7_letterOf_118 : decode cX7_letterOf 118 = .ok (.iadd, 1) := by decide +kernel
theorem dX7_letterOf_119 : decode cX7_letterOf 119 = .ok (.iload_n 3, 1) := by decide +kernel
theorem dX7_letterOf_120 : decode cX7_letterOf 120 = .ok (.iload 8, 2) := by decide +kernel
theorem dX7_letterOf_122 : decode cX7_letterOf 122 = .ok (.iadd, 1) := by decide +kernel
theorem dX7_letterOf_123 : decode cX7_letterOf 123 = .ok (.aload_n 0, 1) := by decide +kernel
theorem dX7_letterOf_124 : decode cX7_letterOf 124 = .ok (.getfield 13, 3) := by decide +kernel
theorem dX7_letterOf_127 : decode cX7_letterOf 127 = .ok (.bipush 16, 2) := by decide +kernel
theorem dX7_letterOf_129 : decode cX7_letterOf 129 = .ok (.iaload, 1) := by decide +kernel
theorem dX7_letterOf_130 : decode cX7_letterOf 130 = .ok (.invokevirtual 240, 3) := by decide +kernel
theorem dX7_letterOf_133 : decode cX7_letterOf 133 = .ok (.istore 6, 2) := by decide +kernel
theorem dX7_letterOf_135 : decode cX7_letterOf 135 = .ok (.iinc 8 1, 3) := by decide +kernel
theorem dX7_letterOf_138 : decode cX7_letterOf 138 = .ok (.goto (-123), 3) := by decide +kernel
theorem dX7_letterOf_141 : decode cX7_letterOf 141 = .ok (.iload 7, 2) := by decide +kernel
theorem dX7_letterOf_143 : decode cX7_letterOf 143 = .ok (.ireturn, 1) := by decide +kernel
theorem dX7_wayOf_0 : decode cX7_wayOf 0 = .ok (.aload_n 0, 1) := by decide +kernel
theorem dX7_wayOf_1 : decode cX7_wayOf 1 = .ok (.iload_n 1, 1) := by decide +kernel
theorem dX7_wayOf_2 : decode cX7_wayOf 2 = .ok (.invokevirtual 210, 3) := by decide +kernel
theorem dX7_wayOf_5 : decode cX7_wayOf 5 = .ok (.ifCond .eq 38, 3) := by decide +kernel
theorem dX7_wayOf_8 : decode cX7_wayOf 8 = .ok (.aload_n 0, 1) := by decide +kernel
theorem dX7_wayOf_9 : decode cX7_wayOf 9 = .ok (.iload_n 2, 1) := by decide +kernel
theorem dX7_wayOf_10 : decode cX7_wayOf 10 = .ok (.invokevirtual 210, 3) := by decide +kernel
theorem dX7_wayOf_13 : decode cX7_wayOf 13 = .ok (.ifCond .eq 30, 3) := by decide +kernel
theorem dX7_wayOf_16 : decode cX7_wayOf 16 = .ok (.iload_n 3, 1) := by decide +kernel
theorem dX7_wayOf_17 : decode cX7_wayOf 17 = .ok (.invokestatic 225, 3) := by decide +kernel
theorem dX7_wayOf_20 : decode cX7_wayOf 20 = .ok (.ifCond .eq 23, 3) := by decide +kernel
theorem dX7_wayOf_23 : decode cX7_wayOf 23 = .ok (.iload 5, 2) := by decide +kernel
theorem dX7_wayOf_25 : decode cX7_wayOf 25 = .ok (.ifCond .eq 20, 3) := by decide +kernel
theorem dX7_wayOf_28 : decode cX7_wayOf 28 = .ok (.iload 5, 2) := by decide +kernel
theorem dX7_wayOf_30 : decode cX7_wayOf 30 = .ok (.i2l, 1) := by decide +kernel
theorem dX7_wayOf_31 : decode cX7_wayOf 31 = .ok (.ldc2_w 248, 3) := by decide +kernel
theorem dX7_wayOf_34 : decode cX7_wayOf 34 = .ok (.ldc2_w 250, 3) := by decide +kernel
theorem dX7_wayOf_37 : decode cX7_wayOf 37 = .ok (.invokestatic 84, 3) := by decide +kernel
theorem dX7_wayOf_40 : decode cX7_wayOf 40 = .ok (.ifCond .ne 5, 3) := by decide +kernel
theorem dX7_wayOf_43 : decode cX7_wayOf 43 = .ok (.iconst (-1), 1) := by decide +kernel
theorem dX7_wayOf_44 : decode cX7_wayOf 44 = .ok (.ireturn, 1) := by decide +kernel
theorem dX7_wayOf_45 : decode cX7_wayOf 45 = .ok (.aload_n 0, 1) := by decide +kernel
theorem dX7_wayOf_46 : decode cX7_wayOf 46 = .ok (.invokevirtual 219, 3) := by decide +kernel
theorem dX7_wayOf_49 : decode cX7_wayOf 49 = .ok (.aload_n 0, 1) := by decide +kernel
theorem dX7_wayOf_50 : decode cX7_wayOf 50 = .ok (.iload_n 1, 1) := by decide +kernel
theorem dX7_wayOf_51 : decode cX7_wayOf 51 = .ok (.iload_n 2, 1) := by decide +kernel
theorem dX7_wayOf_52 : decode cX7_wayOf 52 = .ok (.iload_n 3, 1) := by decide +kernel
theorem dX7_wayOf_53 : decode cX7_wayOf 53 = .ok (.iload 4, 2) := by decide +kernel
theorem dX7_wayOf_55 : decode cX7_wayOf 55 = .ok (.invokevirtual 252, 3) := by decide +kernel
theorem dX7_wayOf_58 : decode cX7_wayOf 58 = .ok (.istore 6, 2) := by decide +kernel
theorem dX7_wayOf_60 : decode cX7_wayOf 60 = .ok (.iload 6, 2) := by decide +kernel
theorem dX7_wayOf_62 : decode cX7_wayOf 62 = .ok (.bipush (-4), 2) := by decide +kernel
theorem dX7_wayOf_64 : decode cX7_wayOf 64 = .ok (.if_icmp .eq 8, 3) := by decide +kernel
theorem dX7_wayOf_67 : decode cX7_wayOf 67 = .ok (.iload 5, 2) := by decide +kernel
theorem dX7_wayOf_69 : decode cX7_wayOf 69 = .ok (.ifCond .ne 8, 3) := by decide +kernel
theorem dX7_wayOf_72 : decode cX7_wayOf 72 = .ok (.iload 6, 2) := by decide +kernel
theorem dX7_wayOf_74 : decode cX7_wayOf 74 = .ok (.goto 18, 3) := by decide +kernel
theorem dX7_wayOf_77 : decode cX7_wayOf 77 = .ok (.aload_n 0, 1) := by decide +kernel
theorem dX7_wayOf_78 : decode cX7_wayOf 78 = .ok (.iload_n 1, 1) := by decide +kernel
theorem dX7_wayOf_79 : decode cX7_wayOf 79 = .ok (.iload_n 3, 1) := by decide +kernel
theorem dX7_wayOf_80 : decode cX7_wayOf 80 = .ok (.iload 4, 2) := by decide +kernel
theorem dX7_wayOf_82 : decode cX7_wayOf 82 = .ok (.iload 6, 2) := by decide +kernel
theorem dX7_wayOf_84 : decode cX7_wayOf 84 = .ok (.iload 5, 2) := by decide +kernel
theorem dX7_wayOf_86 : decode cX7_wayOf 86 = .ok (.bipush 10, 2) := by decide +kernel
theorem dX7_wayOf_88 : decode cX7_wayOf 88 = .ok (.isub, 1) := by decide +kernel
theorem dX7_wayOf_89 : decode cX7_wayOf 89 = .ok (.invokevirtual 256, 3) := by decide +kernel
theorem dX7_wayOf_92 : decode cX7_wayOf 92 = .ok (.ireturn, 1) := by decide +kernel
theorem dX7_way_0 : decode cX7_way 0 = .ok (.aload_n 0, 1) := by decide +kernel
theorem dX7_way_1 : decode cX7_way 1 = .ok (.iload_n 1, 1) := by decide +kernel
theorem dX7_way_2 : decode cX7_way 2 = .ok (.iload_n 2, 1) := by decide +kernel
theorem dX7_way_3 : decode cX7_way 3 = .ok (.iload_n 3, 1) := by decide +kernel
theorem dX7_way_4 : decode cX7_way 4 = .ok (.iload_n 3, 1) := by decide +kernel
theorem dX7_way_5 : decode cX7_way 5 = .ok (.iload 4, 2) := by decide +kernel
theorem dX7_way_7 : decode cX7_way 7 = .ok (.invokevirtual 260, 3) := by decide +kernel
theorem dX7_way_10 : decode cX7_way 10 = .ok (.ireturn, 1) := by decide +kernel
theorem dX7_both_0 : decode cX7_both 0 = .ok (.aload_n 0, 1) := by decide +kernel
theorem dX7_both_1 : decode cX7_both 1 = .ok (.iload_n 1, 1) := by decide +kernel
theorem dX7_both_2 : decode cX7_both 2 = .ok (.iload_n 2, 1) := by decide +kernel
theorem dX7_both_3 : decode cX7_both 3 = .ok (.iload_n 3, 1) := by decide +kernel
theorem dX7_both_4 : decode cX7_both 4 = .ok (.iload_n 3, 1) := by decide +kernel
theorem dX7_both_5 : decode cX7_both 5 = .ok (.bipush 12, 2) := by decide +kernel
theorem dX7_both_7 : decode cX7_both 7 = .ok (.iadd, 1) := by decide +kernel
theorem dX7_both_8 : decode cX7_both 8 = .ok (.iload 4, 2) := by decide +kernel
theorem dX7_both_10 : decode cX7_both 10 = .ok (.invokevirtual 260, 3) := by decide +kernel
theorem dX7_both_13 : decode cX7_both 13 = .ok (.ireturn, 1) := by decide +kernel
theorem dX7_reachBy_0 : decode cX7_reachBy 0 = .ok (.iconst 1, 1) := by decide +kernel
theorem dX7_reachBy_1 : decode cX7_reachBy 1 = .ok (.iload_n 1, 1) := by decide +kernel
theorem dX7_reachBy_2 : decode cX7_reachBy 2 = .ok (.ishl, 1) := by decide +kernel
theorem dX7_reachBy_3 : decode cX7_reachBy 3 = .ok (.istore 5, 2) := by decide +kernel
theorem dX7_reachBy_5 : decode cX7_reachBy 5 = .ok (.iload 5, 2) := by decide +kernel
theorem dX7_reachBy_7 : decode cX7_reachBy 7 = .ok (.istore 6, 2) := by decide +kernel
theorem dX7_reachBy_9 : decode cX7_reachBy 9 = .ok (.iconst 0, 1) := by decide +kernel
theorem dX7_reachBy_10 : decode cX7_reachBy 10 = .ok (.istore 7, 2) := by decide +kernel
theorem dX7_reachBy_12 : decode cX7_reachBy 12 = .ok (.iload 7, 2) := by decide +kernel
theorem dX7_reachBy_14 : decode cX7_reachBy 14 = .ok (.iload_n 3, 1) := by decide +kernel
theorem dX7_reachBy_15 : decode cX7_reachBy 15 = .ok (.if_icmp .ge 104, 3) := by decide +kernel
theorem dX7_reachBy_18 : decode cX7_reachBy 18 = .ok (.iconst 0, 1) := by decide +kernel
theorem dX7_reachBy_19 : decode cX7_reachBy 19 = .ok (.istore 8, 2) := by decide +kernel
theorem dX7_reachBy_21 : decode cX7_reachBy 21 = .ok (.iconst 0, 1) := by decide +kernel
theorem dX7_reachBy_22 : decode cX7_reachBy 22 = .ok (.istore 9, 2) := by decide +kernel
theorem dX7_reachBy_24 : decode cX7_reachBy 24 = .ok (.iload 9, 2) := by decide +kernel
theorem dX7_reachBy_26 : decode cX7_reachBy 26 = .ok (.aload_n 0, 1) := by decide +kernel
theorem dX7_reachBy_27 : decode cX7_reachBy 27 = .ok (.getfield 76, 3) := by decide +kernel
theorem dX7_reachBy_30 : decode cX7_reachBy 30 = .ok (.if_icmp .ge 72, 3) := by decide +kernel
theorem dX7_reachBy_33 : decode cX7_reachBy 33 = .ok (.iconst 0, 1) := by decide +kernel
theorem dX7_reachBy_34 : decode cX7_reachBy 34 = .ok (.istore 10, 2) := by decide +kernel
theorem dX7_reachBy_36 : decode cX7_reachBy 36 = .ok (.iload 10, 2) := by decide +kernel
theorem dX7_reachBy_38 : decode cX7_reachBy 38 = .ok (.iconst 2, 1) := by decide +kernel
theorem dX7_reachBy_39 : decode cX7_reachBy 39 = .ok (.if_icmp .ge 57, 3) := by decide +kernel
theorem dX7_reachBy_42 : decode cX7_reachBy 42 = .ok (.iload 5, 2) := by decide +kernel
theorem dX7_reachBy_44 : decode cX7_reachBy 44 = .ok (.iload 9, 2) := by decide +kernel
theorem dX7_reachBy_46 : decode cX7_reachBy 46 = .ok (.ishr, 1) := by decide +kernel
theorem dX7_reachBy_47 : decode cX7_reachBy 47 = .ok (.iconst 1, 1) := by decide +kernel
theorem dX7_reachBy_48 : decode cX7_reachBy 48 = .ok (.iand, 1) := by decide +kernel
theorem dX7_reachBy_49 : decode cX7_reachBy 49 = .ok (.iconst 1, 1) := by decide +kernel
theorem dX7_reachBy_50 : decode cX7_reachBy 50 = .ok (.if_icmp .ne 46, 3) := by decide +kernel
theorem dX7_reachBy_53 : decode cX7_reachBy 53 = .ok (.aload_n 0, 1) := by decide +kernel
theorem dX7_reachBy_54 : decode cX7_reachBy 54 = .ok (.iload 9, 2) := by decide +kernel
theorem dX7_reachBy_56 : decode cX7_reachBy 56 = .ok (.iload 10, 2) := by decide +kernel
theorem dX7_reachBy_58 : decode cX7_reachBy 58 = .ok (.iload_n 2, 1) := by decide +kernel
theorem dX7_reachBy_59 : decode cX7_reachBy 59 = .ok (.iload 7, 2) := by decide +kernel
theorem dX7_reachBy_61 : decode cX7_reachBy 61 = .ok (.iadd, 1) := by decide +kernel
theorem dX7_reachBy_62 : decode cX7_reachBy 62 = .ok (.iconst 0, 1) := by decide +kernel
theorem dX7_reachBy_63 : decode cX7_reachBy 63 = .ok (.iload 4, 2) := by decide +kernel
theorem dX7_reachBy_65 : decode cX7_reachBy 65 = .ok (.invokevirtual 183, 3) := by decide +kernel
theorem dX7_reachBy_68 : decode cX7_reachBy 68 = .ok (.istore 11, 2) := by decide +kernel
theorem dX7_reachBy_70 : decode cX7_reachBy 70 = .ok (.iload 8, 2) := by decide +kernel
theorem dX7_reachBy_72 : decode cX7_reachBy 72 = .ok (.iload 11, 2) := by decide +kernel
theorem dX7_reachBy_74 : decode cX7_reachBy 74 = .ok (.bipush (-4), 2) := by decide +kernel
theorem dX7_reachBy_76 : decode cX7_reachBy 76 = .ok (.if_icmp .ne 7, 3) := by decide +kernel
theorem dX7_reachBy_79 : decode cX7_reachBy 79 = .ok (.iconst 0, 1) := by decide +kernel
theorem dX7_reachBy_80 : decode cX7_reachBy 80 = .ok (.goto 7, 3) := by decide +kernel
theorem dX7_reachBy_83 : decode cX7_reachBy 83 = .ok (.iconst 1, 1) := by decide +kernel
theorem dX7_reachBy_84 : decode cX7_reachBy 84 = .ok (.iload 11, 2) := by decide +kernel
theorem dX7_reachBy_86 : decode cX7_reachBy 86 = .ok (.ishl, 1) := by decide +kernel
theorem dX7_reachBy_87 : decode cX7_reachBy 87 = .ok (.ior, 1) := by decide +kernel
theorem dX7_reachBy_88 : decode cX7_reachBy 88 = .ok (.istore 8, 2) := by decide +kernel
theorem dX7_reachBy_90 : decode cX7_reachBy 90 = .ok (.iinc 10 1, 3) := by decide +kernel
theorem dX7_reachBy_93 : decode cX7_reachBy 93 = .ok (.goto (-57), 3) := by decide +kernel
theorem dX7_reachBy_96 : decode cX7_reachBy 96 = .ok (.iinc 9 1, 3) := by decide +kernel
theorem dX7_reachBy_99 : decode cX7_reachBy 99 = .ok (.goto (-75), 3) := by decide +kernel
theorem dX7_reachBy_102 : decode cX7_reachBy 102 = .ok (.iload 8, 2) := by decide +kernel
theorem dX7_reachBy_104 : decode cX7_reachBy 104 = .ok (.istore 5, 2) := by decide +kernel
theorem dX7_reachBy_106 : decode cX7_reachBy 106 = .ok (.iload 6, 2) := by decide +kernel
theorem dX7_reachBy_108 : decode cX7_reachBy 108 = .ok (.iload 5, 2) := by decide +kernel
theorem dX7_reachBy_110 : decode cX7_reachBy 110 = .ok (.ior, 1) := by decide +kernel
theorem dX7_reachBy_111 : decode cX7_reachBy 111 = .ok (.istore 6, 2) := by decide +kernel
theorem dX7_reachBy_113 : decode cX7_reachBy 113 = .ok (.iinc 7 1, 3) := by decide +kernel
theorem dX7_reachBy_116 : decode cX7_reachBy 116 = .ok (.goto (-104), 3) := by decide +kernel
theorem dX7_reachBy_119 : decode cX7_reachBy 119 = .ok (.iload 6, 2) := by decide +kernel
theorem dX7_reachBy_121 : decode cX7_reachBy 121 = .ok (.ireturn, 1) := by decide +kernel
theorem dX7_reach_0 : decode cX7_reach 0 = .ok (.aload_n 0, 1) := by decide +kernel
theorem dX7_reach_1 : decode cX7_reach 1 = .ok (.iload_n 1, 1) := by decide +kernel
theorem dX7_reach_2 : decode cX7_reach 2 = .ok (.invokevirtual 210, 3) := by decide +kernel
theorem dX7_reach_5 : decode cX7_reach 5 = .ok (.ifCond .eq 22, 3) := by decide +kernel
theorem dX7_reach_8 : decode cX7_reach 8 = .ok (.iload_n 2, 1) := by decide +kernel
theorem dX7_reach_9 : decode cX7_reach 9 = .ok (.invokestatic 225, 3) := by decide +kernel
theorem dX7_reach_12 : decode cX7_reach 12 = .ok (.ifCond .eq 15, 3) := by decide +kernel
theorem dX7_reach_15 : decode cX7_reach 15 = .ok (.iload_n 3, 1) := by decide +kernel
theorem dX7_reach_16 : decode cX7_reach 16 = .ok (.i2l, 1) := by decide +kernel
theorem dX7_reach_17 : decode cX7_reach 17 = .ok (.lconst 0, 1) := by decide +kernel
theorem dX7_reach_18 : decode cX7_reach 18 = .ok (.ldc2_w 263, 3) := by decide +kernel
theorem dX7_reach_21 : decode cX7_reach 21 = .ok (.invokestatic 84, 3) := by decide +kernel
theorem dX7_reach_24 : decode cX7_reach 24 = .ok (.ifCond .ne 5, 3) := by decide +kernel
theorem dX7_reach_27 : decode cX7_reach 27 = .ok (.iconst (-1), 1) := by decide +kernel
theorem dX7_reach_28 : decode cX7_reach 28 = .ok (.ireturn, 1) := by decide +kernel
theorem dX7_reach_29 : decode cX7_reach 29 = .ok (.aload_n 0, 1) := by decide +kernel
theorem dX7_reach_30 : decode cX7_reach 30 = .ok (.invokevirtual 219, 3) := by decide +kernel
theorem dX7_reach_33 : decode cX7_reach 33 = .ok (.aload_n 0, 1) := by decide +kernel
theorem dX7_reach_34 : decode cX7_reach 34 = .ok (.iload_n 1, 1) := by decide +kernel
theorem dX7_reach_35 : decode cX7_reach 35 = .ok (.iload_n 2, 1) := by decide +kernel
theorem dX7_reach_36 : decode cX7_reach 36 = .ok (.iload_n 3, 1) := by decide +kernel
theorem dX7_reach_37 : decode cX7_reach 37 = .ok (.aload_n 0, 1) := by decide +kernel
theorem dX7_reach_38 : decode cX7_reach 38 = .ok (.getfield 7, 3) := by decide +kernel
theorem dX7_reach_41 : decode cX7_reach 41 = .ok (.bipush 16, 2) := by decide +kernel
theorem dX7_reach_43 : decode cX7_reach 43 = .ok (.iaload, 1) := by decide +kernel
theorem dX7_reach_44 : decode cX7_reach 44 = .ok (.invokevirtual 265, 3) := by decide +kernel
theorem dX7_reach_47 : decode cX7_reach 47 = .ok (.ireturn, 1) := by decide +kernel
theorem dX7_when_0 : decode cX7_when 0 = .ok (.aload_n 0, 1) := by decide +kernel
theorem dX7_when_1 : decode cX7_when 1 = .ok (.iload_n 1, 1) := by decide +kernel
theorem dX7_when_2 : decode cX7_when 2 = .ok (.invokevirtual 210, 3) := by decide +kernel
theorem dX7_when_5 : decode cX7_when 5 = .ok (.ifCond .eq 18, 3) := by decide +kernel
theorem dX7_when_8 : decode cX7_when 8 = .ok (.aload_n 0, 1) := by decide +kernel
theorem dX7_when_9 : decode cX7_when 9 = .ok (.iload_n 2, 1) := by decide +kernel
theorem dX7_when_10 : decode cX7_when 10 = .ok (.invokevirtual 210, 3) := by decide +kernel
theorem dX7_when_13 : decode cX7_when 13 = .ok (.ifCond .eq 10, 3) := by decide +kernel
theorem dX7_when_16 : decode cX7_when 16 = .ok (.iload_n 3, 1) := by decide +kernel
theorem dX7_when_17 : decode cX7_when 17 = .ok (.invokestatic 213, 3) := by decide +kernel
theorem dX7_when_20 : decode cX7_when 20 = .ok (.ifCond .ne 5, 3) := by decide +kernel
theorem dX7_when_23 : decode cX7_when 23 = .ok (.iconst (-1), 1) := by decide +kernel
theorem dX7_when_24 : decode cX7_when 24 = .ok (.ireturn, 1) := by decide +kernel
theorem dX7_when_25 : decode cX7_when 25 = .ok (.ldc_w 268, 3) := by decide +kernel
theorem dX7_when_28 : decode cX7_when 28 = .ok (.istore 4, 2) := by decide +kernel
theorem dX7_when_30 : decode cX7_when 30 = .ok (.bipush (-4), 2) := by decide +kernel
theorem dX7_when_32 : decode cX7_when 32 = .ok (.istore 5, 2) := by decide +kernel
theorem dX7_when_34 : decode cX7_when 34 = .ok (.aload_n 0, 1) := by decide +kernel
theorem dX7_when_35 : decode cX7_when 35 = .ok (.invokevirtual 219, 3) := by decide +kernel
theorem dX7_when_38 : decode cX7_when 38 = .ok (.iconst 0, 1) := by decide +kernel
theorem dX7_when_39 : decode cX7_when 39 = .ok (.istore 6, 2) := by decide +kernel
theorem dX7_when_41 : decode cX7_when 41 = .ok (.iload 6, 2) := by decide +kernel
theorem dX7_when_43 : decode cX7_when 43 = .ok (.bipush 24, 2) := by decide +kernel
theorem dX7_when_45 : decode cX7_when 45 = .ok (.if_icmp .ge 94, 3) := by decide +kernel
theorem dX7_when_48 : decode cX7_when 48 = .ok (.iconst 0, 1) := by decide +kernel
theorem dX7_when_49 : decode cX7_when 49 = .ok (.istore 7, 2) := by decide +kernel
theorem dX7_when_51 : decode cX7_when 51 = .ok (.iload 7, 2) := by decide +kernel
theorem dX7_when_53 : decode cX7_when 53 = .ok (.bipush 24, 2) := by decide +kernel
theorem dX7_when_55 : decode cX7_when 55 = .ok (.if_icmp .gt 32, 3) := by decide +kernel
theorem dX7_when_58 : decode cX7_when 58 = .ok (.aload_n 0, 1) := by decide +kernel
theorem dX7_when_59 : decode cX7_when 59 = .ok (.iload_n 1, 1) := by decide +kernel
theorem dX7_when_60 : decode cX7_when 60 = .ok (.iload 6, 2) := by decide +kernel
theorem dX7_when_62 : decode cX7_when 62 = .ok (.iload 7, 2) := by decide +kernel
theorem dX7_when_64 : decode cX7_when 64 = .ok (.aload_n 0, 1) := by decide +kernel
theorem dX7_when_65 : decode cX7_when 65 = .ok (.getfield 7, 3) := by decide +kernel
theorem dX7_when_68 : decode cX7_when 68 = .ok (.bipush 16, 2) := by decide +kernel
theorem dX7_when_70 : decode cX7_when 70 = .ok (.iaload, 1) := by decide +kernel
theorem dX7_when_71 : decode cX7_when 71 = .ok (.invokevirtual 265, 3) := by decide +kernel
theorem dX7_when_74 : decode cX7_when 74 = .ok (.iload_n 2, 1) := by decide +kernel
theorem dX7_when_75 : decode cX7_when 75 = .ok (.ishr, 1) := by decide +kernel
theorem dX7_when_76 : decode cX7_when 76 = .ok (.iconst 1, 1) := by decide +kernel
theorem dX7_when_77 : decode cX7_when 77 = .ok (.iand, 1) := by decide +kernel
theorem dX7_when_78 : decode cX7_when 78 = .ok (.ifCond .ne 9, 3) := by decide +kernel
theorem dX7_when_81 : decode cX7_when 81 = .ok (.iinc 7 1, 3) := by decide +kernel
theorem dX7_when_84 : decode cX7_when 84 = .ok (.goto (-33), 3) := by decide +kernel
theorem dX7_when_87 : decode cX7_when 87 = .ok (.iload 7, 2) := by decide +kernel
theorem dX7_when_89 : decode cX7_when 89 = .ok (.bipush 24, 2) := by decide +kernel
theorem dX7_when_91 : decode cX7_when 91 = .ok (.if_icmp .gt 15, 3) := by decide +kernel
theorem dX7_when_94 : decode cX7_when 94 = .ok (.iload 7, 2) := by decide +kernel
theorem dX7_when_96 : decode cX7_when 96 = .ok (.iload 4, 2) := by decide +kernel
theorem dX7_when_98 : decode cX7_when 98 = .ok (.if_icmp .ge 8, 3) := by decide +kernel
theorem dX7_when_101 : decode cX7_when 101 = .ok (.iload 6, 2) := by decide +kernel
theorem dX7_when_103 : decode cX7_when 103 = .ok (.goto 5, 3) := by decide +kernel
theorem dX7_when_106 : decode cX7_when 106 = .ok (.iload 5, 2) := by decide +kernel
theorem dX7_when_108 : decode cX7_when 108 = .ok (.istore 5, 2) := by decide +kernel
theorem dX7_when_110 : decode cX7_when 110 = .ok (.iload 7, 2) := by decide +kernel
theorem dX7_when_112 : decode cX7_when 112 = .ok (.bipush 24, 2) := by decide +kernel
theorem dX7_when_114 : decode cX7_when 114 = .ok (.if_icmp .gt 15, 3) := by decide +kernel
theorem dX7_when_117 : decode cX7_when 117 = .ok (.iload 7, 2) := by decide +kernel
theorem dX7_when_119 : decode cX7_when 119 = .ok (.iload 4, 2) := by decide +kernel
theorem dX7_when_121 : decode cX7_when 121 = .ok (.if_icmp .ge 8, 3) := by decide +kernel
theorem dX7_when_124 : decode cX7_when 124 = .ok (.iload 7, 2) := by decide +kernel
theorem dX7_when_126 : decode cX7_when 126 = .ok (.goto 5, 3) := by decide +kernel
theorem dX7_when_129 : decode cX7_when 129 = .ok (.iload 4, 2) := by decide +kernel
theorem dX7_when_131 : decode cX7_when 131 = .ok (.istore 4, 2) := by decide +kernel
theorem dX7_when_133 : decode cX7_when 133 = .ok (.iinc 6 1, 3) := by decide +kernel
theorem dX7_when_136 : decode cX7_when 136 = .ok (.goto (-95), 3) := by decide +kernel
theorem dX7_when_139 : decode cX7_when 139 = .ok (.iload 5, 2) := by decide +kernel
theorem dX7_when_141 : decode cX7_when 141 = .ok (.bipush (-4), 2) := by decide +kernel
theorem dX7_when_143 : decode cX7_when 143 = .ok (.if_icmp .ne 8, 3) := by decide +kernel
theorem dX7_when_146 : decode cX7_when 146 = .ok (.bipush (-4), 2) := by decide +kernel
theorem dX7_when_148 : decode cX7_when 148 = .ok (.goto 14, 3) := by decide +kernel
theorem dX7_when_151 : decode cX7_when 151 = .ok (.iload_n 3, 1) := by decide +kernel
theorem dX7_when_152 : decode cX7_when 152 = .ok (.ifCond .ne 8, 3) := by decide +kernel
theorem dX7_when_155 : decode cX7_when 155 = .ok (.iload 5, 2) := by decide +kernel
theorem dX7_when_157 : decode cX7_when 157 = .ok (.goto 5, 3) := by decide +kernel
theorem dX7_when_160 : decode cX7_when 160 = .ok (.iload 4, 2) := by decide +kernel
theorem dX7_when_162 : decode cX7_when 162 = .ok (.ireturn, 1) := by decide +kernel
theorem dX7_isInTime_0 : decode cX7_isInTime 0 = .ok (.iconst 1, 1) := by decide +kernel
theorem dX7_isInTime_1 : decode cX7_isInTime 1 = .ok (.istore 5, 2) := by decide +kernel
theorem dX7_isInTime_3 : decode cX7_isInTime 3 = .ok (.iconst 0, 1) := by decide +kernel
theorem dX7_isInTime_4 : decode cX7_isInTime 4 = .ok (.istore 6, 2) := by decide +kernel
theorem dX7_isInTime_6 : decode cX7_isInTime 6 = .ok (.iload 6, 2) := by decide +kernel
theorem dX7_isInTime_8 : decode cX7_isInTime 8 = .ok (.bipush 24, 2) := by decide +kernel
theorem dX7_isInTime_10 : decode cX7_isInTime 10 = .ok (.if_icmp .ge 39, 3) := by decide +kernel
theorem dX7_isInTime_13 : decode cX7_isInTime 13 = .ok (.iload 5, 2) := by decide +kernel
theorem dX7_isInTime_15 : decode cX7_isInTime 15 = .ok (.ifCond .eq 34, 3) := by decide +kernel
theorem dX7_isInTime_18 : decode cX7_isInTime 18 = .ok (.aload_n 0, 1) := by decide +kernel
theorem dX7_isInTime_19 : decode cX7_isInTime 19 = .ok (.iload_n 1, 1) := by decide +kernel
theorem dX7_isInTime_20 : decode cX7_isInTime 20 = .ok (.iload 6, 2) := by decide +kernel
theorem dX7_isInTime_22 : decode cX7_isInTime 22 = .ok (.iload_n 3, 1) := by decide +kernel
theorem dX7_isInTime_23 : decode cX7_isInTime 23 = .ok (.iload 4, 2) := by decide +kernel
theorem dX7_isInTime_25 : decode cX7_isInTime 25 = .ok (.invokevirtual 265, 3) := by decide +kernel
theorem dX7_isInTime_28 : decode cX7_isInTime 28 = .ok (.iload_n 2, 1) := by decide +kernel
theorem dX7_isInTime_29 : decode cX7_isInTime 29 = .ok (.ishr, 1) := by decide +kernel
theorem dX7_isInTime_30 : decode cX7_isInTime 30 = .ok (.iconst 1, 1) := by decide +kernel
theorem dX7_isInTime_31 : decode cX7_isInTime 31 = .ok (.iand, 1) := by decide +kernel
theorem dX7_isInTime_32 : decode cX7_isInTime 32 = .ok (.iconst 1, 1) := by decide +kernel
theorem dX7_isInTime_33 : decode cX7_isInTime 33 = .ok (.if_icmp .ne 7, 3) := by decide +kernel
theorem dX7_isInTime_36 : decode cX7_isInTime 36 = .ok (.iconst 1, 1) := by decide +kernel
theorem dX7_isInTime_37 : decode cX7_isInTime 37 = .ok (.goto 4, 3) := by decide +kernel
theorem dX7_isInTime_40 : decode cX7_isInTime 40 = .ok (.iconst 0, 1) := by decide +kernel
theorem dX7_isInTime_41 : decode cX7_isInTime 41 = .ok (.istore 5, 2) := by decide +kernel
theorem dX7_isInTime_43 : decode cX7_isInTime 43 = .ok (.iinc 6 1, 3) := by decide +kernel
theorem dX7_isInTime_46 : decode cX7_isInTime 46 = .ok (.goto (-40), 3) := by decide +kernel
theorem dX7_isInTime_49 : decode cX7_isInTime 49 = .ok (.iload 5, 2) := by decide +kernel
theorem dX7_isInTime_51 : decode cX7_isInTime 51 = .ok (.ireturn, 1) := by decide +kernel
theorem dX7_signs_0 : decode cX7_signs 0 = .ok (.aload_n 0, 1) := by decide +kernel
theorem dX7_signs_1 : decode cX7_signs 1 = .ok (.iload_n 1, 1) := by decide +kernel
theorem dX7_signs_2 : decode cX7_signs 2 = .ok (.invokevirtual 210, 3) := by decide +kernel
theorem dX7_signs_5 : decode cX7_signs 5 = .ok (.ifCond .eq 23, 3) := by decide +kernel
theorem dX7_signs_8 : decode cX7_signs 8 = .ok (.aload_n 0, 1) := by decide +kernel
theorem dX7_signs_9 : decode cX7_signs 9 = .ok (.iload_n 2, 1) := by decide +kernel
theorem dX7_signs_10 : decode cX7_signs 10 = .ok (.invokevirtual 210, 3) := by decide +kernel
theorem dX7_signs_13 : decode cX7_signs 13 = .ok (.ifCond .eq 15, 3) := by decide +kernel
theorem dX7_signs_16 : decode cX7_signs 16 = .ok (.iload_n 3, 1) := by decide +kernel
theorem dX7_signs_17 : decode cX7_signs 17 = .ok (.i2l, 1) := by decide +kernel
theorem dX7_signs_18 : decode cX7_signs 18 = .ok (.lconst 1, 1) := by decide +kernel
theorem dX7_signs_19 : decode cX7_signs 19 = .ok (.ldc2_w 263, 3) := by decide +kernel
theorem dX7_signs_22 : decode cX7_signs 22 = .ok (.invokestatic 84, 3) := by decide +kernel
theorem dX7_signs_25 : decode cX7_signs 25 = .ok (.ifCond .ne 5, 3) := by decide +kernel
theorem dX7_signs_28 : decode cX7_signs 28 = .ok (.iconst (-1), 1) := by decide +kernel
theorem dX7_signs_29 : decode cX7_signs 29 = .ok (.ireturn, 1) := by decide +kernel
theorem dX7_signs_30 : decode cX7_signs 30 = .ok (.ldc_w 268, 3) := by decide +kernel
theorem dX7_signs_33 : decode cX7_signs 33 = .ok (.istore 4, 2) := by decide +kernel
theorem dX7_signs_35 : decode cX7_signs 35 = .ok (.bipush (-4), 2) := by decide +kernel
theorem dX7_signs_37 : decode cX7_signs 37 = .ok (.istore 5, 2) := by decide +kernel
theorem dX7_signs_39 : decode cX7_signs 39 = .ok (.aload_n 0, 1) := by decide +kernel
theorem dX7_signs_40 : decode cX7_signs 40 = .ok (.invokevirtual 219, 3) := by decide +kernel
theorem dX7_signs_43 : decode cX7_signs 43 = .ok (.iconst 0, 1) := by decide +kernel
theorem dX7_signs_44 : decode cX7_signs 44 = .ok (.istore 6, 2) := by decide +kernel
theorem dX7_signs_46 : decode cX7_signs 46 = .ok (.iload 6, 2) := by decide +kernel
theorem dX7_signs_48 : decode cX7_signs 48 = .ok (.iconst 1, 1) := by decide +kernel
theorem dX7_signs_49 : decode cX7_signs 49 = .ok (.aload_n 0, 1) := by decide +kernel
theorem dX7_signs_50 : decode cX7_signs 50 = .ok (.getfield 76, 3) := by decide +kernel
theorem dX7_signs_53 : decode cX7_signs 53 = .ok (.ishl, 1) := by decide +kernel
theorem dX7_signs_54 : decode cX7_signs 54 = .ok (.if_icmp .ge 90, 3) := by decide +kernel
theorem dX7_signs_57 : decode cX7_signs 57 = .ok (.iload 6, 2) := by decide +kernel
theorem dX7_signs_59 : decode cX7_signs 59 = .ok (.aload_n 0, 1) := by decide +kernel
theorem dX7_signs_60 : decode cX7_signs 60 = .ok (.getfield 7, 3) := by decide +kernel
theorem dX7_signs_63 : decode cX7_signs 63 = .ok (.bipush 16, 2) := by decide +kernel
theorem dX7_signs_65 : decode cX7_signs 65 = .ok (.iaload, 1) := by decide +kernel
theorem dX7_signs_66 : decode cX7_signs 66 = .ok (.iand, 1) := by decide +kernel
theorem dX7_signs_67 : decode cX7_signs 67 = .ok (.ifCond .ne 37, 3) := by decide +kernel
theorem dX7_signs_70 : decode cX7_signs 70 = .ok (.iload 6, 2) := by decide +kernel
theorem dX7_signs_72 : decode cX7_signs 72 = .ok (.invokestatic 269, 3) := by decide +kernel
theorem dX7_signs_75 : decode cX7_signs 75 = .ok (.iload 4, 2) := by decide +kernel
theorem dX7_signs_77 : decode cX7_signs 77 = .ok (.if_icmp .ge 27, 3) := by decide +kernel
theorem dX7_signs_80 : decode cX7_signs 80 = .ok (.aload_n 0, 1) := by decide +kernel
theorem dX7_signs_81 : decode cX7_signs 81 = .ok (.iload_n 1, 1) := by decide +kernel
theorem dX7_signs_82 : decode cX7_signs 82 = .ok (.iload_n 2, 1) := by decide +kernel
theorem dX7_signs_83 : decode cX7_signs 83 = .ok (.iload_n 3, 1) := by decide +kernel
theorem dX7_signs_84 : decode cX7_signs 84 = .ok (.aload_n 0, 1) := by decide +kernel
theorem dX7_signs_85 : decode cX7_signs 85 = .ok (.getfield 7, 3) := by decide +kernel
theorem dX7_signs_88 : decode cX7_signs 88 = .ok (.bipush 16, 2) := by decide +kernel
theorem dX7_signs_90 : decode cX7_signs 90 = .ok (.iaload, 1) := by decide +kernel
theorem dX7_signs_91 : decode cX7_signs 91 = .ok (.iload 6, 2) := by decide +kernel
theorem dX7_signs_93 : decode cX7_signs 93 = .ok (.ior, 1) := by decide +kernel
theorem dX7_signs_94 : decode cX7_signs 94 = .ok (.invokevirtual 272, 3) := by decide +kernel
theorem dX7_signs_97 : decode cX7_signs 97 = .ok (.ifCond .eq 7, 3) := by decide +kernel
theorem dX7_signs_100 : decode cX7_signs 100 = .ok (.iconst 1, 1) := by decide +kernel
theorem dX7_signs_101 : decode cX7_signs 101 = .ok (.goto 4, 3) := by decide +kernel
theorem dX7_signs_104 : decode cX7_signs 104 = .ok (.iconst 0, 1) := by decide +kernel
theorem dX7_signs_105 : decode cX7_signs 105 = .ok (.istore 7, 2) := by decide +kernel
theorem dX7_signs_107 : decode cX7_signs 107 = .ok (.iload 7, 2) := by decide +kernel
theorem dX7_signs_109 : decode cX7_signs 109 = .ok (.ifCond .eq 8, 3) := by decide +kernel
theorem dX7_signs_112 : decode cX7_signs 112 = .ok (.iload 6, 2) := by decide +kernel
theorem dX7_signs_114 : decode cX7_signs 114 = .ok (.goto 5, 3) := by decide +kernel
theorem dX7_signs_117 : decode cX7_signs 117 = .ok (.iload 5, 2) := by decide +kernel
theorem dX7_signs_119 : decode cX7_signs 119 = .ok (.istore 5, 2) := by decide +kernel
theorem dX7_signs_121 : decode cX7_signs 121 = .ok (.iload 7, 2) := by decide +kernel
theorem dX7_signs_123 : decode cX7_signs 123 = .ok (.ifCond .eq 11, 3) := by decide +kernel
theorem dX7_signs_126 : decode cX7_signs 126 = .ok (.iload 6, 2) := by decide +kernel
theorem dX7_signs_128 : decode cX7_signs 128 = .ok (.invokestatic 269, 3) := by decide +kernel
theorem dX7_signs_131 : decode cX7_signs 131 = .ok (.goto 5, 3) := by decide +kernel
theorem dX7_signs_134 : decode cX7_signs 134 = .ok (.iload 4, 2) := by decide +kernel
theorem dX7_signs_136 : decode cX7_signs 136 = .ok (.istore 4, 2) := by decide +kernel
theorem dX7_signs_138 : decode cX7_signs 138 = .ok (.iinc 6 1, 3) := by decide +kernel
theorem dX7_signs_141 : decode cX7_signs 141 = .ok (.goto (-95), 3) := by decide +kernel
theorem dX7_signs_144 : decode cX7_signs 144 = .ok (.iload 5, 2) := by decide +kernel
theorem dX7_signs_146 : decode cX7_signs 146 = .ok (.ireturn, 1) := by decide +kernel
theorem dX7_freely_0 : decode cX7_freely 0 = .ok (.iload_n 2, 1) := by decide +kernel
theorem dX7_freely_1 : decode cX7_freely 1 = .ok (.istore 4, 2) := by decide +kernel
theorem dX7_freely_3 : decode cX7_freely 3 = .ok (.iconst 0, 1) := by decide +kernel
theorem dX7_freely_4 : decode cX7_freely 4 = .ok (.istore 5, 2) := by decide +kernel
theorem dX7_freely_6 : decode cX7_freely 6 = .ok (.iload 5, 2) := by decide +kernel
theorem dX7_freely_8 : decode cX7_freely 8 = .ok (.aload_n 0, 1) := by decide +kernel
theorem dX7_freely_9 : decode cX7_freely 9 = .ok (.getfield 76, 3) := by decide +kernel
theorem dX7_freely_12 : decode cX7_freely 12 = .ok (.if_icmp .ge 65, 3) := by decide +kernel
theorem dX7_freely_15 : decode cX7_freely 15 = .ok (.iconst 0, 1) := by decide +kernel
theorem dX7_freely_16 : decode cX7_freely 16 = .ok (.istore 6, 2) := by decide +kernel
theorem dX7_freely_18 : decode cX7_freely 18 = .ok (.iload 6, 2) := by decide +kernel
theorem dX7_freely_20 : decode cX7_freely 20 = .ok (.iconst 2, 1) := by decide +kernel
theorem dX7_freely_21 : decode cX7_freely 21 = .ok (.if_icmp .ge 50, 3) := by decide +kernel
theorem dX7_freely_24 : decode cX7_freely 24 = .ok (.iload_n 2, 1) := by decide +kernel
theorem dX7_freely_25 : decode cX7_freely 25 = .ok (.iload 5, 2) := by decide +kernel
theorem dX7_freely_27 : decode cX7_freely 27 = .ok (.ishr, 1) := by decide +kernel
theorem dX7_freely_28 : decode cX7_freely 28 = .ok (.iconst 1, 1) := by decide +kernel
theorem dX7_freely_29 : decode cX7_freely 29 = .ok (.iand, 1) := by decide +kernel
theorem dX7_freely_30 : decode cX7_freely 30 = .ok (.iconst 1, 1) := by decide +kernel
theorem dX7_freely_31 : decode cX7_freely 31 = .ok (.if_icmp .ne 40, 3) := by decide +kernel
theorem dX7_freely_34 : decode cX7_freely 34 = .ok (.iload 4, 2) := by decide +kernel
theorem dX7_freely_36 : decode cX7_freely 36 = .ok (.iconst 1, 1) := by decide +kernel
theorem dX7_freely_37 : decode cX7_freely 37 = .ok (.aload_n 0, 1) := by decide +kernel
theorem dX7_freely_38 : decode cX7_freely 38 = .ok (.iload 5, 2) := by decide +kernel
theorem dX7_freely_40 : decode cX7_freely 40 = .ok (.iload 6, 2) := by decide +kernel
theorem dX7_freely_42 : decode cX7_freely 42 = .ok (.iload_n 3, 1) := by decide +kernel
theorem dX7_freely_43 : decode cX7_freely 43 = .ok (.aload_n 0, 1) := by decide +kernel
theorem dX7_freely_44 : decode cX7_freely 44 = .ok (.iload_n 1, 1) := by decide +kernel
theorem dX7_freely_45 : decode cX7_freely 45 = .ok (.iconst 2, 1) := by decide +kernel
theorem dX7_freely_46 : decode cX7_freely 46 = .ok (.invokevirtual 187, 3) := by decide +kernel
theorem dX7_freely_49 : decode cX7_freely 49 = .ok (.iconst 1, 1) := by decide +kernel
theorem dX7_freely_50 : decode cX7_freely 50 = .ok (.if_icmp .ne 7, 3) := by decide +kernel
theorem dX7_freely_53 : decode cX7_freely 53 = .ok (.iconst 1, 1) := by decide +kernel
theorem dX7_freely_54 : decode cX7_freely 54 = .ok (.goto 4, 3) := by decide +kernel
theorem dX7_freely_57 : decode cX7_freely 57 = .ok (.iconst 0, 1) := by decide +kernel
theorem dX7_freely_58 : decode cX7_freely 58 = .ok (.invokevirtual 200, 3) := by decide +kernel
theorem dX7_freely_61 : decode cX7_freely 61 = .ok (.ishl, 1) := by decide +kernel
theorem dX7_freely_62 : decode cX7_freely 62 = .ok (.ior, 1) := by decide +kernel
theorem dX7_freely_63 : decode cX7_freely 63 = .ok (.istore 4, 2) := by decide +kernel
theorem dX7_freely_65 : decode cX7_freely 65 = .ok (.iinc 6 1, 3) := by decide +kernel
theorem dX7_freely_68 : decode cX7_freely 68 = .ok (.goto (-50), 3) := by decide +kernel
theorem dX7_freely_71 : decode cX7_freely 71 = .ok (.iinc 5 1, 3) := by decide +kernel
theorem dX7_freely_74 : decode cX7_freely 74 = .ok (.goto (-68), 3) := by decide +kernel
theorem dX7_freely_77 : decode cX7_freely 77 = .ok (.iload 4, 2) := by decide +kernel
theorem dX7_freely_79 : decode cX7_freely 79 = .ok (.ireturn, 1) := by decide +kernel
theorem dX7_meet_0 : decode cX7_meet 0 = .ok (.aload_n 0, 1) := by decide +kernel
theorem dX7_meet_1 : decode cX7_meet 1 = .ok (.iload_n 1, 1) := by decide +kernel
theorem dX7_meet_2 : decode cX7_meet 2 = .ok (.invokevirtual 216, 3) := by decide +kernel
theorem dX7_meet_5 : decode cX7_meet 5 = .ok (.ifCond .eq 23, 3) := by decide +kernel
theorem dX7_meet_8 : decode cX7_meet 8 = .ok (.aload_n 0, 1) := by decide +kernel
theorem dX7_meet_9 : decode cX7_meet 9 = .ok (.iload_n 2, 1) := by decide +kernel
theorem dX7_meet_10 : decode cX7_meet 10 = .ok (.invokevirtual 216, 3) := by decide +kernel
theorem dX7_meet_13 : decode cX7_meet 13 = .ok (.ifCond .eq 15, 3) := by decide +kernel
theorem dX7_meet_16 : decode cX7_meet 16 = .ok (.iload_n 1, 1) := by decide +kernel
theorem dX7_meet_17 : decode cX7_meet 17 = .ok (.iload_n 2, 1) := by decide +kernel
theorem dX7_meet_18 : decode cX7_meet 18 = .ok (.if_icmp .eq 10, 3) := by decide +kernel
theorem dX7_meet_21 : decode cX7_meet 21 = .ok (.iload_n 3, 1) := by decide +kernel
theorem dX7_meet_22 : decode cX7_meet 22 = .ok (.invokestatic 213, 3) := by decide +kernel
theorem dX7_meet_25 : decode cX7_meet 25 = .ok (.ifCond .ne 5, 3) := by decide +kernel
theorem dX7_meet_28 : decode cX7_meet 28 = .ok (.iconst (-1), 1) := by decide +kernel
theorem dX7_meet_29 : decode cX7_meet 29 = .ok (.ireturn, 1) := by decide +kernel
theorem dX7_meet_30 : decode cX7_meet 30 = .ok (.aload_n 0, 1) := by decide +kernel
theorem dX7_meet_31 : decode cX7_meet 31 = .ok (.invokevirtual 219, 3) := by decide +kernel
theorem dX7_meet_34 : decode cX7_meet 34 = .ok (.iconst 1, 1) := by decide +kernel
theorem dX7_meet_35 : decode cX7_meet 35 = .ok (.aload_n 0, 1) := by decide +kernel
theorem dX7_meet_36 : decode cX7_meet 36 = .ok (.iload_n 1, 1) := by decide +kernel
theorem dX7_meet_37 : decode cX7_meet 37 = .ok (.iconst 0, 1) := by decide +kernel
theorem dX7_meet_38 : decode cX7_meet 38 = .ok (.invokevirtual 187, 3) := by decide +kernel
theorem dX7_meet_41 : decode cX7_meet 41 = .ok (.ishl, 1) := by decide +kernel
theorem dX7_meet_42 : decode cX7_meet 42 = .ok (.istore 4, 2) := by decide +kernel
theorem dX7_meet_44 : decode cX7_meet 44 = .ok (.iconst 1, 1) := by decide +kernel
theorem dX7_meet_45 : decode cX7_meet 45 = .ok (.aload_n 0, 1) := by decide +kernel
theorem dX7_meet_46 : decode cX7_meet 46 = .ok (.iload_n 2, 1) := by decide +kernel
theorem dX7_meet_47 : decode cX7_meet 47 = .ok (.iconst 0, 1) := by decide +kernel
theorem dX7_meet_48 : decode cX7_meet 48 = .ok (.invokevirtual 187, 3) := by decide +kernel
theorem dX7_meet_51 : decode cX7_meet 51 = .ok (.ishl, 1) := by decide +kernel
theorem dX7_meet_52 : decode cX7_meet 52 = .ok (.istore 5, 2) := by decide +kernel
theorem dX7_meet_54 : decode cX7_meet 54 = .ok (.iconst 0, 1) := by decide +kernel
theorem dX7_meet_55 : decode cX7_meet 55 = .ok (.istore 6, 2) := by decide +kernel
theorem dX7_meet_57 : decode cX7_meet 57 = .ok (.iload 6, 2) := by decide +kernel
theorem dX7_meet_59 : decode cX7_meet 59 = .ok (.bipush 24, 2) := by decide +kernel
theorem dX7_meet_61 : decode cX7_meet 61 = .ok (.if_icmp .gt 90, 3) := by decide +kernel
theorem dX7_meet_64 : decode cX7_meet 64 = .ok (.iconst 0, 1) := by decide +kernel
theorem dX7_meet_65 : decode cX7_meet 65 = .ok (.istore 7, 2) := by decide +kernel
theorem dX7_meet_67 : decode cX7_meet 67 = .ok (.iload 7, 2) := by decide +kernel
theorem dX7_meet_69 : decode cX7_meet 69 = .ok (.aload_n 0, 1) := by decide +kernel
theorem dX7_meet_70 : decode cX7_meet 70 = .ok (.getfield 76, 3) := by decide +kernel
theorem dX7_meet_73 : decode cX7_meet 73 = .ok (.if_icmp .ge 34, 3) := by decide +kernel
theorem dX7_meet_76 : decode cX7_meet 76 = .ok (.iload 4, 2) := by decide +kernel
theorem dX7_meet_78 : decode cX7_meet 78 = .ok (.iload 5, 2) := by decide +kernel
theorem dX7_meet_80 : decode cX7_meet 80 = .ok (.iand, 1) := by decide +kernel
theorem dX7_meet_81 : decode cX7_meet 81 = .ok (.iconst 1, 1) := by decide +kernel
theorem dX7_meet_82 : decode cX7_meet 82 = .ok (.iload 7, 2) := by decide +kernel
theorem dX7_meet_84 : decode cX7_meet 84 = .ok (.ishl, 1) := by decide +kernel
theorem dX7_meet_85 : decode cX7_meet 85 = .ok (.iand, 1) := by decide +kernel
theorem dX7_meet_86 : decode cX7_meet 86 = .ok (.ifCond .eq 15, 3) := by decide +kernel
theorem dX7_meet_89 : decode cX7_meet 89 = .ok (.iload_n 3, 1) := by decide +kernel
theorem dX7_meet_90 : decode cX7_meet 90 = .ok (.ifCond .ne 8, 3) := by decide +kernel
theorem dX7_meet_93 : decode cX7_meet 93 = .ok (.iload 6, 2) := by decide +kernel
theorem dX7_meet_95 : decode cX7_meet 95 = .ok (.goto 5, 3) := by decide +kernel
theorem dX7_meet_98 : decode cX7_meet 98 = .ok (.iload 7, 2) := by decide +kernel
theorem dX7_meet_100 : decode cX7_meet 100 = .ok (.ireturn, 1) := by decide +kernel
theorem dX7_meet_101 : decode cX7_meet 101 = .ok (.iinc 7 1, 3) := by decide +kernel
theorem dX7_meet_104 : decode cX7_meet 104 = .ok (.goto (-37), 3) := by decide +kernel
theorem dX7_meet_107 : decode cX7_meet 107 = .ok (.aload_n 0, 1) := by decide +kernel
theorem dX7_meet_108 : decode cX7_meet 108 = .ok (.iload_n 1, 1) := by decide +kernel
theorem dX7_meet_109 : decode cX7_meet 109 = .ok (.iload 4, 2) := by decide +kernel
theorem dX7_meet_111 : decode cX7_meet 111 = .ok (.aload_n 0, 1) := by decide +kernel
theorem dX7_meet_112 : decode cX7_meet 112 = .ok (.getfield 13, 3) := by decide +kernel
theorem dX7_meet_115 : decode cX7_meet 115 = .ok (.bipush 17, 2) := by decide +kernel
theorem dX7_meet_117 : decode cX7_meet 117 = .ok (.iaload, 1) := by decide +kernel
theorem dX7_meet_118 : decode cX7_meet 118 = .ok (.iload 6, 2) := by decide +kernel
theorem dX7_meet_120 : decode cX7_meet 120 = .ok (.iadd, 1) := by decide +kernel
theorem dX7_meet_121 : decode cX7_meet 121 = .ok (.invokevirtual 276, 3) := by decide +kernel
theorem dX7_meet_124 : decode cX7_meet 124 = .ok (.istore 4, 2) := by decide +kernel
theorem dX7_meet_126 : decode cX7_meet 126 = .ok (.aload_n 0, 1) := by decide +kernel
theorem dX7_meet_127 : decode cX7_meet 127 = .ok (.iload_n 2, 1) := by decide +kernel
theorem dX7_meet_128 : decode cX7_meet 128 = .ok (.iload 5, 2) := by decide +kernel
theorem dX7_meet_130 : decode cX7_meet 130 = .ok (.aload_n 0, 1) := by decide +kernel
theorem dX7_meet_131 : decode cX7_meet 131 = .ok (.getfield 13, 3) := by decide +kernel
theorem dX7_meet_134 : decode cX7_meet 134 = .ok (.bipush 17, 2) := by decide +kernel
theorem dX7_meet_136 : decode cX7_meet 136 = .ok (.iaload, 1) := by decide +kernel
theorem dX7_meet_137 : decode cX7_meet 137 = .ok (.iload 6, 2) := by decide +kernel
theorem dX7_meet_139 : decode cX7_meet 139 = .ok (.iadd, 1) := by decide +kernel
theorem dX7_meet_140 : decode cX7_meet 140 = .ok (.invokevirtual 276, 3) := by decide +kernel
theorem dX7_meet_143 : decode cX7_meet 143 = .ok (.istore 5, 2) := by decide +kernel
theorem dX7_meet_145 : decode cX7_meet 145 = .ok (.iinc 6 1, 3) := by decide +kernel
theorem dX7_meet_148 : decode cX7_meet 148 = .ok (.goto (-91), 3) := by decide +kernel
theorem dX7_meet_151 : decode cX7_meet 151 = .ok (.bipush (-4), 2) := by decide +kernel
theorem dX7_meet_153 : decode cX7_meet 153 = .ok (.ireturn, 1) := by decide +kernel
theorem dX7_shake_0 : decode cX7_shake 0 = .ok (.aload_n 0, 1) := by decide +kernel
theorem dX7_shake_1 : decode cX7_shake 1 = .ok (.iload_n 1, 1) := by decide +kernel
theorem dX7_shake_2 : decode cX7_shake 2 = .ok (.invokevirtual 216, 3) := by decide +kernel
theorem dX7_shake_5 : decode cX7_shake 5 = .ok (.ifCond .eq 16, 3) := by decide +kernel
theorem dX7_shake_8 : decode cX7_shake 8 = .ok (.aload_n 0, 1) := by decide +kernel
theorem dX7_shake_9 : decode cX7_shake 9 = .ok (.iload_n 2, 1) := by decide +kernel
theorem dX7_shake_10 : decode cX7_shake 10 = .ok (.invokevirtual 216, 3) := by decide +kernel
theorem dX7_shake_13 : decode cX7_shake 13 = .ok (.ifCond .eq 8, 3) := by decide +kernel
theorem dX7_shake_16 : decode cX7_shake 16 = .ok (.iload_n 1, 1) := by decide +kernel
theorem dX7_shake_17 : decode cX7_shake 17 = .ok (.iload_n 2, 1) := by decide +kernel
theorem dX7_shake_18 : decode cX7_shake 18 = .ok (.if_icmp .ne 5, 3) := by decide +kernel
theorem dX7_shake_21 : decode cX7_shake 21 = .ok (.iconst (-1), 1) := by decide +kernel
theorem dX7_shake_22 : decode cX7_shake 22 = .ok (.ireturn, 1) := by decide +kernel
theorem dX7_shake_23 : decode cX7_shake 23 = .ok (.iconst 0, 1) := by decide +kernel
theorem dX7_shake_24 : decode cX7_shake 24 = .ok (.istore_n 3, 1) := by decide +kernel
theorem dX7_shake_25 : decode cX7_shake 25 = .ok (.iload_n 3, 1) := by decide +kernel
theorem dX7_shake_26 : decode cX7_shake 26 = .ok (.bipush 24, 2) := by decide +kernel
theorem dX7_shake_28 : decode cX7_shake 28 = .ok (.if_icmp .ge 26, 3) := by decide +kernel
theorem dX7_shake_31 : decode cX7_shake 31 = .ok (.aload_n 0, 1) := by decide +kernel
theorem dX7_shake_32 : decode cX7_shake 32 = .ok (.iload_n 1, 1) := by decide +kernel
theorem dX7_shake_33 : decode cX7_shake 33 = .ok (.iload_n 3, 1) := by decide +kernel
theorem dX7_shake_34 : decode cX7_shake 34 = .ok (.invokevirtual 222, 3) := by decide +kernel
theorem dX7_shake_37 : decode cX7_shake 37 = .ok (.aload_n 0, 1) := by decide +kernel
theorem dX7_shake_38 : decode cX7_shake 38 = .ok (.iload_n 2, 1) := by decide +kernel
theorem dX7_shake_39 : decode cX7_shake 39 = .ok (.iload_n 3, 1) := by decide +kernel
theorem dX7_shake_40 : decode cX7_shake 40 = .ok (.invokevirtual 222, 3) := by decide +kernel
theorem dX7_shake_43 : decode cX7_shake 43 = .ok (.if_icmp .ne 5, 3) := by decide +kernel
theorem dX7_shake_46 : decode cX7_shake 46 = .ok (.iload_n 3, 1) := by decide +kernel
theorem dX7_shake_47 : decode cX7_shake 47 = .ok (.ireturn, 1) := by decide +kernel
theorem dX7_shake_48 : decode cX7_shake 48 = .ok (.iinc 3 1, 3) := by decide +kernel
theorem dX7_shake_51 : decode cX7_shake 51 = .ok (.goto (-26), 3) := by decide +kernel
theorem dX7_shake_54 : decode cX7_shake 54 = .ok (.bipush (-4), 2) := by decide +kernel
theorem dX7_shake_56 : decode cX7_shake 56 = .ok (.ireturn, 1) := by decide +kernel
theorem dX7_pairs_0 : decode cX7_pairs 0 = .ok (.iload_n 1, 1) := by decide +kernel
theorem dX7_pairs_1 : decode cX7_pairs 1 = .ok (.invokestatic 225, 3) := by decide +kernel
theorem dX7_pairs_4 : decode cX7_pairs 4 = .ok (.ifCond .ne 5, 3) := by decide +kernel
theorem dX7_pairs_7 : decode cX7_pairs 7 = .ok (.iconst (-1), 1) := by decide +kernel
theorem dX7_pairs_8 : decode cX7_pairs 8 = .ok (.ireturn, 1) := by decide +kernel
theorem dX7_pairs_9 : decode cX7_pairs 9 = .ok (.iconst 0, 1) := by decide +kernel
theorem dX7_pairs_10 : decode cX7_pairs 10 = .ok (.istore_n 2, 1) := by decide +kernel
theorem dX7_pairs_11 : decode cX7_pairs 11 = .ok (.iconst 0, 1) := by decide +kernel
theorem dX7_pairs_12 : decode cX7_pairs 12 = .ok (.istore_n 3, 1) := by decide +kernel
theorem dX7_pairs_13 : decode cX7_pairs 13 = .ok (.iload_n 3, 1) := by decide +kernel
theorem dX7_pairs_14 : decode cX7_pairs 14 = .ok (.aload_n 0, 1) := by decide +kernel
theorem dX7_pairs_15 : decode cX7_pairs 15 = .ok (.getfield 79, 3) := by decide +kernel
theorem dX7_pairs_18 : decode cX7_pairs 18 = .ok (.if_icmp .ge 18, 3) := by decide +kernel
theorem dX7_pairs_21 : decode cX7_pairs 21 = .ok (.iload_n 2, 1) := by decide +kernel
theorem dX7_pairs_22 : decode cX7_pairs 22 = .ok (.aload_n 0, 1) := by decide +kernel
theorem dX7_pairs_23 : decode cX7_pairs 23 = .ok (.iload_n 3, 1) := by decide +kernel
theorem dX7_pairs_24 : decode cX7_pairs 24 = .ok (.iload_n 1, 1) := by decide +kernel
theorem dX7_pairs_25 : decode cX7_pairs 25 = .ok (.invokevirtual 222, 3) := by decide +kernel
theorem dX7_pairs_28 : decode cX7_pairs 28 = .ok (.iadd, 1) := by decide +kernel
theorem dX7_pairs_29 : decode cX7_pairs 29 = .ok (.istore_n 2, 1) := by decide +kernel
theorem dX7_pairs_30 : decode cX7_pairs 30 = .ok (.iinc 3 1, 3) := by decide +kernel
theorem dX7_pairs_33 : decode cX7_pairs 33 = .ok (.goto (-20), 3) := by decide +kernel
theorem dX7_pairs_36 : decode cX7_pairs 36 = .ok (.iload_n 2, 1) := by decide +kernel
theorem dX7_pairs_37 : decode cX7_pairs 37 = .ok (.iconst 2, 1) := by decide +kernel
theorem dX7_pairs_38 : decode cX7_pairs 38 = .ok (.idiv, 1) := by decide +kernel
theorem dX7_pairs_39 : decode cX7_pairs 39 = .ok (.aload_n 0, 1) := by decide +kernel
theorem dX7_pairs_40 : decode cX7_pairs 40 = .ok (.getfield 79, 3) := by decide +kernel
theorem dX7_pairs_43 : decode cX7_pairs 43 = .ok (.iload_n 2, 1) := by decide +kernel
theorem dX7_pairs_44 : decode cX7_pairs 44 = .ok (.isub, 1) := by decide +kernel
theorem dX7_pairs_45 : decode cX7_pairs 45 = .ok (.iconst 2, 1) := by decide +kernel
theorem dX7_pairs_46 : decode cX7_pairs 46 = .ok (.idiv, 1) := by decide +kernel
theorem dX7_pairs_47 : decode cX7_pairs 47 = .ok (.iadd, 1) := by decide +kernel
theorem dX7_pairs_48 : decode cX7_pairs 48 = .ok (.ireturn, 1) := by decide +kernel
theorem dX7_glovesBy_0 : decode cX7_glovesBy 0 = .ok (.iload_n 2, 1) := by decide +kernel
theorem dX7_glovesBy_1 : decode cX7_glovesBy 1 = .ok (.ifCond .ne 11, 3) := by decide +kernel
theorem dX7_glovesBy_4 : decode cX7_glovesBy 4 = .ok (.iload_n 1, 1) := by decide +kernel
theorem dX7_glovesBy_5 : decode cX7_glovesBy 5 = .ok (.sipush 1000, 3) := by decide +kernel
theorem dX7_glovesBy_8 : decode cX7_glovesBy 8 = .ok (.idiv, 1) := by decide +kernel
theorem dX7_glovesBy_9 : decode cX7_glovesBy 9 = .ok (.goto 37, 3) := by decide +kernel
theorem dX7_glovesBy_12 : decode cX7_glovesBy 12 = .ok (.iload_n 2, 1) := by decide +kernel
theorem dX7_glovesBy_13 : decode cX7_glovesBy 13 = .ok (.iconst 1, 1) := by decide +kernel
theorem dX7_glovesBy_14 : decode cX7_glovesBy 14 = .ok (.if_icmp .ne 13, 3) := by decide +kernel
theorem dX7_glovesBy_17 : decode cX7_glovesBy 17 = .ok (.iload_n 1, 1) := by decide +kernel
theorem dX7_glovesBy_18 : decode cX7_glovesBy 18 = .ok (.bipush 100, 2) := by decide +kernel
theorem dX7_glovesBy_20 : decode cX7_glovesBy 20 = .ok (.idiv, 1) := by decide +kernel
theorem dX7_glovesBy_21 : decode cX7_glovesBy 21 = .ok (.bipush 10, 2) := by decide +kernel
theorem dX7_glovesBy_23 : decode cX7_glovesBy 23 = .ok (.irem, 1) := by decide +kernel
theorem dX7_glovesBy_24 : decode cX7_glovesBy 24 = .ok (.goto 22, 3) := by decide +kernel
theorem dX7_glovesBy_27 : decode cX7_glovesBy 27 = .ok (.iload_n 2, 1) := by decide +kernel
theorem dX7_glovesBy_28 : decode cX7_glovesBy 28 = .ok (.iconst 2, 1) := by decide +kernel
theorem dX7_glovesBy_29 : decode cX7_glovesBy 29 = .ok (.if_icmp .ne 13, 3) := by decide +kernel
theorem dX7_glovesBy_32 : decode cX7_glovesBy 32 = .ok (.iload_n 1, 1) := by decide +kernel
theorem dX7_glovesBy_33 : decode cX7_glovesBy 33 = .ok (.bipush 10, 2) := by decide +kernel
theorem dX7_glovesBy_35 : decode cX7_glovesBy 35 = .ok (.idiv, 1) := by decide +kernel
theorem dX7_glovesBy_36 : decode cX7_glovesBy 36 = .ok (.bipush 10, 2) := by decide +kernel
theorem dX7_glovesBy_38 : decode cX7_glovesBy 38 = .ok (.irem, 1) := by decide +kernel
theorem dX7_glovesBy_39 : decode cX7_glovesBy 39 = .ok (.goto 7, 3) := by decide +kernel
theorem dX7_glovesBy_42 : decode cX7_glovesBy 42 = .ok (.iload_n 1, 1) := by decide +kernel
theorem dX7_glovesBy_43 : decode cX7_glovesBy 43 = .ok (.bipush 10, 2) := by decide +kernel
theorem dX7_glovesBy_45 : decode cX7_glovesBy 45 = .ok (.irem, 1) := by decide +kernel
theorem dX7_glovesBy_46 : decode cX7_glovesBy 46 = .ok (.istore_n 3, 1) := by decide +kernel
theorem dX7_glovesBy_47 : decode cX7_glovesBy 47 = .ok (.aload_n 0, 1) := by decide +kernel
theorem dX7_glovesBy_48 : decode cX7_glovesBy 48 = .ok (.getfield 7, 3) := by decide +kernel
theorem dX7_glovesBy_51 : decode cX7_glovesBy 51 = .ok (.bipush 43, 2) := by decide +kernel
theorem dX7_glovesBy_53 : decode cX7_glovesBy 53 = .ok (.iload_n 2, 1) := by decide +kernel
theorem dX7_glovesBy_54 : decode cX7_glovesBy 54 = .ok (.iadd, 1) := by decide +kernel
theorem dX7_glovesBy_55 : decode cX7_glovesBy 55 = .ok (.iaload, 1) := by decide +kernel
theorem dX7_glovesBy_56 : decode cX7_glovesBy 56 = .ok (.iload_n 3, 1) := by decide +kernel
theorem dX7_glovesBy_57 : decode cX7_glovesBy 57 = .ok (.iadd, 1) := by decide +kernel
theorem dX7_glovesBy_58 : decode cX7_glovesBy 58 = .ok (.ireturn, 1) := by decide +kernel
theorem dX7_needs_0 : decode cX7_needs 0 = .ok (.iload_n 1, 1) := by decide +kernel
theorem dX7_needs_1 : decode cX7_needs 1 = .ok (.i2l, 1) := by decide +kernel
theorem dX7_needs_2 : decode cX7_needs 2 = .ok (.lconst 0, 1) := by decide +kernel
theorem dX7_needs_3 : decode cX7_needs 3 = .ok (.ldc2_w 233, 3) := by decide +kernel
theorem dX7_needs_6 : decode cX7_needs 6 = .ok (.invokestatic 84, 3) := by decide +kernel
theorem dX7_needs_9 : decode cX7_needs 9 = .ok (.ifCond .eq 22, 3) := by decide +kernel
theorem dX7_needs_12 : decode cX7_needs 12 = .ok (.iload_n 2, 1) := by decide +kernel
theorem dX7_needs_13 : decode cX7_needs 13 = .ok (.i2l, 1) := by decide +kernel
theorem dX7_needs_14 : decode cX7_needs 14 = .ok (.lconst 0, 1) := by decide +kernel
theorem dX7_needs_15 : decode cX7_needs 15 = .ok (.ldc2_w 233, 3) := by decide +kernel
theorem dX7_needs_18 : decode cX7_needs 18 = .ok (.invokestatic 84, 3) := by decide +kernel
theorem dX7_needs_21 : decode cX7_needs 21 = .ok (.ifCond .eq 10, 3) := by decide +kernel
theorem dX7_needs_24 : decode cX7_needs 24 = .ok (.iload_n 3, 1) := by decide +kernel
theorem dX7_needs_25 : decode cX7_needs 25 = .ok (.invokestatic 213, 3) := by decide +kernel
theorem dX7_needs_28 : decode cX7_needs 28 = .ok (.ifCond .ne 5, 3) := by decide +kernel
theorem dX7_needs_31 : decode cX7_needs 31 = .ok (.iconst (-1), 1) := by decide +kernel
theorem dX7_needs_32 : decode cX7_needs 32 = .ok (.ireturn, 1) := by decide +kernel
theorem dX7_needs_33 : decode cX7_needs 33 = .ok (.ldc_w 268, 3) := by decide +kernel
theorem dX7_needs_36 : decode cX7_needs 36 = .ok (.istore 4, 2) := by decide +kernel
theorem dX7_needs_38 : decode cX7_needs 38 = .ok (.bipush (-4), 2) := by decide +kernel
theorem dX7_needs_40 : decode cX7_needs 40 = .ok (.istore 5, 2) := by decide +kernel
theorem dX7_needs_42 : decode cX7_needs 42 = .ok (.iconst 0, 1) := by decide +kernel
theorem dX7_needs_43 : decode cX7_needs 43 = .ok (.istore 6, 2) := by decide +kernel
theorem dX7_needs_45 : decode cX7_needs 45 = .ok (.iload 6, 2) := by decide +kernel
theorem dX7_needs_47 : decode cX7_needs 47 = .ok (.sipush 10000, 3) := by decide +kernel
theorem dX7_needs_50 : decode cX7_needs 50 = .ok (.if_icmp .ge 183, 3) := by decide +kernel
theorem dX7_needs_53 : decode cX7_needs 53 = .ok (.iload 6, 2) := by decide +kernel
theorem dX7_needs_55 : decode cX7_needs 55 = .ok (.sipush 1000, 3) := by decide +kernel
theorem dX7_needs_58 : decode cX7_needs 58 = .ok (.idiv, 1) := by decide +kernel
theorem dX7_needs_59 : decode cX7_needs 59 = .ok (.iload 6, 2) := by decide +kernel
theorem dX7_needs_61 : decode cX7_needs 61 = .ok (.bipush 100, 2) := by decide +kernel
theorem dX7_needs_63 : decode cX7_needs 63 = .ok (.idiv, 1) := by decide +kernel
theorem dX7_needs_64 : decode cX7_needs 64 = .ok (.bipush 10, 2) := by decide +kernel
theorem dX7_needs_66 : decode cX7_needs 66 = .ok (.irem, 1) := by decide +kernel
theorem dX7_needs_67 : decode cX7_needs 67 = .ok (.iadd, 1) := by decide +kernel
theorem dX7_needs_68 : decode cX7_needs 68 = .ok (.iload 6, 2) := by decide +kernel
theorem dX7_needs_70 : decode cX7_needs 70 = .ok (.bipush 10, 2) := by decide +kernel
theorem dX7_needs_72 : decode cX7_needs 72 = .ok (.idiv, 1) := by decide +kernel
theorem dX7_needs_73 : decode cX7_needs 73 = .ok (.bipush 10, 2) := by decide +kernel
theorem dX7_needs_75 : decode cX7_needs 75 = .ok (.irem, 1) := by decide +kernel
theorem dX7_needs_76 : decode cX7_needs 76 = .ok (.iadd, 1) := by decide +kernel
theorem dX7_needs_77 : decode cX7_needs 77 = .ok (.iload 6, 2) := by decide +kernel
theorem dX7_needs_79 : decode cX7_needs 79 = .ok (.bipush 10, 2) := by decide +kernel
theorem dX7_needs_81 : decode cX7_needs 81 = .ok (.irem, 1) := by decide +kernel
theorem dX7_needs_82 : decode cX7_needs 82 = .ok (.iadd, 1) := by decide +kernel
theorem dX7_needs_83 : decode cX7_needs 83 = .ok (.istore 7, 2) := by decide +kernel
theorem dX7_needs_85 : decode cX7_needs 85 = .ok (.aload_n 0, 1) := by decide +kernel
theorem dX7_needs_86 : decode cX7_needs 86 = .ok (.iload 6, 2) := by decide +kernel
theorem dX7_needs_88 : decode cX7_needs 88 = .ok (.iconst 0, 1) := by decide +kernel
theorem dX7_needs_89 : decode cX7_needs 89 = .ok (.invokevirtual 280, 3) := by decide +kernel
theorem dX7_needs_92 : decode cX7_needs 92 = .ok (.aload_n 0, 1) := by decide +kernel
theorem dX7_needs_93 : decode cX7_needs 93 = .ok (.iload 6, 2) := by decide +kernel
theorem dX7_needs_95 : decode cX7_needs 95 = .ok (.iconst 2, 1) := by decide +kernel
theorem dX7_needs_96 : decode cX7_needs 96 = .ok (.invokevirtual 280, 3) := by decide +kernel
theorem dX7_needs_99 : decode cX7_needs 99 = .ok (.iadd, 1) := by decide +kernel
theorem dX7_needs_100 : decode cX7_needs 100 = .ok (.iload_n 1, 1) := by decide +kernel
theorem dX7_needs_101 : decode cX7_needs 101 = .ok (.if_icmp .lt 26, 3) := by decide +kernel
theorem dX7_needs_104 : decode cX7_needs 104 = .ok (.aload_n 0, 1) := by decide +kernel
theorem dX7_needs_105 : decode cX7_needs 105 = .ok (.iload 6, 2) := by decide +kernel
theorem dX7_needs_107 : decode cX7_needs 107 = .ok (.iconst 1, 1) := by decide +kernel
theorem dX7_needs_108 : decode cX7_needs 108 = .ok (.invokevirtual 280, 3) := by decide +kernel
theorem dX7_needs_111 : decode cX7_needs 111 = .ok (.aload_n 0, 1) := by decide +kernel
theorem dX7_needs_112 : decode cX7_needs 112 = .ok (.iload 6, 2) := by decide +kernel
theorem dX7_needs_114 : decode cX7_needs 114 = .ok (.iconst 2, 1) := by decide +kernel
theorem dX7_needs_115 : decode cX7_needs 115 = .ok (.invokevirtual 280, 3) := by decide +kernel
theorem dX7_needs_118 : decode cX7_needs 118 = .ok (.iadd, 1) := by decide +kernel
theorem dX7_needs_119 : decode cX7_needs 119 = .ok (.iload_n 1, 1) := by decide +kernel
theorem dX7_needs_120 : decode cX7_needs 120 = .ok (.if_icmp .lt 7, 3) := by decide +kernel
theorem dX7_needs_123 : decode cX7_needs 123 = .ok (.iconst 1, 1) := by decide +kernel
theorem dX7_needs_124 : decode cX7_needs 124 = .ok (.goto 4, 3) := by decide +kernel
theorem dX7_needs_127 : decode cX7_needs 127 = .ok (.iconst 0, 1) := by decide +kernel
theorem dX7_needs_128 : decode cX7_needs 128 = .ok (.istore 8, 2) := by decide +kernel
theorem dX7_needs_130 : decode cX7_needs 130 = .ok (.aload_n 0, 1) := by decide +kernel
theorem dX7_needs_131 : decode cX7_needs 131 = .ok (.iload 6, 2) := by decide +kernel
theorem dX7_needs_133 : decode cX7_needs 133 = .ok (.iconst 1, 1) := by decide +kernel
theorem dX7_needs_134 : decode cX7_needs 134 = .ok (.invokevirtual 280, 3) := by decide +kernel
theorem dX7_needs_137 : decode cX7_needs 137 = .ok (.aload_n 0, 1) := by decide +kernel
theorem dX7_needs_138 : decode cX7_needs 138 = .ok (.iload 6, 2) := by decide +kernel
theorem dX7_needs_140 : decode cX7_needs 140 = .ok (.iconst 3, 1) := by decide +kernel
theorem dX7_needs_141 : decode cX7_needs 141 = .ok (.invokevirtual 280, 3) := by decide +kernel
theorem dX7_needs_144 : decode cX7_needs 144 = .ok (.iadd, 1) := by decide +kernel
theorem dX7_needs_145 : decode cX7_needs 145 = .ok (.iload_n 2, 1) := by decide +kernel
theorem dX7_needs_146 : decode cX7_needs 146 = .ok (.if_icmp .lt 26, 3) := by decide +kernel
theorem dX7_needs_149 : decode cX7_needs 149 = .ok (.aload_n 0, 1) := by decide +kernel
theorem dX7_needs_150 : decode cX7_needs 150 = .ok (.iload 6, 2) := by decide +kernel
theorem dX7_needs_152 : decode cX7_needs 152 = .ok (.iconst 0, 1) := by decide +kernel
theorem dX7_needs_153 : decode cX7_needs 153 = .ok (.invokevirtual 280, 3) := by decide +kernel
theorem dX7_needs_156 : decode cX7_needs 156 = .ok (.aload_n 0, 1) := by decide +kernel
theorem dX7_needs_157 : decode cX7_needs 157 = .ok (.iload 6, 2) := by decide +kernel
theorem dX7_needs_159 : decode cX7_needs 159 = .ok (.iconst 3, 1) := by decide +kernel
theorem dX7_needs_160 : decode cX7_needs 160 = .ok (.invokevirtual 280, 3) := by decide +kernel
theorem dX7_needs_163 : decode cX7_needs 163 = .ok (.iadd, 1) := by decide +kernel
theorem dX7_needs_164 : decode cX7_needs 164 = .ok (.iload_n 2, 1) := by decide +kernel
theorem dX7_needs_165 : decode cX7_needs 165 = .ok (.if_icmp .lt 7, 3) := by decide +kernel
theorem dX7_needs_168 : decode cX7_needs 168 = .ok (.iconst 1, 1) := by decide +kernel
theorem dX7_needs_169 : decode cX7_needs 169 = .ok (.goto 4, 3) := by decide +kernel
theorem dX7_needs_172 : decode cX7_needs 172 = .ok (.iconst 0, 1) := by decide +kernel
theorem dX7_needs_173 : decode cX7_needs 173 = .ok (.istore 9, 2) := by decide +kernel
theorem dX7_needs_175 : decode cX7_needs 175 = .ok (.iload 8, 2) := by decide +kernel
theorem dX7_needs_177 : decode cX7_needs 177 = .ok (.ifCond .eq 20, 3) := by decide +kernel
theorem dX7_needs_180 : decode cX7_needs 180 = .ok (.iload 9, 2) := by decide +kernel
theorem dX7_needs_182 : decode cX7_needs 182 = .ok (.ifCond .eq 15, 3) := by decide +kernel
theorem dX7_needs_185 : decode cX7_needs 185 = .ok (.iload 7, 2) := by decide +kernel
theorem dX7_needs_187 : decode cX7_needs 187 = .ok (.iload 4, 2) := by decide +kernel
theorem dX7_needs_189 : decode cX7_needs 189 = .ok (.if_icmp .ge 8, 3) := by decide +kernel
theorem dX7_needs_192 : decode cX7_needs 192 = .ok (.iload 6, 2) := by decide +kernel
theorem dX7_needs_194 : decode cX7_needs 194 = .ok (.goto 5, 3) := by decide +kernel
theorem dX7_needs_197 : decode cX7_needs 197 = .ok (.iload 5, 2) := by decide +kernel
theorem dX7_needs_199 : decode cX7_needs 199 = .ok (.istore 5, 2) := by decide +kernel
theorem dX7_needs_201 : decode cX7_needs 201 = .ok (.iload 8, 2) := by decide +kernel
theorem dX7_needs_203 : decode cX7_needs 203 = .ok (.ifCond .eq 20, 3) := by decide +kernel
theorem dX7_needs_206 : decode cX7_needs 206 = .ok (.iload 9, 2) := by decide +kernel
theorem dX7_needs_208 : decode cX7_needs 208 = .ok (.ifCond .eq 15, 3) := by decide +kernel
theorem dX7_needs_211 : decode cX7_needs 211 = .ok (.iload 7, 2) := by decide +kernel
theorem dX7_needs_213 : decode cX7_needs 213 = .ok (.iload 4, 2) := by decide +kernel
theorem dX7_needs_215 : decode cX7_needs 215 = .ok (.if_icmp .ge 8, 3) := by decide +kernel
theorem dX7_needs_218 : decode cX7_needs 218 = .ok (.iload 7, 2) := by decide +kernel
theorem dX7_needs_220 : decode cX7_needs 220 = .ok (.goto 5, 3) := by decide +kernel
theorem dX7_needs_223 : decode cX7_needs 223 = .ok (.iload 4, 2) := by decide +kernel
theorem dX7_needs_225 : decode cX7_needs 225 = .ok (.istore 4, 2) := by decide +kernel
theorem dX7_needs_227 : decode cX7_needs 227 = .ok (.iinc 6 1, 3) := by decide +kernel
theorem dX7_needs_230 : decode cX7_needs 230 = .ok (.goto (-185), 3) := by decide +kernel
theorem dX7_needs_233 : decode cX7_needs 233 = .ok (.iload_n 3, 1) := by decide +kernel
theorem dX7_needs_234 : decode cX7_needs 234 = .ok (.ifCond .ne 8, 3) := by decide +kernel
theorem dX7_needs_237 : decode cX7_needs 237 = .ok (.iload 4, 2) := by decide +kernel
theorem dX7_needs_239 : decode cX7_needs 239 = .ok (.goto 5, 3) := by decide +kernel
theorem dX7_needs_242 : decode cX7_needs 242 = .ok (.iload 5, 2) := by decide +kernel
theorem dX7_needs_244 : decode cX7_needs 244 = .ok (.ireturn, 1) := by decide +kernel
theorem dX7_common_0 : decode cX7_common 0 = .ok (.lload_n 0, 1) := by decide +kernel
theorem dX7_common_1 : decode cX7_common 1 = .ok (.lstore 4, 2) := by decide +kernel
theorem dX7_common_3 : decode cX7_common 3 = .ok (.lload_n 2, 1) := by decide +kernel
theorem dX7_common_4 : decode cX7_common 4 = .ok (.lstore 6, 2) := by decide +kernel
theorem dX7_common_6 : decode cX7_common 6 = .ok (.lload 6, 2) := by decide +kernel
theorem dX7_common_8 : decode cX7_common 8 = .ok (.lconst 0, 1) := by decide +kernel
theorem dX7_common_9 : decode cX7_common 9 = .ok (.lcmp, 1) := by decide +kernel
theorem dX7_common_10 : decode cX7_common 10 = .ok (.ifCond .eq 21, 3) := by decide +kernel
theorem dX7_common_13 : decode cX7_common 13 = .ok (.lload 4, 2) := by decide +kernel
theorem dX7_common_15 : decode cX7_common 15 = .ok (.lload 6, 2) := by decide +kernel
theorem dX7_common_17 : decode cX7_common 17 = .ok (.lrem, 1) := by decide +kernel
theorem dX7_common_18 : decode cX7_common 18 = .ok (.lstore 8, 2) := by decide +kernel
theorem dX7_common_20 : decode cX7_common 20 = .ok (.lload 6, 2) := by decide +kernel
theorem dX7_common_22 : decode cX7_common 22 = .ok (.lstore 4, 2) := by decide +kernel
theorem dX7_common_24 : decode cX7_common 24 = .ok (.lload 8, 2) := by decide +kernel
theorem dX7_common_26 : decode cX7_common 26 = .ok (.lstore 6, 2) := by decide +kernel
theorem dX7_common_28 : decode cX7_common 28 = .ok (.goto (-22), 3) := by decide +kernel
theorem dX7_common_31 : decode cX7_common 31 = .ok (.lload 4, 2) := by decide +kernel
theorem dX7_common_33 : decode cX7_common 33 = .ok (.lreturn, 1) := by decide +kernel
theorem dX7_spreads_0 : decode cX7_spreads 0 = .ok (.aload_n 0, 1) := by decide +kernel
theorem dX7_spreads_1 : decode cX7_spreads 1 = .ok (.iload_n 1, 1) := by decide +kernel
theorem dX7_spreads_2 : decode cX7_spreads 2 = .ok (.iconst 4, 1) := by decide +kernel
theorem dX7_spreads_3 : decode cX7_spreads 3 = .ok (.invokevirtual 187, 3) := by decide +kernel
theorem dX7_spreads_6 : decode cX7_spreads 6 = .ok (.iload_n 2, 1) := by decide +kernel
theorem dX7_spreads_7 : decode cX7_spreads 7 = .ok (.ishr, 1) := by decide +kernel
theorem dX7_spreads_8 : decode cX7_spreads 8 = .ok (.iconst 1, 1) := by decide +kernel
theorem dX7_spreads_9 : decode cX7_spreads 9 = .ok (.iand, 1) := by decide +kernel
theorem dX7_spreads_10 : decode cX7_spreads 10 = .ok (.istore 4, 2) := by decide +kernel
theorem dX7_spreads_12 : decode cX7_spreads 12 = .ok (.aload_n 0, 1) := by decide +kernel
theorem dX7_spreads_13 : decode cX7_spreads 13 = .ok (.getfield 13, 3) := by decide +kernel
theorem dX7_spreads_16 : decode cX7_spreads 16 = .ok (.bipush 17, 2) := by decide +kernel
theorem dX7_spreads_18 : decode cX7_spreads 18 = .ok (.iaload, 1) := by decide +kernel
theorem dX7_spreads_19 : decode cX7_spreads 19 = .ok (.iload_n 2, 1) := by decide +kernel
theorem dX7_spreads_20 : decode cX7_spreads 20 = .ok (.iadd, 1) := by decide +kernel
theorem dX7_spreads_21 : decode cX7_spreads 21 = .ok (.aload_n 0, 1) := by decide +kernel
theorem dX7_spreads_22 : decode cX7_spreads 22 = .ok (.iload_n 1, 1) := by decide +kernel
theorem dX7_spreads_23 : decode cX7_spreads 23 = .ok (.iconst 5, 1) := by decide +kernel
theorem dX7_spreads_24 : decode cX7_spreads 24 = .ok (.invokevirtual 187, 3) := by decide +kernel
theorem dX7_spreads_27 : decode cX7_spreads 27 = .ok (.isub, 1) := by decide +kernel
theorem dX7_spreads_28 : decode cX7_spreads 28 = .ok (.istore 5, 2) := by decide +kernel
theorem dX7_spreads_30 : decode cX7_spreads 30 = .ok (.iconst 0, 1) := by decide +kernel
theorem dX7_spreads_31 : decode cX7_spreads 31 = .ok (.istore 6, 2) := by decide +kernel
theorem dX7_spreads_33 : decode cX7_spreads 33 = .ok (.iload 6, 2) := by decide +kernel
theorem dX7_spreads_35 : decode cX7_spreads 35 = .ok (.bipush 8, 2) := by decide +kernel
theorem dX7_spreads_37 : decode cX7_spreads 37 = .ok (.if_icmp .ge 17, 3) := by decide +kernel
theorem dX7_spreads_40 : decode cX7_spreads 40 = .ok (.aload_n 0, 1) := by decide +kernel
theorem dX7_spreads_41 : decode cX7_spreads 41 = .ok (.getfield 42, 3) := by decide +kernel
theorem dX7_spreads_44 : decode cX7_spreads 44 = .ok (.iload 6, 2) := by decide +kernel
theorem dX7_spreads_46 : decode cX7_spreads 46 = .ok (.lconst 0, 1) := by decide +kernel
theorem dX7_spreads_47 : decode cX7_spreads 47 = .ok (.lastore, 1) := by decide +kernel
theorem dX7_spreads_48 : decode cX7_spreads 48 = .ok (.iinc 6 1, 3) := by decide +kernel
theorem dX7_spreads_51 : decode cX7_spreads 51 = .ok (.goto (-18), 3) := by decide +kernel
theorem dX7_spreads_54 : decode cX7_spreads 54 = .ok (.iconst 0, 1) := by decide +kernel
theorem dX7_spreads_55 : decode cX7_spreads 55 = .ok (.istore 6, 2) := by decide +kernel
theorem dX7_spreads_57 : decode cX7_spreads 57 = .ok (.iload 6, 2) := by decide +kernel
theorem dX7_spreads_59 : decode cX7_spreads 59 = .ok (.aload_n 0, 1) := by decide +kernel
theorem dX7_spreads_60 : decode cX7_spreads 60 = .ok (.getfield 76, 3) := by decide +kernel
theorem dX7_spreads_63 : decode cX7_spreads 63 = .ok (.if_icmp .ge 100, 3) := by decide +kernel
theorem dX7_spreads_66 : decode cX7_spreads 66 = .ok (.aload_n 0, 1) := by decide +kernel
theorem dX7_spreads_67 : decode cX7_spreads 67 = .ok (.getfield 42, 3) := by decide +kernel
theorem dX7_spreads_70 : decode cX7_spreads 70 = .ok (.aload_n 0, 1) := by decide +kernel
theorem dX7_spreads_71 : decode cX7_spreads 71 = .ok (.iload 6, 2) := by decide +kernel
theorem dX7_spreads_73 : decode cX7_spreads 73 = .ok (.iload 4, 2) := by decide +kernel
theorem dX7_spreads_75 : decode cX7_spreads 75 = .ok (.iload 5, 2) := by decide +kernel
theorem dX7_spreads_77 : decode cX7_spreads 77 = .ok (.aload_n 0, 1) := by decide +kernel
theorem dX7_spreads_78 : decode cX7_spreads 78 = .ok (.iload_n 1, 1) := by decide +kernel
theorem dX7_spreads_79 : decode cX7_spreads 79 = .ok (.iconst 2, 1) := by decide +kernel
theorem dX7_spreads_80 : decode cX7_spreads 80 = .ok (.invokevirtual 187, 3) := by decide +kernel
theorem dX7_spreads_83 : decode cX7_spreads 83 = .ok (.iconst 1, 1) := by decide +kernel
theorem dX7_spreads_84 : decode cX7_spreads 84 = .ok (.if_icmp .ne 7, 3) := by decide +kernel
theorem dX7_spreads_87 : decode cX7_spreads 87 = .ok (.iconst 1, 1) := by decide +kernel
theorem dX7_spreads_88 : decode cX7_spreads 88 = .ok (.goto 4, 3) := by decide +kernel
theorem dX7_spreads_91 : decode cX7_spreads 91 = .ok (.iconst 0, 1) := by decide +kernel
theorem dX7_spreads_92 : decode cX7_spreads 92 = .ok (.invokevirtual 200, 3) := by decide +kernel
theorem dX7_spreads_95 : decode cX7_spreads 95 = .ok (.dup2, 1) := by decide +kernel
theorem dX7_spreads_96 : decode cX7_spreads 96 = .ok (.laload, 1) := by decide +kernel
theorem dX7_spreads_97 : decode cX7_spreads 97 = .ok (.aload_n 0, 1) := by decide +kernel
theorem dX7_spreads_98 : decode cX7_spreads 98 = .ok (.getfield 38, 3) := by decide +kernel
theorem dX7_spreads_101 : decode cX7_spreads 101 = .ok (.iload 6, 2) := by decide +kernel
theorem dX7_spreads_103 : decode cX7_spreads 103 = .ok (.laload, 1) := by decide +kernel
theorem dX7_spreads_104 : decode cX7_spreads 104 = .ok (.bipush 10, 2) := by decide +kernel
theorem dX7_spreads_106 : decode cX7_spreads 106 = .ok (.iload_n 3, 1) := by decide +kernel
theorem dX7_spreads_107 : decode cX7_spreads 107 = .ok (.isub, 1) := by decide +kernel
theorem dX7_spreads_108 : decode cX7_spreads 108 = .ok (.i2l, 1) := by decide +kernel
theorem dX7_spreads_109 : decode cX7_spreads 109 = .ok (.lmul, 1) := by decide +kernel
theorem dX7_spreads_110 : decode cX7_spreads 110 = .ok (.ladd, 1) := by decide +kernel
theorem dX7_spreads_111 : decode cX7_spreads 111 = .ok (.lastore, 1) := by decide +kernel
theorem dX7_spreads_112 : decode cX7_spreads 112 = .ok (.aload_n 0, 1) := by decide +kernel
theorem dX7_spreads_113 : decode cX7_spreads 113 = .ok (.getfield 42, 3) := by decide +kernel
theorem dX7_spreads_116 : decode cX7_spreads 116 = .ok (.aload_n 0, 1) := by decide +kernel
theorem dX7_spreads_117 : decode cX7_spreads 117 = .ok (.iload 6, 2) := by decide +kernel
theorem dX7_spreads_119 : decode cX7_spreads 119 = .ok (.iconst 1, 1) := by decide +kernel
theorem dX7_spreads_120 : decode cX7_spreads 120 = .ok (.iload 4, 2) := by decide +kernel
theorem dX7_spreads_122 : decode cX7_spreads 122 = .ok (.isub, 1) := by decide +kernel
theorem dX7_spreads_123 : decode cX7_spreads 123 = .ok (.iload 5, 2) := by decide +kernel
theorem dX7_spreads_125 : decode cX7_spreads 125 = .ok (.aload_n 0, 1) := by decide +kernel
theorem dX7_spreads_126 : decode cX7_spreads 126 = .ok (.iload_n 1, 1) := by decide +kernel
theorem dX7_spreads_127 : decode cX7_spreads 127 = .ok (.iconst 2, 1) := by decide +kernel
theorem dX7_spreads_128 : decode cX7_spreads 128 = .ok (.invokevirtual 187, 3) := by decide +kernel
theorem dX7_spreads_131 : decode cX7_spreads 131 = .ok (.iconst 1, 1) := by decide +kernel
theorem dX7_spreads_132 : decode cX7_spreads 132 = .ok (.if_icmp .ne 7, 3) := by decide +kernel
theorem dX7_spreads_135 : decode cX7_spreads 135 = .ok (.iconst 1, 1) := by decide +kernel
theorem dX7_spreads_136 : decode cX7_spreads 136 = .ok (.goto 4, 3) := by decide +kernel
theorem dX7_spreads_139 : decode cX7_spreads 139 = .ok (.iconst 0, 1) := by decide +kernel
theorem dX7_spreads_140 : decode cX7_spreads 140 = .ok (.invokevirtual 200, 3) := by decide +kernel
theorem dX7_spreads_143 : decode cX7_spreads 143 = .ok (.dup2, 1) := by decide +kernel
theorem dX7_spreads_144 : decode cX7_spreads 144 = .ok (.laload, 1) := by decide +kernel
theorem dX7_spreads_145 : decode cX7_spreads 145 = .ok (.aload_n 0, 1) := by decide +kernel
theorem dX7_spreads_146 : decode cX7_spreads 146 = .ok (.getfield 38, 3) := by decide +kernel
theorem dX7_spreads_149 : decode cX7_spreads 149 = .ok (.iload 6, 2) := by decide +kernel
theorem dX7_spreads_151 : decode cX7_spreads 151 = .ok (.laload, 1) := by decide +kernel
theorem dX7_spreads_152 : decode cX7_spreads 152 = .ok (.iload_n 3, 1) := by decide +kernel
theorem dX7_spreads_153 : decode cX7_spreads 153 = .ok (.i2l, 1) := by decide +kernel
theorem dX7_spreads_154 : decode cX7_spreads 154 = .ok (.lmul, 1) := by decide +kernel
theorem dX7_spreads_155 : decode cX7_spreads 155 = .ok (.ladd, 1) := by decide +kernel
theorem dX7_spreads_156 : decode cX7_spreads 156 = .ok (.lastore, 1) := by decide +kernel
theorem dX7_spreads_157 : decode cX7_spreads 157 = .ok (.iinc 6 1, 3) := by decide +kernel
theorem dX7_spreads_160 : decode cX7_spreads 160 = .ok (.goto (-103), 3) := by decide +kernel
theorem dX7_spreads_163 : decode cX7_spreads 163 = .ok (.iconst 0, 1) := by decide +kernel
theorem dX7_spreads_164 : decode cX7_spreads 164 = .ok (.istore 6, 2) := by decide +kernel
theorem dX7_spreads_166 : decode cX7_spreads 166 = .ok (.iload 6, 2) := by decide +kernel
theorem dX7_spreads_168 : decode cX7_spreads 168 = .ok (.bipush 8, 2) := by decide +kernel
theorem dX7_spreads_170 : decode cX7_spreads 170 = .ok (.if_icmp .ge 23, 3) := by decide +kernel
theorem dX7_spreads_173 : decode cX7_spreads 173 = .ok (.aload_n 0, 1) := by decide +kernel
theorem dX7_spreads_174 : decode cX7_spreads 174 = .ok (.getfield 38, 3) := by decide +kernel
theorem dX7_spreads_177 : decode cX7_spreads 177 = .ok (.iload 6, 2) := by decide +kernel
theorem dX7_spreads_179 : decode cX7_spreads 179 = .ok (.aload_n 0, 1) := by decide +kernel
theorem dX7_spreads_180 : decode cX7_spreads 180 = .ok (.getfield 42, 3) := by decide +kernel
theorem dX7_spreads_183 : decode cX7_spreads 183 = .ok (.iload 6, 2) := by decide +kernel
theorem dX7_spreads_185 : decode cX7_spreads 185 = .ok (.laload, 1) := by decide +kernel
theorem dX7_spreads_186 : decode cX7_spreads 186 = .ok (.lastore, 1) := by decide +kernel
theorem dX7_spreads_187 : decode cX7_spreads 187 = .ok (.iinc 6 1, 3) := by decide +kernel
theorem dX7_spreads_190 : decode cX7_spreads 190 = .ok (.goto (-24), 3) := by decide +kernel
theorem dX7_spreads_193 : decode cX7_spreads 193 = .ok (.return_, 1) := by decide +kernel
theorem dX7_luck_0 : decode cX7_luck 0 = .ok (.aload_n 0, 1) := by decide +kernel
theorem dX7_luck_1 : decode cX7_luck 1 = .ok (.iload_n 1, 1) := by decide +kernel
theorem dX7_luck_2 : decode cX7_luck 2 = .ok (.invokevirtual 216, 3) := by decide +kernel
theorem dX7_luck_5 : decode cX7_luck 5 = .ok (.ifCond .eq 31, 3) := by decide +kernel
theorem dX7_luck_8 : decode cX7_luck 8 = .ok (.iload_n 2, 1) := by decide +kernel
theorem dX7_luck_9 : decode cX7_luck 9 = .ok (.i2l, 1) := by decide +kernel
theorem dX7_luck_10 : decode cX7_luck 10 = .ok (.lconst 0, 1) := by decide +kernel
theorem dX7_luck_11 : decode cX7_luck 11 = .ok (.ldc2_w 248, 3) := by decide +kernel
theorem dX7_luck_14 : decode cX7_luck 14 = .ok (.invokestatic 84, 3) := by decide +kernel
theorem dX7_luck_17 : decode cX7_luck 17 = .ok (.ifCond .eq 19, 3) := by decide +kernel
theorem dX7_luck_20 : decode cX7_luck 20 = .ok (.aload_n 0, 1) := by decide +kernel
theorem dX7_luck_21 : decode cX7_luck 21 = .ok (.iload_n 3, 1) := by decide +kernel
theorem dX7_luck_22 : decode cX7_luck 22 = .ok (.invokevirtual 210, 3) := by decide +kernel
theorem dX7_luck_25 : decode cX7_luck 25 = .ok (.ifCond .eq 11, 3) := by decide +kernel
theorem dX7_luck_28 : decode cX7_luck 28 = .ok (.iload 4, 2) := by decide +kernel
theorem dX7_luck_30 : decode cX7_luck 30 = .ok (.invokestatic 213, 3) := by decide +kernel
theorem dX7_luck_33 : decode cX7_luck 33 = .ok (.ifCond .ne 7, 3) := by decide +kernel
theorem dX7_luck_36 : decode cX7_luck 36 = .ok (.ldc2_w 283, 3) := by decide +kernel
theorem dX7_luck_39 : decode cX7_luck 39 = .ok (.lreturn, 1) := by decide +kernel
theorem dX7_luck_40 : decode cX7_luck 40 = .ok (.aload_n 0, 1) := by decide +kernel
theorem dX7_luck_41 : decode cX7_luck 41 = .ok (.invokevirtual 219, 3) := by decide +kernel
theorem dX7_luck_44 : decode cX7_luck 44 = .ok (.lconst 1, 1) := by decide +kernel
theorem dX7_luck_45 : decode cX7_luck 45 = .ok (.lstore 5, 2) := by decide +kernel
theorem dX7_luck_47 : decode cX7_luck 47 = .ok (.iconst 0, 1) := by decide +kernel
theorem dX7_luck_48 : decode cX7_luck 48 = .ok (.istore 7, 2) := by decide +kernel
theorem dX7_luck_50 : decode cX7_luck 50 = .ok (.iload 7, 2) := by decide +kernel
theorem dX7_luck_52 : decode cX7_luck 52 = .ok (.bipush 8, 2) := by decide +kernel
theorem dX7_luck_54 : decode cX7_luck 54 = .ok (.if_icmp .ge 36, 3) := by decide +kernel
theorem dX7_luck_57 : decode cX7_luck 57 = .ok (.aload_n 0, 1) := by decide +kernel
theorem dX7_luck_58 : decode cX7_luck 58 = .ok (.getfield 38, 3) := by decide +kernel
theorem dX7_luck_61 : decode cX7_luck 61 = .ok (.iload 7, 2) := by decide +kernel
theorem dX7_luck_63 : decode cX7_luck 63 = .ok (.iload 7, 2) := by decide +kernel
theorem dX7_luck_65 : decode cX7_luck 65 = .ok (.aload_n 0, 1) := by decide +kernel
theorem dX7_luck_66 : decode cX7_luck 66 = .ok (.iload_n 1, 1) := by decide +kernel
theorem dX7_luck_67 : decode cX7_luck 67 = .ok (.iconst 0, 1) := by decide +kernel
theorem dX7_luck_68 : decode cX7_luck 68 = .ok (.invokevirtual 187, 3) := by decide +kernel
theorem dX7_luck_71 : decode cX7_luck 71 = .ok (.if_icmp .ne 7, 3) := by decide +kernel
theorem dX7_luck_74 : decode cX7_luck 74 = .ok (.iconst 1, 1) := by decide +kernel
theorem dX7_luck_75 : decode cX7_luck 75 = .ok (.goto 4, 3) := by decide +kernel
theorem dX7_luck_78 : decode cX7_luck 78 = .ok (.iconst 0, 1) := by decide +kernel
theorem dX7_luck_79 : decode cX7_luck 79 = .ok (.invokestatic 147, 3) := by decide +kernel
theorem dX7_luck_82 : decode cX7_luck 82 = .ok (.i2l, 1) := by decide +kernel
theorem dX7_luck_83 : decode cX7_luck 83 = .ok (.lastore, 1) := by decide +kernel
theorem dX7_luck_84 : decode cX7_luck 84 = .ok (.iinc 7 1, 3) := by decide +kernel
theorem dX7_luck_87 : decode cX7_luck 87 = .ok (.goto (-37), 3) := by decide +kernel
theorem dX7_luck_90 : decode cX7_luck 90 = .ok (.aload_n 0, 1) := by decide +kernel
theorem dX7_luck_91 : decode cX7_luck 91 = .ok (.iload_n 1, 1) := by decide +kernel
theorem dX7_luck_92 : decode cX7_luck 92 = .ok (.iconst 5, 1) := by decide +kernel
theorem dX7_luck_93 : decode cX7_luck 93 = .ok (.invokevirtual 187, 3) := by decide +kernel
theorem dX7_luck_96 : decode cX7_luck 96 = .ok (.istore 7, 2) := by decide +kernel
theorem dX7_luck_98 : decode cX7_luck 98 = .ok (.iload 7, 2) := by decide +kernel
theorem dX7_luck_100 : decode cX7_luck 100 = .ok (.aload_n 0, 1) := by decide +kernel
theorem dX7_luck_101 : decode cX7_luck 101 = .ok (.iload_n 1, 1) := by decide +kernel
theorem dX7_luck_102 : decode cX7_luck 102 = .ok (.iconst 3, 1) := by decide +kernel
theorem dX7_luck_103 : decode cX7_luck 103 = .ok (.invokevirtual 187, 3) := by decide +kernel
theorem dX7_luck_106 : decode cX7_luck 106 = .ok (.if_icmp .ge 25, 3) := by decide +kernel
theorem dX7_luck_109 : decode cX7_luck 109 = .ok (.aload_n 0, 1) := by decide +kernel
theorem dX7_luck_110 : decode cX7_luck 110 = .ok (.iload_n 1, 1) := by decide +kernel
theorem dX7_luck_111 : decode cX7_luck 111 = .ok (.iload 7, 2) := by decide +kernel
theorem dX7_luck_113 : decode cX7_luck 113 = .ok (.iload_n 2, 1) := by decide +kernel
theorem dX7_luck_114 : decode cX7_luck 114 = .ok (.invokevirtual 285, 3) := by decide +kernel
theorem dX7_luck_117 : decode cX7_luck 117 = .ok (.lload 5, 2) := by decide +kernel
theorem dX7_luck_119 : decode cX7_luck 119 = .ok (.ldc2_w 248, 3) := by decide +kernel
theorem dX7_luck_122 : decode cX7_luck 122 = .ok (.lmul, 1) := by decide +kernel
theorem dX7_luck_123 : decode cX7_luck 123 = .ok (.lstore 5, 2) := by decide +kernel
theorem dX7_luck_125 : decode cX7_luck 125 = .ok (.iinc 7 1, 3) := by decide +kernel
theorem dX7_luck_128 : decode cX7_luck 128 = .ok (.goto (-30), 3) := by decide +kernel
theorem dX7_luck_131 : decode cX7_luck 131 = .ok (.lload 5, 2) := by decide +kernel
theorem dX7_luck_133 : decode cX7_luck 133 = .ok (.aload_n 0, 1) := by decide +kernel
theorem dX7_luck_134 : decode cX7_luck 134 = .ok (.getfield 38, 3) := by decide +kernel
theorem dX7_luck_137 : decode cX7_luck 137 = .ok (.iload_n 3, 1) := by decide +kernel
theorem dX7_luck_138 : decode cX7_luck 138 = .ok (.laload, 1) := by decide +kernel
theorem dX7_luck_139 : decode cX7_luck 139 = .ok (.invokestatic 288, 3) := by decide +kernel
theorem dX7_luck_142 : decode cX7_luck 142 = .ok (.lstore 7, 2) := by decide +kernel
theorem dX7_luck_144 : decode cX7_luck 144 = .ok (.iload 4, 2) := by decide +kernel
theorem dX7_luck_146 : decode cX7_luck 146 = .ok (.ifCond .ne 15, 3) := by decide +kernel
theorem dX7_luck_149 : decode cX7_luck 149 = .ok (.aload_n 0, 1) := by decide +kernel
theorem dX7_luck_150 : decode cX7_luck 150 = .ok (.getfield 38, 3) := by decide +kernel
theorem dX7_luck_153 : decode cX7_luck 153 = .ok (.iload_n 3, 1) := by decide +kernel
theorem dX7_luck_154 : decode cX7_luck 154 = .ok (.laload, 1) := by decide +kernel
theorem dX7_luck_155 : decode cX7_luck 155 = .ok (.lload 7, 2) := by decide +kernel
theorem dX7_luck_157 : decode cX7_luck 157 = .ok (.ldiv, 1) := by decide +kernel
theorem dX7_luck_158 : decode cX7_luck 158 = .ok (.goto 8, 3) := by decide +kernel
theorem dX7_luck_161 : decode cX7_luck 161 = .ok (.lload 5, 2) := by decide +kernel
theorem dX7_luck_163 : decode cX7_luck 163 = .ok (.lload 7, 2) := by decide +kernel
theorem dX7_luck_165 : decode cX7_luck 165 = .ok (.ldiv, 1) := by decide +kernel
theorem dX7_luck_166 : decode cX7_luck 166 = .ok (.lreturn, 1) := by decide +kernel
theorem dX7_see_0 : decode cX7_see 0 = .ok (.aload_n 0, 1) := by decide +kernel
theorem dX7_see_1 : decode cX7_see 1 = .ok (.iload_n 1, 1) := by decide +kernel
theorem dX7_see_2 : decode cX7_see 2 = .ok (.invokevirtual 216, 3) := by decide +kernel
theorem dX7_see_5 : decode cX7_see 5 = .ok (.ifCond .eq 23, 3) := by decide +kernel
theorem dX7_see_8 : decode cX7_see 8 = .ok (.iload_n 2, 1) := by decide +kernel
theorem dX7_see_9 : decode cX7_see 9 = .ok (.i2l, 1) := by decide +kernel
theorem dX7_see_10 : decode cX7_see 10 = .ok (.lconst 0, 1) := by decide +kernel
theorem dX7_see_11 : decode cX7_see 11 = .ok (.ldc2_w 248, 3) := by decide +kernel
theorem dX7_see_14 : decode cX7_see 14 = .ok (.invokestatic 84, 3) := by decide +kernel
theorem dX7_see_17 : decode cX7_see 17 = .ok (.ifCond .eq 11, 3) := by decide +kernel
theorem dX7_see_20 : decode cX7_see 20 = .ok (.aload_n 0, 1) := by decide +kernel
theorem dX7_see_21 : decode cX7_see 21 = .ok (.iload_n 3, 1) := by decide +kernel
theorem dX7_see_22 : decode cX7_see 22 = .ok (.invokevirtual 210, 3) := by decide +kernel
theorem dX7_see_25 : decode cX7_see 25 = .ok (.ifCond .ne 5, 3) := by decide +kernel
theorem dX7_see_28 : decode cX7_see 28 = .ok (.iconst (-1), 1) := by decide +kernel
theorem dX7_see_29 : decode cX7_see 29 = .ok (.ireturn, 1) := by decide +kernel
theorem dX7_see_30 : decode cX7_see 30 = .ok (.aload_n 0, 1) := by decide +kernel
theorem dX7_see_31 : decode cX7_see 31 = .ok (.getfield 7, 3) := by decide +kernel
theorem dX7_see_34 : decode cX7_see 34 = .ok (.bipush 47, 2) := by decide +kernel
theorem dX7_see_36 : decode cX7_see 36 = .ok (.iaload, 1) := by decide +kernel
theorem dX7_see_37 : decode cX7_see 37 = .ok (.bipush 8, 2) := by decide +kernel
theorem dX7_see_39 : decode cX7_see 39 = .ok (.if_icmp .ne 6, 3) := by decide +kernel
theorem dX7_see_42 : decode cX7_see 42 = .ok (.bipush (-3), 2) := by decide +kernel
theorem dX7_see_44 : decode cX7_see 44 = .ok (.ireturn, 1) := by decide +kernel
theorem dX7_see_45 : decode cX7_see 45 = .ok (.bipush 48, 2) := by decide +kernel
theorem dX7_see_47 : decode cX7_see 47 = .ok (.iconst 4, 1) := by decide +kernel
theorem dX7_see_48 : decode cX7_see 48 = .ok (.aload_n 0, 1) := by decide +kernel
theorem dX7_see_49 : decode cX7_see 49 = .ok (.getfield 7, 3) := by decide +kernel
theorem dX7_see_52 : decode cX7_see 52 = .ok (.bipush 47, 2) := by decide +kernel
theorem dX7_see_54 : decode cX7_see 54 = .ok (.iaload, 1) := by decide +kernel
theorem dX7_see_55 : decode cX7_see 55 = .ok (.imul, 1) := by decide +kernel
theorem dX7_see_56 : decode cX7_see 56 = .ok (.iadd, 1) := by decide +kernel
theorem dX7_see_57 : decode cX7_see 57 = .ok (.istore 5, 2) := by decide +kernel
theorem dX7_see_59 : decode cX7_see 59 = .ok (.aload_n 0, 1) := by decide +kernel
theorem dX7_see_60 : decode cX7_see 60 = .ok (.getfield 7, 3) := by decide +kernel
theorem dX7_see_63 : decode cX7_see 63 = .ok (.iload 5, 2) := by decide +kernel
theorem dX7_see_65 : decode cX7_see 65 = .ok (.iload_n 1, 1) := by decide +kernel
theorem dX7_see_66 : decode cX7_see 66 = .ok (.iastore, 1) := by decide +kernel
theorem dX7_see_67 : decode cX7_see 67 = .ok (.aload_n 0, 1) := by decide +kernel
theorem dX7_see_68 : decode cX7_see 68 = .ok (.getfield 7, 3) := by decide +kernel
theorem dX7_see_71 : decode cX7_see 71 = .ok (.iload 5, 2) := by decide +kernel
theorem dX7_see_73 : decode cX7_see 73 = .ok (.iconst 1, 1) := by decide +kernel
theorem dX7_see_74 : decode cX7_see 74 = .ok (.iadd, 1) := by decide +kernel
theorem dX7_see_75 : decode cX7_see 75 = .ok (.iload_n 2, 1) := by decide +kernel
theorem dX7_see_76 : decode cX7_see 76 = .ok (.iastore, 1) := by decide +kernel
theorem dX7_see_77 : decode cX7_see 77 = .ok (.aload_n 0, 1) := by decide +kernel
theorem dX7_see_78 : decode cX7_see 78 = .ok (.getfield 7, 3) := by decide +kernel
theorem dX7_see_81 : decode cX7_see 81 = .ok (.iload 5, 2) := by decide +kernel
theorem dX7_see_83 : decode cX7_see 83 = .ok (.iconst 2, 1) := by decide +kernel
theorem dX7_see_84 : decode cX7_see 84 = .ok (.iadd, 1) := by decide +kernel
theorem dX7_see_85 : decode cX7_see 85 = .ok (.iload_n 3, 1) := by decide +kernel
theorem dX7_see_86 : decode cX7_see 86 = .ok (.iastore, 1) := by decide +kernel
theorem dX7_see_87 : decode cX7_see 87 = .ok (.aload_n 0, 1) := by decide +kernel
theorem dX7_see_88 : decode cX7_see 88 = .ok (.getfield 7, 3) := by decide +kernel
theorem dX7_see_91 : decode cX7_see 91 = .ok (.iload 5, 2) := by decide +kernel
theorem dX7_see_93 : decode cX7_see 93 = .ok (.iconst 3, 1) := by decide +kernel
theorem dX7_see_94 : decode cX7_see 94 = .ok (.iadd, 1) := by decide +kernel
theorem dX7_see_95 : decode cX7_see 95 = .ok (.iload 4, 2) := by decide +kernel
theorem dX7_see_97 : decode cX7_see 97 = .ok (.invokestatic 147, 3) := by decide +kernel
theorem dX7_see_100 : decode cX7_see 100 = .ok (.iastore, 1) := by decide +kernel
theorem dX7_see_101 : decode cX7_see 101 = .ok (.aload_n 0, 1) := by decide +kernel
theorem dX7_see_102 : decode cX7_see 102 = .ok (.getfield 7, 3) := by decide +kernel
theorem dX7_see_105 : decode cX7_see 105 = .ok (.bipush 47, 2) := by decide +kernel
theorem dX7_see_107 : decode cX7_see 107 = .ok (.dup2, 1) := by decide +kernel
theorem dX7_see_108 : decode cX7_see 108 = .ok (.iaload, 1) := by decide +kernel
theorem dX7_see_109 : decode cX7_see 109 = .ok (.iconst 1, 1) := by decide +kernel
theorem dX7_see_110 : decode cX7_see 110 = .ok (.iadd, 1) := by decide +kernel
theorem dX7_see_111 : decode cX7_see 111 = .ok (.iastore, 1) := by decide +kernel
theorem dX7_see_112 : decode cX7_see 112 = .ok (.aload_n 0, 1) := by decide +kernel
theorem dX7_see_113 : decode cX7_see 113 = .ok (.getfield 7, 3) := by decide +kernel
theorem dX7_see_116 : decode cX7_see 116 = .ok (.bipush 47, 2) := by decide +kernel
theorem dX7_see_118 : decode cX7_see 118 = .ok (.iaload, 1) := by decide +kernel
theorem dX7_see_119 : decode cX7_see 119 = .ok (.ireturn, 1) := by decide +kernel
theorem dX7_forget_0 : decode cX7_forget 0 = .ok (.iload_n 1, 1) := by decide +kernel
theorem dX7_forget_1 : decode cX7_forget 1 = .ok (.i2l, 1) := by decide +kernel
theorem dX7_forget_2 : decode cX7_forget 2 = .ok (.lconst 0, 1) := by decide +kernel
theorem dX7_forget_3 : decode cX7_forget 3 = .ok (.aload_n 0, 1) := by decide +kernel
theorem dX7_forget_4 : decode cX7_forget 4 = .ok (.getfield 7, 3) := by decide +kernel
theorem dX7_forget_7 : decode cX7_forget 7 = .ok (.bipush 47, 2) := by decide +kernel
theorem dX7_forget_9 : decode cX7_forget 9 = .ok (.iaload, 1) := by decide +kernel
theorem dX7_forget_10 : decode cX7_forget 10 = .ok (.i2l, 1) := by decide +kernel
theorem dX7_forget_11 : decode cX7_forget 11 = .ok (.invokestatic 84, 3) := by decide +kernel
theorem dX7_forget_14 : decode cX7_forget 14 = .ok (.ifCond .eq 13, 3) := by decide +kernel
theorem dX7_forget_17 : decode cX7_forget 17 = .ok (.aload_n 0, 1) := by decide +kernel
theorem dX7_forget_18 : decode cX7_forget 18 = .ok (.bipush 47, 2) := by decide +kernel
theorem dX7_forget_20 : decode cX7_forget 20 = .ok (.iload_n 1, 1) := by decide +kernel
theorem dX7_forget_21 : decode cX7_forget 21 = .ok (.invokevirtual 228, 3) := by decide +kernel
theorem dX7_forget_24 : decode cX7_forget 24 = .ok (.goto 4, 3) := by decide +kernel
theorem dX7_forget_27 : decode cX7_forget 27 = .ok (.iconst (-1), 1) := by decide +kernel
theorem dX7_forget_28 : decode cX7_forget 28 = .ok (.ireturn, 1) := by decide +kernel
theorem dX7_fitsFrom_0 : decode cX7_fitsFrom 0 = .ok (.iconst 1, 1) := by decide +kernel
theorem dX7_fitsFrom_1 : decode cX7_fitsFrom 1 = .ok (.istore 4, 2) := by decide +kernel
theorem dX7_fitsFrom_3 : decode cX7_fitsFrom 3 = .ok (.aload_n 0, 1) := by decide +kernel
theorem dX7_fitsFrom_4 : decode cX7_fitsFrom 4 = .ok (.invokevirtual 219, 3) := by decide +kernel
theorem dX7_fitsFrom_7 : decode cX7_fitsFrom 7 = .ok (.aload_n 0, 1) := by decide +kernel
theorem dX7_fitsFrom_8 : decode cX7_fitsFrom 8 = .ok (.iload_n 1, 1) := by decide +kernel
theorem dX7_fitsFrom_9 : decode cX7_fitsFrom 9 = .ok (.iconst 0, 1) := by decide +kernel
theorem dX7_fitsFrom_10 : decode cX7_fitsFrom 10 = .ok (.iload_n 2, 1) := by decide +kernel
theorem dX7_fitsFrom_11 : decode cX7_fitsFrom 11 = .ok (.invokevirtual 193, 3) := by decide +kernel
theorem dX7_fitsFrom_14 : decode cX7_fitsFrom 14 = .ok (.aload_n 0, 1) := by decide +kernel
theorem dX7_fitsFrom_15 : decode cX7_fitsFrom 15 = .ok (.iload_n 1, 1) := by decide +kernel
theorem dX7_fitsFrom_16 : decode cX7_fitsFrom 16 = .ok (.iconst 2, 1) := by decide +kernel
theorem dX7_fitsFrom_17 : decode cX7_fitsFrom 17 = .ok (.iload_n 3, 1) := by decide +kernel
theorem dX7_fitsFrom_18 : decode cX7_fitsFrom 18 = .ok (.invokevirtual 193, 3) := by decide +kernel
theorem dX7_fitsFrom_21 : decode cX7_fitsFrom 21 = .ok (.iconst 0, 1) := by decide +kernel
theorem dX7_fitsFrom_22 : decode cX7_fitsFrom 22 = .ok (.istore 5, 2) := by decide +kernel
theorem dX7_fitsFrom_24 : decode cX7_fitsFrom 24 = .ok (.iload 5, 2) := by decide +kernel
theorem dX7_fitsFrom_26 : decode cX7_fitsFrom 26 = .ok (.bipush 10, 2) := by decide +kernel
theorem dX7_fitsFrom_28 : decode cX7_fitsFrom 28 = .ok (.if_icmp .gt 119, 3) := by decide +kernel
theorem dX7_fitsFrom_31 : decode cX7_fitsFrom 31 = .ok (.iconst 0, 1) := by decide +kernel
theorem dX7_fitsFrom_32 : decode cX7_fitsFrom 32 = .ok (.istore 6, 2) := by decide +kernel
theorem dX7_fitsFrom_34 : decode cX7_fitsFrom 34 = .ok (.iload 6, 2) := by decide +kernel
theorem dX7_fitsFrom_36 : decode cX7_fitsFrom 36 = .ok (.aload_n 0, 1) := by decide +kernel
theorem dX7_fitsFrom_37 : decode cX7_fitsFrom 37 = .ok (.getfield 7, 3) := by decide +kernel
theorem dX7_fitsFrom_40 : decode cX7_fitsFrom 40 = .ok (.bipush 47, 2) := by decide +kernel
theorem dX7_fitsFrom_42 : decode cX7_fitsFrom 42 = .ok (.iaload, 1) := by decide +kernel
theorem dX7_fitsFrom_43 : decode cX7_fitsFrom 43 = .ok (.if_icmp .ge 93, 3) := by decide +kernel
theorem dX7_fitsFrom_46 : decode cX7_fitsFrom 46 = .ok (.bipush 48, 2) := by decide +kernel
theorem dX7_fitsFrom_48 : decode cX7_fitsFrom 48 = .ok (.iconst 4, 1) := by decide +kernel
theorem dX7_fitsFrom_49 : decode cX7_fitsFrom 49 = .ok (.iload 6, 2) := by decide +kernel
theorem dX7_fitsFrom_51 : decode cX7_fitsFrom 51 = .ok (.imul, 1) := by decide +kernel
theorem dX7_fitsFrom_52 : decode cX7_fitsFrom 52 = .ok (.iadd, 1) := by decide +kernel
theorem dX7_fitsFrom_53 : decode cX7_fitsFrom 53 = .ok (.istore 7, 2) := by decide +kernel
theorem dX7_fitsFrom_55 : decode cX7_fitsFrom 55 = .ok (.iload 4, 2) := by decide +kernel
theorem dX7_fitsFrom_57 : decode cX7_fitsFrom 57 = .ok (.ifCond .eq 70, 3) := by decide +kernel
theorem dX7_fitsFrom_60 : decode cX7_fitsFrom 60 = .ok (.aload_n 0, 1) := by decide +kernel
theorem dX7_fitsFrom_61 : decode cX7_fitsFrom 61 = .ok (.getfield 7, 3) := by decide +kernel
theorem dX7_fitsFrom_64 : decode cX7_fitsFrom 64 = .ok (.iload 7, 2) := by decide +kernel
theorem dX7_fitsFrom_66 : decode cX7_fitsFrom 66 = .ok (.iaload, 1) := by decide +kernel
theorem dX7_fitsFrom_67 : decode cX7_fitsFrom 67 = .ok (.iload_n 1, 1) := by decide +kernel
theorem dX7_fitsFrom_68 : decode cX7_fitsFrom 68 = .ok (.if_icmp .ne 55, 3) := by decide +kernel
theorem dX7_fitsFrom_71 : decode cX7_fitsFrom 71 = .ok (.aload_n 0, 1) := by decide +kernel
theorem dX7_fitsFrom_72 : decode cX7_fitsFrom 72 = .ok (.getfield 7, 3) := by decide +kernel
theorem dX7_fitsFrom_75 : decode cX7_fitsFrom 75 = .ok (.iload 7, 2) := by decide +kernel
theorem dX7_fitsFrom_77 : decode cX7_fitsFrom 77 = .ok (.iconst 1, 1) := by decide +kernel
theorem dX7_fitsFrom_78 : decode cX7_fitsFrom 78 = .ok (.iadd, 1) := by decide +kernel
theorem dX7_fitsFrom_79 : decode cX7_fitsFrom 79 = .ok (.iaload, 1) := by decide +kernel
theorem dX7_fitsFrom_80 : decode cX7_fitsFrom 80 = .ok (.iload 5, 2) := by decide +kernel
theorem dX7_fitsFrom_82 : decode cX7_fitsFrom 82 = .ok (.if_icmp .ne 41, 3) := by decide +kernel
theorem dX7_fitsFrom_85 : decode cX7_fitsFrom 85 = .ok (.aload_n 0, 1) := by decide +kernel
theorem dX7_fitsFrom_86 : decode cX7_fitsFrom 86 = .ok (.iload_n 1, 1) := by decide +kernel
theorem dX7_fitsFrom_87 : decode cX7_fitsFrom 87 = .ok (.iconst 0, 1) := by decide +kernel
theorem dX7_fitsFrom_88 : decode cX7_fitsFrom 88 = .ok (.invokevirtual 187, 3) := by decide +kernel
theorem dX7_fitsFrom_91 : decode cX7_fitsFrom 91 = .ok (.aload_n 0, 1) := by decide +kernel
theorem dX7_fitsFrom_92 : decode cX7_fitsFrom 92 = .ok (.getfield 7, 3) := by decide +kernel
theorem dX7_fitsFrom_95 : decode cX7_fitsFrom 95 = .ok (.iload 7, 2) := by decide +kernel
theorem dX7_fitsFrom_97 : decode cX7_fitsFrom 97 = .ok (.iconst 2, 1) := by decide +kernel
theorem dX7_fitsFrom_98 : decode cX7_fitsFrom 98 = .ok (.iadd, 1) := by decide +kernel
theorem dX7_fitsFrom_99 : decode cX7_fitsFrom 99 = .ok (.iaload, 1) := by decide +kernel
theorem dX7_fitsFrom_100 : decode cX7_fitsFrom 100 = .ok (.if_icmp .ne 7, 3) := by decide +kernel
theorem dX7_fitsFrom_103 : decode cX7_fitsFrom 103 = .ok (.iconst 1, 1) := by decide +kernel
theorem dX7_fitsFrom_104 : decode cX7_fitsFrom 104 = .ok (.goto 4, 3) := by decide +kernel
theorem dX7_fitsFrom_107 : decode cX7_fitsFrom 107 = .ok (.iconst 0, 1) := by decide +kernel
theorem dX7_fitsFrom_108 : decode cX7_fitsFrom 108 = .ok (.invokestatic 147, 3) := by decide +kernel
theorem dX7_fitsFrom_111 : decode cX7_fitsFrom 111 = .ok (.aload_n 0, 1) := by decide +kernel
theorem dX7_fitsFrom_112 : decode cX7_fitsFrom 112 = .ok (.getfield 7, 3) := by decide +kernel
theorem dX7_fitsFrom_115 : decode cX7_fitsFrom 115 = .ok (.iload 7, 2) := by decide +kernel
theorem dX7_fitsFrom_117 : decode cX7_fitsFrom 117 = .ok (.iconst 3, 1) := by decide +kernel
theorem dX7_fitsFrom_118 : decode cX7_fitsFrom 118 = .ok (.iadd, 1) := by decide +kernel
theorem dX7_fitsFrom_119 : decode cX7_fitsFrom 119 = .ok (.iaload, 1) := by decide +kernel
theorem dX7_fitsFrom_120 : decode cX7_fitsFrom 120 = .ok (.if_icmp .ne 7, 3) := by decide +kernel
theorem dX7_fitsFrom_123 : decode cX7_fitsFrom 123 = .ok (.iconst 1, 1) := by decide +kernel
theorem dX7_fitsFrom_124 : decode cX7_fitsFrom 124 = .ok (.goto 4, 3) := by decide +kernel
theorem dX7_fitsFrom_127 : decode cX7_fitsFrom 127 = .ok (.iconst 0, 1) := by decide +kernel
theorem dX7_fitsFrom_128 : decode cX7_fitsFrom 128 = .ok (.istore 4, 2) := by decide +kernel
theorem dX7_fitsFrom_130 : decode cX7_fitsFrom 130 = .ok (.iinc 6 1, 3) := by decide +kernel
theorem dX7_fitsFrom_133 : decode cX7_fitsFrom 133 = .ok (.goto (-99), 3) := by decide +kernel
theorem dX7_fitsFrom_136 : decode cX7_fitsFrom 136 = .ok (.aload_n 0, 1) := by decide +kernel
theorem dX7_fitsFrom_137 : decode cX7_fitsFrom 137 = .ok (.invokevirtual 237, 3) := by decide +kernel
theorem dX7_fitsFrom_140 : decode cX7_fitsFrom 140 = .ok (.pop, 1) := by decide +kernel
theorem dX7_fitsFrom_141 : decode cX7_fitsFrom 141 = .ok (.iinc 5 1, 3) := by decide +kernel
theorem dX7_fitsFrom_144 : decode cX7_fitsFrom 144 = .ok (.goto (-120), 3) := by decide +kernel
theorem dX7_fitsFrom_147 : decode cX7_fitsFrom 147 = .ok (.iload 4, 2) := by decide +kernel
theorem dX7_fitsFrom_149 : decode cX7_fitsFrom 149 = .ok (.ireturn, 1) := by decide +kernel
theorem dX7_fits_0 : decode cX7_fits 0 = .ok (.aload_n 0, 1) := by decide +kernel
theorem dX7_fits_1 : decode cX7_fits 1 = .ok (.iload_n 1, 1) := by decide +kernel
theorem dX7_fits_2 : decode cX7_fits 2 = .ok (.invokevirtual 216, 3) := by decide +kernel
theorem dX7_fits_5 : decode cX7_fits 5 = .ok (.ifCond .eq 10, 3) := by decide +kernel
theorem dX7_fits_8 : decode cX7_fits 8 = .ok (.iload_n 2, 1) := by decide +kernel
theorem dX7_fits_9 : decode cX7_fits 9 = .ok (.invokestatic 213, 3) := by decide +kernel
theorem dX7_fits_12 : decode cX7_fits 12 = .ok (.ifCond .ne 5, 3) := by decide +kernel
theorem dX7_fits_15 : decode cX7_fits 15 = .ok (.iconst (-1), 1) := by decide +kernel
theorem dX7_fits_16 : decode cX7_fits 16 = .ok (.ireturn, 1) := by decide +kernel
theorem dX7_fits_17 : decode cX7_fits 17 = .ok (.iconst 0, 1) := by decide +kernel
theorem dX7_fits_18 : decode cX7_fits 18 = .ok (.istore_n 3, 1) := by decide +kernel
theorem dX7_fits_19 : decode cX7_fits 19 = .ok (.iconst 0, 1) := by decide +kernel
theorem dX7_fits_20 : decode cX7_fits 20 = .ok (.istore 4, 2) := by decide +kernel
theorem dX7_fits_22 : decode cX7_fits 22 = .ok (.iload 4, 2) := by decide +kernel
theorem dX7_fits_24 : decode cX7_fits 24 = .ok (.aload_n 0, 1) := by decide +kernel
theorem dX7_fits_25 : decode cX7_fits 25 = .ok (.getfield 76, 3) := by decide +kernel
theorem dX7_fits_28 : decode cX7_fits 28 = .ok (.if_icmp .ge 26, 3) := by decide +kernel
theorem dX7_fits_31 : decode cX7_fits 31 = .ok (.iload_n 3, 1) := by decide +kernel
theorem dX7_fits_32 : decode cX7_fits 32 = .ok (.aload_n 0, 1) := by decide +kernel
theorem dX7_fits_33 : decode cX7_fits 33 = .ok (.iload_n 1, 1) := by decide +kernel
theorem dX7_fits_34 : decode cX7_fits 34 = .ok (.iload 4, 2) := by decide +kernel
theorem dX7_fits_36 : decode cX7_fits 36 = .ok (.iload_n 2, 1) := by decide +kernel
theorem dX7_fits_37 : decode cX7_fits 37 = .ok (.invokevirtual 292, 3) := by decide +kernel
theorem dX7_fits_40 : decode cX7_fits 40 = .ok (.invokestatic 147, 3) := by decide +kernel
theorem dX7_fits_43 : decode cX7_fits 43 = .ok (.iload 4, 2) := by decide +kernel
theorem dX7_fits_45 : decode cX7_fits 45 = .ok (.ishl, 1) := by decide +kernel
theorem dX7_fits_46 : decode cX7_fits 46 = .ok (.ior, 1) := by decide +kernel
theorem dX7_fits_47 : decode cX7_fits 47 = .ok (.istore_n 3, 1) := by decide +kernel
theorem dX7_fits_48 : decode cX7_fits 48 = .ok (.iinc 4 1, 3) := by decide +kernel
theorem dX7_fits_51 : decode cX7_fits 51 = .ok (.goto (-29), 3) := by decide +kernel
theorem dX7_fits_54 : decode cX7_fits 54 = .ok (.iload_n 3, 1) := by decide +kernel
theorem dX7_fits_55 : decode cX7_fits 55 = .ok (.ireturn, 1) := by decide +kernel
theorem dX7_drift_0 : decode cX7_drift 0 = .ok (.iload_n 2, 1) := by decide +kernel
theorem dX7_drift_1 : decode cX7_drift 1 = .ok (.i2l, 1) := by decide +kernel
theorem dX7_drift_2 : decode cX7_drift 2 = .ok (.lconst 1, 1) := by decide +kernel
theorem dX7_drift_3 : decode cX7_drift 3 = .ok (.ldc2_w 235, 3) := by decide +kernel
theorem dX7_drift_6 : decode cX7_drift 6 = .ok (.invokestatic 84, 3) := by decide +kernel
theorem dX7_drift_9 : decode cX7_drift 9 = .ok (.ifCond .eq 10, 3) := by decide +kernel
theorem dX7_drift_12 : decode cX7_drift 12 = .ok (.iload_n 3, 1) := by decide +kernel
theorem dX7_drift_13 : decode cX7_drift 13 = .ok (.invokestatic 213, 3) := by decide +kernel
theorem dX7_drift_16 : decode cX7_drift 16 = .ok (.ifCond .ne 5, 3) := by decide +kernel
theorem dX7_drift_19 : decode cX7_drift 19 = .ok (.iconst (-1), 1) := by decide +kernel
theorem dX7_drift_20 : decode cX7_drift 20 = .ok (.ireturn, 1) := by decide +kernel
theorem dX7_drift_21 : decode cX7_drift 21 = .ok (.iconst 0, 1) := by decide +kernel
theorem dX7_drift_22 : decode cX7_drift 22 = .ok (.istore 4, 2) := by decide +kernel
theorem dX7_drift_24 : decode cX7_drift 24 = .ok (.iconst 0, 1) := by decide +kernel
theorem dX7_drift_25 : decode cX7_drift 25 = .ok (.istore 5, 2) := by decide +kernel
theorem dX7_drift_27 : decode cX7_drift 27 = .ok (.iload_n 1, 1) := by decide +kernel
theorem dX7_drift_28 : decode cX7_drift 28 = .ok (.istore 6, 2) := by decide +kernel
theorem dX7_drift_30 : decode cX7_drift 30 = .ok (.aload_n 0, 1) := by decide +kernel
theorem dX7_drift_31 : decode cX7_drift 31 = .ok (.invokevirtual 219, 3) := by decide +kernel
theorem dX7_drift_34 : decode cX7_drift 34 = .ok (.iconst 0, 1) := by decide +kernel
theorem dX7_drift_35 : decode cX7_drift 35 = .ok (.istore 7, 2) := by decide +kernel
theorem dX7_drift_37 : decode cX7_drift 37 = .ok (.iload 7, 2) := by decide +kernel
theorem dX7_drift_39 : decode cX7_drift 39 = .ok (.iload_n 2, 1) := by decide +kernel
theorem dX7_drift_40 : decode cX7_drift 40 = .ok (.if_icmp .ge 142, 3) := by decide +kernel
theorem dX7_drift_43 : decode cX7_drift 43 = .ok (.iconst 0, 1) := by decide +kernel
theorem dX7_drift_44 : decode cX7_drift 44 = .ok (.istore 8, 2) := by decide +kernel
theorem dX7_drift_46 : decode cX7_drift 46 = .ok (.iload 8, 2) := by decide +kernel
theorem dX7_drift_48 : decode cX7_drift 48 = .ok (.aload_n 0, 1) := by decide +kernel
theorem dX7_drift_49 : decode cX7_drift 49 = .ok (.getfield 79, 3) := by decide +kernel
theorem dX7_drift_52 : decode cX7_drift 52 = .ok (.if_icmp .ge 115, 3) := by decide +kernel
theorem dX7_drift_55 : decode cX7_drift 55 = .ok (.iload 6, 2) := by decide +kernel
theorem dX7_drift_57 : decode cX7_drift 57 = .ok (.ldc_w 296, 3) := by decide +kernel
theorem dX7_drift_60 : decode cX7_drift 60 = .ok (.imul, 1) := by decide +kernel
theorem dX7_drift_61 : decode cX7_drift 61 = .ok (.sipush 12345, 3) := by decide +kernel
theorem dX7_drift_64 : decode cX7_drift 64 = .ok (.iadd, 1) := by decide +kernel
theorem dX7_drift_65 : decode cX7_drift 65 = .ok (.istore 6, 2) := by decide +kernel
theorem dX7_drift_67 : decode cX7_drift 67 = .ok (.iload 6, 2) := by decide +kernel
theorem dX7_drift_69 : decode cX7_drift 69 = .ok (.bipush 16, 2) := by decide +kernel
theorem dX7_drift_71 : decode cX7_drift 71 = .ok (.ishr, 1) := by decide +kernel
theorem dX7_drift_72 : decode cX7_drift 72 = .ok (.sipush 32767, 3) := by decide +kernel
theorem dX7_drift_75 : decode cX7_drift 75 = .ok (.iand, 1) := by decide +kernel
theorem dX7_drift_76 : decode cX7_drift 76 = .ok (.iconst 3, 1) := by decide +kernel
theorem dX7_drift_77 : decode cX7_drift 77 = .ok (.irem, 1) := by decide +kernel
theorem dX7_drift_78 : decode cX7_drift 78 = .ok (.istore 9, 2) := by decide +kernel
theorem dX7_drift_80 : decode cX7_drift 80 = .ok (.aload_n 0, 1) := by decide +kernel
theorem dX7_drift_81 : decode cX7_drift 81 = .ok (.getfield 32, 3) := by decide +kernel
theorem dX7_drift_84 : decode cX7_drift 84 = .ok (.iload 8, 2) := by decide +kernel
theorem dX7_drift_86 : decode cX7_drift 86 = .ok (.iload 9, 2) := by decide +kernel
theorem dX7_drift_88 : decode cX7_drift 88 = .ok (.iconst 2, 1) := by decide +kernel
theorem dX7_drift_89 : decode cX7_drift 89 = .ok (.if_icmp .ge 7, 3) := by decide +kernel
theorem dX7_drift_92 : decode cX7_drift 92 = .ok (.iconst 1, 1) := by decide +kernel
theorem dX7_drift_93 : decode cX7_drift 93 = .ok (.goto 4, 3) := by decide +kernel
theorem dX7_drift_96 : decode cX7_drift 96 = .ok (.iconst 0, 1) := by decide +kernel
theorem dX7_drift_97 : decode cX7_drift 97 = .ok (.bastore, 1) := by decide +kernel
theorem dX7_drift_98 : decode cX7_drift 98 = .ok (.aload_n 0, 1) := by decide +kernel
theorem dX7_drift_99 : decode cX7_drift 99 = .ok (.getfield 29, 3) := by decide +kernel
theorem dX7_drift_102 : decode cX7_drift 102 = .ok (.iload 8, 2) := by decide +kernel
theorem dX7_drift_104 : decode cX7_drift 104 = .ok (.aload_n 0, 1) := by decide +kernel
theorem dX7_drift_105 : decode cX7_drift 105 = .ok (.getfield 32, 3) := by decide +kernel
theorem dX7_drift_108 : decode cX7_drift 108 = .ok (.iload 8, 2) := by decide +kernel
theorem dX7_drift_110 : decode cX7_drift 110 = .ok (.baload, 1) := by decide +kernel
theorem dX7_drift_111 : decode cX7_drift 111 = .ok (.ifCond .eq 42, 3) := by decide +kernel
theorem dX7_drift_114 : decode cX7_drift 114 = .ok (.aload_n 0, 1) := by decide +kernel
theorem dX7_drift_115 : decode cX7_drift 115 = .ok (.aload_n 0, 1) := by decide +kernel
theorem dX7_drift_116 : decode cX7_drift 116 = .ok (.iload 8, 2) := by decide +kernel
theorem dX7_drift_118 : decode cX7_drift 118 = .ok (.iconst 0, 1) := by decide +kernel
theorem dX7_drift_119 : decode cX7_drift 119 = .ok (.invokevirtual 187, 3) := by decide +kernel
theorem dX7_drift_122 : decode cX7_drift 122 = .ok (.iload 9, 2) := by decide +kernel
theorem dX7_drift_124 : decode cX7_drift 124 = .ok (.aload_n 0, 1) := by decide +kernel
theorem dX7_drift_125 : decode cX7_drift 125 = .ok (.getfield 13, 3) := by decide +kernel
theorem dX7_drift_128 : decode cX7_drift 128 = .ok (.bipush 17, 2) := by decide +kernel
theorem dX7_drift_130 : decode cX7_drift 130 = .ok (.iaload, 1) := by decide +kernel
theorem dX7_drift_131 : decode cX7_drift 131 = .ok (.aload_n 0, 1) := by decide +kernel
theorem dX7_drift_132 : decode cX7_drift 132 = .ok (.iload 8, 2) := by decide +kernel
theorem dX7_drift_134 : decode cX7_drift 134 = .ok (.iconst 2, 1) := by decide +kernel
theorem dX7_drift_135 : decode cX7_drift 135 = .ok (.invokevirtual 187, 3) := by decide +kernel
theorem dX7_drift_138 : decode cX7_drift 138 = .ok (.iconst 1, 1) := by decide +kernel
theorem dX7_drift_139 : decode cX7_drift 139 = .ok (.if_icmp .ne 7, 3) := by decide +kernel
theorem dX7_drift_142 : decode cX7_drift 142 = .ok (.iconst 1, 1) := by decide +kernel
theorem dX7_drift_143 : decode cX7_drift 143 = .ok (.goto 4, 3) := by decide +kernel
theorem dX7_drift_146 : decode cX7_drift 146 = .ok (.iconst 0, 1) := by decide +kernel
theorem dX7_drift_147 : decode cX7_drift 147 = .ok (.invokevirtual 200, 3) := by decide +kernel
theorem dX7_drift_150 : decode cX7_drift 150 = .ok (.goto 10, 3) := by decide +kernel
theorem dX7_drift_153 : decode cX7_drift 153 = .ok (.aload_n 0, 1) := by decide +kernel
theorem dX7_drift_154 : decode cX7_drift 154 = .ok (.iload 8, 2) := by decide +kernel
theorem dX7_drift_156 : decode cX7_drift 156 = .ok (.iconst 0, 1) := by decide +kernel
theorem dX7_drift_157 : decode cX7_drift 157 = .ok (.invokevirtual 187, 3) := by decide +kernel
theorem dX7_drift_160 : decode cX7_drift 160 = .ok (.iastore, 1) := by decide +kernel
theorem dX7_drift_161 : decode cX7_drift 161 = .ok (.iinc 8 1, 3) := by decide +kernel
theorem dX7_drift_164 : decode cX7_drift 164 = .ok (.goto (-118), 3) := by decide +kernel
theorem dX7_drift_167 : decode cX7_drift 167 = .ok (.iload 4, 2) := by decide +kernel
theorem dX7_drift_169 : decode cX7_drift 169 = .ok (.aload_n 0, 1) := by decide +kernel
theorem dX7_drift_170 : decode cX7_drift 170 = .ok (.invokevirtual 207, 3) := by decide +kernel
theorem dX7_drift_173 : decode cX7_drift 173 = .ok (.iadd, 1) := by decide +kernel
theorem dX7_drift_174 : decode cX7_drift 174 = .ok (.istore 4, 2) := by decide +kernel
theorem dX7_drift_176 : decode cX7_drift 176 = .ok (.iinc 7 1, 3) := by decide +kernel
theorem dX7_drift_179 : decode cX7_drift 179 = .ok (.goto (-142), 3) := by decide +kernel
theorem dX7_drift_182 : decode cX7_drift 182 = .ok (.iconst 0, 1) := by decide +kernel
theorem dX7_drift_183 : decode cX7_drift 183 = .ok (.istore 7, 2) := by decide +kernel
theorem dX7_drift_185 : decode cX7_drift 185 = .ok (.iload 7, 2) := by decide +kernel
theorem dX7_drift_187 : decode cX7_drift 187 = .ok (.aload_n 0, 1) := by decide +kernel
theorem dX7_drift_188 : decode cX7_drift 188 = .ok (.getfield 79, 3) := by decide +kernel
theorem dX7_drift_191 : decode cX7_drift 191 = .ok (.if_icmp .ge 23, 3) := by decide +kernel
theorem dX7_drift_194 : decode cX7_drift 194 = .ok (.iload 5, 2) := by decide +kernel
theorem dX7_drift_196 : decode cX7_drift 196 = .ok (.iconst 1, 1) := by decide +kernel
theorem dX7_drift_197 : decode cX7_drift 197 = .ok (.aload_n 0, 1) := by decide +kernel
theorem dX7_drift_198 : decode cX7_drift 198 = .ok (.iload 7, 2) := by decide +kernel
theorem dX7_drift_200 : decode cX7_drift 200 = .ok (.iconst 0, 1) := by decide +kernel
theorem dX7_drift_201 : decode cX7_drift 201 = .ok (.invokevirtual 187, 3) := by decide +kernel
theorem dX7_drift_204 : decode cX7_drift 204 = .ok (.ishl, 1) := by decide +kernel
theorem dX7_drift_205 : decode cX7_drift 205 = .ok (.ior, 1) := by decide +kernel
theorem dX7_drift_206 : decode cX7_drift 206 = .ok (.istore 5, 2) := by decide +kernel
theorem dX7_drift_208 : decode cX7_drift 208 = .ok (.iinc 7 1, 3) := by decide +kernel
theorem dX7_drift_211 : decode cX7_drift 211 = .ok (.goto (-26), 3) := by decide +kernel
theorem dX7_drift_214 : decode cX7_drift 214 = .ok (.iload_n 3, 1) := by decide +kernel
theorem dX7_drift_215 : decode cX7_drift 215 = .ok (.ifCond .ne 8, 3) := by decide +kernel
theorem dX7_drift_218 : decode cX7_drift 218 = .ok (.iload 4, 2) := by decide +kernel
theorem dX7_drift_220 : decode cX7_drift 220 = .ok (.goto 5, 3) := by decide +kernel
theorem dX7_drift_223 : decode cX7_drift 223 = .ok (.iload 5, 2) := by decide +kernel
theorem dX7_drift_225 : decode cX7_drift 225 = .ok (.ireturn, 1) := by decide +kernel
theorem dX7_copies_0 : decode cX7_copies 0 = .ok (.iconst 0, 1) := by decide +kernel
theorem dX7_copies_1 : decode cX7_copies 1 = .ok (.istore_n 3, 1) := by decide +kernel
theorem dX7_copies_2 : decode cX7_copies 2 = .ok (.iload_n 3, 1) := by decide +kernel
theorem dX7_copies_3 : decode cX7_copies 3 = .ok (.bipush 80, 2) := by decide +kernel
theorem dX7_copies_5 : decode cX7_copies 5 = .ok (.if_icmp .ge 25, 3) := by decide +kernel
theorem dX7_copies_8 : decode cX7_copies 8 = .ok (.aload_n 0, 1) := by decide +kernel
theorem dX7_copies_9 : decode cX7_copies 9 = .ok (.getfield 7, 3) := by decide +kernel
theorem dX7_copies_12 : decode cX7_copies 12 = .ok (.iload_n 1, 1) := by decide +kernel
theorem dX7_copies_13 : decode cX7_copies 13 = .ok (.iload_n 3, 1) := by decide +kernel
theorem dX7_copies_14 : decode cX7_copies 14 = .ok (.iadd, 1) := by decide +kernel
theorem dX7_copies_15 : decode cX7_copies 15 = .ok (.aload_n 0, 1) := by decide +kernel
theorem dX7_copies_16 : decode cX7_copies 16 = .ok (.getfield 7, 3) := by decide +kernel
theorem dX7_copies_19 : decode cX7_copies 19 = .ok (.iload_n 2, 1) := by decide +kernel
theorem dX7_copies_20 : decode cX7_copies 20 = .ok (.iload_n 3, 1) := by decide +kernel
theorem dX7_copies_21 : decode cX7_copies 21 = .ok (.iadd, 1) := by decide +kernel
theorem dX7_copies_22 : decode cX7_copies 22 = .ok (.iaload, 1) := by decide +kernel
theorem dX7_copies_23 : decode cX7_copies 23 = .ok (.iastore, 1) := by decide +kernel
theorem dX7_copies_24 : decode cX7_copies 24 = .ok (.iinc 3 1, 3) := by decide +kernel
theorem dX7_copies_27 : decode cX7_copies 27 = .ok (.goto (-25), 3) := by decide +kernel
theorem dX7_copies_30 : decode cX7_copies 30 = .ok (.return_, 1) := by decide +kernel
theorem dX7_keep_0 : decode cX7_keep 0 = .ok (.iload_n 1, 1) := by decide +kernel
theorem dX7_keep_1 : decode cX7_keep 1 = .ok (.i2l, 1) := by decide +kernel
theorem dX7_keep_2 : decode cX7_keep 2 = .ok (.lconst 0, 1) := by decide +kernel
theorem dX7_keep_3 : decode cX7_keep 3 = .ok (.lconst 1, 1) := by decide +kernel
theorem dX7_keep_4 : decode cX7_keep 4 = .ok (.invokestatic 84, 3) := by decide +kernel
theorem dX7_keep_7 : decode cX7_keep 7 = .ok (.ifCond .ne 5, 3) := by decide +kernel
theorem dX7_keep_10 : decode cX7_keep 10 = .ok (.iconst (-1), 1) := by decide +kernel
theorem dX7_keep_11 : decode cX7_keep 11 = .ok (.ireturn, 1) := by decide +kernel
theorem dX7_keep_12 : decode cX7_keep 12 = .ok (.aload_n 0, 1) := by decide +kernel
theorem dX7_keep_13 : decode cX7_keep 13 = .ok (.getfield 16, 3) := by decide +kernel
theorem dX7_keep_16 : decode cX7_keep 16 = .ok (.iload_n 1, 1) := by decide +kernel
theorem dX7_keep_17 : decode cX7_keep 17 = .ok (.baload, 1) := by decide +kernel
theorem dX7_keep_18 : decode cX7_keep 18 = .ok (.invokestatic 147, 3) := by decide +kernel
theorem dX7_keep_21 : decode cX7_keep 21 = .ok (.istore_n 2, 1) := by decide +kernel
theorem dX7_keep_22 : decode cX7_keep 22 = .ok (.aload_n 0, 1) := by decide +kernel
theorem dX7_keep_23 : decode cX7_keep 23 = .ok (.getfield 16, 3) := by decide +kernel
theorem dX7_keep_26 : decode cX7_keep 26 = .ok (.iload_n 1, 1) := by decide +kernel
theorem dX7_keep_27 : decode cX7_keep 27 = .ok (.iconst 1, 1) := by decide +kernel
theorem dX7_keep_28 : decode cX7_keep 28 = .ok (.bastore, 1) := by decide +kernel
theorem dX7_keep_29 : decode cX7_keep 29 = .ok (.aload_n 0, 1) := by decide +kernel
theorem dX7_keep_30 : decode cX7_keep 30 = .ok (.bipush 80, 2) := by decide +kernel
theorem dX7_keep_32 : decode cX7_keep 32 = .ok (.iload_n 1, 1) := by decide +kernel
theorem dX7_keep_33 : decode cX7_keep 33 = .ok (.iconst 1, 1) := by decide +kernel
theorem dX7_keep_34 : decode cX7_keep 34 = .ok (.iadd, 1) := by decide +kernel
theorem dX7_keep_35 : decode cX7_keep 35 = .ok (.imul, 1) := by decide +kernel
theorem dX7_keep_36 : decode cX7_keep 36 = .ok (.iconst 0, 1) := by decide +kernel
theorem dX7_keep_37 : decode cX7_keep 37 = .ok (.invokevirtual 297, 3) := by decide +kernel
theorem dX7_keep_40 : decode cX7_keep 40 = .ok (.iload_n 2, 1) := by decide +kernel
theorem dX7_keep_41 : decode cX7_keep 41 = .ok (.ireturn, 1) := by decide +kernel
theorem dX7_back_0 : decode cX7_back 0 = .ok (.iload_n 1, 1) := by decide +kernel
theorem dX7_back_1 : decode cX7_back 1 = .ok (.i2l, 1) := by decide +kernel
theorem dX7_back_2 : decode cX7_back 2 = .ok (.lconst 0, 1) := by decide +kernel
theorem dX7_back_3 : decode cX7_back 3 = .ok (.lconst 1, 1) := by decide +kernel
theorem dX7_back_4 : decode cX7_back 4 = .ok (.invokestatic 84, 3) := by decide +kernel
theorem dX7_back_7 : decode cX7_back 7 = .ok (.ifCond .ne 5, 3) := by decide +kernel
theorem dX7_back_10 : decode cX7_back 10 = .ok (.iconst (-1), 1) := by decide +kernel
theorem dX7_back_11 : decode cX7_back 11 = .ok (.ireturn, 1) := by decide +kernel
theorem dX7_back_12 : decode cX7_back 12 = .ok (.aload_n 0, 1) := by decide +kernel
theorem dX7_back_13 : decode cX7_back 13 = .ok (.getfield 16, 3) := by decide +kernel
theorem dX7_back_16 : decode cX7_back 16 = .ok (.iload_n 1, 1) := by decide +kernel
theorem dX7_back_17 : decode cX7_back 17 = .ok (.baload, 1) := by decide +kernel
theorem dX7_back_18 : decode cX7_back 18 = .ok (.ifCond .ne 6, 3) := by decide +kernel
theorem dX7_back_21 : decode cX7_back 21 = .ok (.bipush (-2), 2) := by decide +kernel
theorem dX7_back_23 : decode cX7_back 23 = .ok (.ireturn, 1) := by decide +kernel
theorem dX7_back_24 : decode cX7_back 24 = .ok (.aload_n 0, 1) := by decide +kernel
theorem dX7_back_25 : decode cX7_back 25 = .ok (.iconst 0, 1) := by decide +kernel
theorem dX7_back_26 : decode cX7_back 26 = .ok (.bipush 80, 2) := by decide +kernel
theorem dX7_back_28 : decode cX7_back 28 = .ok (.iload_n 1, 1) := by decide +kernel
theorem dX7_back_29 : decode cX7_back 29 = .ok (.iconst 1, 1) := by decide +kernel
theorem dX7_back_30 : decode cX7_back 30 = .ok (.iadd, 1) := by decide +kernel
theorem dX7_back_31 : decode cX7_back 31 = .ok (.imul, 1) := by decide +kernel
theorem dX7_back_32 : decode cX7_back 32 = .ok (.invokevirtual 297, 3) := by decide +kernel
theorem dX7_back_35 : decode cX7_back 35 = .ok (.aload_n 0, 1) := by decide +kernel
theorem dX7_back_36 : decode cX7_back 36 = .ok (.getfield 7, 3) := by decide +kernel
theorem dX7_back_39 : decode cX7_back 39 = .ok (.bipush 17, 2) := by decide +kernel
theorem dX7_back_41 : decode cX7_back 41 = .ok (.iaload, 1) := by decide +kernel
theorem dX7_back_42 : decode cX7_back 42 = .ok (.ireturn, 1) := by decide +kernel
theorem dX7_isSheet_0 : decode cX7_isSheet 0 = .ok (.iload_n 0, 1) := by decide +kernel
theorem dX7_isSheet_1 : decode cX7_isSheet 1 = .ok (.i2l, 1) := by decide +kernel
theorem dX7_isSheet_2 : decode cX7_isSheet 2 = .ok (.lconst 0, 1) := by decide +kernel
theorem dX7_isSheet_3 : decode cX7_isSheet 3 = .ok (.ldc2_w 231, 3) := by decide +kernel
theorem dX7_isSheet_6 : decode cX7_isSheet 6 = .ok (.invokestatic 84, 3) := by decide +kernel
theorem dX7_isSheet_9 : decode cX7_isSheet 9 = .ok (.ifCond .eq 19, 3) := by decide +kernel
theorem dX7_isSheet_12 : decode cX7_isSheet 12 = .ok (.iload_n 1, 1) := by decide +kernel
theorem dX7_isSheet_13 : decode cX7_isSheet 13 = .ok (.i2l, 1) := by decide +kernel
theorem dX7_isSheet_14 : decode cX7_isSheet 14 = .ok (.lconst 0, 1) := by decide +kernel
theorem dX7_isSheet_15 : decode cX7_isSheet 15 = .ok (.ldc2_w 167, 3) := by decide +kernel
theorem dX7_isSheet_18 : decode cX7_isSheet 18 = .ok (.invokestatic 84, 3) := by decide +kernel
theorem dX7_isSheet_21 : decode cX7_isSheet 21 = .ok (.ifCond .eq 7, 3) := by decide +kernel
theorem dX7_isSheet_24 : decode cX7_isSheet 24 = .ok (.iconst 1, 1) := by decide +kernel
theorem dX7_isSheet_25 : decode cX7_isSheet 25 = .ok (.goto 4, 3) := by decide +kernel
theorem dX7_isSheet_28 : decode cX7_isSheet 28 = .ok (.iconst 0, 1) := by decide +kernel
theorem dX7_isSheet_29 : decode cX7_isSheet 29 = .ok (.ireturn, 1) := by decide +kernel
theorem dX7_sheet_0 : decode cX7_sheet 0 = .ok (.iload_n 1, 1) := by decide +kernel
theorem dX7_sheet_1 : decode cX7_sheet 1 = .ok (.iload_n 2, 1) := by decide +kernel
theorem dX7_sheet_2 : decode cX7_sheet 2 = .ok (.invokestatic 301, 3) := by decide +kernel
theorem dX7_sheet_5 : decode cX7_sheet 5 = .ok (.ifCond .eq 9, 3) := by decide +kernel
theorem dX7_sheet_8 : decode cX7_sheet 8 = .ok (.iload_n 3, 1) := by decide +kernel
theorem dX7_sheet_9 : decode cX7_sheet 9 = .ok (.bipush 40, 2) := by decide +kernel
theorem dX7_sheet_11 : decode cX7_sheet 11 = .ok (.if_icmp .le 5, 3) := by decide +kernel
theorem dX7_sheet_14 : decode cX7_sheet 14 = .ok (.iconst (-1), 1) := by decide +kernel
theorem dX7_sheet_15 : decode cX7_sheet 15 = .ok (.ireturn, 1) := by decide +kernel
theorem dX7_sheet_16 : decode cX7_sheet 16 = .ok (.iload_n 3, 1) := by decide +kernel
theorem dX7_sheet_17 : decode cX7_sheet 17 = .ok (.ifCond .ge 6, 3) := by decide +kernel
theorem dX7_sheet_20 : decode cX7_sheet 20 = .ok (.bipush (-14), 2) := by decide +kernel
theorem dX7_sheet_22 : decode cX7_sheet 22 = .ok (.ireturn, 1) := by decide +kernel
theorem dX7_sheet_23 : decode cX7_sheet 23 = .ok (.aload_n 0, 1) := by decide +kernel
theorem dX7_sheet_24 : decode cX7_sheet 24 = .ok (.getfield 45, 3) := by decide +kernel
theorem dX7_sheet_27 : decode cX7_sheet 27 = .ok (.iload_n 1, 1) := by decide +kernel
theorem dX7_sheet_28 : decode cX7_sheet 28 = .ok (.iload_n 2, 1) := by decide +kernel
theorem dX7_sheet_29 : decode cX7_sheet 29 = .ok (.iastore, 1) := by decide +kernel
theorem dX7_sheet_30 : decode cX7_sheet 30 = .ok (.aload_n 0, 1) := by decide +kernel
theorem dX7_sheet_31 : decode cX7_sheet 31 = .ok (.getfield 48, 3) := by decide +kernel
theorem dX7_sheet_34 : decode cX7_sheet 34 = .ok (.iload_n 1, 1) := by decide +kernel
theorem dX7_sheet_35 : decode cX7_sheet 35 = .ok (.iload_n 3, 1) := by decide +kernel
theorem dX7_sheet_36 : decode cX7_sheet 36 = .ok (.iastore, 1) := by decide +kernel
theorem dX7_sheet_37 : decode cX7_sheet 37 = .ok (.iconst 0, 1) := by decide +kernel
theorem dX7_sheet_38 : decode cX7_sheet 38 = .ok (.istore 4, 2) := by decide +kernel
theorem dX7_sheet_40 : decode cX7_sheet 40 = .ok (.iload 4, 2) := by decide +kernel
theorem dX7_sheet_42 : decode cX7_sheet 42 = .ok (.bipush 40, 2) := by decide +kernel
theorem dX7_sheet_44 : decode cX7_sheet 44 = .ok (.if_icmp .ge 22, 3) := by decide +kernel
theorem dX7_sheet_47 : decode cX7_sheet 47 = .ok (.aload_n 0, 1) := by decide +kernel
theorem dX7_sheet_48 : decode cX7_sheet 48 = .ok (.getfield 51, 3) := by decide +kernel
theorem dX7_sheet_51 : decode cX7_sheet 51 = .ok (.bipush 40, 2) := by decide +kernel
theorem dX7_sheet_53 : decode cX7_sheet 53 = .ok (.iload_n 1, 1) := by decide +kernel
theorem dX7_sheet_54 : decode cX7_sheet 54 = .ok (.imul, 1) := by decide +kernel
theorem dX7_sheet_55 : decode cX7_sheet 55 = .ok (.iload 4, 2) := by decide +kernel
theorem dX7_sheet_57 : decode cX7_sheet 57 = .ok (.iadd, 1) := by decide +kernel
theorem dX7_sheet_58 : decode cX7_sheet 58 = .ok (.iconst 0, 1) := by decide +kernel
theorem dX7_sheet_59 : decode cX7_sheet 59 = .ok (.iastore, 1) := by decide +kernel
theorem dX7_sheet_60 : decode cX7_sheet 60 = .ok (.iinc 4 1, 3) := by decide +kernel
theorem dX7_sheet_63 : decode cX7_sheet 63 = .ok (.goto (-23), 3) := by decide +kernel
theorem dX7_sheet_66 : decode cX7_sheet 66 = .ok (.iconst 1, 1) := by decide +kernel
theorem dX7_sheet_67 : decode cX7_sheet 67 = .ok (.ireturn, 1) := by decide +kernel
theorem dX7_lay_0 : decode cX7_lay 0 = .ok (.iload_n 1, 1) := by decide +kernel
theorem dX7_lay_1 : decode cX7_lay 1 = .ok (.iconst 0, 1) := by decide +kernel
theorem dX7_lay_2 : decode cX7_lay 2 = .ok (.invokestatic 301, 3) := by decide +kernel
theorem dX7_lay_5 : decode cX7_lay 5 = .ok (.ifCond .ne 5, 3) := by decide +kernel
theorem dX7_lay_8 : decode cX7_lay 8 = .ok (.iconst (-1), 1) := by decide +kernel
theorem dX7_lay_9 : decode cX7_lay 9 = .ok (.ireturn, 1) := by decide +kernel
theorem dX7_lay_10 : decode cX7_lay 10 = .ok (.aload_n 0, 1) := by decide +kernel
theorem dX7_lay_11 : decode cX7_lay 11 = .ok (.getfield 45, 3) := by decide +kernel
theorem dX7_lay_14 : decode cX7_lay 14 = .ok (.iload_n 1, 1) := by decide +kernel
theorem dX7_lay_15 : decode cX7_lay 15 = .ok (.iaload, 1) := by decide +kernel
theorem dX7_lay_16 : decode cX7_lay 16 = .ok (.bipush (-4), 2) := by decide +kernel
theorem dX7_lay_18 : decode cX7_lay 18 = .ok (.if_icmp .ne 6, 3) := by decide +kernel
theorem dX7_lay_21 : decode cX7_lay 21 = .ok (.bipush (-11), 2) := by decide +kernel
theorem dX7_lay_23 : decode cX7_lay 23 = .ok (.ireturn, 1) := by decide +kernel
theorem dX7_lay_24 : decode cX7_lay 24 = .ok (.iload_n 2, 1) := by decide +kernel
theorem dX7_lay_25 : decode cX7_lay 25 = .ok (.i2l, 1) := by decide +kernel
theorem dX7_lay_26 : decode cX7_lay 26 = .ok (.lconst 0, 1) := by decide +kernel
theorem dX7_lay_27 : decode cX7_lay 27 = .ok (.aload_n 0, 1) := by decide +kernel
theorem dX7_lay_28 : decode cX7_lay 28 = .ok (.getfield 48, 3) := by decide +kernel
theorem dX7_lay_31 : decode cX7_lay 31 = .ok (.iload_n 1, 1) := by decide +kernel
theorem dX7_lay_32 : decode cX7_lay 32 = .ok (.iaload, 1) := by decide +kernel
theorem dX7_lay_33 : decode cX7_lay 33 = .ok (.iconst 1, 1) := by decide +kernel
theorem dX7_lay_34 : decode cX7_lay 34 = .ok (.isub, 1) := by decide +kernel
theorem dX7_lay_35 : decode cX7_lay 35 = .ok (.i2l, 1) := by decide +kernel
theorem dX7_lay_36 : decode cX7_lay 36 = .ok (.invokestatic 84, 3) := by decide +kernel
theorem dX7_lay_39 : decode cX7_lay 39 = .ok (.ifCond .ne 6, 3) := by decide +kernel
theorem dX7_lay_42 : decode cX7_lay 42 = .ok (.bipush (-12), 2) := by decide +kernel
theorem dX7_lay_44 : decode cX7_lay 44 = .ok (.ireturn, 1) := by decide +kernel
theorem dX7_lay_45 : decode cX7_lay 45 = .ok (.aload_n 0, 1) := by decide +kernel
theorem dX7_lay_46 : decode cX7_lay 46 = .ok (.getfield 51, 3) := by decide +kernel
theorem dX7_lay_49 : decode cX7_lay 49 = .ok (.bipush 40, 2) := by decide +kernel
theorem dX7_lay_51 : decode cX7_lay 51 = .ok (.iload_n 1, 1) := by decide +kernel
theorem dX7_lay_52 : decode cX7_lay 52 = .ok (.imul, 1) := by decide +kernel
theorem dX7_lay_53 : decode cX7_lay 53 = .ok (.iload_n 2, 1) := by decide +kernel
theorem dX7_lay_54 : decode cX7_lay 54 = .ok (.iadd, 1) := by decide +kernel
theorem dX7_lay_55 : decode cX7_lay 55 = .ok (.aload_n 0, 1) := by decide +kernel
theorem dX7_lay_56 : decode cX7_lay 56 = .ok (.getfield 45, 3) := by decide +kernel
theorem dX7_lay_59 : decode cX7_lay 59 = .ok (.iload_n 1, 1) := by decide +kernel
theorem dX7_lay_60 : decode cX7_lay 60 = .ok (.iaload, 1) := by decide +kernel
theorem dX7_lay_61 : decode cX7_lay 61 = .ok (.ifCond .ne 8, 3) := by decide +kernel
theorem dX7_lay_64 : decode cX7_lay 64 = .ok (.iload_n 3, 1) := by decide +kernel
theorem dX7_lay_65 : decode cX7_lay 65 = .ok (.i2b, 1) := by decide +kernel
theorem dX7_lay_66 : decode cX7_lay 66 = .ok (.goto 19, 3) := by decide +kernel
theorem dX7_lay_69 : decode cX7_lay 69 = .ok (.aload_n 0, 1) := by decide +kernel
theorem dX7_lay_70 : decode cX7_lay 70 = .ok (.getfield 45, 3) := by decide +kernel
theorem dX7_lay_73 : decode cX7_lay 73 = .ok (.iload_n 1, 1) := by decide +kernel
theorem dX7_lay_74 : decode cX7_lay 74 = .ok (.iaload, 1) := by decide +kernel
theorem dX7_lay_75 : decode cX7_lay 75 = .ok (.iconst 1, 1) := by decide +kernel
theorem dX7_lay_76 : decode cX7_lay 76 = .ok (.if_icmp .ne 8, 3) := by decide +kernel
theorem dX7_lay_79 : decode cX7_lay 79 = .ok (.iload_n 3, 1) := by decide +kernel
theorem dX7_lay_80 : decode cX7_lay 80 = .ok (.i2s, 1) := by decide +kernel
theorem dX7_lay_81 : decode cX7_lay 81 = .ok (.goto 4, 3) := by decide +kernel
theorem dX7_lay_84 : decode cX7_lay 84 = .ok (.iload_n 3, 1) := by decide +kernel
theorem dX7_lay_85 : decode cX7_lay 85 = .ok (.iastore, 1) := by decide +kernel
theorem dX7_lay_86 : decode cX7_lay 86 = .ok (.iconst 1, 1) := by decide +kernel
theorem dX7_lay_87 : decode cX7_lay 87 = .ok (.ireturn, 1) := by decide +kernel
theorem dX7_read_0 : decode cX7_read 0 = .ok (.iload_n 1, 1) := by decide +kernel
theorem dX7_read_1 : decode cX7_read 1 = .ok (.iload_n 2, 1) := by decide +kernel
theorem dX7_read_2 : decode cX7_read 2 = .ok (.invokestatic 301, 3) := by decide +kernel
theorem dX7_read_5 : decode cX7_read 5 = .ok (.ifCond .eq 16, 3) := by decide +kernel
theorem dX7_read_8 : decode cX7_read 8 = .ok (.iload 4, 2) := by decide +kernel
theorem dX7_read_10 : decode cX7_read 10 = .ok (.i2l, 1) := by decide +kernel
theorem dX7_read_11 : decode cX7_read 11 = .ok (.lconst 0, 1) := by decide +kernel
theorem dX7_read_12 : decode cX7_read 12 = .ok (.ldc2_w 304, 3) := by decide +kernel
theorem dX7_read_15 : decode cX7_read 15 = .ok (.invokestatic 84, 3) := by decide +kernel
theorem dX7_read_18 : decode cX7_read 18 = .ok (.ifCond .ne 5, 3) := by decide +kernel
theorem dX7_read_21 : decode cX7_read 21 = .ok (.iconst (-1), 1) := by decide +kernel
theorem dX7_read_22 : decode cX7_read 22 = .ok (.ireturn, 1) := by decide +kernel
theorem dX7_read_23 : decode cX7_read 23 = .ok (.iconst 0, 1) := by decide +kernel
theorem dX7_read_24 : decode cX7_read 24 = .ok (.istore 5, 2) := by decide +kernel
theorem dX7_read_26 : decode cX7_read 26 = .ok (.iload 5, 2) := by decide +kernel
theorem dX7_read_28 : decode cX7_read 28 = .ok (.iconst 4, 1) := by decide +kernel
theorem dX7_read_29 : decode cX7_read 29 = .ok (.if_icmp .ge 31, 3) := by decide +kernel
theorem dX7_read_32 : decode cX7_read 32 = .ok (.aload_n 0, 1) := by decide +kernel
theorem dX7_read_33 : decode cX7_read 33 = .ok (.getfield 54, 3) := by decide +kernel
theorem dX7_read_36 : decode cX7_read 36 = .ok (.iload 5, 2) := by decide +kernel
theorem dX7_read_38 : decode cX7_read 38 = .ok (.aload_n 0, 1) := by decide +kernel
theorem dX7_read_39 : decode cX7_read 39 = .ok (.getfield 7, 3) := by decide +kernel
theorem dX7_read_42 : decode cX7_read 42 = .ok (.bipush 18, 2) := by decide +kernel
theorem dX7_read_44 : decode cX7_read 44 = .ok (.bipush 6, 2) := by decide +kernel
theorem dX7_read_46 : decode cX7_read 46 = .ok (.iload 5, 2) := by decide +kernel
theorem dX7_read_48 : decode cX7_read 48 = .ok (.imul, 1) := by decide +kernel
theorem dX7_read_49 : decode cX7_read 49 = .ok (.iadd, 1) := by decide +kernel
theorem dX7_read_50 : decode cX7_read 50 = .ok (.iconst 0, 1) := by decide +kernel
theorem dX7_read_51 : decode cX7_read 51 = .ok (.iadd, 1) := by decide +kernel
theorem dX7_read_52 : decode cX7_read 52 = .ok (.iaload, 1) := by decide +kernel
theorem dX7_read_53 : decode cX7_read 53 = .ok (.iastore, 1) := by decide +kernel
theorem dX7_read_54 : decode cX7_read 54 = .ok (.iinc 5 1, 3) := by decide +kernel
theorem dX7_read_57 : decode cX7_read 57 = .ok (.goto (-31), 3) := by decide +kernel
theorem dX7_read_60 : decode cX7_read 60 = .ok (.iconst 0, 1) := by decide +kernel
theorem dX7_read_61 : decode cX7_read 61 = .ok (.istore 5, 2) := by decide +kernel
theorem dX7_read_63 : decode cX7_read 63 = .ok (.iconst 0, 1) := by decide +kernel
theorem dX7_read_64 : decode cX7_read 64 = .ok (.istore 6, 2) := by decide +kernel
theorem dX7_read_66 : decode cX7_read 66 = .ok (.iconst 0, 1) := by decide +kernel
theorem dX7_read_67 : decode cX7_read 67 = .ok (.istore 7, 2) := by decide +kernel
theorem dX7_read_69 : decode cX7_read 69 = .ok (.iload 7, 2) := by decide +kernel
theorem dX7_read_71 : decode cX7_read 71 = .ok (.iload 4, 2) := by decide +kernel
theorem dX7_read_73 : decode cX7_read 73 = .ok (.if_icmp .ge 191, 3) := by decide +kernel
theorem dX7_read_76 : decode cX7_read 76 = .ok (.iload 5, 2) := by decide +kernel
theorem dX7_read_78 : decode cX7_read 78 = .ok (.ifCond .ne 186, 3) := by decide +kernel
theorem dX7_read_81 : decode cX7_read 81 = .ok (.iconst 0, 1) := by decide +kernel
theorem dX7_read_82 : decode cX7_read 82 = .ok (.istore 8, 2) := by decide +kernel
theorem dX7_read_84 : decode cX7_read 84 = .ok (.iload 8, 2) := by decide +kernel
theorem dX7_read_86 : decode cX7_read 86 = .ok (.iconst 2, 1) := by decide +kernel
theorem dX7_read_87 : decode cX7_read 87 = .ok (.if_icmp .ge 84, 3) := by decide +kernel
theorem dX7_read_90 : decode cX7_read 90 = .ok (.iload 5, 2) := by decide +kernel
theorem dX7_read_92 : decode cX7_read 92 = .ok (.ifCond .ne 79, 3) := by decide +kernel
theorem dX7_read_95 : decode cX7_read 95 = .ok (.iload_n 3, 1) := by decide +kernel
theorem dX7_read_96 : decode cX7_read 96 = .ok (.i2l, 1) := by decide +kernel
theorem dX7_read_97 : decode cX7_read 97 = .ok (.iconst 2, 1) := by decide +kernel
theorem dX7_read_98 : decode cX7_read 98 = .ok (.iload 7, 2) := by decide +kernel
theorem dX7_read_100 : decode cX7_read 100 = .ok (.imul, 1) := by decide +kernel
theorem dX7_read_101 : decode cX7_read 101 = .ok (.i2l, 1) := by decide +kernel
theorem dX7_read_102 : decode cX7_read 102 = .ok (.ladd, 1) := by decide +kernel
theorem dX7_read_103 : decode cX7_read 103 = .ok (.iload 8, 2) := by decide +kernel
theorem dX7_read_105 : decode cX7_read 105 = .ok (.i2l, 1) := by decide +kernel
theorem dX7_read_106 : decode cX7_read 106 = .ok (.ladd, 1) := by decide +kernel
theorem dX7_read_107 : decode cX7_read 107 = .ok (.lstore 9, 2) := by decide +kernel
theorem dX7_read_109 : decode cX7_read 109 = .ok (.aload_n 0, 1) := by decide +kernel
theorem dX7_read_110 : decode cX7_read 110 = .ok (.getfield 45, 3) := by decide +kernel
theorem dX7_read_113 : decode cX7_read 113 = .ok (.iload_n 1, 1) := by decide +kernel
theorem dX7_read_114 : decode cX7_read 114 = .ok (.iaload, 1) := by decide +kernel
theorem dX7_read_115 : decode cX7_read 115 = .ok (.bipush (-4), 2) := by decide +kernel
theorem dX7_read_117 : decode cX7_read 117 = .ok (.if_icmp .ne 7, 3) := by decide +kernel
theorem dX7_read_120 : decode cX7_read 120 = .ok (.iconst 1, 1) := by decide +kernel
theorem dX7_read_121 : decode cX7_read 121 = .ok (.goto 42, 3) := by decide +kernel
theorem dX7_read_124 : decode cX7_read 124 = .ok (.aload_n 0, 1) := by decide +kernel
theorem dX7_read_125 : decode cX7_read 125 = .ok (.getfield 45, 3) := by decide +kernel
theorem dX7_read_128 : decode cX7_read 128 = .ok (.iload_n 1, 1) := by decide +kernel
theorem dX7_read_129 : decode cX7_read 129 = .ok (.iaload, 1) := by decide +kernel
theorem dX7_read_130 : decode cX7_read 130 = .ok (.iload_n 2, 1) := by decide +kernel
theorem dX7_read_131 : decode cX7_read 131 = .ok (.if_icmp .eq 7, 3) := by decide +kernel
theorem dX7_read_134 : decode cX7_read 134 = .ok (.iconst 3, 1) := by decide +kernel
theorem dX7_read_135 : decode cX7_read 135 = .ok (.goto 28, 3) := by decide +kernel
theorem dX7_read_138 : decode cX7_read 138 = .ok (.lload 9, 2) := by decide +kernel
theorem dX7_read_140 : decode cX7_read 140 = .ok (.lconst 0, 1) := by decide +kernel
theorem dX7_read_141 : decode cX7_read 141 = .ok (.lcmp, 1) := by decide +kernel
theorem dX7_read_142 : decode cX7_read 142 = .ok (.ifCond .lt 16, 3) := by decide +kernel
theorem dX7_read_145 : decode cX7_read 145 = .ok (.lload 9, 2) := by decide +kernel
theorem dX7_read_147 : decode cX7_read 147 = .ok (.aload_n 0, 1) := by decide +kernel
theorem dX7_read_148 : decode cX7_read 148 = .ok (.getfield 48, 3) := by decide +kernel
theorem dX7_read_151 : decode cX7_read 151 = .ok (.iload_n 1, 1) := by decide +kernel
theorem dX7_read_152 : decode cX7_read 152 = .ok (.iaload, 1) := by decide +kernel
theorem dX7_read_153 : decode cX7_read 153 = .ok (.i2l, 1) := by decide +kernel
theorem dX7_read_154 : decode cX7_read 154 = .ok (.lcmp, 1) := by decide +kernel
theorem dX7_read_155 : decode cX7_read 155 = .ok (.ifCond .lt 7, 3) := by decide +kernel
theorem dX7_read_158 : decode cX7_read 158 = .ok (.iconst 2, 1) := by decide +kernel
theorem dX7_read_159 : decode cX7_read 159 = .ok (.goto 4, 3) := by decide +kernel
theorem dX7_read_162 : decode cX7_read 162 = .ok (.iconst 0, 1) := by decide +kernel
theorem dX7_read_163 : decode cX7_read 163 = .ok (.istore 5, 2) := by decide +kernel
theorem dX7_read_165 : decode cX7_read 165 = .ok (.iinc 8 1, 3) := by decide +kernel
theorem dX7_read_168 : decode cX7_read 168 = .ok (.goto (-84), 3) := by decide +kernel
theorem dX7_read_171 : decode cX7_read 171 = .ok (.iload 5, 2) := by decide +kernel
theorem dX7_read_173 : decode cX7_read 173 = .ok (.ifCond .ne 85, 3) := by decide +kernel
theorem dX7_read_176 : decode cX7_read 176 = .ok (.bipush 40, 2) := by decide +kernel
theorem dX7_read_178 : decode cX7_read 178 = .ok (.iload_n 1, 1) := by decide +kernel
theorem dX7_read_179 : decode cX7_read 179 = .ok (.imul, 1) := by decide +kernel
theorem dX7_read_180 : decode cX7_read 180 = .ok (.iload_n 3, 1) := by decide +kernel
theorem dX7_read_181 : decode cX7_read 181 = .ok (.iadd, 1) := by decide +kernel
theorem dX7_read_182 : decode cX7_read 182 = .ok (.iconst 2, 1) := by decide +kernel
theorem dX7_read_183 : decode cX7_read 183 = .ok (.iload 7, 2) := by decide +kernel
theorem dX7_read_185 : decode cX7_read 185 = .ok (.imul, 1) := by decide +kernel
theorem dX7_read_186 : decode cX7_read 186 = .ok (.iadd, 1) := by decide +kernel
theorem dX7_read_187 : decode cX7_read 187 = .ok (.istore 8, 2) := by decide +kernel
theorem dX7_read_189 : decode cX7_read 189 = .ok (.aload_n 0, 1) := by decide +kernel
theorem dX7_read_190 : decode cX7_read 190 = .ok (.aload_n 0, 1) := by decide +kernel
theorem dX7_read_191 : decode cX7_read 191 = .ok (.getfield 51, 3) := by decide +kernel
theorem dX7_read_194 : decode cX7_read 194 = .ok (.iload 8, 2) := by decide +kernel
theorem dX7_read_196 : decode cX7_read 196 = .ok (.iaload, 1) := by decide +kernel
theorem dX7_read_197 : decode cX7_read 197 = .ok (.aload_n 0, 1) := by decide +kernel
theorem dX7_read_198 : decode cX7_read 198 = .ok (.getfield 51, 3) := by decide +kernel
theorem dX7_read_201 : decode cX7_read 201 = .ok (.iload 8, 2) := by decide +kernel
theorem dX7_read_203 : decode cX7_read 203 = .ok (.iconst 1, 1) := by decide +kernel
theorem dX7_read_204 : decode cX7_read 204 = .ok (.iadd, 1) := by decide +kernel
theorem dX7_read_205 : decode cX7_read 205 = .ok (.iaload, 1) := by decide +kernel
theorem dX7_read_206 : decode cX7_read 206 = .ok (.invokevirtual 306, 3) := by decide +kernel
theorem dX7_read_209 : decode cX7_read 209 = .ok (.ifCond .ge 46, 3) := by decide +kernel
theorem dX7_read_212 : decode cX7_read 212 = .ok (.iconst 0, 1) := by decide +kernel
theorem dX7_read_213 : decode cX7_read 213 = .ok (.istore 9, 2) := by decide +kernel
theorem dX7_read_215 : decode cX7_read 215 = .ok (.iload 9, 2) := by decide +kernel
theorem dX7_read_217 : decode cX7_read 217 = .ok (.iconst 4, 1) := by decide +kernel
theorem dX7_read_218 : decode cX7_read 218 = .ok (.if_icmp .ge 31, 3) := by decide +kernel
theorem dX7_read_221 : decode cX7_read 221 = .ok (.aload_n 0, 1) := by decide +kernel
theorem dX7_read_222 : decode cX7_read 222 = .ok (.getfield 7, 3) := by decide +kernel
theorem dX7_read_225 : decode cX7_read 225 = .ok (.bipush 18, 2) := by decide +kernel
theorem dX7_read_227 : decode cX7_read 227 = .ok (.bipush 6, 2) := by decide +kernel
theorem dX7_read_229 : decode cX7_read 229 = .ok (.iload 9, 2) := by decide +kernel
theorem dX7_read_231 : decode cX7_read 231 = .ok (.imul, 1) := by decide +kernel
theorem dX7_read_232 : decode cX7_read 232 = .ok (.iadd, 1) := by decide +kernel
theorem dX7_read_233 : decode cX7_read 233 = .ok (.iconst 0, 1) := by decide +kernel
theorem dX7_read_234 : decode cX7_read 234 = .ok (.iadd, 1) := by decide +kernel
theorem dX7_read_235 : decode cX7_read 235 = .ok (.aload_n 0, 1) := by decide +kernel
theorem dX7_read_236 : decode cX7_read 236 = .ok (.getfield 54, 3) := by decide +kernel
theorem dX7_read_239 : decode cX7_read 239 = .ok (.iload 9, 2) := by decide +kernel
theorem dX7_read_241 : decode cX7_read 241 = .ok (.iaload, 1) := by decide +kernel
theorem dX7_read_242 : decode cX7_read 242 = .ok (.iastore, 1) := by decide +kernel
theorem dX7_read_243 : decode cX7_read 243 = .ok (.iinc 9 1, 3) := by decide +kernel
theorem dX7_read_246 : decode cX7_read 246 = .ok (.goto (-31), 3) := by decide +kernel
theorem dX7_read_249 : decode cX7_read 249 = .ok (.bipush (-20), 2) := by decide +kernel
theorem dX7_read_251 : decode cX7_read 251 = .ok (.iload 7, 2) := by decide +kernel
theorem dX7_read_253 : decode cX7_read 253 = .ok (.isub, 1) := by decide +kernel
theorem dX7_read_254 : decode cX7_read 254 = .ok (.ireturn, 1) := by decide +kernel
theorem dX7_read_255 : decode cX7_read 255 = .ok (.iinc 6 1, 3) := by decide +kernel
theorem dX7_read_258 : decode cX7_read 258 = .ok (.iinc 7 1, 3) := by decide +kernel
theorem dX7_read_261 : decode cX7_read 261 = .ok (.goto (-192), 3) := by decide +kernel
theorem dX7_read_264 : decode cX7_read 264 = .ok (.aload_n 0, 1) := by decide +kernel
theorem dX7_read_265 : decode cX7_read 265 = .ok (.iload 5, 2) := by decide +kernel
theorem dX7_read_267 : decode cX7_read 267 = .ok (.putfield 309, 3) := by decide +kernel
theorem dX7_read_270 : decode cX7_read 270 = .ok (.iload 6, 2) := by decide +kernel
theorem dX7_read_272 : decode cX7_read 272 = .ok (.ireturn, 1) := by decide +kernel
theorem dX7_torn_0 : decode cX7_torn 0 = .ok (.aload_n 0, 1) := by decide +kernel
theorem dX7_torn_1 : decode cX7_torn 1 = .ok (.getfield 309, 3) := by decide +kernel
theorem dX7_torn_4 : decode cX7_torn 4 = .ok (.ireturn, 1) := by decide +kernel
theorem dX7_count_0 : decode cX7_count 0 = .ok (.iconst 0, 1) := by decide +kernel
theorem dX7_count_1 : decode cX7_count 1 = .ok (.istore_n 2, 1) := by decide +kernel
theorem dX7_count_2 : decode cX7_count 2 = .ok (.iconst 0, 1) := by decide +kernel
theorem dX7_count_3 : decode cX7_count 3 = .ok (.istore_n 3, 1) := by decide +kernel
theorem dX7_count_4 : decode cX7_count 4 = .ok (.iconst 0, 1) := by decide +kernel
theorem dX7_count_5 : decode cX7_count 5 = .ok (.istore 4, 2) := by decide +kernel
theorem dX7_count_7 : decode cX7_count 7 = .ok (.aload_n 0, 1) := by decide +kernel
theorem dX7_count_8 : decode cX7_count 8 = .ok (.invokevirtual 219, 3) := by decide +kernel
theorem dX7_count_11 : decode cX7_count 11 = .ok (.iconst 0, 1) := by decide +kernel
theorem dX7_count_12 : decode cX7_count 12 = .ok (.istore 5, 2) := by decide +kernel
theorem dX7_count_14 : decode cX7_count 14 = .ok (.iload 5, 2) := by decide +kernel
theorem dX7_count_16 : decode cX7_count 16 = .ok (.aload_n 0, 1) := by decide +kernel
theorem dX7_count_17 : decode cX7_count 17 = .ok (.getfield 76, 3) := by decide +kernel
theorem dX7_count_20 : decode cX7_count 20 = .ok (.if_icmp .ge 58, 3) := by decide +kernel
theorem dX7_count_23 : decode cX7_count 23 = .ok (.iload_n 2, 1) := by decide +kernel
theorem dX7_count_24 : decode cX7_count 24 = .ok (.aload_n 0, 1) := by decide +kernel
theorem dX7_count_25 : decode cX7_count 25 = .ok (.getfield 13, 3) := by decide +kernel
theorem dX7_count_28 : decode cX7_count 28 = .ok (.iconst 0, 1) := by decide +kernel
theorem dX7_count_29 : decode cX7_count 29 = .ok (.iload 5, 2) := by decide +kernel
theorem dX7_count_31 : decode cX7_count 31 = .ok (.iadd, 1) := by decide +kernel
theorem dX7_count_32 : decode cX7_count 32 = .ok (.iaload, 1) := by decide +kernel
theorem dX7_count_33 : decode cX7_count 33 = .ok (.bipush (-4), 2) := by decide +kernel
theorem dX7_count_35 : decode cX7_count 35 = .ok (.if_icmp .eq 7, 3) := by decide +kernel
theorem dX7_count_38 : decode cX7_count 38 = .ok (.iconst 1, 1) := by decide +kernel
theorem dX7_count_39 : decode cX7_count 39 = .ok (.goto 4, 3) := by decide +kernel
theorem dX7_count_42 : decode cX7_count 42 = .ok (.iconst 0, 1) := by decide +kernel
theorem dX7_count_43 : decode cX7_count 43 = .ok (.invokestatic 147, 3) := by decide +kernel
theorem dX7_count_46 : decode cX7_count 46 = .ok (.aload_n 0, 1) := by decide +kernel
theorem dX7_count_47 : decode cX7_count 47 = .ok (.getfield 13, 3) := by decide +kernel
theorem dX7_count_50 : decode cX7_count 50 = .ok (.bipush 8, 2) := by decide +kernel
theorem dX7_count_52 : decode cX7_count 52 = .ok (.iload 5, 2) := by decide +kernel
theorem dX7_count_54 : decode cX7_count 54 = .ok (.iadd, 1) := by decide +kernel
theorem dX7_count_55 : decode cX7_count 55 = .ok (.iaload, 1) := by decide +kernel
theorem dX7_count_56 : decode cX7_count 56 = .ok (.bipush (-4), 2) := by decide +kernel
theorem dX7_count_58 : decode cX7_count 58 = .ok (.if_icmp .eq 7, 3) := by decide +kernel
theorem dX7_count_61 : decode cX7_count 61 = .ok (.iconst 1, 1) := by decide +kernel
theorem dX7_count_62 : decode cX7_count 62 = .ok (.goto 4, 3) := by decide +kernel
theorem dX7_count_65 : decode cX7_count 65 = .ok (.iconst 0, 1) := by decide +kernel
theorem dX7_count_66 : decode cX7_count 66 = .ok (.invokestatic 147, 3) := by decide +kernel
theorem dX7_count_69 : decode cX7_count 69 = .ok (.iadd, 1) := by decide +kernel
theorem dX7_count_70 : decode cX7_count 70 = .ok (.iadd, 1) := by decide +kernel
theorem dX7_count_71 : decode cX7_count 71 = .ok (.istore_n 2, 1) := by decide +kernel
theorem dX7_count_72 : decode cX7_count 72 = .ok (.iinc 5 1, 3) := by decide +kernel
theorem dX7_count_75 : decode cX7_count 75 = .ok (.goto (-61), 3) := by decide +kernel
theorem dX7_count_78 : decode cX7_count 78 = .ok (.iconst 0, 1) := by decide +kernel
theorem dX7_count_79 : decode cX7_count 79 = .ok (.istore 5, 2) := by decide +kernel
theorem dX7_count_81 : decode cX7_count 81 = .ok (.iload 5, 2) := by decide +kernel
theorem dX7_count_83 : decode cX7_count 83 = .ok (.aload_n 0, 1) := by decide +kernel
theorem dX7_count_84 : decode cX7_count 84 = .ok (.getfield 79, 3) := by decide +kernel
theorem dX7_count_87 : decode cX7_count 87 = .ok (.if_icmp .ge 32, 3) := by decide +kernel
theorem dX7_count_90 : decode cX7_count 90 = .ok (.iload_n 3, 1) := by decide +kernel
theorem dX7_count_91 : decode cX7_count 91 = .ok (.aload_n 0, 1) := by decide +kernel
theorem dX7_count_92 : decode cX7_count 92 = .ok (.iload 5, 2) := by decide +kernel
theorem dX7_count_94 : decode cX7_count 94 = .ok (.invokevirtual 197, 3) := by decide +kernel
theorem dX7_count_97 : decode cX7_count 97 = .ok (.iadd, 1) := by decide +kernel
theorem dX7_count_98 : decode cX7_count 98 = .ok (.istore_n 3, 1) := by decide +kernel
theorem dX7_count_99 : decode cX7_count 99 = .ok (.iload 4, 2) := by decide +kernel
theorem dX7_count_101 : decode cX7_count 101 = .ok (.iconst 1, 1) := by decide +kernel
theorem dX7_count_102 : decode cX7_count 102 = .ok (.aload_n 0, 1) := by decide +kernel
theorem dX7_count_103 : decode cX7_count 103 = .ok (.iload 5, 2) := by decide +kernel
theorem dX7_count_105 : decode cX7_count 105 = .ok (.iconst 0, 1) := by decide +kernel
theorem dX7_count_106 : decode cX7_count 106 = .ok (.invokevirtual 187, 3) := by decide +kernel
theorem dX7_count_109 : decode cX7_count 109 = .ok (.ishl, 1) := by decide +kernel
theorem dX7_count_110 : decode cX7_count 110 = .ok (.ior, 1) := by decide +kernel
theorem dX7_count_111 : decode cX7_count 111 = .ok (.istore 4, 2) := by decide +kernel
theorem dX7_count_113 : decode cX7_count 113 = .ok (.iinc 5 1, 3) := by decide +kernel
theorem dX7_count_116 : decode cX7_count 116 = .ok (.goto (-35), 3) := by decide +kernel
theorem dX7_count_119 : decode cX7_count 119 = .ok (.iload_n 1, 1) := by decide +kernel
theorem dX7_count_120 : decode cX7_count 120 = .ok (.tableswitch 110 0 6 #[44, 46, 54, 74, 79, 102, 104], 44) := by decide +kernel
theorem dX7_count_164 : decode cX7_count 164 = .ok (.iload_n 2, 1) := by decide +kernel
theorem dX7_count_165 : decode cX7_count 165 = .ok (.ireturn, 1) := by decide +kernel
theorem dX7_count_166 : decode cX7_count 166 = .ok (.aload_n 0, 1) := by decide +kernel
theorem dX7_count_167 : decode cX7_count 167 = .ok (.getfield 7, 3) := by decide +kernel
theorem dX7_count_170 : decode cX7_count 170 = .ok (.bipush 47, 2) := by decide +kernel
theorem dX7_count_172 : decode cX7_count 172 = .ok (.iaload, 1) := by decide +kernel
theorem dX7_count_173 : decode cX7_count 173 = .ok (.ireturn, 1) := by decide +kernel
theorem dX7_count_174 : decode cX7_count 174 = .ok (.aload_n 0, 1) := by decide +kernel
theorem dX7_count_175 : decode cX7_count 175 = .ok (.getfield 16, 3) := by decide +kernel
theorem dX7_count_178 : decode cX7_count 178 = .ok (.iconst 0, 1) := by decide +kernel
theorem dX7_count_179 : decode cX7_count 179 = .ok (.baload, 1) := by decide +kernel
theorem dX7_count_180 : decode cX7_count 180 = .ok (.invokestatic 147, 3) := by decide +kernel
theorem dX7_count_183 : decode cX7_count 183 = .ok (.aload_n 0, 1) := by decide +kernel
theorem dX7_count_184 : decode cX7_count 184 = .ok (.getfield 16, 3) := by decide +kernel
theorem dX7_count_187 : decode cX7_count 187 = .ok (.iconst 1, 1) := by decide +kernel
theorem dX7_count_188 : decode cX7_count 188 = .ok (.baload, 1) := by decide +kernel
theorem dX7_count_189 : decode cX7_count 189 = .ok (.invokestatic 147, 3) := by decide +kernel
theorem dX7_count_192 : decode cX7_count 192 = .ok (.iadd, 1) := by decide +kernel
theorem dX7_count_193 : decode cX7_count 193 = .ok (.ireturn, 1) := by decide +kernel
theorem dX7_count_194 : decode cX7_count 194 = .ok (.aload_n 0, 1) := by decide +kernel
theorem dX7_count_195 : decode cX7_count 195 = .ok (.getfield 88, 3) := by decide +kernel
theorem dX7_count_198 : decode cX7_count 198 = .ok (.ireturn, 1) := by decide +kernel
theorem dX7_count_199 : decode cX7_count 199 = .ok (.aload_n 0, 1) := by decide +kernel
theorem dX7_count_200 : decode cX7_count 200 = .ok (.getfield 45, 3) := by decide +kernel
theorem dX7_count_203 : decode cX7_count 203 = .ok (.iconst 0, 1) := by decide +kernel
theorem dX7_count_204 : decode cX7_count 204 = .ok (.iaload, 1) := by decide +kernel
theorem dX7_count_205 : decode cX7_count 205 = .ok (.bipush (-4), 2) := by decide +kernel
theorem dX7_count_207 : decode cX7_count 207 = .ok (.if_icmp .ne 8, 3) := by decide +kernel
theorem dX7_count_210 : decode cX7_count 210 = .ok (.bipush (-4), 2) := by decide +kernel
theorem dX7_count_212 : decode cX7_count 212 = .ok (.goto 9, 3) := by decide +kernel
theorem dX7_count_215 : decode cX7_count 215 = .ok (.aload_n 0, 1) := by decide +kernel
theorem dX7_count_216 : decode cX7_count 216 = .ok (.getfield 48, 3) := by decide +kernel
theorem dX7_count_219 : decode cX7_count 219 = .ok (.iconst 0, 1) := by decide +kernel
theorem dX7_count_220 : decode cX7_count 220 = .ok (.iaload, 1) := by decide +kernel
theorem dX7_count_221 : decode cX7_count 221 = .ok (.ireturn, 1) := by decide +kernel
theorem dX7_count_222 : decode cX7_count 222 = .ok (.iload_n 3, 1) := by decide +kernel
theorem dX7_count_223 : decode cX7_count 223 = .ok (.ireturn, 1) := by decide +kernel
theorem dX7_count_224 : decode cX7_count 224 = .ok (.iload 4, 2) := by decide +kernel
theorem dX7_count_226 : decode cX7_count 226 = .ok (.invokestatic 269, 3) := by decide +kernel
theorem dX7_count_229 : decode cX7_count 229 = .ok (.ireturn, 1) := by decide +kernel
theorem dX7_count_230 : decode cX7_count 230 = .ok (.iconst (-1), 1) := by decide +kernel
theorem dX7_count_231 : decode cX7_count 231 = .ok (.ireturn, 1) := by decide +kernel
