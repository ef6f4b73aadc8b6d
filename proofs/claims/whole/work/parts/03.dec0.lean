/-! decode rows -/
theorem dX0_init_0 : decode cX0_init 0 = .ok (.aload_n 0, 1) := by decide +kernel
theorem dX0_init_1 : decode cX0_init 1 = .ok (.invokespecial 3, 3) := by decide +kernel
theorem dX0_init_4 : decode cX0_init 4 = .ok (.aload_n 0, 1) := by decide +kernel
theorem dX0_init_5 : decode cX0_init 5 = .ok (.bipush 16, 2) := by decide +kernel
theorem dX0_init_7 : decode cX0_init 7 = .ok (.newarray .int, 2) := by decide +kernel
theorem dX0_init_9 : decode cX0_init 9 = .ok (.putfield 9, 3) := by decide +kernel
theorem dX0_init_12 : decode cX0_init 12 = .ok (.aload_n 0, 1) := by decide +kernel
theorem dX0_init_13 : decode cX0_init 13 = .ok (.iconst 4, 1) := by decide +kernel
theorem dX0_init_14 : decode cX0_init 14 = .ok (.anewarray 15, 3) := by decide +kernel
theorem dX0_init_17 : decode cX0_init 17 = .ok (.putfield 17, 3) := by decide +kernel
theorem dX0_init_20 : decode cX0_init 20 = .ok (.iconst 0, 1) := by decide +kernel
theorem dX0_init_21 : decode cX0_init 21 = .ok (.istore_n 1, 1) := by decide +kernel
theorem dX0_init_22 : decode cX0_init 22 = .ok (.iload_n 1, 1) := by decide +kernel
theorem dX0_init_23 : decode cX0_init 23 = .ok (.iconst 4, 1) := by decide +kernel
theorem dX0_init_24 : decode cX0_init 24 = .ok (.if_icmp .ge 22, 3) := by decide +kernel
theorem dX0_init_27 : decode cX0_init 27 = .ok (.aload_n 0, 1) := by decide +kernel
theorem dX0_init_28 : decode cX0_init 28 = .ok (.getfield 17, 3) := by decide +kernel
theorem dX0_init_31 : decode cX0_init 31 = .ok (.iload_n 1, 1) := by decide +kernel
theorem dX0_init_32 : decode cX0_init 32 = .ok (.new 15, 3) := by decide +kernel
theorem dX0_init_35 : decode cX0_init 35 = .ok (.dup, 1) := by decide +kernel
theorem dX0_init_36 : decode cX0_init 36 = .ok (.invokespecial 21, 3) := by decide +kernel
theorem dX0_init_39 : decode cX0_init 39 = .ok (.aastore, 1) := by decide +kernel
theorem dX0_init_40 : decode cX0_init 40 = .ok (.iinc 1 1, 3) := by decide +kernel
theorem dX0_init_43 : decode cX0_init 43 = .ok (.goto (-21), 3) := by decide +kernel
theorem dX0_init_46 : decode cX0_init 46 = .ok (.aload_n 0, 1) := by decide +kernel
theorem dX0_init_47 : decode cX0_init 47 = .ok (.iconst 4, 1) := by decide +kernel
theorem dX0_init_48 : decode cX0_init 48 = .ok (.newarray .int, 2) := by decide +kernel
theorem dX0_init_50 : decode cX0_init 50 = .ok (.putfield 22, 3) := by decide +kernel
theorem dX0_init_53 : decode cX0_init 53 = .ok (.aload_n 0, 1) := by decide +kernel
theorem dX0_init_54 : decode cX0_init 54 = .ok (.bipush 8, 2) := by decide +kernel
theorem dX0_init_56 : decode cX0_init 56 = .ok (.newarray .int, 2) := by decide +kernel
theorem dX0_init_58 : decode cX0_init 58 = .ok (.putfield 25, 3) := by decide +kernel
theorem dX0_init_61 : decode cX0_init 61 = .ok (.aload_n 0, 1) := by decide +kernel
theorem dX0_init_62 : decode cX0_init 62 = .ok (.bipush 8, 2) := by decide +kernel
theorem dX0_init_64 : decode cX0_init 64 = .ok (.newarray .int, 2) := by decide +kernel
theorem dX0_init_66 : decode cX0_init 66 = .ok (.putfield 28, 3) := by decide +kernel
theorem dX0_init_69 : decode cX0_init 69 = .ok (.aload_n 0, 1) := by decide +kernel
theorem dX0_init_70 : decode cX0_init 70 = .ok (.bipush 8, 2) := by decide +kernel
theorem dX0_init_72 : decode cX0_init 72 = .ok (.newarray .int, 2) := by decide +kernel
theorem dX0_init_74 : decode cX0_init 74 = .ok (.putfield 31, 3) := by decide +kernel
theorem dX0_init_77 : decode cX0_init 77 = .ok (.aload_n 0, 1) := by decide +kernel
theorem dX0_init_78 : decode cX0_init 78 = .ok (.bipush 8, 2) := by decide +kernel
theorem dX0_init_80 : decode cX0_init 80 = .ok (.newarray .int, 2) := by decide +kernel
theorem dX0_init_82 : decode cX0_init 82 = .ok (.putfield 34, 3) := by decide +kernel
theorem dX0_init_85 : decode cX0_init 85 = .ok (.aload_n 0, 1) := by decide +kernel
theorem dX0_init_86 : decode cX0_init 86 = .ok (.iconst 4, 1) := by decide +kernel
theorem dX0_init_87 : decode cX0_init 87 = .ok (.newarray .int, 2) := by decide +kernel
theorem dX0_init_89 : decode cX0_init 89 = .ok (.putfield 37, 3) := by decide +kernel
theorem dX0_init_92 : decode cX0_init 92 = .ok (.aload_n 0, 1) := by decide +kernel
theorem dX0_init_93 : decode cX0_init 93 = .ok (.iconst 4, 1) := by decide +kernel
theorem dX0_init_94 : decode cX0_init 94 = .ok (.putfield 40, 3) := by decide +kernel
theorem dX0_init_97 : decode cX0_init 97 = .ok (.aload_n 0, 1) := by decide +kernel
theorem dX0_init_98 : decode cX0_init 98 = .ok (.getfield 9, 3) := by decide +kernel
theorem dX0_init_101 : decode cX0_init 101 = .ok (.bipush (-4), 2) := by decide +kernel
theorem dX0_init_103 : decode cX0_init 103 = .ok (.invokestatic 44, 3) := by decide +kernel
theorem dX0_init_106 : decode cX0_init 106 = .ok (.return_, 1) := by decide +kernel
theorem dX0_clear_0 : decode cX0_clear 0 = .ok (.aload_n 0, 1) := by decide +kernel
theorem dX0_clear_1 : decode cX0_clear 1 = .ok (.iconst 4, 1) := by decide +kernel
theorem dX0_clear_2 : decode cX0_clear 2 = .ok (.putfield 40, 3) := by decide +kernel
theorem dX0_clear_5 : decode cX0_clear 5 = .ok (.aload_n 0, 1) := by decide +kernel
theorem dX0_clear_6 : decode cX0_clear 6 = .ok (.iconst 0, 1) := by decide +kernel
theorem dX0_clear_7 : decode cX0_clear 7 = .ok (.putfield 50, 3) := by decide +kernel
theorem dX0_clear_10 : decode cX0_clear 10 = .ok (.aload_n 0, 1) := by decide +kernel
theorem dX0_clear_11 : decode cX0_clear 11 = .ok (.iconst 0, 1) := by decide +kernel
theorem dX0_clear_12 : decode cX0_clear 12 = .ok (.putfield 53, 3) := by decide +kernel
theorem dX0_clear_15 : decode cX0_clear 15 = .ok (.aload_n 0, 1) := by decide +kernel
theorem dX0_clear_16 : decode cX0_clear 16 = .ok (.iconst 0, 1) := by decide +kernel
theorem dX0_clear_17 : decode cX0_clear 17 = .ok (.putfield 56, 3) := by decide +kernel
theorem dX0_clear_20 : decode cX0_clear 20 = .ok (.aload_n 0, 1) := by decide +kernel
theorem dX0_clear_21 : decode cX0_clear 21 = .ok (.iconst 0, 1) := by decide +kernel
theorem dX0_clear_22 : decode cX0_clear 22 = .ok (.putfield 59, 3) := by decide +kernel
theorem dX0_clear_25 : decode cX0_clear 25 = .ok (.aload_n 0, 1) := by decide +kernel
theorem dX0_clear_26 : decode cX0_clear 26 = .ok (.iconst 0, 1) := by decide +kernel
theorem dX0_clear_27 : decode cX0_clear 27 = .ok (.putfield 62, 3) := by decide +kernel
theorem dX0_clear_30 : decode cX0_clear 30 = .ok (.aload_n 0, 1) := by decide +kernel
theorem dX0_clear_31 : decode cX0_clear 31 = .ok (.getfield 9, 3) := by decide +kernel
theorem dX0_clear_34 : decode cX0_clear 34 = .ok (.bipush (-4), 2) := by decide +kernel
theorem dX0_clear_36 : decode cX0_clear 36 = .ok (.invokestatic 44, 3) := by decide +kernel
theorem dX0_clear_39 : decode cX0_clear 39 = .ok (.aload_n 0, 1) := by decide +kernel
theorem dX0_clear_40 : decode cX0_clear 40 = .ok (.getfield 22, 3) := by decide +kernel
theorem dX0_clear_43 : decode cX0_clear 43 = .ok (.iconst 0, 1) := by decide +kernel
theorem dX0_clear_44 : decode cX0_clear 44 = .ok (.invokestatic 44, 3) := by decide +kernel
theorem dX0_clear_47 : decode cX0_clear 47 = .ok (.return_, 1) := by decide +kernel
theorem dX0_copyOf_0 : decode cX0_copyOf 0 = .ok (.aload_n 0, 1) := by decide +kernel
theorem dX0_copyOf_1 : decode cX0_copyOf 1 = .ok (.aload_n 1, 1) := by decide +kernel
theorem dX0_copyOf_2 : decode cX0_copyOf 2 = .ok (.getfield 40, 3) := by decide +kernel
theorem dX0_copyOf_5 : decode cX0_copyOf 5 = .ok (.putfield 40, 3) := by decide +kernel
theorem dX0_copyOf_8 : decode cX0_copyOf 8 = .ok (.aload_n 0, 1) := by decide +kernel
theorem dX0_copyOf_9 : decode cX0_copyOf 9 = .ok (.aload_n 1, 1) := by decide +kernel
theorem dX0_copyOf_10 : decode cX0_copyOf 10 = .ok (.getfield 50, 3) := by decide +kernel
theorem dX0_copyOf_13 : decode cX0_copyOf 13 = .ok (.putfield 50, 3) := by decide +kernel
theorem dX0_copyOf_16 : decode cX0_copyOf 16 = .ok (.aload_n 0, 1) := by decide +kernel
theorem dX0_copyOf_17 : decode cX0_copyOf 17 = .ok (.aload_n 1, 1) := by decide +kernel
theorem dX0_copyOf_18 : decode cX0_copyOf 18 = .ok (.getfield 53, 3) := by decide +kernel
theorem dX0_copyOf_21 : decode cX0_copyOf 21 = .ok (.putfield 53, 3) := by decide +kernel
theorem dX0_copyOf_24 : decode cX0_copyOf 24 = .ok (.aload_n 0, 1) := by decide +kernel
theorem dX0_copyOf_25 : decode cX0_copyOf 25 = .ok (.aload_n 1, 1) := by decide +kernel
theorem dX0_copyOf_26 : decode cX0_copyOf 26 = .ok (.getfield 56, 3) := by decide +kernel
theorem dX0_copyOf_29 : decode cX0_copyOf 29 = .ok (.putfield 56, 3) := by decide +kernel
theorem dX0_copyOf_32 : decode cX0_copyOf 32 = .ok (.aload_n 0, 1) := by decide +kernel
theorem dX0_copyOf_33 : decode cX0_copyOf 33 = .ok (.aload_n 1, 1) := by decide +kernel
theorem dX0_copyOf_34 : decode cX0_copyOf 34 = .ok (.getfield 59, 3) := by decide +kernel
theorem dX0_copyOf_37 : decode cX0_copyOf 37 = .ok (.putfield 59, 3) := by decide +kernel
theorem dX0_copyOf_40 : decode cX0_copyOf 40 = .ok (.aload_n 0, 1) := by decide +kernel
theorem dX0_copyOf_41 : decode cX0_copyOf 41 = .ok (.aload_n 1, 1) := by decide +kernel
theorem dX0_copyOf_42 : decode cX0_copyOf 42 = .ok (.getfield 62, 3) := by decide +kernel
theorem dX0_copyOf_45 : decode cX0_copyOf 45 = .ok (.putfield 62, 3) := by decide +kernel
theorem dX0_copyOf_48 : decode cX0_copyOf 48 = .ok (.iconst 0, 1) := by decide +kernel
theorem dX0_copyOf_49 : decode cX0_copyOf 49 = .ok (.istore_n 2, 1) := by decide +kernel
theorem dX0_copyOf_50 : decode cX0_copyOf 50 = .ok (.iload_n 2, 1) := by decide +kernel
theorem dX0_copyOf_51 : decode cX0_copyOf 51 = .ok (.iconst 4, 1) := by decide +kernel
theorem dX0_copyOf_52 : decode cX0_copyOf 52 = .ok (.if_icmp .ge 24, 3) := by decide +kernel
theorem dX0_copyOf_55 : decode cX0_copyOf 55 = .ok (.aload_n 0, 1) := by decide +kernel
theorem dX0_copyOf_56 : decode cX0_copyOf 56 = .ok (.getfield 17, 3) := by decide +kernel
theorem dX0_copyOf_59 : decode cX0_copyOf 59 = .ok (.iload_n 2, 1) := by decide +kernel
theorem dX0_copyOf_60 : decode cX0_copyOf 60 = .ok (.aaload, 1) := by decide +kernel
theorem dX0_copyOf_61 : decode cX0_copyOf 61 = .ok (.aload_n 1, 1) := by decide +kernel
theorem dX0_copyOf_62 : decode cX0_copyOf 62 = .ok (.getfield 17, 3) := by decide +kernel
theorem dX0_copyOf_65 : decode cX0_copyOf 65 = .ok (.iload_n 2, 1) := by decide +kernel
theorem dX0_copyOf_66 : decode cX0_copyOf 66 = .ok (.aaload, 1) := by decide +kernel
theorem dX0_copyOf_67 : decode cX0_copyOf 67 = .ok (.invokevirtual 65, 3) := by decide +kernel
theorem dX0_copyOf_70 : decode cX0_copyOf 70 = .ok (.iinc 2 1, 3) := by decide +kernel
theorem dX0_copyOf_73 : decode cX0_copyOf 73 = .ok (.goto (-23), 3) := by decide +kernel
theorem dX0_copyOf_76 : decode cX0_copyOf 76 = .ok (.aload_n 1, 1) := by decide +kernel
theorem dX0_copyOf_77 : decode cX0_copyOf 77 = .ok (.getfield 9, 3) := by decide +kernel
theorem dX0_copyOf_80 : decode cX0_copyOf 80 = .ok (.iconst 0, 1) := by decide +kernel
theorem dX0_copyOf_81 : decode cX0_copyOf 81 = .ok (.aload_n 0, 1) := by decide +kernel
theorem dX0_copyOf_82 : decode cX0_copyOf 82 = .ok (.getfield 9, 3) := by decide +kernel
theorem dX0_copyOf_85 : decode cX0_copyOf 85 = .ok (.iconst 0, 1) := by decide +kernel
theorem dX0_copyOf_86 : decode cX0_copyOf 86 = .ok (.aload_n 0, 1) := by decide +kernel
theorem dX0_copyOf_87 : decode cX0_copyOf 87 = .ok (.getfield 9, 3) := by decide +kernel
theorem dX0_copyOf_90 : decode cX0_copyOf 90 = .ok (.arraylength, 1) := by decide +kernel
theorem dX0_copyOf_91 : decode cX0_copyOf 91 = .ok (.invokestatic 69, 3) := by decide +kernel
theorem dX0_copyOf_94 : decode cX0_copyOf 94 = .ok (.aload_n 1, 1) := by decide +kernel
theorem dX0_copyOf_95 : decode cX0_copyOf 95 = .ok (.getfield 22, 3) := by decide +kernel
theorem dX0_copyOf_98 : decode cX0_copyOf 98 = .ok (.iconst 0, 1) := by decide +kernel
theorem dX0_copyOf_99 : decode cX0_copyOf 99 = .ok (.aload_n 0, 1) := by decide +kernel
theorem dX0_copyOf_100 : decode cX0_copyOf 100 = .ok (.getfield 22, 3) := by decide +kernel
theorem dX0_copyOf_103 : decode cX0_copyOf 103 = .ok (.iconst 0, 1) := by decide +kernel
theorem dX0_copyOf_104 : decode cX0_copyOf 104 = .ok (.aload_n 0, 1) := by decide +kernel
theorem dX0_copyOf_105 : decode cX0_copyOf 105 = .ok (.getfield 22, 3) := by decide +kernel
theorem dX0_copyOf_108 : decode cX0_copyOf 108 = .ok (.arraylength, 1) := by decide +kernel
theorem dX0_copyOf_109 : decode cX0_copyOf 109 = .ok (.invokestatic 69, 3) := by decide +kernel
theorem dX0_copyOf_112 : decode cX0_copyOf 112 = .ok (.aload_n 1, 1) := by decide +kernel
theorem dX0_copyOf_113 : decode cX0_copyOf 113 = .ok (.getfield 25, 3) := by decide +kernel
theorem dX0_copyOf_116 : decode cX0_copyOf 116 = .ok (.iconst 0, 1) := by decide +kernel
theorem dX0_copyOf_117 : decode cX0_copyOf 117 = .ok (.aload_n 0, 1) := by decide +kernel
theorem dX0_copyOf_118 : decode cX0_copyOf 118 = .ok (.getfield 25, 3) := by decide +kernel
theorem dX0_copyOf_121 : decode cX0_copyOf 121 = .ok (.iconst 0, 1) := by decide +kernel
theorem dX0_copyOf_122 : decode cX0_copyOf 122 = .ok (.bipush 8, 2) := by decide +kernel
theorem dX0_copyOf_124 : decode cX0_copyOf 124 = .ok (.invokestatic 69, 3) := by decide +kernel
theorem dX0_copyOf_127 : decode cX0_copyOf 127 = .ok (.aload_n 1, 1) := by decide +kernel
theorem dX0_copyOf_128 : decode cX0_copyOf 128 = .ok (.getfield 28, 3) := by decide +kernel
theorem dX0_copyOf_131 : decode cX0_copyOf 131 = .ok (.iconst 0, 1) := by decide +kernel
theorem dX0_copyOf_132 : decode cX0_copyOf 132 = .ok (.aload_n 0, 1) := by decide +kernel
theorem dX0_copyOf_133 : decode cX0_copyOf 133 = .ok (.getfield 28, 3) := by decide +kernel
theorem dX0_copyOf_136 : decode cX0_copyOf 136 = .ok (.iconst 0, 1) := by decide +kernel
theorem dX0_copyOf_137 : decode cX0_copyOf 137 = .ok (.bipush 8, 2) := by decide +kernel
theorem dX0_copyOf_139 : decode cX0_copyOf 139 = .ok (.invokestatic 69, 3) := by decide +kernel
theorem dX0_copyOf_142 : decode cX0_copyOf 142 = .ok (.aload_n 1, 1) := by decide +kernel
theorem dX0_copyOf_143 : decode cX0_copyOf 143 = .ok (.getfield 31, 3) := by decide +kernel
theorem dX0_copyOf_146 : decode cX0_copyOf 146 = .ok (.iconst 0, 1) := by decide +kernel
theorem dX0_copyOf_147 : decode cX0_copyOf 147 = .ok (.aload_n 0, 1) := by decide +kernel
theorem dX0_copyOf_148 : decode cX0_copyOf 148 = .ok (.getfield 31, 3) := by decide +kernel
theorem dX0_copyOf_151 : decode cX0_copyOf 151 = .ok (.iconst 0, 1) := by decide +kernel
theorem dX0_copyOf_152 : decode cX0_copyOf 152 = .ok (.bipush 8, 2) := by decide +kernel
theorem dX0_copyOf_154 : decode cX0_copyOf 154 = .ok (.invokestatic 69, 3) := by decide +kernel
theorem dX0_copyOf_157 : decode cX0_copyOf 157 = .ok (.aload_n 1, 1) := by decide +kernel
theorem dX0_copyOf_158 : decode cX0_copyOf 158 = .ok (.getfield 34, 3) := by decide +kernel
theorem dX0_copyOf_161 : decode cX0_copyOf 161 = .ok (.iconst 0, 1) := by decide +kernel
theorem dX0_copyOf_162 : decode cX0_copyOf 162 = .ok (.aload_n 0, 1) := by decide +kernel
theorem dX0_copyOf_163 : decode cX0_copyOf 163 = .ok (.getfield 34, 3) := by decide +kernel
theorem dX0_copyOf_166 : decode cX0_copyOf 166 = .ok (.iconst 0, 1) := by decide +kernel
theorem dX0_copyOf_167 : decode cX0_copyOf 167 = .ok (.bipush 8, 2) := by decide +kernel
theorem dX0_copyOf_169 : decode cX0_copyOf 169 = .ok (.invokestatic 69, 3) := by decide +kernel
theorem dX0_copyOf_172 : decode cX0_copyOf 172 = .ok (.return_, 1) := by decide +kernel
theorem dX0_tellsCornerThatIsNot_0 : decode cX0_tellsCornerThatIsNot 0 = .ok (.iconst 0, 1) := by decide +kernel
theorem dX0_tellsCornerThatIsNot_1 : decode cX0_tellsCornerThatIsNot 1 = .ok (.istore_n 1, 1) := by decide +kernel
theorem dX0_tellsCornerThatIsNot_2 : decode cX0_tellsCornerThatIsNot 2 = .ok (.iload_n 1, 1) := by decide +kernel
theorem dX0_tellsCornerThatIsNot_3 : decode cX0_tellsCornerThatIsNot 3 = .ok (.aload_n 0, 1) := by decide +kernel
theorem dX0_tellsCornerThatIsNot_4 : decode cX0_tellsCornerThatIsNot 4 = .ok (.getfield 9, 3) := by decide +kernel
theorem dX0_tellsCornerThatIsNot_7 : decode cX0_tellsCornerThatIsNot 7 = .ok (.arraylength, 1) := by decide +kernel
theorem dX0_tellsCornerThatIsNot_8 : decode cX0_tellsCornerThatIsNot 8 = .ok (.if_icmp .ge 45, 3) := by decide +kernel
theorem dX0_tellsCornerThatIsNot_11 : decode cX0_tellsCornerThatIsNot 11 = .ok (.aload_n 0, 1) := by decide +kernel
theorem dX0_tellsCornerThatIsNot_12 : decode cX0_tellsCornerThatIsNot 12 = .ok (.getfield 9, 3) := by decide +kernel
theorem dX0_tellsCornerThatIsNot_15 : decode cX0_tellsCornerThatIsNot 15 = .ok (.iload_n 1, 1) := by decide +kernel
theorem dX0_tellsCornerThatIsNot_16 : decode cX0_tellsCornerThatIsNot 16 = .ok (.iaload, 1) := by decide +kernel
theorem dX0_tellsCornerThatIsNot_17 : decode cX0_tellsCornerThatIsNot 17 = .ok (.bipush (-4), 2) := by decide +kernel
theorem dX0_tellsCornerThatIsNot_19 : decode cX0_tellsCornerThatIsNot 19 = .ok (.if_icmp .eq 28, 3) := by decide +kernel
theorem dX0_tellsCornerThatIsNot_22 : decode cX0_tellsCornerThatIsNot 22 = .ok (.iload_n 1, 1) := by decide +kernel
theorem dX0_tellsCornerThatIsNot_23 : decode cX0_tellsCornerThatIsNot 23 = .ok (.iconst 2, 1) := by decide +kernel
theorem dX0_tellsCornerThatIsNot_24 : decode cX0_tellsCornerThatIsNot 24 = .ok (.idiv, 1) := by decide +kernel
theorem dX0_tellsCornerThatIsNot_25 : decode cX0_tellsCornerThatIsNot 25 = .ok (.aload_n 0, 1) := by decide +kernel
theorem dX0_tellsCornerThatIsNot_26 : decode cX0_tellsCornerThatIsNot 26 = .ok (.getfield 40, 3) := by decide +kernel
theorem dX0_tellsCornerThatIsNot_29 : decode cX0_tellsCornerThatIsNot 29 = .ok (.if_icmp .ge 16, 3) := by decide +kernel
theorem dX0_tellsCornerThatIsNot_32 : decode cX0_tellsCornerThatIsNot 32 = .ok (.aload_n 0, 1) := by decide +kernel
theorem dX0_tellsCornerThatIsNot_33 : decode cX0_tellsCornerThatIsNot 33 = .ok (.getfield 9, 3) := by decide +kernel
theorem dX0_tellsCornerThatIsNot_36 : decode cX0_tellsCornerThatIsNot 36 = .ok (.iload_n 1, 1) := by decide +kernel
theorem dX0_tellsCornerThatIsNot_37 : decode cX0_tellsCornerThatIsNot 37 = .ok (.iaload, 1) := by decide +kernel
theorem dX0_tellsCornerThatIsNot_38 : decode cX0_tellsCornerThatIsNot 38 = .ok (.aload_n 0, 1) := by decide +kernel
theorem dX0_tellsCornerThatIsNot_39 : decode cX0_tellsCornerThatIsNot 39 = .ok (.getfield 40, 3) := by decide +kernel
theorem dX0_tellsCornerThatIsNot_42 : decode cX0_tellsCornerThatIsNot 42 = .ok (.if_icmp .lt 5, 3) := by decide +kernel
theorem dX0_tellsCornerThatIsNot_45 : decode cX0_tellsCornerThatIsNot 45 = .ok (.iconst 1, 1) := by decide +kernel
theorem dX0_tellsCornerThatIsNot_46 : decode cX0_tellsCornerThatIsNot 46 = .ok (.ireturn, 1) := by decide +kernel
theorem dX0_tellsCornerThatIsNot_47 : decode cX0_tellsCornerThatIsNot 47 = .ok (.iinc 1 1, 3) := by decide +kernel
theorem dX0_tellsCornerThatIsNot_50 : decode cX0_tellsCornerThatIsNot 50 = .ok (.goto (-48), 3) := by decide +kernel
theorem dX0_tellsCornerThatIsNot_53 : decode cX0_tellsCornerThatIsNot 53 = .ok (.iconst 0, 1) := by decide +kernel
theorem dX0_tellsCornerThatIsNot_54 : decode cX0_tellsCornerThatIsNot 54 = .ok (.istore_n 1, 1) := by decide +kernel
theorem dX0_tellsCornerThatIsNot_55 : decode cX0_tellsCornerThatIsNot 55 = .ok (.iload_n 1, 1) := by decide +kernel
theorem dX0_tellsCornerThatIsNot_56 : decode cX0_tellsCornerThatIsNot 56 = .ok (.aload_n 0, 1) := by decide +kernel
theorem dX0_tellsCornerThatIsNot_57 : decode cX0_tellsCornerThatIsNot 57 = .ok (.getfield 59, 3) := by decide +kernel
theorem dX0_tellsCornerThatIsNot_60 : decode cX0_tellsCornerThatIsNot 60 = .ok (.if_icmp .ge 27, 3) := by decide +kernel
theorem dX0_tellsCornerThatIsNot_63 : decode cX0_tellsCornerThatIsNot 63 = .ok (.aload_n 0, 1) := by decide +kernel
theorem dX0_tellsCornerThatIsNot_64 : decode cX0_tellsCornerThatIsNot 64 = .ok (.getfield 17, 3) := by decide +kernel
theorem dX0_tellsCornerThatIsNot_67 : decode cX0_tellsCornerThatIsNot 67 = .ok (.iload_n 1, 1) := by decide +kernel
theorem dX0_tellsCornerThatIsNot_68 : decode cX0_tellsCornerThatIsNot 68 = .ok (.aaload, 1) := by decide +kernel
theorem dX0_tellsCornerThatIsNot_69 : decode cX0_tellsCornerThatIsNot 69 = .ok (.getfield 75, 3) := by decide +kernel
theorem dX0_tellsCornerThatIsNot_72 : decode cX0_tellsCornerThatIsNot 72 = .ok (.aload_n 0, 1) := by decide +kernel
theorem dX0_tellsCornerThatIsNot_73 : decode cX0_tellsCornerThatIsNot 73 = .ok (.getfield 40, 3) := by decide +kernel
theorem dX0_tellsCornerThatIsNot_76 : decode cX0_tellsCornerThatIsNot 76 = .ok (.if_icmp .lt 5, 3) := by decide +kernel
theorem dX0_tellsCornerThatIsNot_79 : decode cX0_tellsCornerThatIsNot 79 = .ok (.iconst 1, 1) := by decide +kernel
theorem dX0_tellsCornerThatIsNot_80 : decode cX0_tellsCornerThatIsNot 80 = .ok (.ireturn, 1) := by decide +kernel
theorem dX0_tellsCornerThatIsNot_81 : decode cX0_tellsCornerThatIsNot 81 = .ok (.iinc 1 1, 3) := by decide +kernel
theorem dX0_tellsCornerThatIsNot_84 : decode cX0_tellsCornerThatIsNot 84 = .ok (.goto (-29), 3) := by decide +kernel
theorem dX0_tellsCornerThatIsNot_87 : decode cX0_tellsCornerThatIsNot 87 = .ok (.aload_n 0, 1) := by decide +kernel
theorem dX0_tellsCornerThatIsNot_88 : decode cX0_tellsCornerThatIsNot 88 = .ok (.getfield 50, 3) := by decide +kernel
theorem dX0_tellsCornerThatIsNot_91 : decode cX0_tellsCornerThatIsNot 91 = .ok (.aload_n 0, 1) := by decide +kernel
theorem dX0_tellsCornerThatIsNot_92 : decode cX0_tellsCornerThatIsNot 92 = .ok (.getfield 40, 3) := by decide +kernel
theorem dX0_tellsCornerThatIsNot_95 : decode cX0_tellsCornerThatIsNot 95 = .ok (.ishr, 1) := by decide +kernel
theorem dX0_tellsCornerThatIsNot_96 : decode cX0_tellsCornerThatIsNot 96 = .ok (.ifCond .eq 7, 3) := by decide +kernel
theorem dX0_tellsCornerThatIsNot_99 : decode cX0_tellsCornerThatIsNot 99 = .ok (.iconst 1, 1) := by decide +kernel
theorem dX0_tellsCornerThatIsNot_100 : decode cX0_tellsCornerThatIsNot 100 = .ok (.goto 4, 3) := by decide +kernel
theorem dX0_tellsCornerThatIsNot_103 : decode cX0_tellsCornerThatIsNot 103 = .ok (.iconst 0, 1) := by decide +kernel
theorem dX0_tellsCornerThatIsNot_104 : decode cX0_tellsCornerThatIsNot 104 = .ok (.ireturn, 1) := by decide +kernel
theorem dX0_hasCorner_0 : decode cX0_hasCorner 0 = .ok (.iload_n 1, 1) := by decide +kernel
theorem dX0_hasCorner_1 : decode cX0_hasCorner 1 = .ok (.ifCond .lt 15, 3) := by decide +kernel
theorem dX0_hasCorner_4 : decode cX0_hasCorner 4 = .ok (.iload_n 1, 1) := by decide +kernel
theorem dX0_hasCorner_5 : decode cX0_hasCorner 5 = .ok (.aload_n 0, 1) := by decide +kernel
theorem dX0_hasCorner_6 : decode cX0_hasCorner 6 = .ok (.getfield 40, 3) := by decide +kernel
theorem dX0_hasCorner_9 : decode cX0_hasCorner 9 = .ok (.if_icmp .ge 7, 3) := by decide +kernel
theorem dX0_hasCorner_12 : decode cX0_hasCorner 12 = .ok (.iconst 1, 1) := by decide +kernel
theorem dX0_hasCorner_13 : decode cX0_hasCorner 13 = .ok (.goto 4, 3) := by decide +kernel
theorem dX0_hasCorner_16 : decode cX0_hasCorner 16 = .ok (.iconst 0, 1) := by decide +kernel
theorem dX0_hasCorner_17 : decode cX0_hasCorner 17 = .ok (.ireturn, 1) := by decide +kernel
theorem dX0_hasWalker_0 : decode cX0_hasWalker 0 = .ok (.iload_n 1, 1) := by decide +kernel
theorem dX0_hasWalker_1 : decode cX0_hasWalker 1 = .ok (.ifCond .lt 15, 3) := by decide +kernel
theorem dX0_hasWalker_4 : decode cX0_hasWalker 4 = .ok (.iload_n 1, 1) := by decide +kernel
theorem dX0_hasWalker_5 : decode cX0_hasWalker 5 = .ok (.aload_n 0, 1) := by decide +kernel
theorem dX0_hasWalker_6 : decode cX0_hasWalker 6 = .ok (.getfield 59, 3) := by decide +kernel
theorem dX0_hasWalker_9 : decode cX0_hasWalker 9 = .ok (.if_icmp .ge 7, 3) := by decide +kernel
theorem dX0_hasWalker_12 : decode cX0_hasWalker 12 = .ok (.iconst 1, 1) := by decide +kernel
theorem dX0_hasWalker_13 : decode cX0_hasWalker 13 = .ok (.goto 4, 3) := by decide +kernel
theorem dX0_hasWalker_16 : decode cX0_hasWalker 16 = .ok (.iconst 0, 1) := by decide +kernel
theorem dX0_hasWalker_17 : decode cX0_hasWalker 17 = .ok (.ireturn, 1) := by decide +kernel
theorem dX0_hasSign_0 : decode cX0_hasSign 0 = .ok (.aload_n 0, 1) := by decide +kernel
theorem dX0_hasSign_1 : decode cX0_hasSign 1 = .ok (.getfield 50, 3) := by decide +kernel
theorem dX0_hasSign_4 : decode cX0_hasSign 4 = .ok (.iload_n 1, 1) := by decide +kernel
theorem dX0_hasSign_5 : decode cX0_hasSign 5 = .ok (.ishr, 1) := by decide +kernel
theorem dX0_hasSign_6 : decode cX0_hasSign 6 = .ok (.iconst 1, 1) := by decide +kernel
theorem dX0_hasSign_7 : decode cX0_hasSign 7 = .ok (.iand, 1) := by decide +kernel
theorem dX0_hasSign_8 : decode cX0_hasSign 8 = .ok (.iconst 1, 1) := by decide +kernel
theorem dX0_hasSign_9 : decode cX0_hasSign 9 = .ok (.if_icmp .ne 7, 3) := by decide +kernel
theorem dX0_hasSign_12 : decode cX0_hasSign 12 = .ok (.iconst 1, 1) := by decide +kernel
theorem dX0_hasSign_13 : decode cX0_hasSign 13 = .ok (.goto 4, 3) := by decide +kernel
theorem dX0_hasSign_16 : decode cX0_hasSign 16 = .ok (.iconst 0, 1) := by decide +kernel
theorem dX0_hasSign_17 : decode cX0_hasSign 17 = .ok (.ireturn, 1) := by decide +kernel
theorem dX0_streetOf_0 : decode cX0_streetOf 0 = .ok (.iconst 2, 1) := by decide +kernel
theorem dX0_streetOf_1 : decode cX0_streetOf 1 = .ok (.iload_n 1, 1) := by decide +kernel
theorem dX0_streetOf_2 : decode cX0_streetOf 2 = .ok (.imul, 1) := by decide +kernel
theorem dX0_streetOf_3 : decode cX0_streetOf 3 = .ok (.iload_n 2, 1) := by decide +kernel
theorem dX0_streetOf_4 : decode cX0_streetOf 4 = .ok (.iadd, 1) := by decide +kernel
theorem dX0_streetOf_5 : decode cX0_streetOf 5 = .ok (.istore_n 3, 1) := by decide +kernel
theorem dX0_streetOf_6 : decode cX0_streetOf 6 = .ok (.iload_n 3, 1) := by decide +kernel
theorem dX0_streetOf_7 : decode cX0_streetOf 7 = .ok (.ifCond .lt 21, 3) := by decide +kernel
theorem dX0_streetOf_10 : decode cX0_streetOf 10 = .ok (.iload_n 3, 1) := by decide +kernel
theorem dX0_streetOf_11 : decode cX0_streetOf 11 = .ok (.aload_n 0, 1) := by decide +kernel
theorem dX0_streetOf_12 : decode cX0_streetOf 12 = .ok (.getfield 9, 3) := by decide +kernel
theorem dX0_streetOf_15 : decode cX0_streetOf 15 = .ok (.arraylength, 1) := by decide +kernel
theorem dX0_streetOf_16 : decode cX0_streetOf 16 = .ok (.if_icmp .ge 12, 3) := by decide +kernel
theorem dX0_streetOf_19 : decode cX0_streetOf 19 = .ok (.aload_n 0, 1) := by decide +kernel
theorem dX0_streetOf_20 : decode cX0_streetOf 20 = .ok (.getfield 9, 3) := by decide +kernel
theorem dX0_streetOf_23 : decode cX0_streetOf 23 = .ok (.iload_n 3, 1) := by decide +kernel
theorem dX0_streetOf_24 : decode cX0_streetOf 24 = .ok (.iaload, 1) := by decide +kernel
theorem dX0_streetOf_25 : decode cX0_streetOf 25 = .ok (.goto 5, 3) := by decide +kernel
theorem dX0_streetOf_28 : decode cX0_streetOf 28 = .ok (.bipush (-4), 2) := by decide +kernel
theorem dX0_streetOf_30 : decode cX0_streetOf 30 = .ok (.ireturn, 1) := by decide +kernel
theorem dX0_setStreet_0 : decode cX0_setStreet 0 = .ok (.iconst 2, 1) := by decide +kernel
theorem dX0_setStreet_1 : decode cX0_setStreet 1 = .ok (.iload_n 1, 1) := by decide +kernel
theorem dX0_setStreet_2 : decode cX0_setStreet 2 = .ok (.imul, 1) := by decide +kernel
theorem dX0_setStreet_3 : decode cX0_setStreet 3 = .ok (.iload_n 2, 1) := by decide +kernel
theorem dX0_setStreet_4 : decode cX0_setStreet 4 = .ok (.iadd, 1) := by decide +kernel
theorem dX0_setStreet_5 : decode cX0_setStreet 5 = .ok (.istore 4, 2) := by decide +kernel
theorem dX0_setStreet_7 : decode cX0_setStreet 7 = .ok (.iload 4, 2) := by decide +kernel
theorem dX0_setStreet_9 : decode cX0_setStreet 9 = .ok (.ifCond .lt 21, 3) := by decide +kernel
theorem dX0_setStreet_12 : decode cX0_setStreet 12 = .ok (.iload 4, 2) := by decide +kernel
theorem dX0_setStreet_14 : decode cX0_setStreet 14 = .ok (.aload_n 0, 1) := by decide +kernel
theorem dX0_setStreet_15 : decode cX0_setStreet 15 = .ok (.getfield 9, 3) := by decide +kernel
theorem dX0_setStreet_18 : decode cX0_setStreet 18 = .ok (.arraylength, 1) := by decide +kernel
theorem dX0_setStreet_19 : decode cX0_setStreet 19 = .ok (.if_icmp .ge 11, 3) := by decide +kernel
theorem dX0_setStreet_22 : decode cX0_setStreet 22 = .ok (.aload_n 0, 1) := by decide +kernel
theorem dX0_setStreet_23 : decode cX0_setStreet 23 = .ok (.getfield 9, 3) := by decide +kernel
theorem dX0_setStreet_26 : decode cX0_setStreet 26 = .ok (.iload 4, 2) := by decide +kernel
theorem dX0_setStreet_28 : decode cX0_setStreet 28 = .ok (.iload_n 3, 1) := by decide +kernel
theorem dX0_setStreet_29 : decode cX0_setStreet 29 = .ok (.iastore, 1) := by decide +kernel
theorem dX0_setStreet_30 : decode cX0_setStreet 30 = .ok (.return_, 1) := by decide +kernel
theorem dX0_leadsTo_0 : decode cX0_leadsTo 0 = .ok (.iload_n 3, 1) := by decide +kernel
theorem dX0_leadsTo_1 : decode cX0_leadsTo 1 = .ok (.invokestatic 78, 3) := by decide +kernel
theorem dX0_leadsTo_4 : decode cX0_leadsTo 4 = .ok (.ifCond .eq 20, 3) := by decide +kernel
theorem dX0_leadsTo_7 : decode cX0_leadsTo 7 = .ok (.iload 4, 2) := by decide +kernel
theorem dX0_leadsTo_9 : decode cX0_leadsTo 9 = .ok (.ifCond .ne 15, 3) := by decide +kernel
theorem dX0_leadsTo_12 : decode cX0_leadsTo 12 = .ok (.aload_n 0, 1) := by decide +kernel
theorem dX0_leadsTo_13 : decode cX0_leadsTo 13 = .ok (.iload_n 1, 1) := by decide +kernel
theorem dX0_leadsTo_14 : decode cX0_leadsTo 14 = .ok (.invokevirtual 82, 3) := by decide +kernel
theorem dX0_leadsTo_17 : decode cX0_leadsTo 17 = .ok (.ifCond .ne 7, 3) := by decide +kernel
theorem dX0_leadsTo_20 : decode cX0_leadsTo 20 = .ok (.iconst 1, 1) := by decide +kernel
theorem dX0_leadsTo_21 : decode cX0_leadsTo 21 = .ok (.goto 4, 3) := by decide +kernel
theorem dX0_leadsTo_24 : decode cX0_leadsTo 24 = .ok (.iconst 0, 1) := by decide +kernel
theorem dX0_leadsTo_25 : decode cX0_leadsTo 25 = .ok (.istore 5, 2) := by decide +kernel
theorem dX0_leadsTo_27 : decode cX0_leadsTo 27 = .ok (.aload_n 0, 1) := by decide +kernel
theorem dX0_leadsTo_28 : decode cX0_leadsTo 28 = .ok (.iload_n 1, 1) := by decide +kernel
theorem dX0_leadsTo_29 : decode cX0_leadsTo 29 = .ok (.iload 5, 2) := by decide +kernel
theorem dX0_leadsTo_31 : decode cX0_leadsTo 31 = .ok (.ifCond .eq 9, 3) := by decide +kernel
theorem dX0_leadsTo_34 : decode cX0_leadsTo 34 = .ok (.iconst 1, 1) := by decide +kernel
theorem dX0_leadsTo_35 : decode cX0_leadsTo 35 = .ok (.iload_n 2, 1) := by decide +kernel
theorem dX0_leadsTo_36 : decode cX0_leadsTo 36 = .ok (.isub, 1) := by decide +kernel
theorem dX0_leadsTo_37 : decode cX0_leadsTo 37 = .ok (.goto 4, 3) := by decide +kernel
theorem dX0_leadsTo_40 : decode cX0_leadsTo 40 = .ok (.iload_n 2, 1) := by decide +kernel
theorem dX0_leadsTo_41 : decode cX0_leadsTo 41 = .ok (.invokevirtual 85, 3) := by decide +kernel
theorem dX0_leadsTo_44 : decode cX0_leadsTo 44 = .ok (.ireturn, 1) := by decide +kernel
theorem dX0_comesTo_0 : decode cX0_comesTo 0 = .ok (.aload_n 0, 1) := by decide +kernel
theorem dX0_comesTo_1 : decode cX0_comesTo 1 = .ok (.iload_n 1, 1) := by decide +kernel
theorem dX0_comesTo_2 : decode cX0_comesTo 2 = .ok (.iload_n 2, 1) := by decide +kernel
theorem dX0_comesTo_3 : decode cX0_comesTo 3 = .ok (.iload_n 3, 1) := by decide +kernel
theorem dX0_comesTo_4 : decode cX0_comesTo 4 = .ok (.iload 4, 2) := by decide +kernel
theorem dX0_comesTo_6 : decode cX0_comesTo 6 = .ok (.invokevirtual 89, 3) := by decide +kernel
theorem dX0_comesTo_9 : decode cX0_comesTo 9 = .ok (.istore 5, 2) := by decide +kernel
theorem dX0_comesTo_11 : decode cX0_comesTo 11 = .ok (.iload 5, 2) := by decide +kernel
theorem dX0_comesTo_13 : decode cX0_comesTo 13 = .ok (.bipush (-4), 2) := by decide +kernel
theorem dX0_comesTo_15 : decode cX0_comesTo 15 = .ok (.if_icmp .ne 7, 3) := by decide +kernel
theorem dX0_comesTo_18 : decode cX0_comesTo 18 = .ok (.iload_n 1, 1) := by decide +kernel
theorem dX0_comesTo_19 : decode cX0_comesTo 19 = .ok (.goto 5, 3) := by decide +kernel
theorem dX0_comesTo_22 : decode cX0_comesTo 22 = .ok (.iload 5, 2) := by decide +kernel
theorem dX0_comesTo_24 : decode cX0_comesTo 24 = .ok (.ireturn, 1) := by decide +kernel
theorem dX0_nextPlace_0 : decode cX0_nextPlace 0 = .ok (.iload_n 3, 1) := by decide +kernel
theorem dX0_nextPlace_1 : decode cX0_nextPlace 1 = .ok (.aload_n 1, 1) := by decide +kernel
theorem dX0_nextPlace_2 : decode cX0_nextPlace 2 = .ok (.invokevirtual 93, 3) := by decide +kernel
theorem dX0_nextPlace_5 : decode cX0_nextPlace 5 = .ok (.if_icmp .lt 5, 3) := by decide +kernel
theorem dX0_nextPlace_8 : decode cX0_nextPlace 8 = .ok (.iload_n 2, 1) := by decide +kernel
theorem dX0_nextPlace_9 : decode cX0_nextPlace 9 = .ok (.ireturn, 1) := by decide +kernel
theorem dX0_nextPlace_10 : decode cX0_nextPlace 10 = .ok (.aload_n 0, 1) := by decide +kernel
theorem dX0_nextPlace_11 : decode cX0_nextPlace 11 = .ok (.iload_n 2, 1) := by decide +kernel
theorem dX0_nextPlace_12 : decode cX0_nextPlace 12 = .ok (.aload_n 1, 1) := by decide +kernel
theorem dX0_nextPlace_13 : decode cX0_nextPlace 13 = .ok (.aload_n 1, 1) := by decide +kernel
theorem dX0_nextPlace_14 : decode cX0_nextPlace 14 = .ok (.getfield 97, 3) := by decide +kernel
theorem dX0_nextPlace_17 : decode cX0_nextPlace 17 = .ok (.iload_n 3, 1) := by decide +kernel
theorem dX0_nextPlace_18 : decode cX0_nextPlace 18 = .ok (.iadd, 1) := by decide +kernel
theorem dX0_nextPlace_19 : decode cX0_nextPlace 19 = .ok (.invokevirtual 100, 3) := by decide +kernel
theorem dX0_nextPlace_22 : decode cX0_nextPlace 22 = .ok (.aload_n 0, 1) := by decide +kernel
theorem dX0_nextPlace_23 : decode cX0_nextPlace 23 = .ok (.getfield 53, 3) := by decide +kernel
theorem dX0_nextPlace_26 : decode cX0_nextPlace 26 = .ok (.iload_n 3, 1) := by decide +kernel
theorem dX0_nextPlace_27 : decode cX0_nextPlace 27 = .ok (.iadd, 1) := by decide +kernel
theorem dX0_nextPlace_28 : decode cX0_nextPlace 28 = .ok (.iload 4, 2) := by decide +kernel
theorem dX0_nextPlace_30 : decode cX0_nextPlace 30 = .ok (.invokevirtual 104, 3) := by decide +kernel
theorem dX0_nextPlace_33 : decode cX0_nextPlace 33 = .ok (.ireturn, 1) := by decide +kernel
theorem dX0_placeBehind_0 : decode cX0_placeBehind 0 = .ok (.iload_n 2, 1) := by decide +kernel
theorem dX0_placeBehind_1 : decode cX0_placeBehind 1 = .ok (.istore 5, 2) := by decide +kernel
theorem dX0_placeBehind_3 : decode cX0_placeBehind 3 = .ok (.iconst 0, 1) := by decide +kernel
theorem dX0_placeBehind_4 : decode cX0_placeBehind 4 = .ok (.istore 6, 2) := by decide +kernel
theorem dX0_placeBehind_6 : decode cX0_placeBehind 6 = .ok (.iload 6, 2) := by decide +kernel
theorem dX0_placeBehind_8 : decode cX0_placeBehind 8 = .ok (.iload_n 3, 1) := by decide +kernel
theorem dX0_placeBehind_9 : decode cX0_placeBehind 9 = .ok (.if_icmp .ge 22, 3) := by decide +kernel
theorem dX0_placeBehind_12 : decode cX0_placeBehind 12 = .ok (.aload_n 0, 1) := by decide +kernel
theorem dX0_placeBehind_13 : decode cX0_placeBehind 13 = .ok (.aload_n 1, 1) := by decide +kernel
theorem dX0_placeBehind_14 : decode cX0_placeBehind 14 = .ok (.iload 5, 2) := by decide +kernel
theorem dX0_placeBehind_16 : decode cX0_placeBehind 16 = .ok (.iload 6, 2) := by decide +kernel
theorem dX0_placeBehind_18 : decode cX0_placeBehind 18 = .ok (.iload 4, 2) := by decide +kernel
theorem dX0_placeBehind_20 : decode cX0_placeBehind 20 = .ok (.invokevirtual 107, 3) := by decide +kernel
theorem dX0_placeBehind_23 : decode cX0_placeBehind 23 = .ok (.istore 5, 2) := by decide +kernel
theorem dX0_placeBehind_25 : decode cX0_placeBehind 25 = .ok (.iinc 6 1, 3) := by decide +kernel
theorem dX0_placeBehind_28 : decode cX0_placeBehind 28 = .ok (.goto (-22), 3) := by decide +kernel
theorem dX0_placeBehind_31 : decode cX0_placeBehind 31 = .ok (.iload 5, 2) := by decide +kernel
theorem dX0_placeBehind_33 : decode cX0_placeBehind 33 = .ok (.ireturn, 1) := by decide +kernel
theorem dX0_passHour_0 : decode cX0_passHour 0 = .ok (.iconst 0, 1) := by decide +kernel
theorem dX0_passHour_1 : decode cX0_passHour 1 = .ok (.istore_n 1, 1) := by decide +kernel
theorem dX0_passHour_2 : decode cX0_passHour 2 = .ok (.iload_n 1, 1) := by decide +kernel
theorem dX0_passHour_3 : decode cX0_passHour 3 = .ok (.aload_n 0, 1) := by decide +kernel
theorem dX0_passHour_4 : decode cX0_passHour 4 = .ok (.getfield 59, 3) := by decide +kernel
theorem dX0_passHour_7 : decode cX0_passHour 7 = .ok (.if_icmp .ge 53, 3) := by decide +kernel
theorem dX0_passHour_10 : decode cX0_passHour 10 = .ok (.aload_n 0, 1) := by decide +kernel
theorem dX0_passHour_11 : decode cX0_passHour 11 = .ok (.getfield 17, 3) := by decide +kernel
theorem dX0_passHour_14 : decode cX0_passHour 14 = .ok (.iload_n 1, 1) := by decide +kernel
theorem dX0_passHour_15 : decode cX0_passHour 15 = .ok (.aaload, 1) := by decide +kernel
theorem dX0_passHour_16 : decode cX0_passHour 16 = .ok (.astore_n 2, 1) := by decide +kernel
theorem dX0_passHour_17 : decode cX0_passHour 17 = .ok (.aload_n 0, 1) := by decide +kernel
theorem dX0_passHour_18 : decode cX0_passHour 18 = .ok (.getfield 37, 3) := by decide +kernel
theorem dX0_passHour_21 : decode cX0_passHour 21 = .ok (.iload_n 1, 1) := by decide +kernel
theorem dX0_passHour_22 : decode cX0_passHour 22 = .ok (.aload_n 0, 1) := by decide +kernel
theorem dX0_passHour_23 : decode cX0_passHour 23 = .ok (.aload_n 2, 1) := by decide +kernel
theorem dX0_passHour_24 : decode cX0_passHour 24 = .ok (.aload_n 2, 1) := by decide +kernel
theorem dX0_passHour_25 : decode cX0_passHour 25 = .ok (.getfield 75, 3) := by decide +kernel
theorem dX0_passHour_28 : decode cX0_passHour 28 = .ok (.iconst 0, 1) := by decide +kernel
theorem dX0_passHour_29 : decode cX0_passHour 29 = .ok (.aload_n 2, 1) := by decide +kernel
theorem dX0_passHour_30 : decode cX0_passHour 30 = .ok (.getfield 111, 3) := by decide +kernel
theorem dX0_passHour_33 : decode cX0_passHour 33 = .ok (.invokevirtual 107, 3) := by decide +kernel
theorem dX0_passHour_36 : decode cX0_passHour 36 = .ok (.iastore, 1) := by decide +kernel
theorem dX0_passHour_37 : decode cX0_passHour 37 = .ok (.aload_n 2, 1) := by decide +kernel
theorem dX0_passHour_38 : decode cX0_passHour 38 = .ok (.aload_n 2, 1) := by decide +kernel
theorem dX0_passHour_39 : decode cX0_passHour 39 = .ok (.getfield 97, 3) := by decide +kernel
theorem dX0_passHour_42 : decode cX0_passHour 42 = .ok (.iconst 1, 1) := by decide +kernel
theorem dX0_passHour_43 : decode cX0_passHour 43 = .ok (.iadd, 1) := by decide +kernel
theorem dX0_passHour_44 : decode cX0_passHour 44 = .ok (.aload_n 2, 1) := by decide +kernel
theorem dX0_passHour_45 : decode cX0_passHour 45 = .ok (.getfield 115, 3) := by decide +kernel
theorem dX0_passHour_48 : decode cX0_passHour 48 = .ok (.invokestatic 118, 3) := by decide +kernel
theorem dX0_passHour_51 : decode cX0_passHour 51 = .ok (.putfield 97, 3) := by decide +kernel
theorem dX0_passHour_54 : decode cX0_passHour 54 = .ok (.iinc 1 1, 3) := by decide +kernel
theorem dX0_passHour_57 : decode cX0_passHour 57 = .ok (.goto (-55), 3) := by decide +kernel
theorem dX0_passHour_60 : decode cX0_passHour 60 = .ok (.aload_n 0, 1) := by decide +kernel
theorem dX0_passHour_61 : decode cX0_passHour 61 = .ok (.invokevirtual 123, 3) := by decide +kernel
theorem dX0_passHour_64 : decode cX0_passHour 64 = .ok (.ireturn, 1) := by decide +kernel
theorem dX0_driftBy_0 : decode cX0_driftBy 0 = .ok (.iload_n 1, 1) := by decide +kernel
theorem dX0_driftBy_1 : decode cX0_driftBy 1 = .ok (.istore_n 3, 1) := by decide +kernel
theorem dX0_driftBy_2 : decode cX0_driftBy 2 = .ok (.iconst 0, 1) := by decide +kernel
theorem dX0_driftBy_3 : decode cX0_driftBy 3 = .ok (.istore 4, 2) := by decide +kernel
theorem dX0_driftBy_5 : decode cX0_driftBy 5 = .ok (.iconst 0, 1) := by decide +kernel
theorem dX0_driftBy_6 : decode cX0_driftBy 6 = .ok (.istore 5, 2) := by decide +kernel
theorem dX0_driftBy_8 : decode cX0_driftBy 8 = .ok (.iload 5, 2) := by decide +kernel
theorem dX0_driftBy_10 : decode cX0_driftBy 10 = .ok (.iload_n 2, 1) := by decide +kernel
theorem dX0_driftBy_11 : decode cX0_driftBy 11 = .ok (.if_icmp .ge 107, 3) := by decide +kernel
theorem dX0_driftBy_14 : decode cX0_driftBy 14 = .ok (.iconst 0, 1) := by decide +kernel
theorem dX0_driftBy_15 : decode cX0_driftBy 15 = .ok (.istore 6, 2) := by decide +kernel
theorem dX0_driftBy_17 : decode cX0_driftBy 17 = .ok (.iload 6, 2) := by decide +kernel
theorem dX0_driftBy_19 : decode cX0_driftBy 19 = .ok (.aload_n 0, 1) := by decide +kernel
theorem dX0_driftBy_20 : decode cX0_driftBy 20 = .ok (.getfield 59, 3) := by decide +kernel
theorem dX0_driftBy_23 : decode cX0_driftBy 23 = .ok (.if_icmp .ge 80, 3) := by decide +kernel
theorem dX0_driftBy_26 : decode cX0_driftBy 26 = .ok (.iload_n 3, 1) := by decide +kernel
theorem dX0_driftBy_27 : decode cX0_driftBy 27 = .ok (.ldc 126, 2) := by decide +kernel
theorem dX0_driftBy_29 : decode cX0_driftBy 29 = .ok (.imul, 1) := by decide +kernel
theorem dX0_driftBy_30 : decode cX0_driftBy 30 = .ok (.sipush 12345, 3) := by decide +kernel
theorem dX0_driftBy_33 : decode cX0_driftBy 33 = .ok (.iadd, 1) := by decide +kernel
theorem dX0_driftBy_34 : decode cX0_driftBy 34 = .ok (.istore_n 3, 1) := by decide +kernel
theorem dX0_driftBy_35 : decode cX0_driftBy 35 = .ok (.iload_n 3, 1) := by decide +kernel
theorem dX0_driftBy_36 : decode cX0_driftBy 36 = .ok (.bipush 16, 2) := by decide +kernel
theorem dX0_driftBy_38 : decode cX0_driftBy 38 = .ok (.iushr, 1) := by decide +kernel
theorem dX0_driftBy_39 : decode cX0_driftBy 39 = .ok (.sipush 32767, 3) := by decide +kernel
theorem dX0_driftBy_42 : decode cX0_driftBy 42 = .ok (.iand, 1) := by decide +kernel
theorem dX0_driftBy_43 : decode cX0_driftBy 43 = .ok (.iconst 3, 1) := by decide +kernel
theorem dX0_driftBy_44 : decode cX0_driftBy 44 = .ok (.irem, 1) := by decide +kernel
theorem dX0_driftBy_45 : decode cX0_driftBy 45 = .ok (.istore 7, 2) := by decide +kernel
theorem dX0_driftBy_47 : decode cX0_driftBy 47 = .ok (.aload_n 0, 1) := by decide +kernel
theorem dX0_driftBy_48 : decode cX0_driftBy 48 = .ok (.getfield 17, 3) := by decide +kernel
theorem dX0_driftBy_51 : decode cX0_driftBy 51 = .ok (.iload 6, 2) := by decide +kernel
theorem dX0_driftBy_53 : decode cX0_driftBy 53 = .ok (.aaload, 1) := by decide +kernel
theorem dX0_driftBy_54 : decode cX0_driftBy 54 = .ok (.astore 8, 2) := by decide +kernel
theorem dX0_driftBy_56 : decode cX0_driftBy 56 = .ok (.aload_n 0, 1) := by decide +kernel
theorem dX0_driftBy_57 : decode cX0_driftBy 57 = .ok (.getfield 37, 3) := by decide +kernel
theorem dX0_driftBy_60 : decode cX0_driftBy 60 = .ok (.iload 6, 2) := by decide +kernel
theorem dX0_driftBy_62 : decode cX0_driftBy 62 = .ok (.iload 7, 2) := by decide +kernel
theorem dX0_driftBy_64 : decode cX0_driftBy 64 = .ok (.iconst 2, 1) := by decide +kernel
theorem dX0_driftBy_65 : decode cX0_driftBy 65 = .ok (.if_icmp .ne 11, 3) := by decide +kernel
theorem dX0_driftBy_68 : decode cX0_driftBy 68 = .ok (.aload 8, 2) := by decide +kernel
theorem dX0_driftBy_70 : decode cX0_driftBy 70 = .ok (.getfield 75, 3) := by decide +kernel
theorem dX0_driftBy_73 : decode cX0_driftBy 73 = .ok (.goto 23, 3) := by decide +kernel
theorem dX0_driftBy_76 : decode cX0_driftBy 76 = .ok (.aload_n 0, 1) := by decide +kernel
theorem dX0_driftBy_77 : decode cX0_driftBy 77 = .ok (.aload 8, 2) := by decide +kernel
theorem dX0_driftBy_79 : decode cX0_driftBy 79 = .ok (.getfield 75, 3) := by decide +kernel
theorem dX0_driftBy_82 : decode cX0_driftBy 82 = .ok (.iload 7, 2) := by decide +kernel
theorem dX0_driftBy_84 : decode cX0_driftBy 84 = .ok (.aload_n 0, 1) := by decide +kernel
theorem dX0_driftBy_85 : decode cX0_driftBy 85 = .ok (.getfield 53, 3) := by decide +kernel
theorem dX0_driftBy_88 : decode cX0_driftBy 88 = .ok (.aload 8, 2) := by decide +kernel
theorem dX0_driftBy_90 : decode cX0_driftBy 90 = .ok (.getfield 111, 3) := by decide +kernel
theorem dX0_driftBy_93 : decode cX0_driftBy 93 = .ok (.invokevirtual 104, 3) := by decide +kernel
theorem dX0_driftBy_96 : decode cX0_driftBy 96 = .ok (.iastore, 1) := by decide +kernel
theorem dX0_driftBy_97 : decode cX0_driftBy 97 = .ok (.iinc 6 1, 3) := by decide +kernel
theorem dX0_driftBy_100 : decode cX0_driftBy 100 = .ok (.goto (-83), 3) := by decide +kernel
theorem dX0_driftBy_103 : decode cX0_driftBy 103 = .ok (.iload 4, 2) := by decide +kernel
theorem dX0_driftBy_105 : decode cX0_driftBy 105 = .ok (.aload_n 0, 1) := by decide +kernel
theorem dX0_driftBy_106 : decode cX0_driftBy 106 = .ok (.invokevirtual 123, 3) := by decide +kernel
theorem dX0_driftBy_109 : decode cX0_driftBy 109 = .ok (.iadd, 1) := by decide +kernel
theorem dX0_driftBy_110 : decode cX0_driftBy 110 = .ok (.istore 4, 2) := by decide +kernel
theorem dX0_driftBy_112 : decode cX0_driftBy 112 = .ok (.iinc 5 1, 3) := by decide +kernel
theorem dX0_driftBy_115 : decode cX0_driftBy 115 = .ok (.goto (-107), 3) := by decide +kernel
theorem dX0_driftBy_118 : decode cX0_driftBy 118 = .ok (.iload 4, 2) := by decide +kernel
theorem dX0_driftBy_120 : decode cX0_driftBy 120 = .ok (.ireturn, 1) := by decide +kernel
theorem dX0_endHour_0 : decode cX0_endHour 0 = .ok (.iconst 0, 1) := by decide +kernel
theorem dX0_endHour_1 : decode cX0_endHour 1 = .ok (.istore_n 1, 1) := by decide +kernel
theorem dX0_endHour_2 : decode cX0_endHour 2 = .ok (.iconst 0, 1) := by decide +kernel
theorem dX0_endHour_3 : decode cX0_endHour 3 = .ok (.istore_n 2, 1) := by decide +kernel
theorem dX0_endHour_4 : decode cX0_endHour 4 = .ok (.iload_n 2, 1) := by decide +kernel
theorem dX0_endHour_5 : decode cX0_endHour 5 = .ok (.aload_n 0, 1) := by decide +kernel
theorem dX0_endHour_6 : decode cX0_endHour 6 = .ok (.getfield 59, 3) := by decide +kernel
theorem dX0_endHour_9 : decode cX0_endHour 9 = .ok (.if_icmp .ge 61, 3) := by decide +kernel
theorem dX0_endHour_12 : decode cX0_endHour 12 = .ok (.iconst 0, 1) := by decide +kernel
theorem dX0_endHour_13 : decode cX0_endHour 13 = .ok (.istore_n 3, 1) := by decide +kernel
theorem dX0_endHour_14 : decode cX0_endHour 14 = .ok (.iload_n 3, 1) := by decide +kernel
theorem dX0_endHour_15 : decode cX0_endHour 15 = .ok (.iload_n 2, 1) := by decide +kernel
theorem dX0_endHour_16 : decode cX0_endHour 16 = .ok (.if_icmp .ge 48, 3) := by decide +kernel
theorem dX0_endHour_19 : decode cX0_endHour 19 = .ok (.aload_n 0, 1) := by decide +kernel
theorem dX0_endHour_20 : decode cX0_endHour 20 = .ok (.getfield 17, 3) := by decide +kernel
theorem dX0_endHour_23 : decode cX0_endHour 23 = .ok (.iload_n 2, 1) := by decide +kernel
theorem dX0_endHour_24 : decode cX0_endHour 24 = .ok (.aaload, 1) := by decide +kernel
theorem dX0_endHour_25 : decode cX0_endHour 25 = .ok (.getfield 75, 3) := by decide +kernel
theorem dX0_endHour_28 : decode cX0_endHour 28 = .ok (.aload_n 0, 1) := by decide +kernel
theorem dX0_endHour_29 : decode cX0_endHour 29 = .ok (.getfield 37, 3) := by decide +kernel
theorem dX0_endHour_32 : decode cX0_endHour 32 = .ok (.iload_n 2, 1) := by decide +kernel
theorem dX0_endHour_33 : decode cX0_endHour 33 = .ok (.iaload, 1) := by decide +kernel
theorem dX0_endHour_34 : decode cX0_endHour 34 = .ok (.aload_n 0, 1) := by decide +kernel
theorem dX0_endHour_35 : decode cX0_endHour 35 = .ok (.getfield 17, 3) := by decide +kernel
theorem dX0_endHour_38 : decode cX0_endHour 38 = .ok (.iload_n 3, 1) := by decide +kernel
theorem dX0_endHour_39 : decode cX0_endHour 39 = .ok (.aaload, 1) := by decide +kernel
theorem dX0_endHour_40 : decode cX0_endHour 40 = .ok (.getfield 75, 3) := by decide +kernel
theorem dX0_endHour_43 : decode cX0_endHour 43 = .ok (.aload_n 0, 1) := by decide +kernel
theorem dX0_endHour_44 : decode cX0_endHour 44 = .ok (.getfield 37, 3) := by decide +kernel
theorem dX0_endHour_47 : decode cX0_endHour 47 = .ok (.iload_n 3, 1) := by decide +kernel
theorem dX0_endHour_48 : decode cX0_endHour 48 = .ok (.iaload, 1) := by decide +kernel
theorem dX0_endHour_49 : decode cX0_endHour 49 = .ok (.invokestatic 127, 3) := by decide +kernel
theorem dX0_endHour_52 : decode cX0_endHour 52 = .ok (.ifCond .eq 6, 3) := by decide +kernel
theorem dX0_endHour_55 : decode cX0_endHour 55 = .ok (.iinc 1 1, 3) := by decide +kernel
theorem dX0_endHour_58 : decode cX0_endHour 58 = .ok (.iinc 3 1, 3) := by decide +kernel
theorem dX0_endHour_61 : decode cX0_endHour 61 = .ok (.goto (-47), 3) := by decide +kernel
theorem dX0_endHour_64 : decode cX0_endHour 64 = .ok (.iinc 2 1, 3) := by decide +kernel
theorem dX0_endHour_67 : decode cX0_endHour 67 = .ok (.goto (-63), 3) := by decide +kernel
theorem dX0_endHour_70 : decode cX0_endHour 70 = .ok (.iconst 0, 1) := by decide +kernel
theorem dX0_endHour_71 : decode cX0_endHour 71 = .ok (.istore_n 2, 1) := by decide +kernel
theorem dX0_endHour_72 : decode cX0_endHour 72 = .ok (.iload_n 2, 1) := by decide +kernel
theorem dX0_endHour_73 : decode cX0_endHour 73 = .ok (.aload_n 0, 1) := by decide +kernel
theorem dX0_endHour_74 : decode cX0_endHour 74 = .ok (.getfield 59, 3) := by decide +kernel
theorem dX0_endHour_77 : decode cX0_endHour 77 = .ok (.if_icmp .ge 24, 3) := by decide +kernel
theorem dX0_endHour_80 : decode cX0_endHour 80 = .ok (.aload_n 0, 1) := by decide +kernel
theorem dX0_endHour_81 : decode cX0_endHour 81 = .ok (.getfield 17, 3) := by decide +kernel
theorem dX0_endHour_84 : decode cX0_endHour 84 = .ok (.iload_n 2, 1) := by decide +kernel
theorem dX0_endHour_85 : decode cX0_endHour 85 = .ok (.aaload, 1) := by decide +kernel
theorem dX0_endHour_86 : decode cX0_endHour 86 = .ok (.aload_n 0, 1) := by decide +kernel
theorem dX0_endHour_87 : decode cX0_endHour 87 = .ok (.getfield 37, 3) := by decide +kernel
theorem dX0_endHour_90 : decode cX0_endHour 90 = .ok (.iload_n 2, 1) := by decide +kernel
theorem dX0_endHour_91 : decode cX0_endHour 91 = .ok (.iaload, 1) := by decide +kernel
theorem dX0_endHour_92 : decode cX0_endHour 92 = .ok (.putfield 75, 3) := by decide +kernel
theorem dX0_endHour_95 : decode cX0_endHour 95 = .ok (.iinc 2 1, 3) := by decide +kernel
theorem dX0_endHour_98 : decode cX0_endHour 98 = .ok (.goto (-26), 3) := by decide +kernel
theorem dX0_endHour_101 : decode cX0_endHour 101 = .ok (.aload_n 0, 1) := by decide +kernel
theorem dX0_endHour_102 : decode cX0_endHour 102 = .ok (.dup, 1) := by decide +kernel
theorem dX0_endHour_103 : decode cX0_endHour 103 = .ok (.getfield 56, 3) := by decide +kernel
theorem dX0_endHour_106 : decode cX0_endHour 106 = .ok (.iload_n 1, 1) := by decide +kernel
theorem dX0_endHour_107 : decode cX0_endHour 107 = .ok (.iadd, 1) := by decide +kernel
theorem dX0_endHour_108 : decode cX0_endHour 108 = .ok (.putfield 56, 3) := by decide +kernel
theorem dX0_endHour_111 : decode cX0_endHour 111 = .ok (.aload_n 0, 1) := by decide +kernel
theorem dX0_endHour_112 : decode cX0_endHour 112 = .ok (.dup, 1) := by decide +kernel
theorem dX0_endHour_113 : decode cX0_endHour 113 = .ok (.getfield 53, 3) := by decide +kernel
theorem dX0_endHour_116 : decode cX0_endHour 116 = .ok (.iconst 1, 1) := by decide +kernel
theorem dX0_endHour_117 : decode cX0_endHour 117 = .ok (.iadd, 1) := by decide +kernel
theorem dX0_endHour_118 : decode cX0_endHour 118 = .ok (.putfield 53, 3) := by decide +kernel
theorem dX0_endHour_121 : decode cX0_endHour 121 = .ok (.iload_n 1, 1) := by decide +kernel
theorem dX0_endHour_122 : decode cX0_endHour 122 = .ok (.ireturn, 1) := by decide +kernel
theorem dX0_within_0 : decode cX0_within 0 = .ok (.iload_n 1, 1) := by decide +kernel
theorem dX0_within_1 : decode cX0_within 1 = .ok (.istore_n 3, 1) := by decide +kernel
theorem dX0_within_2 : decode cX0_within 2 = .ok (.iconst 0, 1) := by decide +kernel
theorem dX0_within_3 : decode cX0_within 3 = .ok (.istore 4, 2) := by decide +kernel
theorem dX0_within_5 : decode cX0_within 5 = .ok (.iload 4, 2) := by decide +kernel
theorem dX0_within_7 : decode cX0_within 7 = .ok (.iload_n 2, 1) := by decide +kernel
theorem dX0_within_8 : decode cX0_within 8 = .ok (.if_icmp .ge 71, 3) := by decide +kernel
theorem dX0_within_11 : decode cX0_within 11 = .ok (.iload_n 3, 1) := by decide +kernel
theorem dX0_within_12 : decode cX0_within 12 = .ok (.istore 5, 2) := by decide +kernel
theorem dX0_within_14 : decode cX0_within 14 = .ok (.iconst 0, 1) := by decide +kernel
theorem dX0_within_15 : decode cX0_within 15 = .ok (.istore 6, 2) := by decide +kernel
theorem dX0_within_17 : decode cX0_within 17 = .ok (.iload 6, 2) := by decide +kernel
theorem dX0_within_19 : decode cX0_within 19 = .ok (.aload_n 0, 1) := by decide +kernel
theorem dX0_within_20 : decode cX0_within 20 = .ok (.getfield 40, 3) := by decide +kernel
theorem dX0_within_23 : decode cX0_within 23 = .ok (.if_icmp .ge 47, 3) := by decide +kernel
theorem dX0_within_26 : decode cX0_within 26 = .ok (.iload_n 3, 1) := by decide +kernel
theorem dX0_within_27 : decode cX0_within 27 = .ok (.iload 6, 2) := by decide +kernel
theorem dX0_within_29 : decode cX0_within 29 = .ok (.ishr, 1) := by decide +kernel
theorem dX0_within_30 : decode cX0_within 30 = .ok (.iconst 1, 1) := by decide +kernel
theorem dX0_within_31 : decode cX0_within 31 = .ok (.iand, 1) := by decide +kernel
theorem dX0_within_32 : decode cX0_within 32 = .ok (.iconst 1, 1) := by decide +kernel
theorem dX0_within_33 : decode cX0_within 33 = .ok (.if_icmp .ne 31, 3) := by decide +kernel
theorem dX0_within_36 : decode cX0_within 36 = .ok (.iload 5, 2) := by decide +kernel
theorem dX0_within_38 : decode cX0_within 38 = .ok (.aload_n 0, 1) := by decide +kernel
theorem dX0_within_39 : decode cX0_within 39 = .ok (.aload_n 0, 1) := by decide +kernel
theorem dX0_within_40 : decode cX0_within 40 = .ok (.iload 6, 2) := by decide +kernel
theorem dX0_within_42 : decode cX0_within 42 = .ok (.iconst 0, 1) := by decide +kernel
theorem dX0_within_43 : decode cX0_within 43 = .ok (.invokevirtual 85, 3) := by decide +kernel
theorem dX0_within_46 : decode cX0_within 46 = .ok (.invokevirtual 131, 3) := by decide +kernel
theorem dX0_within_49 : decode cX0_within 49 = .ok (.aload_n 0, 1) := by decide +kernel
theorem dX0_within_50 : decode cX0_within 50 = .ok (.aload_n 0, 1) := by decide +kernel
theorem dX0_within_51 : decode cX0_within 51 = .ok (.iload 6, 2) := by decide +kernel
theorem dX0_within_53 : decode cX0_within 53 = .ok (.iconst 1, 1) := by decide +kernel
theorem dX0_within_54 : decode cX0_within 54 = .ok (.invokevirtual 85, 3) := by decide +kernel
theorem dX0_within_57 : decode cX0_within 57 = .ok (.invokevirtual 131, 3) := by decide +kernel
theorem dX0_within_60 : decode cX0_within 60 = .ok (.ior, 1) := by decide +kernel
theorem dX0_within_61 : decode cX0_within 61 = .ok (.ior, 1) := by decide +kernel
theorem dX0_within_62 : decode cX0_within 62 = .ok (.istore 5, 2) := by decide +kernel
theorem dX0_within_64 : decode cX0_within 64 = .ok (.iinc 6 1, 3) := by decide +kernel
theorem dX0_within_67 : decode cX0_within 67 = .ok (.goto (-50), 3) := by decide +kernel
theorem dX0_within_70 : decode cX0_within 70 = .ok (.iload 5, 2) := by decide +kernel
theorem dX0_within_72 : decode cX0_within 72 = .ok (.istore_n 3, 1) := by decide +kernel
theorem dX0_within_73 : decode cX0_within 73 = .ok (.iinc 4 1, 3) := by decide +kernel
theorem dX0_within_76 : decode cX0_within 76 = .ok (.goto (-71), 3) := by decide +kernel
theorem dX0_within_79 : decode cX0_within 79 = .ok (.iload_n 3, 1) := by decide +kernel
theorem dX0_within_80 : decode cX0_within 80 = .ok (.ireturn, 1) := by decide +kernel
theorem dX0_bitOf_0 : decode cX0_bitOf 0 = .ok (.aload_n 0, 1) := by decide +kernel
theorem dX0_bitOf_1 : decode cX0_bitOf 1 = .ok (.iload_n 1, 1) := by decide +kernel
theorem dX0_bitOf_2 : decode cX0_bitOf 2 = .ok (.invokevirtual 134, 3) := by decide +kernel
theorem dX0_bitOf_5 : decode cX0_bitOf 5 = .ok (.ifCond .eq 9, 3) := by decide +kernel
theorem dX0_bitOf_8 : decode cX0_bitOf 8 = .ok (.iconst 1, 1) := by decide +kernel
theorem dX0_bitOf_9 : decode cX0_bitOf 9 = .ok (.iload_n 1, 1) := by decide +kernel
theorem dX0_bitOf_10 : decode cX0_bitOf 10 = .ok (.ishl, 1) := by decide +kernel
theorem dX0_bitOf_11 : decode cX0_bitOf 11 = .ok (.goto 4, 3) := by decide +kernel
theorem dX0_bitOf_14 : decode cX0_bitOf 14 = .ok (.iconst 0, 1) := by decide +kernel
theorem dX0_bitOf_15 : decode cX0_bitOf 15 = .ok (.ireturn, 1) := by decide +kernel
theorem dX0_distance_0 : decode cX0_distance 0 = .ok (.aload_n 0, 1) := by decide +kernel
theorem dX0_distance_1 : decode cX0_distance 1 = .ok (.iload_n 1, 1) := by decide +kernel
theorem dX0_distance_2 : decode cX0_distance 2 = .ok (.invokevirtual 131, 3) := by decide +kernel
theorem dX0_distance_5 : decode cX0_distance 5 = .ok (.istore_n 3, 1) := by decide +kernel
theorem dX0_distance_6 : decode cX0_distance 6 = .ok (.iconst 0, 1) := by decide +kernel
theorem dX0_distance_7 : decode cX0_distance 7 = .ok (.istore 4, 2) := by decide +kernel
theorem dX0_distance_9 : decode cX0_distance 9 = .ok (.iload 4, 2) := by decide +kernel
theorem dX0_distance_11 : decode cX0_distance 11 = .ok (.bipush 24, 2) := by decide +kernel
theorem dX0_distance_13 : decode cX0_distance 13 = .ok (.if_icmp .gt 29, 3) := by decide +kernel
theorem dX0_distance_16 : decode cX0_distance 16 = .ok (.iload_n 3, 1) := by decide +kernel
theorem dX0_distance_17 : decode cX0_distance 17 = .ok (.aload_n 0, 1) := by decide +kernel
theorem dX0_distance_18 : decode cX0_distance 18 = .ok (.iload_n 2, 1) := by decide +kernel
theorem dX0_distance_19 : decode cX0_distance 19 = .ok (.invokevirtual 131, 3) := by decide +kernel
theorem dX0_distance_22 : decode cX0_distance 22 = .ok (.iand, 1) := by decide +kernel
theorem dX0_distance_23 : decode cX0_distance 23 = .ok (.ifCond .eq 6, 3) := by decide +kernel
theorem dX0_distance_26 : decode cX0_distance 26 = .ok (.iload 4, 2) := by decide +kernel
theorem dX0_distance_28 : decode cX0_distance 28 = .ok (.ireturn, 1) := by decide +kernel
theorem dX0_distance_29 : decode cX0_distance 29 = .ok (.aload_n 0, 1) := by decide +kernel
theorem dX0_distance_30 : decode cX0_distance 30 = .ok (.iload_n 3, 1) := by decide +kernel
theorem dX0_distance_31 : decode cX0_distance 31 = .ok (.iconst 1, 1) := by decide +kernel
theorem dX0_distance_32 : decode cX0_distance 32 = .ok (.invokevirtual 137, 3) := by decide +kernel
theorem dX0_distance_35 : decode cX0_distance 35 = .ok (.istore_n 3, 1) := by decide +kernel
theorem dX0_distance_36 : decode cX0_distance 36 = .ok (.iinc 4 1, 3) := by decide +kernel
theorem dX0_distance_39 : decode cX0_distance 39 = .ok (.goto (-30), 3) := by decide +kernel
theorem dX0_distance_42 : decode cX0_distance 42 = .ok (.iconst (-1), 1) := by decide +kernel
theorem dX0_distance_43 : decode cX0_distance 43 = .ok (.ireturn, 1) := by decide +kernel
theorem dX0_addSight_0 : decode cX0_addSight 0 = .ok (.aload_n 0, 1) := by decide +kernel
theorem dX0_addSight_1 : decode cX0_addSight 1 = .ok (.getfield 62, 3) := by decide +kernel
theorem dX0_addSight_4 : decode cX0_addSight 4 = .ok (.bipush 8, 2) := by decide +kernel
theorem dX0_addSight_6 : decode cX0_addSight 6 = .ok (.if_icmp .ge 57, 3) := by decide +kernel
theorem dX0_addSight_9 : decode cX0_addSight 9 = .ok (.aload_n 0, 1) := by decide +kernel
theorem dX0_addSight_10 : decode cX0_addSight 10 = .ok (.getfield 25, 3) := by decide +kernel
theorem dX0_addSight_13 : decode cX0_addSight 13 = .ok (.aload_n 0, 1) := by decide +kernel
theorem dX0_addSight_14 : decode cX0_addSight 14 = .ok (.getfield 62, 3) := by decide +kernel
theorem dX0_addSight_17 : decode cX0_addSight 17 = .ok (.iload_n 1, 1) := by decide +kernel
theorem dX0_addSight_18 : decode cX0_addSight 18 = .ok (.iastore, 1) := by decide +kernel
theorem dX0_addSight_19 : decode cX0_addSight 19 = .ok (.aload_n 0, 1) := by decide +kernel
theorem dX0_addSight_20 : decode cX0_addSight 20 = .ok (.getfield 28, 3) := by decide +kernel
theorem dX0_addSight_23 : decode cX0_addSight 23 = .ok (.aload_n 0, 1) := by decide +kernel
theorem dX0_addSight_24 : decode cX0_addSight 24 = .ok (.getfield 62, 3) := by decide +kernel
theorem dX0_addSight_27 : decode cX0_addSight 27 = .ok (.iload_n 2, 1) := by decide +kernel
theorem dX0_addSight_28 : decode cX0_addSight 28 = .ok (.iastore, 1) := by decide +kernel
theorem dX0_addSight_29 : decode cX0_addSight 29 = .ok (.aload_n 0, 1) := by decide +kernel
theorem dX0_addSight_30 : decode cX0_addSight 30 = .ok (.getfield 31, 3) := by decide +kernel
theorem dX0_addSight_33 : decode cX0_addSight 33 = .ok (.aload_n 0, 1) := by decide +kernel
theorem dX0_addSight_34 : decode cX0_addSight 34 = .ok (.getfield 62, 3) := by decide +kernel
theorem dX0_addSight_37 : decode cX0_addSight 37 = .ok (.iload_n 3, 1) := by decide +kernel
theorem dX0_addSight_38 : decode cX0_addSight 38 = .ok (.iastore, 1) := by decide +kernel
theorem dX0_addSight_39 : decode cX0_addSight 39 = .ok (.aload_n 0, 1) := by decide +kernel
theorem dX0_addSight_40 : decode cX0_addSight 40 = .ok (.getfield 34, 3) := by decide +kernel
theorem dX0_addSight_43 : decode cX0_addSight 43 = .ok (.aload_n 0, 1) := by decide +kernel
theorem dX0_addSight_44 : decode cX0_addSight 44 = .ok (.getfield 62, 3) := by decide +kernel
theorem dX0_addSight_47 : decode cX0_addSight 47 = .ok (.iload 4, 2) := by decide +kernel
theorem dX0_addSight_49 : decode cX0_addSight 49 = .ok (.invokestatic 140, 3) := by decide +kernel
theorem dX0_addSight_52 : decode cX0_addSight 52 = .ok (.iastore, 1) := by decide +kernel
theorem dX0_addSight_53 : decode cX0_addSight 53 = .ok (.aload_n 0, 1) := by decide +kernel
theorem dX0_addSight_54 : decode cX0_addSight 54 = .ok (.dup, 1) := by decide +kernel
theorem dX0_addSight_55 : decode cX0_addSight 55 = .ok (.getfield 62, 3) := by decide +kernel
theorem dX0_addSight_58 : decode cX0_addSight 58 = .ok (.iconst 1, 1) := by decide +kernel
theorem dX0_addSight_59 : decode cX0_addSight 59 = .ok (.iadd, 1) := by decide +kernel
theorem dX0_addSight_60 : decode cX0_addSight 60 = .ok (.putfield 62, 3) := by decide +kernel
theorem dX0_addSight_63 : decode cX0_addSight 63 = .ok (.return_, 1) := by decide +kernel
theorem dX0_isAsSeen_0 : decode cX0_isAsSeen 0 = .ok (.iconst 0, 1) := by decide +kernel
theorem dX0_isAsSeen_1 : decode cX0_isAsSeen 1 = .ok (.istore 4, 2) := by decide +kernel
theorem dX0_isAsSeen_3 : decode cX0_isAsSeen 3 = .ok (.iload 4, 2) := by decide +kernel
theorem dX0_isAsSeen_5 : decode cX0_isAsSeen 5 = .ok (.aload_n 0, 1) := by decide +kernel
theorem dX0_isAsSeen_6 : decode cX0_isAsSeen 6 = .ok (.getfield 62, 3) := by decide +kernel
theorem dX0_isAsSeen_9 : decode cX0_isAsSeen 9 = .ok (.if_icmp .ge 73, 3) := by decide +kernel
theorem dX0_isAsSeen_12 : decode cX0_isAsSeen 12 = .ok (.aload_n 0, 1) := by decide +kernel
theorem dX0_isAsSeen_13 : decode cX0_isAsSeen 13 = .ok (.getfield 25, 3) := by decide +kernel
theorem dX0_isAsSeen_16 : decode cX0_isAsSeen 16 = .ok (.iload 4, 2) := by decide +kernel
theorem dX0_isAsSeen_18 : decode cX0_isAsSeen 18 = .ok (.iaload, 1) := by decide +kernel
theorem dX0_isAsSeen_19 : decode cX0_isAsSeen 19 = .ok (.iload_n 1, 1) := by decide +kernel
theorem dX0_isAsSeen_20 : decode cX0_isAsSeen 20 = .ok (.if_icmp .ne 56, 3) := by decide +kernel
theorem dX0_isAsSeen_23 : decode cX0_isAsSeen 23 = .ok (.aload_n 0, 1) := by decide +kernel
theorem dX0_isAsSeen_24 : decode cX0_isAsSeen 24 = .ok (.aload_n 0, 1) := by decide +kernel
theorem dX0_isAsSeen_25 : decode cX0_isAsSeen 25 = .ok (.getfield 17, 3) := by decide +kernel
theorem dX0_isAsSeen_28 : decode cX0_isAsSeen 28 = .ok (.iload_n 1, 1) := by decide +kernel
theorem dX0_isAsSeen_29 : decode cX0_isAsSeen 29 = .ok (.aaload, 1) := by decide +kernel
theorem dX0_isAsSeen_30 : decode cX0_isAsSeen 30 = .ok (.iload_n 2, 1) := by decide +kernel
theorem dX0_isAsSeen_31 : decode cX0_isAsSeen 31 = .ok (.aload_n 0, 1) := by decide +kernel
theorem dX0_isAsSeen_32 : decode cX0_isAsSeen 32 = .ok (.getfield 28, 3) := by decide +kernel
theorem dX0_isAsSeen_35 : decode cX0_isAsSeen 35 = .ok (.iload 4, 2) := by decide +kernel
theorem dX0_isAsSeen_37 : decode cX0_isAsSeen 37 = .ok (.iaload, 1) := by decide +kernel
theorem dX0_isAsSeen_38 : decode cX0_isAsSeen 38 = .ok (.iload_n 3, 1) := by decide +kernel
theorem dX0_isAsSeen_39 : decode cX0_isAsSeen 39 = .ok (.invokevirtual 144, 3) := by decide +kernel
theorem dX0_isAsSeen_42 : decode cX0_isAsSeen 42 = .ok (.istore 5, 2) := by decide +kernel
theorem dX0_isAsSeen_44 : decode cX0_isAsSeen 44 = .ok (.iload 5, 2) := by decide +kernel
theorem dX0_isAsSeen_46 : decode cX0_isAsSeen 46 = .ok (.aload_n 0, 1) := by decide +kernel
theorem dX0_isAsSeen_47 : decode cX0_isAsSeen 47 = .ok (.getfield 31, 3) := by decide +kernel
theorem dX0_isAsSeen_50 : decode cX0_isAsSeen 50 = .ok (.iload 4, 2) := by decide +kernel
theorem dX0_isAsSeen_52 : decode cX0_isAsSeen 52 = .ok (.iaload, 1) := by decide +kernel
theorem dX0_isAsSeen_53 : decode cX0_isAsSeen 53 = .ok (.if_icmp .ne 7, 3) := by decide +kernel
theorem dX0_isAsSeen_56 : decode cX0_isAsSeen 56 = .ok (.iconst 1, 1) := by decide +kernel
theorem dX0_isAsSeen_57 : decode cX0_isAsSeen 57 = .ok (.goto 4, 3) := by decide +kernel
theorem dX0_isAsSeen_60 : decode cX0_isAsSeen 60 = .ok (.iconst 0, 1) := by decide +kernel
theorem dX0_isAsSeen_61 : decode cX0_isAsSeen 61 = .ok (.invokestatic 140, 3) := by decide +kernel
theorem dX0_isAsSeen_64 : decode cX0_isAsSeen 64 = .ok (.aload_n 0, 1) := by decide +kernel
theorem dX0_isAsSeen_65 : decode cX0_isAsSeen 65 = .ok (.getfield 34, 3) := by decide +kernel
theorem dX0_isAsSeen_68 : decode cX0_isAsSeen 68 = .ok (.iload 4, 2) := by decide +kernel
theorem dX0_isAsSeen_70 : decode cX0_isAsSeen 70 = .ok (.iaload, 1) := by decide +kernel
theorem dX0_isAsSeen_71 : decode cX0_isAsSeen 71 = .ok (.if_icmp .eq 5, 3) := by decide +kernel
theorem dX0_isAsSeen_74 : decode cX0_isAsSeen 74 = .ok (.iconst 0, 1) := by decide +kernel
theorem dX0_isAsSeen_75 : decode cX0_isAsSeen 75 = .ok (.ireturn, 1) := by decide +kernel
theorem dX0_isAsSeen_76 : decode cX0_isAsSeen 76 = .ok (.iinc 4 1, 3) := by decide +kernel
theorem dX0_isAsSeen_79 : decode cX0_isAsSeen 79 = .ok (.goto (-76), 3) := by decide +kernel
theorem dX0_isAsSeen_82 : decode cX0_isAsSeen 82 = .ok (.iconst 1, 1) := by decide +kernel
theorem dX0_isAsSeen_83 : decode cX0_isAsSeen 83 = .ok (.ireturn, 1) := by decide +kernel
theorem dX0_glovesFor_0 : decode cX0_glovesFor 0 = .ok (.aload_n 0, 1) := by decide +kernel
theorem dX0_glovesFor_1 : decode cX0_glovesFor 1 = .ok (.getfield 22, 3) := by decide +kernel
theorem dX0_glovesFor_4 : decode cX0_glovesFor 4 = .ok (.iload_n 2, 1) := by decide +kernel
theorem dX0_glovesFor_5 : decode cX0_glovesFor 5 = .ok (.ifCond .eq 9, 3) := by decide +kernel
theorem dX0_glovesFor_8 : decode cX0_glovesFor 8 = .ok (.iconst 1, 1) := by decide +kernel
theorem dX0_glovesFor_9 : decode cX0_glovesFor 9 = .ok (.iload_n 1, 1) := by decide +kernel
theorem dX0_glovesFor_10 : decode cX0_glovesFor 10 = .ok (.isub, 1) := by decide +kernel
theorem dX0_glovesFor_11 : decode cX0_glovesFor 11 = .ok (.goto 4, 3) := by decide +kernel
theorem dX0_glovesFor_14 : decode cX0_glovesFor 14 = .ok (.iload_n 1, 1) := by decide +kernel
theorem dX0_glovesFor_15 : decode cX0_glovesFor 15 = .ok (.iaload, 1) := by decide +kernel
theorem dX0_glovesFor_16 : decode cX0_glovesFor 16 = .ok (.aload_n 0, 1) := by decide +kernel
theorem dX0_glovesFor_17 : decode cX0_glovesFor 17 = .ok (.getfield 22, 3) := by decide +kernel
theorem dX0_glovesFor_20 : decode cX0_glovesFor 20 = .ok (.iconst 2, 1) := by decide +kernel
theorem dX0_glovesFor_21 : decode cX0_glovesFor 21 = .ok (.iload_n 1, 1) := by decide +kernel
theorem dX0_glovesFor_22 : decode cX0_glovesFor 22 = .ok (.iadd, 1) := by decide +kernel
theorem dX0_glovesFor_23 : decode cX0_glovesFor 23 = .ok (.iaload, 1) := by decide +kernel
theorem dX0_glovesFor_24 : decode cX0_glovesFor 24 = .ok (.iadd, 1) := by decide +kernel
theorem dX0_glovesFor_25 : decode cX0_glovesFor 25 = .ok (.ireturn, 1) := by decide +kernel
theorem dX0_placeBits_0 : decode cX0_placeBits 0 = .ok (.iconst 0, 1) := by decide +kernel
theorem dX0_placeBits_1 : decode cX0_placeBits 1 = .ok (.istore_n 1, 1) := by decide +kernel
theorem dX0_placeBits_2 : decode cX0_placeBits 2 = .ok (.iconst 0, 1) := by decide +kernel
theorem dX0_placeBits_3 : decode cX0_placeBits 3 = .ok (.istore_n 2, 1) := by decide +kernel
theorem dX0_placeBits_4 : decode cX0_placeBits 4 = .ok (.iload_n 2, 1) := by decide +kernel
theorem dX0_placeBits_5 : decode cX0_placeBits 5 = .ok (.aload_n 0, 1) := by decide +kernel
theorem dX0_placeBits_6 : decode cX0_placeBits 6 = .ok (.getfield 59, 3) := by decide +kernel
theorem dX0_placeBits_9 : decode cX0_placeBits 9 = .ok (.if_icmp .ge 23, 3) := by decide +kernel
theorem dX0_placeBits_12 : decode cX0_placeBits 12 = .ok (.iload_n 1, 1) := by decide +kernel
theorem dX0_placeBits_13 : decode cX0_placeBits 13 = .ok (.iconst 1, 1) := by decide +kernel
theorem dX0_placeBits_14 : decode cX0_placeBits 14 = .ok (.aload_n 0, 1) := by decide +kernel
theorem dX0_placeBits_15 : decode cX0_placeBits 15 = .ok (.getfield 17, 3) := by decide +kernel
theorem dX0_placeBits_18 : decode cX0_placeBits 18 = .ok (.iload_n 2, 1) := by decide +kernel
theorem dX0_placeBits_19 : decode cX0_placeBits 19 = .ok (.aaload, 1) := by decide +kernel
theorem dX0_placeBits_20 : decode cX0_placeBits 20 = .ok (.getfield 75, 3) := by decide +kernel
theorem dX0_placeBits_23 : decode cX0_placeBits 23 = .ok (.ishl, 1) := by decide +kernel
theorem dX0_placeBits_24 : decode cX0_placeBits 24 = .ok (.ior, 1) := by decide +kernel
theorem dX0_placeBits_25 : decode cX0_placeBits 25 = .ok (.istore_n 1, 1) := by decide +kernel
theorem dX0_placeBits_26 : decode cX0_placeBits 26 = .ok (.iinc 2 1, 3) := by decide +kernel
theorem dX0_placeBits_29 : decode cX0_placeBits 29 = .ok (.goto (-25), 3) := by decide +kernel
theorem dX0_placeBits_32 : decode cX0_placeBits 32 = .ok (.iload_n 1, 1) := by decide +kernel
theorem dX0_placeBits_33 : decode cX0_placeBits 33 = .ok (.ireturn, 1) := by decide +kernel
theorem dX0_countStreets_0 : decode cX0_countStreets 0 = .ok (.iconst 0, 1) := by decide +kernel
theorem dX0_countStreets_1 : decode cX0_countStreets 1 = .ok (.istore_n 1, 1) := by decide +kernel
theorem dX0_countStreets_2 : decode cX0_countStreets 2 = .ok (.iconst 0, 1) := by decide +kernel
theorem dX0_countStreets_3 : decode cX0_countStreets 3 = .ok (.istore_n 2, 1) := by decide +kernel
theorem dX0_countStreets_4 : decode cX0_countStreets 4 = .ok (.iload_n 2, 1) := by decide +kernel
theorem dX0_countStreets_5 : decode cX0_countStreets 5 = .ok (.aload_n 0, 1) := by decide +kernel
theorem dX0_countStreets_6 : decode cX0_countStreets 6 = .ok (.getfield 9, 3) := by decide +kernel
theorem dX0_countStreets_9 : decode cX0_countStreets 9 = .ok (.arraylength, 1) := by decide +kernel
theorem dX0_countStreets_10 : decode cX0_countStreets 10 = .ok (.if_icmp .ge 31, 3) := by decide +kernel
theorem dX0_countStreets_13 : decode cX0_countStreets 13 = .ok (.iload_n 1, 1) := by decide +kernel
theorem dX0_countStreets_14 : decode cX0_countStreets 14 = .ok (.aload_n 0, 1) := by decide +kernel
theorem dX0_countStreets_15 : decode cX0_countStreets 15 = .ok (.getfield 9, 3) := by decide +kernel
theorem dX0_countStreets_18 : decode cX0_countStreets 18 = .ok (.iload_n 2, 1) := by decide +kernel
theorem dX0_countStreets_19 : decode cX0_countStreets 19 = .ok (.iaload, 1) := by decide +kernel
theorem dX0_countStreets_20 : decode cX0_countStreets 20 = .ok (.bipush (-4), 2) := by decide +kernel
theorem dX0_countStreets_22 : decode cX0_countStreets 22 = .ok (.if_icmp .eq 7, 3) := by decide +kernel
theorem dX0_countStreets_25 : decode cX0_countStreets 25 = .ok (.iconst 1, 1) := by decide +kernel
theorem dX0_countStreets_26 : decode cX0_countStreets 26 = .ok (.goto 4, 3) := by decide +kernel
theorem dX0_countStreets_29 : decode cX0_countStreets 29 = .ok (.iconst 0, 1) := by decide +kernel
theorem dX0_countStreets_30 : decode cX0_countStreets 30 = .ok (.invokestatic 140, 3) := by decide +kernel
theorem dX0_countStreets_33 : decode cX0_countStreets 33 = .ok (.iadd, 1) := by decide +kernel
theorem dX0_countStreets_34 : decode cX0_countStreets 34 = .ok (.istore_n 1, 1) := by decide +kernel
theorem dX0_countStreets_35 : decode cX0_countStreets 35 = .ok (.iinc 2 1, 3) := by decide +kernel
theorem dX0_countStreets_38 : decode cX0_countStreets 38 = .ok (.goto (-34), 3) := by decide +kernel
theorem dX0_countStreets_41 : decode cX0_countStreets 41 = .ok (.iload_n 1, 1) := by decide +kernel
theorem dX0_countStreets_42 : decode cX0_countStreets 42 = .ok (.ireturn, 1) := by decide +kernel
theorem dX0_countLetters_0 : decode cX0_countLetters 0 = .ok (.iconst 0, 1) := by decide +kernel
theorem dX0_countLetters_1 : decode cX0_countLetters 1 = .ok (.istore_n 1, 1) := by decide +kernel
theorem dX0_countLetters_2 : decode cX0_countLetters 2 = .ok (.iconst 0, 1) := by decide +kernel
theorem dX0_countLetters_3 : decode cX0_countLetters 3 = .ok (.istore_n 2, 1) := by decide +kernel
theorem dX0_countLetters_4 : decode cX0_countLetters 4 = .ok (.iload_n 2, 1) := by decide +kernel
theorem dX0_countLetters_5 : decode cX0_countLetters 5 = .ok (.aload_n 0, 1) := by decide +kernel
theorem dX0_countLetters_6 : decode cX0_countLetters 6 = .ok (.getfield 59, 3) := by decide +kernel
theorem dX0_countLetters_9 : decode cX0_countLetters 9 = .ok (.if_icmp .ge 21, 3) := by decide +kernel
theorem dX0_countLetters_12 : decode cX0_countLetters 12 = .ok (.iload_n 1, 1) := by decide +kernel
theorem dX0_countLetters_13 : decode cX0_countLetters 13 = .ok (.aload_n 0, 1) := by decide +kernel
theorem dX0_countLetters_14 : decode cX0_countLetters 14 = .ok (.getfield 17, 3) := by decide +kernel
theorem dX0_countLetters_17 : decode cX0_countLetters 17 = .ok (.iload_n 2, 1) := by decide +kernel
theorem dX0_countLetters_18 : decode cX0_countLetters 18 = .ok (.aaload, 1) := by decide +kernel
theorem dX0_countLetters_19 : decode cX0_countLetters 19 = .ok (.invokevirtual 93, 3) := by decide +kernel
theorem dX0_countLetters_22 : decode cX0_countLetters 22 = .ok (.iadd, 1) := by decide +kernel
theorem dX0_countLetters_23 : decode cX0_countLetters 23 = .ok (.istore_n 1, 1) := by decide +kernel
theorem dX0_countLetters_24 : decode cX0_countLetters 24 = .ok (.iinc 2 1, 3) := by decide +kernel
theorem dX0_countLetters_27 : decode cX0_countLetters 27 = .ok (.goto (-23), 3) := by decide +kernel
theorem dX0_countLetters_30 : decode cX0_countLetters 30 = .ok (.iload_n 1, 1) := by decide +kernel
theorem dX0_countLetters_31 : decode cX0_countLetters 31 = .ok (.ireturn, 1) := by decide +kernel
theorem dX1_init_0 : decode cX1_init 0 = .ok (.aload_n 0, 1) := by decide +kernel
theorem dX1_init_1 : decode cX1_init 1 = .ok (.invokespecial 3, 3) := by decide +kernel
theorem dX1_init_4 : decode cX1_init 4 = .ok (.aload_n 0, 1) := by decide +kernel
theorem dX1_init_5 : decode cX1_init 5 = .ok (.bipush 8, 2) := by decide +kernel
theorem dX1_init_7 : decode cX1_init 7 = .ok (.newarray .long, 2) := by decide +kernel
theorem dX1_init_9 : decode cX1_init 9 = .ok (.putfield 9, 3) := by decide +kernel
theorem dX1_init_12 : decode cX1_init 12 = .ok (.aload_n 0, 1) := by decide +kernel
theorem dX1_init_13 : decode cX1_init 13 = .ok (.bipush 8, 2) := by decide +kernel
theorem dX1_init_15 : decode cX1_init 15 = .ok (.newarray .long, 2) := by decide +kernel
theorem dX1_init_17 : decode cX1_init 17 = .ok (.putfield 15, 3) := by decide +kernel
theorem dX1_init_20 : decode cX1_init 20 = .ok (.aload_n 0, 1) := by decide +kernel
theorem dX1_init_21 : decode cX1_init 21 = .ok (.lconst 1, 1) := by decide +kernel
theorem dX1_init_22 : decode cX1_init 22 = .ok (.putfield 18, 3) := by decide +kernel
theorem dX1_init_25 : decode cX1_init 25 = .ok (.return_, 1) := by decide +kernel
theorem dX1_weigh_0 : decode cX1_weigh 0 = .ok (.aload_n 0, 1) := by decide +kernel
theorem dX1_weigh_1 : decode cX1_weigh 1 = .ok (.getfield 9, 3) := by decide +kernel
theorem dX1_weigh_4 : decode cX1_weigh 4 = .ok (.lconst 0, 1) := by decide +kernel
theorem dX1_weigh_5 : decode cX1_weigh 5 = .ok (.invokestatic 22, 3) := by decide +kernel
theorem dX1_weigh_8 : decode cX1_weigh 8 = .ok (.aload_n 1, 1) := by decide +kernel
theorem dX1_weigh_9 : decode cX1_weigh 9 = .ok (.aload_n 2, 1) := by decide +kernel
theorem dX1_weigh_10 : decode cX1_weigh 10 = .ok (.getfield 28, 3) := by decide +kernel
theorem dX1_weigh_13 : decode cX1_weigh 13 = .ok (.invokevirtual 34, 3) := by decide +kernel
theorem dX1_weigh_16 : decode cX1_weigh 16 = .ok (.ifCond .eq 13, 3) := by decide +kernel
theorem dX1_weigh_19 : decode cX1_weigh 19 = .ok (.aload_n 0, 1) := by decide +kernel
theorem dX1_weigh_20 : decode cX1_weigh 20 = .ok (.getfield 9, 3) := by decide +kernel
theorem dX1_weigh_23 : decode cX1_weigh 23 = .ok (.aload_n 2, 1) := by decide +kernel
theorem dX1_weigh_24 : decode cX1_weigh 24 = .ok (.getfield 28, 3) := by decide +kernel
theorem dX1_weigh_27 : decode cX1_weigh 27 = .ok (.lconst 1, 1) := by decide +kernel
theorem dX1_weigh_28 : decode cX1_weigh 28 = .ok (.lastore, 1) := by decide +kernel
theorem dX1_weigh_29 : decode cX1_weigh 29 = .ok (.aload_n 0, 1) := by decide +kernel
theorem dX1_weigh_30 : decode cX1_weigh 30 = .ok (.lconst 1, 1) := by decide +kernel
theorem dX1_weigh_31 : decode cX1_weigh 31 = .ok (.putfield 18, 3) := by decide +kernel
theorem dX1_weigh_34 : decode cX1_weigh 34 = .ok (.iconst 0, 1) := by decide +kernel
theorem dX1_weigh_35 : decode cX1_weigh 35 = .ok (.istore 4, 2) := by decide +kernel
theorem dX1_weigh_37 : decode cX1_weigh 37 = .ok (.iload 4, 2) := by decide +kernel
theorem dX1_weigh_39 : decode cX1_weigh 39 = .ok (.aload_n 2, 1) := by decide +kernel
theorem dX1_weigh_40 : decode cX1_weigh 40 = .ok (.invokevirtual 40, 3) := by decide +kernel
theorem dX1_weigh_43 : decode cX1_weigh 43 = .ok (.if_icmp .ge 30, 3) := by decide +kernel
theorem dX1_weigh_46 : decode cX1_weigh 46 = .ok (.aload_n 0, 1) := by decide +kernel
theorem dX1_weigh_47 : decode cX1_weigh 47 = .ok (.aload_n 1, 1) := by decide +kernel
theorem dX1_weigh_48 : decode cX1_weigh 48 = .ok (.aload_n 2, 1) := by decide +kernel
theorem dX1_weigh_49 : decode cX1_weigh 49 = .ok (.iload 4, 2) := by decide +kernel
theorem dX1_weigh_51 : decode cX1_weigh 51 = .ok (.iload_n 3, 1) := by decide +kernel
theorem dX1_weigh_52 : decode cX1_weigh 52 = .ok (.invokevirtual 44, 3) := by decide +kernel
theorem dX1_weigh_55 : decode cX1_weigh 55 = .ok (.aload_n 0, 1) := by decide +kernel
theorem dX1_weigh_56 : decode cX1_weigh 56 = .ok (.dup, 1) := by decide +kernel
theorem dX1_weigh_57 : decode cX1_weigh 57 = .ok (.getfield 18, 3) := by decide +kernel
theorem dX1_weigh_60 : decode cX1_weigh 60 = .ok (.ldc2_w 48, 3) := by decide +kernel
theorem dX1_weigh_63 : decode cX1_weigh 63 = .ok (.lmul, 1) := by decide +kernel
theorem dX1_weigh_64 : decode cX1_weigh 64 = .ok (.putfield 18, 3) := by decide +kernel
theorem dX1_weigh_67 : decode cX1_weigh 67 = .ok (.iinc 4 1, 3) := by decide +kernel
theorem dX1_weigh_70 : decode cX1_weigh 70 = .ok (.goto (-33), 3) := by decide +kernel
theorem dX1_weigh_73 : decode cX1_weigh 73 = .ok (.return_, 1) := by decide +kernel
theorem dX1_takeLetter_0 : decode cX1_takeLetter 0 = .ok (.aload_n 2, 1) := by decide +kernel
theorem dX1_takeLetter_1 : decode cX1_takeLetter 1 = .ok (.aload_n 2, 1) := by decide +kernel
theorem dX1_takeLetter_2 : decode cX1_takeLetter 2 = .ok (.getfield 50, 3) := by decide +kernel
theorem dX1_takeLetter_5 : decode cX1_takeLetter 5 = .ok (.iload_n 3, 1) := by decide +kernel
theorem dX1_takeLetter_6 : decode cX1_takeLetter 6 = .ok (.iadd, 1) := by decide +kernel
theorem dX1_takeLetter_7 : decode cX1_takeLetter 7 = .ok (.invokevirtual 53, 3) := by decide +kernel
theorem dX1_takeLetter_10 : decode cX1_takeLetter 10 = .ok (.istore 5, 2) := by decide +kernel
theorem dX1_takeLetter_12 : decode cX1_takeLetter 12 = .ok (.aload_n 0, 1) := by decide +kernel
theorem dX1_takeLetter_13 : decode cX1_takeLetter 13 = .ok (.getfield 15, 3) := by decide +kernel
theorem dX1_takeLetter_16 : decode cX1_takeLetter 16 = .ok (.lconst 0, 1) := by decide +kernel
theorem dX1_takeLetter_17 : decode cX1_takeLetter 17 = .ok (.invokestatic 22, 3) := by decide +kernel
theorem dX1_takeLetter_20 : decode cX1_takeLetter 20 = .ok (.iconst 0, 1) := by decide +kernel
theorem dX1_takeLetter_21 : decode cX1_takeLetter 21 = .ok (.istore 6, 2) := by decide +kernel
theorem dX1_takeLetter_23 : decode cX1_takeLetter 23 = .ok (.iload 6, 2) := by decide +kernel
theorem dX1_takeLetter_25 : decode cX1_takeLetter 25 = .ok (.aload_n 1, 1) := by decide +kernel
theorem dX1_takeLetter_26 : decode cX1_takeLetter 26 = .ok (.getfield 57, 3) := by decide +kernel
theorem dX1_takeLetter_29 : decode cX1_takeLetter 29 = .ok (.if_icmp .ge 114, 3) := by decide +kernel
theorem dX1_takeLetter_32 : decode cX1_takeLetter 32 = .ok (.aload_n 1, 1) := by decide +kernel
theorem dX1_takeLetter_33 : decode cX1_takeLetter 33 = .ok (.iload 6, 2) := by decide +kernel
theorem dX1_takeLetter_35 : decode cX1_takeLetter 35 = .ok (.iload 5, 2) := by decide +kernel
theorem dX1_takeLetter_37 : decode cX1_takeLetter 37 = .ok (.aload_n 1, 1) := by decide +kernel
theorem dX1_takeLetter_38 : decode cX1_takeLetter 38 = .ok (.getfield 60, 3) := by decide +kernel
theorem dX1_takeLetter_41 : decode cX1_takeLetter 41 = .ok (.iload_n 3, 1) := by decide +kernel
theorem dX1_takeLetter_42 : decode cX1_takeLetter 42 = .ok (.iadd, 1) := by decide +kernel
theorem dX1_takeLetter_43 : decode cX1_takeLetter 43 = .ok (.aload_n 2, 1) := by decide +kernel
theorem dX1_takeLetter_44 : decode cX1_takeLetter 44 = .ok (.getfield 63, 3) := by decide +kernel
theorem dX1_takeLetter_47 : decode cX1_takeLetter 47 = .ok (.invokevirtual 67, 3) := by decide +kernel
theorem dX1_takeLetter_50 : decode cX1_takeLetter 50 = .ok (.istore 7, 2) := by decide +kernel
theorem dX1_takeLetter_52 : decode cX1_takeLetter 52 = .ok (.aload_n 1, 1) := by decide +kernel
theorem dX1_takeLetter_53 : decode cX1_takeLetter 53 = .ok (.iload 6, 2) := by decide +kernel
theorem dX1_takeLetter_55 : decode cX1_takeLetter 55 = .ok (.iconst 1, 1) := by decide +kernel
theorem dX1_takeLetter_56 : decode cX1_takeLetter 56 = .ok (.iload 5, 2) := by decide +kernel
theorem dX1_takeLetter_58 : decode cX1_takeLetter 58 = .ok (.isub, 1) := by decide +kernel
theorem dX1_takeLetter_59 : decode cX1_takeLetter 59 = .ok (.aload_n 1, 1) := by decide +kernel
theorem dX1_takeLetter_60 : decode cX1_takeLetter 60 = .ok (.getfield 60, 3) := by decide +kernel
theorem dX1_takeLetter_63 : decode cX1_takeLetter 63 = .ok (.iload_n 3, 1) := by decide +kernel
theorem dX1_takeLetter_64 : decode cX1_takeLetter 64 = .ok (.iadd, 1) := by decide +kernel
theorem dX1_takeLetter_65 : decode cX1_takeLetter 65 = .ok (.aload_n 2, 1) := by decide +kernel
theorem dX1_takeLetter_66 : decode cX1_takeLetter 66 = .ok (.getfield 63, 3) := by decide +kernel
theorem dX1_takeLetter_69 : decode cX1_takeLetter 69 = .ok (.invokevirtual 67, 3) := by decide +kernel
theorem dX1_takeLetter_72 : decode cX1_takeLetter 72 = .ok (.istore 8, 2) := by decide +kernel
theorem dX1_takeLetter_74 : decode cX1_takeLetter 74 = .ok (.aload_n 1, 1) := by decide +kernel
theorem dX1_takeLetter_75 : decode cX1_takeLetter 75 = .ok (.iload 7, 2) := by decide +kernel
theorem dX1_takeLetter_77 : decode cX1_takeLetter 77 = .ok (.invokevirtual 34, 3) := by decide +kernel
theorem dX1_takeLetter_80 : decode cX1_takeLetter 80 = .ok (.ifCond .eq 57, 3) := by decide +kernel
theorem dX1_takeLetter_83 : decode cX1_takeLetter 83 = .ok (.aload_n 1, 1) := by decide +kernel
theorem dX1_takeLetter_84 : decode cX1_takeLetter 84 = .ok (.iload 8, 2) := by decide +kernel
theorem dX1_takeLetter_86 : decode cX1_takeLetter 86 = .ok (.invokevirtual 34, 3) := by decide +kernel
theorem dX1_takeLetter_89 : decode cX1_takeLetter 89 = .ok (.ifCond .eq 48, 3) := by decide +kernel
theorem dX1_takeLetter_92 : decode cX1_takeLetter 92 = .ok (.aload_n 0, 1) := by decide +kernel
theorem dX1_takeLetter_93 : decode cX1_takeLetter 93 = .ok (.getfield 15, 3) := by decide +kernel
theorem dX1_takeLetter_96 : decode cX1_takeLetter 96 = .ok (.iload 7, 2) := by decide +kernel
theorem dX1_takeLetter_98 : decode cX1_takeLetter 98 = .ok (.dup2, 1) := by decide +kernel
theorem dX1_takeLetter_99 : decode cX1_takeLetter 99 = .ok (.laload, 1) := by decide +kernel
theorem dX1_takeLetter_100 : decode cX1_takeLetter 100 = .ok (.aload_n 0, 1) := by decide +kernel
theorem dX1_takeLetter_101 : decode cX1_takeLetter 101 = .ok (.getfield 9, 3) := by decide +kernel
theorem dX1_takeLetter_104 : decode cX1_takeLetter 104 = .ok (.iload 6, 2) := by decide +kernel
theorem dX1_takeLetter_106 : decode cX1_takeLetter 106 = .ok (.laload, 1) := by decide +kernel
theorem dX1_takeLetter_107 : decode cX1_takeLetter 107 = .ok (.bipush 10, 2) := by decide +kernel
theorem dX1_takeLetter_109 : decode cX1_takeLetter 109 = .ok (.iload 4, 2) := by decide +kernel
theorem dX1_takeLetter_111 : decode cX1_takeLetter 111 = .ok (.isub, 1) := by decide +kernel
theorem dX1_takeLetter_112 : decode cX1_takeLetter 112 = .ok (.i2l, 1) := by decide +kernel
theorem dX1_takeLetter_113 : decode cX1_takeLetter 113 = .ok (.lmul, 1) := by decide +kernel
theorem dX1_takeLetter_114 : decode cX1_takeLetter 114 = .ok (.ladd, 1) := by decide +kernel
theorem dX1_takeLetter_115 : decode cX1_takeLetter 115 = .ok (.lastore, 1) := by decide +kernel
theorem dX1_takeLetter_116 : decode cX1_takeLetter 116 = .ok (.aload_n 0, 1) := by decide +kernel
theorem dX1_takeLetter_117 : decode cX1_takeLetter 117 = .ok (.getfield 15, 3) := by decide +kernel
theorem dX1_takeLetter_120 : decode cX1_takeLetter 120 = .ok (.iload 8, 2) := by decide +kernel
theorem dX1_takeLetter_122 : decode cX1_takeLetter 122 = .ok (.dup2, 1) := by decide +kernel
theorem dX1_takeLetter_123 : decode cX1_takeLetter 123 = .ok (.laload, 1) := by decide +kernel
theorem dX1_takeLetter_124 : decode cX1_takeLetter 124 = .ok (.aload_n 0, 1) := by decide +kernel
theorem dX1_takeLetter_125 : decode cX1_takeLetter 125 = .ok (.getfield 9, 3) := by decide +kernel
theorem dX1_takeLetter_128 : decode cX1_takeLetter 128 = .ok (.iload 6, 2) := by decide +kernel
theorem dX1_takeLetter_130 : decode cX1_takeLetter 130 = .ok (.laload, 1) := by decide +kernel
theorem dX1_takeLetter_131 : decode cX1_takeLetter 131 = .ok (.iload 4, 2) := by decide +kernel
theorem dX1_takeLetter_133 : decode cX1_takeLetter 133 = .ok (.i2l, 1) := by decide +kernel
theorem dX1_takeLetter_134 : decode cX1_takeLetter 134 = .ok (.lmul, 1) := by decide +kernel
theorem dX1_takeLetter_135 : decode cX1_takeLetter 135 = .ok (.ladd, 1) := by decide +kernel
theorem dX1_takeLetter_136 : decode cX1_takeLetter 136 = .ok (.lastore, 1) := by decide +kernel
theorem dX1_takeLetter_137 : decode cX1_takeLetter 137 = .ok (.iinc 6 1, 3) := by decide +kernel
theorem dX1_takeLetter_140 : decode cX1_takeLetter 140 = .ok (.goto (-117), 3) := by decide +kernel
theorem dX1_takeLetter_143 : decode cX1_takeLetter 143 = .ok (.aload_n 0, 1) := by decide +kernel
theorem dX1_takeLetter_144 : decode cX1_takeLetter 144 = .ok (.getfield 15, 3) := by decide +kernel
theorem dX1_takeLetter_147 : decode cX1_takeLetter 147 = .ok (.iconst 0, 1) := by decide +kernel
theorem dX1_takeLetter_148 : decode cX1_takeLetter 148 = .ok (.aload_n 0, 1) := by decide +kernel
theorem dX1_takeLetter_149 : decode cX1_takeLetter 149 = .ok (.getfield 9, 3) := by decide +kernel
theorem dX1_takeLetter_152 : decode cX1_takeLetter 152 = .ok (.iconst 0, 1) := by decide +kernel
theorem dX1_takeLetter_153 : decode cX1_takeLetter 153 = .ok (.bipush 8, 2) := by decide +kernel
theorem dX1_takeLetter_155 : decode cX1_takeLetter 155 = .ok (.invokestatic 71, 3) := by decide +kernel
theorem dX1_takeLetter_158 : decode cX1_takeLetter 158 = .ok (.return_, 1) := by decide +kernel
theorem dX2_init_0 : decode cX2_init 0 = .ok (.aload_n 0, 1) := by decide +kernel
theorem dX2_init_1 : decode cX2_init 1 = .ok (.invokespecial 3, 3) := by decide +kernel
theorem dX2_init_4 : decode cX2_init 4 = .ok (.aload_n 0, 1) := by decide +kernel
theorem dX2_init_5 : decode cX2_init 5 = .ok (.new 9, 3) := by decide +kernel
theorem dX2_init_8 : decode cX2_init 8 = .ok (.dup, 1) := by decide +kernel
theorem dX2_init_9 : decode cX2_init 9 = .ok (.invokespecial 11, 3) := by decide +kernel
theorem dX2_init_12 : decode cX2_init 12 = .ok (.putfield 12, 3) := by decide +kernel
theorem dX2_init_15 : decode cX2_init 15 = .ok (.aload_n 0, 1) := by decide +kernel
theorem dX2_init_16 : decode cX2_init 16 = .ok (.sipush 160, 3) := by decide +kernel
theorem dX2_init_19 : decode cX2_init 19 = .ok (.newarray .int, 2) := by decide +kernel
theorem dX2_init_21 : decode cX2_init 21 = .ok (.putfield 18, 3) := by decide +kernel
theorem dX2_init_24 : decode cX2_init 24 = .ok (.aload_n 0, 1) := by decide +kernel
theorem dX2_init_25 : decode cX2_init 25 = .ok (.bipush 8, 2) := by decide +kernel
theorem dX2_init_27 : decode cX2_init 27 = .ok (.newarray .int, 2) := by decide +kernel
theorem dX2_init_29 : decode cX2_init 29 = .ok (.putfield 22, 3) := by decide +kernel
theorem dX2_init_32 : decode cX2_init 32 = .ok (.return_, 1) := by decide +kernel
theorem dX2_readLines_0 : decode cX2_readLines 0 = .ok (.aload_n 0, 1) := by decide +kernel
theorem dX2_readLines_1 : decode cX2_readLines 1 = .ok (.getfield 12, 3) := by decide +kernel
theorem dX2_readLines_4 : decode cX2_readLines 4 = .ok (.invokevirtual 25, 3) := by decide +kernel
theorem dX2_readLines_7 : decode cX2_readLines 7 = .ok (.aload_n 0, 1) := by decide +kernel
theorem dX2_readLines_8 : decode cX2_readLines 8 = .ok (.getfield 22, 3) := by decide +kernel
theorem dX2_readLines_11 : decode cX2_readLines 11 = .ok (.iconst 0, 1) := by decide +kernel
theorem dX2_readLines_12 : decode cX2_readLines 12 = .ok (.invokestatic 28, 3) := by decide +kernel
theorem dX2_readLines_15 : decode cX2_readLines 15 = .ok (.aload_n 0, 1) := by decide +kernel
theorem dX2_readLines_16 : decode cX2_readLines 16 = .ok (.iconst 0, 1) := by decide +kernel
theorem dX2_readLines_17 : decode cX2_readLines 17 = .ok (.putfield 34, 3) := by decide +kernel
theorem dX2_readLines_20 : decode cX2_readLines 20 = .ok (.aload_n 0, 1) := by decide +kernel
theorem dX2_readLines_21 : decode cX2_readLines 21 = .ok (.iconst 0, 1) := by decide +kernel
theorem dX2_readLines_22 : decode cX2_readLines 22 = .ok (.putfield 38, 3) := by decide +kernel
theorem dX2_readLines_25 : decode cX2_readLines 25 = .ok (.aload_n 0, 1) := by decide +kernel
theorem dX2_readLines_26 : decode cX2_readLines 26 = .ok (.iconst 0, 1) := by decide +kernel
theorem dX2_readLines_27 : decode cX2_readLines 27 = .ok (.putfield 41, 3) := by decide +kernel
theorem dX2_readLines_30 : decode cX2_readLines 30 = .ok (.iconst 0, 1) := by decide +kernel
theorem dX2_readLines_31 : decode cX2_readLines 31 = .ok (.istore_n 1, 1) := by decide +kernel
theorem dX2_readLines_32 : decode cX2_readLines 32 = .ok (.iload_n 1, 1) := by decide +kernel
theorem dX2_readLines_33 : decode cX2_readLines 33 = .ok (.sipush 160, 3) := by decide +kernel
theorem dX2_readLines_36 : decode cX2_readLines 36 = .ok (.if_icmp .ge 39, 3) := by decide +kernel
theorem dX2_readLines_39 : decode cX2_readLines 39 = .ok (.aload_n 0, 1) := by decide +kernel
theorem dX2_readLines_40 : decode cX2_readLines 40 = .ok (.invokevirtual 44, 3) := by decide +kernel
theorem dX2_readLines_43 : decode cX2_readLines 43 = .ok (.ifCond .eq 32, 3) := by decide +kernel
theorem dX2_readLines_46 : decode cX2_readLines 46 = .ok (.aload_n 0, 1) := by decide +kernel
theorem dX2_readLines_47 : decode cX2_readLines 47 = .ok (.getfield 48, 3) := by decide +kernel
theorem dX2_readLines_50 : decode cX2_readLines 50 = .ok (.iconst 4, 1) := by decide +kernel
theorem dX2_readLines_51 : decode cX2_readLines 51 = .ok (.if_icmp .eq 24, 3) := by decide +kernel
theorem dX2_readLines_54 : decode cX2_readLines 54 = .ok (.aload_n 0, 1) := by decide +kernel
theorem dX2_readLines_55 : decode cX2_readLines 55 = .ok (.invokevirtual 51, 3) := by decide +kernel
theorem dX2_readLines_58 : decode cX2_readLines 58 = .ok (.ifCond .eq 17, 3) := by decide +kernel
theorem dX2_readLines_61 : decode cX2_readLines 61 = .ok (.aload_n 0, 1) := by decide +kernel
theorem dX2_readLines_62 : decode cX2_readLines 62 = .ok (.iconst 3, 1) := by decide +kernel
theorem dX2_readLines_63 : decode cX2_readLines 63 = .ok (.invokevirtual 54, 3) := by decide +kernel
theorem dX2_readLines_66 : decode cX2_readLines 66 = .ok (.ifCond .eq 9, 3) := by decide +kernel
theorem dX2_readLines_69 : decode cX2_readLines 69 = .ok (.iinc 1 1, 3) := by decide +kernel
theorem dX2_readLines_72 : decode cX2_readLines 72 = .ok (.goto (-40), 3) := by decide +kernel
theorem dX2_readLines_75 : decode cX2_readLines 75 = .ok (.aload_n 0, 1) := by decide +kernel
theorem dX2_readLines_76 : decode cX2_readLines 76 = .ok (.getfield 34, 3) := by decide +kernel
theorem dX2_readLines_79 : decode cX2_readLines 79 = .ok (.ifCond .ne 24, 3) := by decide +kernel
theorem dX2_readLines_82 : decode cX2_readLines 82 = .ok (.aload_n 0, 1) := by decide +kernel
theorem dX2_readLines_83 : decode cX2_readLines 83 = .ok (.getfield 12, 3) := by decide +kernel
theorem dX2_readLines_86 : decode cX2_readLines 86 = .ok (.invokevirtual 58, 3) := by decide +kernel
theorem dX2_readLines_89 : decode cX2_readLines 89 = .ok (.ifCond .eq 14, 3) := by decide +kernel
theorem dX2_readLines_92 : decode cX2_readLines 92 = .ok (.aload_n 0, 1) := by decide +kernel
theorem dX2_readLines_93 : decode cX2_readLines 93 = .ok (.bipush 6, 2) := by decide +kernel
theorem dX2_readLines_95 : decode cX2_readLines 95 = .ok (.aload_n 0, 1) := by decide +kernel
theorem dX2_readLines_96 : decode cX2_readLines 96 = .ok (.getfield 61, 3) := by decide +kernel
theorem dX2_readLines_99 : decode cX2_readLines 99 = .ok (.invokevirtual 64, 3) := by decide +kernel
theorem dX2_readLines_102 : decode cX2_readLines 102 = .ok (.pop, 1) := by decide +kernel
theorem dX2_readLines_103 : decode cX2_readLines 103 = .ok (.iload_n 1, 1) := by decide +kernel
theorem dX2_readLines_104 : decode cX2_readLines 104 = .ok (.ireturn, 1) := by decide +kernel
theorem dX2_refuse_0 : decode cX2_refuse 0 = .ok (.aload_n 0, 1) := by decide +kernel
theorem dX2_refuse_1 : decode cX2_refuse 1 = .ok (.iload_n 1, 1) := by decide +kernel
theorem dX2_refuse_2 : decode cX2_refuse 2 = .ok (.putfield 34, 3) := by decide +kernel
theorem dX2_refuse_5 : decode cX2_refuse 5 = .ok (.aload_n 0, 1) := by decide +kernel
theorem dX2_refuse_6 : decode cX2_refuse 6 = .ok (.iload_n 2, 1) := by decide +kernel
theorem dX2_refuse_7 : decode cX2_refuse 7 = .ok (.putfield 38, 3) := by decide +kernel
theorem dX2_refuse_10 : decode cX2_refuse 10 = .ok (.iconst 0, 1) := by decide +kernel
theorem dX2_refuse_11 : decode cX2_refuse 11 = .ok (.ireturn, 1) := by decide +kernel
theorem dX2_byteAt_0 : decode cX2_byteAt 0 = .ok (.iload_n 1, 1) := by decide +kernel
theorem dX2_byteAt_1 : decode cX2_byteAt 1 = .ok (.ifCond .lt 29, 3) := by decide +kernel
theorem dX2_byteAt_4 : decode cX2_byteAt 4 = .ok (.iload_n 1, 1) := by decide +kernel
theorem dX2_byteAt_5 : decode cX2_byteAt 5 = .ok (.aload_n 0, 1) := by decide +kernel
theorem dX2_byteAt_6 : decode cX2_byteAt 6 = .ok (.getfield 61, 3) := by decide +kernel
theorem dX2_byteAt_9 : decode cX2_byteAt 9 = .ok (.if_icmp .ge 21, 3) := by decide +kernel
theorem dX2_byteAt_12 : decode cX2_byteAt 12 = .ok (.iload_n 1, 1) := by decide +kernel
theorem dX2_byteAt_13 : decode cX2_byteAt 13 = .ok (.aload_n 0, 1) := by decide +kernel
theorem dX2_byteAt_14 : decode cX2_byteAt 14 = .ok (.getfield 18, 3) := by decide +kernel
theorem dX2_byteAt_17 : decode cX2_byteAt 17 = .ok (.arraylength, 1) := by decide +kernel
theorem dX2_byteAt_18 : decode cX2_byteAt 18 = .ok (.if_icmp .ge 12, 3) := by decide +kernel
theorem dX2_byteAt_21 : decode cX2_byteAt 21 = .ok (.aload_n 0, 1) := by decide +kernel
theorem dX2_byteAt_22 : decode cX2_byteAt 22 = .ok (.getfield 18, 3) := by decide +kernel
theorem dX2_byteAt_25 : decode cX2_byteAt 25 = .ok (.iload_n 1, 1) := by decide +kernel
theorem dX2_byteAt_26 : decode cX2_byteAt 26 = .ok (.iaload, 1) := by decide +kernel
theorem dX2_byteAt_27 : decode cX2_byteAt 27 = .ok (.goto 4, 3) := by decide +kernel
theorem dX2_byteAt_30 : decode cX2_byteAt 30 = .ok (.iconst (-1), 1) := by decide +kernel
theorem dX2_byteAt_31 : decode cX2_byteAt 31 = .ok (.ireturn, 1) := by decide +kernel
theorem dX2_isLetter_0 : decode cX2_isLetter 0 = .ok (.iload_n 0, 1) := by decide +kernel
theorem dX2_isLetter_1 : decode cX2_isLetter 1 = .ok (.bipush 97, 2) := by decide +kernel
theorem dX2_isLetter_3 : decode cX2_isLetter 3 = .ok (.if_icmp .lt 13, 3) := by decide +kernel
theorem dX2_isLetter_6 : decode cX2_isLetter 6 = .ok (.iload_n 0, 1) := by decide +kernel
theorem dX2_isLetter_7 : decode cX2_isLetter 7 = .ok (.bipush 122, 2) := by decide +kernel
theorem dX2_isLetter_9 : decode cX2_isLetter 9 = .ok (.if_icmp .gt 7, 3) := by decide +kernel
theorem dX2_isLetter_12 : decode cX2_isLetter 12 = .ok (.iconst 1, 1) := by decide +kernel
theorem dX2_isLetter_13 : decode cX2_isLetter 13 = .ok (.goto 4, 3) := by decide +kernel
theorem dX2_isLetter_16 : decode cX2_isLetter 16 = .ok (.iconst 0, 1) := by decide +kernel
theorem dX2_isLetter_17 : decode cX2_isLetter 17 = .ok (.ireturn, 1) := by decide +kernel
theorem dX2_isFigure_0 : decode cX2_isFigure 0 = .ok (.iload_n 0, 1) := by decide +kernel
theorem dX2_isFigure_1 : decode cX2_isFigure 1 = .ok (.bipush 48, 2) := by decide +kernel
theorem dX2_isFigure_3 : decode cX2_isFigure 3 = .ok (.if_icmp .lt 13, 3) := by decide +kernel
theorem dX2_isFigure_6 : decode cX2_isFigure 6 = .ok (.iload_n 0, 1) := by decide +kernel
theorem dX2_isFigure_7 : decode cX2_isFigure 7 = .ok (.bipush 57, 2) := by decide +kernel
theorem dX2_isFigure_9 : decode cX2_isFigure 9 = .ok (.if_icmp .gt 7, 3) := by decide +kernel
theorem dX2_isFigure_12 : decode cX2_isFigure 12 = .ok (.iconst 1, 1) := by decide +kernel
theorem dX2_isFigure_13 : decode cX2_isFigure 13 = .ok (.goto 4, 3) := by decide +kernel
theorem dX2_isFigure_16 : decode cX2_isFigure 16 = .ok (.iconst 0, 1) := by decide +kernel
theorem dX2_isFigure_17 : decode cX2_isFigure 17 = .ok (.ireturn, 1) := by decide +kernel
theorem dX2_nextToken_0 : decode cX2_nextToken 0 = .ok (.aload_n 0, 1) := by decide +kernel
theorem dX2_nextToken_1 : decode cX2_nextToken 1 = .ok (.getfield 41, 3) := by decide +kernel
theorem dX2_nextToken_4 : decode cX2_nextToken 4 = .ok (.aload_n 0, 1) := by decide +kernel
theorem dX2_nextToken_5 : decode cX2_nextToken 5 = .ok (.getfield 61, 3) := by decide +kernel
theorem dX2_nextToken_8 : decode cX2_nextToken 8 = .ok (.if_icmp .ge 29, 3) := by decide +kernel
theorem dX2_nextToken_11 : decode cX2_nextToken 11 = .ok (.aload_n 0, 1) := by decide +kernel
theorem dX2_nextToken_12 : decode cX2_nextToken 12 = .ok (.aload_n 0, 1) := by decide +kernel
theorem dX2_nextToken_13 : decode cX2_nextToken 13 = .ok (.getfield 41, 3) := by decide +kernel
theorem dX2_nextToken_16 : decode cX2_nextToken 16 = .ok (.invokevirtual 68, 3) := by decide +kernel
theorem dX2_nextToken_19 : decode cX2_nextToken 19 = .ok (.bipush 32, 2) := by decide +kernel
theorem dX2_nextToken_21 : decode cX2_nextToken 21 = .ok (.if_icmp .ne 16, 3) := by decide +kernel
theorem dX2_nextToken_24 : decode cX2_nextToken 24 = .ok (.aload_n 0, 1) := by decide +kernel
theorem dX2_nextToken_25 : decode cX2_nextToken 25 = .ok (.dup, 1) := by decide +kernel
theorem dX2_nextToken_26 : decode cX2_nextToken 26 = .ok (.getfield 41, 3) := by decide +kernel
theorem dX2_nextToken_29 : decode cX2_nextToken 29 = .ok (.iconst 1, 1) := by decide +kernel
theorem dX2_nextToken_30 : decode cX2_nextToken 30 = .ok (.iadd, 1) := by decide +kernel
theorem dX2_nextToken_31 : decode cX2_nextToken 31 = .ok (.putfield 41, 3) := by decide +kernel
theorem dX2_nextToken_34 : decode cX2_nextToken 34 = .ok (.goto (-34), 3) := by decide +kernel
theorem dX2_nextToken_37 : decode cX2_nextToken 37 = .ok (.aload_n 0, 1) := by decide +kernel
theorem dX2_nextToken_38 : decode cX2_nextToken 38 = .ok (.aload_n 0, 1) := by decide +kernel
theorem dX2_nextToken_39 : decode cX2_nextToken 39 = .ok (.getfield 41, 3) := by decide +kernel
theorem dX2_nextToken_42 : decode cX2_nextToken 42 = .ok (.putfield 72, 3) := by decide +kernel
theorem dX2_nextToken_45 : decode cX2_nextToken 45 = .ok (.aload_n 0, 1) := by decide +kernel
theorem dX2_nextToken_46 : decode cX2_nextToken 46 = .ok (.aload_n 0, 1) := by decide +kernel
theorem dX2_nextToken_47 : decode cX2_nextToken 47 = .ok (.getfield 41, 3) := by decide +kernel
theorem dX2_nextToken_50 : decode cX2_nextToken 50 = .ok (.invokevirtual 68, 3) := by decide +kernel
theorem dX2_nextToken_53 : decode cX2_nextToken 53 = .ok (.istore_n 1, 1) := by decide +kernel
theorem dX2_nextToken_54 : decode cX2_nextToken 54 = .ok (.iload_n 1, 1) := by decide +kernel
theorem dX2_nextToken_55 : decode cX2_nextToken 55 = .ok (.iconst (-1), 1) := by decide +kernel
theorem dX2_nextToken_56 : decode cX2_nextToken 56 = .ok (.if_icmp .ne 10, 3) := by decide +kernel
theorem dX2_nextToken_59 : decode cX2_nextToken 59 = .ok (.aload_n 0, 1) := by decide +kernel
theorem dX2_nextToken_60 : decode cX2_nextToken 60 = .ok (.iconst 4, 1) := by decide +kernel
theorem dX2_nextToken_61 : decode cX2_nextToken 61 = .ok (.putfield 48, 3) := by decide +kernel
theorem dX2_nextToken_64 : decode cX2_nextToken 64 = .ok (.iconst 1, 1) := by decide +kernel
theorem dX2_nextToken_65 : decode cX2_nextToken 65 = .ok (.ireturn, 1) := by decide +kernel
theorem dX2_nextToken_66 : decode cX2_nextToken 66 = .ok (.iload_n 1, 1) := by decide +kernel
theorem dX2_nextToken_67 : decode cX2_nextToken 67 = .ok (.bipush 59, 2) := by decide +kernel
theorem dX2_nextToken_69 : decode cX2_nextToken 69 = .ok (.if_icmp .ne 20, 3) := by decide +kernel
theorem dX2_nextToken_72 : decode cX2_nextToken 72 = .ok (.aload_n 0, 1) := by decide +kernel
theorem dX2_nextToken_73 : decode cX2_nextToken 73 = .ok (.iconst 3, 1) := by decide +kernel
theorem dX2_nextToken_74 : decode cX2_nextToken 74 = .ok (.putfield 48, 3) := by decide +kernel
theorem dX2_nextToken_77 : decode cX2_nextToken 77 = .ok (.aload_n 0, 1) := by decide +kernel
theorem dX2_nextToken_78 : decode cX2_nextToken 78 = .ok (.dup, 1) := by decide +kernel
theorem dX2_nextToken_79 : decode cX2_nextToken 79 = .ok (.getfield 41, 3) := by decide +kernel
theorem dX2_nextToken_82 : decode cX2_nextToken 82 = .ok (.iconst 1, 1) := by decide +kernel
theorem dX2_nextToken_83 : decode cX2_nextToken 83 = .ok (.iadd, 1) := by decide +kernel
theorem dX2_nextToken_84 : decode cX2_nextToken 84 = .ok (.putfield 41, 3) := by decide +kernel
theorem dX2_nextToken_87 : decode cX2_nextToken 87 = .ok (.iconst 1, 1) := by decide +kernel
theorem dX2_nextToken_88 : decode cX2_nextToken 88 = .ok (.ireturn, 1) := by decide +kernel
theorem dX2_nextToken_89 : decode cX2_nextToken 89 = .ok (.aload_n 0, 1) := by decide +kernel
theorem dX2_nextToken_90 : decode cX2_nextToken 90 = .ok (.iload_n 1, 1) := by decide +kernel
theorem dX2_nextToken_91 : decode cX2_nextToken 91 = .ok (.invokestatic 75, 3) := by decide +kernel
theorem dX2_nextToken_94 : decode cX2_nextToken 94 = .ok (.ifCond .eq 7, 3) := by decide +kernel
theorem dX2_nextToken_97 : decode cX2_nextToken 97 = .ok (.iconst 1, 1) := by decide +kernel
theorem dX2_nextToken_98 : decode cX2_nextToken 98 = .ok (.goto 4, 3) := by decide +kernel
theorem dX2_nextToken_101 : decode cX2_nextToken 101 = .ok (.iconst 2, 1) := by decide +kernel
theorem dX2_nextToken_102 : decode cX2_nextToken 102 = .ok (.putfield 48, 3) := by decide +kernel
theorem dX2_nextToken_105 : decode cX2_nextToken 105 = .ok (.aload_n 0, 1) := by decide +kernel
theorem dX2_nextToken_106 : decode cX2_nextToken 106 = .ok (.getfield 41, 3) := by decide +kernel
theorem dX2_nextToken_109 : decode cX2_nextToken 109 = .ok (.aload_n 0, 1) := by decide +kernel
theorem dX2_nextToken_110 : decode cX2_nextToken 110 = .ok (.getfield 61, 3) := by decide +kernel
theorem dX2_nextToken_113 : decode cX2_nextToken 113 = .ok (.if_icmp .ge 55, 3) := by decide +kernel
theorem dX2_nextToken_116 : decode cX2_nextToken 116 = .ok (.aload_n 0, 1) := by decide +kernel
theorem dX2_nextToken_117 : decode cX2_nextToken 117 = .ok (.getfield 48, 3) := by decide +kernel
theorem dX2_nextToken_120 : decode cX2_nextToken 120 = .ok (.iconst 1, 1) := by decide +kernel
theorem dX2_nextToken_121 : decode cX2_nextToken 121 = .ok (.if_icmp .ne 20, 3) := by decide +kernel
theorem dX2_nextToken_124 : decode cX2_nextToken 124 = .ok (.aload_n 0, 1) := by decide +kernel
theorem dX2_nextToken_125 : decode cX2_nextToken 125 = .ok (.aload_n 0, 1) := by decide +kernel
theorem dX2_nextToken_126 : decode cX2_nextToken 126 = .ok (.getfield 41, 3) := by decide +kernel
theorem dX2_nextToken_129 : decode cX2_nextToken 129 = .ok (.invokevirtual 68, 3) := by decide +kernel
theorem dX2_nextToken_132 : decode cX2_nextToken 132 = .ok (.invokestatic 75, 3) := by decide +kernel
theorem dX2_nextToken_135 : decode cX2_nextToken 135 = .ok (.ifCond .eq 33, 3) := by decide +kernel
theorem dX2_nextToken_138 : decode cX2_nextToken 138 = .ok (.goto 17, 3) := by decide +kernel
theorem dX2_nextToken_141 : decode cX2_nextToken 141 = .ok (.aload_n 0, 1) := by decide +kernel
theorem dX2_nextToken_142 : decode cX2_nextToken 142 = .ok (.aload_n 0, 1) := by decide +kernel
theorem dX2_nextToken_143 : decode cX2_nextToken 143 = .ok (.getfield 41, 3) := by decide +kernel
theorem dX2_nextToken_146 : decode cX2_nextToken 146 = .ok (.invokevirtual 68, 3) := by decide +kernel
theorem dX2_nextToken_149 : decode cX2_nextToken 149 = .ok (.invokestatic 78, 3) := by decide +kernel
theorem dX2_nextToken_152 : decode cX2_nextToken 152 = .ok (.ifCond .eq 16, 3) := by decide +kernel
theorem dX2_nextToken_155 : decode cX2_nextToken 155 = .ok (.aload_n 0, 1) := by decide +kernel
theorem dX2_nextToken_156 : decode cX2_nextToken 156 = .ok (.dup, 1) := by decide +kernel
theorem dX2_nextToken_157 : decode cX2_nextToken 157 = .ok (.getfield 41, 3) := by decide +kernel
theorem dX2_nextToken_160 : decode cX2_nextToken 160 = .ok (.iconst 1, 1) := by decide +kernel
theorem dX2_nextToken_161 : decode cX2_nextToken 161 = .ok (.iadd, 1) := by decide +kernel
theorem dX2_nextToken_162 : decode cX2_nextToken 162 = .ok (.putfield 41, 3) := by decide +kernel
theorem dX2_nextToken_165 : decode cX2_nextToken 165 = .ok (.goto (-60), 3) := by decide +kernel
theorem dX2_nextToken_168 : decode cX2_nextToken 168 = .ok (.aload_n 0, 1) := by decide +kernel
theorem dX2_nextToken_169 : decode cX2_nextToken 169 = .ok (.getfield 41, 3) := by decide +kernel
theorem dX2_nextToken_172 : decode cX2_nextToken 172 = .ok (.aload_n 0, 1) := by decide +kernel
theorem dX2_nextToken_173 : decode cX2_nextToken 173 = .ok (.getfield 72, 3) := by decide +kernel
theorem dX2_nextToken_176 : decode cX2_nextToken 176 = .ok (.if_icmp .eq 24, 3) := by decide +kernel
theorem dX2_nextToken_179 : decode cX2_nextToken 179 = .ok (.aload_n 0, 1) := by decide +kernel
theorem dX2_nextToken_180 : decode cX2_nextToken 180 = .ok (.getfield 48, 3) := by decide +kernel
theorem dX2_nextToken_183 : decode cX2_nextToken 183 = .ok (.iconst 2, 1) := by decide +kernel
theorem dX2_nextToken_184 : decode cX2_nextToken 184 = .ok (.if_icmp .ne 26, 3) := by decide +kernel
theorem dX2_nextToken_187 : decode cX2_nextToken 187 = .ok (.aload_n 0, 1) := by decide +kernel
theorem dX2_nextToken_188 : decode cX2_nextToken 188 = .ok (.getfield 41, 3) := by decide +kernel
theorem dX2_nextToken_191 : decode cX2_nextToken 191 = .ok (.aload_n 0, 1) := by decide +kernel
theorem dX2_nextToken_192 : decode cX2_nextToken 192 = .ok (.getfield 72, 3) := by decide +kernel
theorem dX2_nextToken_195 : decode cX2_nextToken 195 = .ok (.isub, 1) := by decide +kernel
theorem dX2_nextToken_196 : decode cX2_nextToken 196 = .ok (.iconst 2, 1) := by decide +kernel
theorem dX2_nextToken_197 : decode cX2_nextToken 197 = .ok (.if_icmp .le 13, 3) := by decide +kernel
theorem dX2_nextToken_200 : decode cX2_nextToken 200 = .ok (.aload_n 0, 1) := by decide +kernel
theorem dX2_nextToken_201 : decode cX2_nextToken 201 = .ok (.iconst 1, 1) := by decide +kernel
theorem dX2_nextToken_202 : decode cX2_nextToken 202 = .ok (.aload_n 0, 1) := by decide +kernel
theorem dX2_nextToken_203 : decode cX2_nextToken 203 = .ok (.getfield 72, 3) := by decide +kernel
theorem dX2_nextToken_206 : decode cX2_nextToken 206 = .ok (.invokevirtual 64, 3) := by decide +kernel
theorem dX2_nextToken_209 : decode cX2_nextToken 209 = .ok (.ireturn, 1) := by decide +kernel
theorem dX2_nextToken_210 : decode cX2_nextToken 210 = .ok (.iconst 1, 1) := by decide +kernel
theorem dX2_nextToken_211 : decode cX2_nextToken 211 = .ok (.ireturn, 1) := by decide +kernel
theorem dX2_nextOf_0 : decode cX2_nextOf 0 = .ok (.aload_n 0, 1) := by decide +kernel
theorem dX2_nextOf_1 : decode cX2_nextOf 1 = .ok (.invokevirtual 44, 3) := by decide +kernel
theorem dX2_nextOf_4 : decode cX2_nextOf 4 = .ok (.ifCond .ne 5, 3) := by decide +kernel
theorem dX2_nextOf_7 : decode cX2_nextOf 7 = .ok (.iconst 0, 1) := by decide +kernel
theorem dX2_nextOf_8 : decode cX2_nextOf 8 = .ok (.ireturn, 1) := by decide +kernel
theorem dX2_nextOf_9 : decode cX2_nextOf 9 = .ok (.aload_n 0, 1) := by decide +kernel
theorem dX2_nextOf_10 : decode cX2_nextOf 10 = .ok (.getfield 48, 3) := by decide +kernel
theorem dX2_nextOf_13 : decode cX2_nextOf 13 = .ok (.iload_n 1, 1) := by decide +kernel
theorem dX2_nextOf_14 : decode cX2_nextOf 14 = .ok (.if_icmp .eq 15, 3) := by decide +kernel
theorem dX2_nextOf_17 : decode cX2_nextOf 17 = .ok (.aload_n 0, 1) := by decide +kernel
theorem dX2_nextOf_18 : decode cX2_nextOf 18 = .ok (.iconst 2, 1) := by decide +kernel
theorem dX2_nextOf_19 : decode cX2_nextOf 19 = .ok (.aload_n 0, 1) := by decide +kernel
theorem dX2_nextOf_20 : decode cX2_nextOf 20 = .ok (.getfield 72, 3) := by decide +kernel
theorem dX2_nextOf_23 : decode cX2_nextOf 23 = .ok (.invokevirtual 64, 3) := by decide +kernel
theorem dX2_nextOf_26 : decode cX2_nextOf 26 = .ok (.ifCond .eq 7, 3) := by decide +kernel
theorem dX2_nextOf_29 : decode cX2_nextOf 29 = .ok (.iconst 1, 1) := by decide +kernel
theorem dX2_nextOf_30 : decode cX2_nextOf 30 = .ok (.goto 4, 3) := by decide +kernel
theorem dX2_nextOf_33 : decode cX2_nextOf 33 = .ok (.iconst 0, 1) := by decide +kernel
theorem dX2_nextOf_34 : decode cX2_nextOf 34 = .ok (.ireturn, 1) := by decide +kernel
theorem dX2_takeNumber_0 : decode cX2_takeNumber 0 = .ok (.aload_n 0, 1) := by decide +kernel
theorem dX2_takeNumber_1 : decode cX2_takeNumber 1 = .ok (.invokevirtual 44, 3) := by decide +kernel
theorem dX2_takeNumber_4 : decode cX2_takeNumber 4 = .ok (.ifCond .ne 5, 3) := by decide +kernel
theorem dX2_takeNumber_7 : decode cX2_takeNumber 7 = .ok (.iconst (-1), 1) := by decide +kernel
theorem dX2_takeNumber_8 : decode cX2_takeNumber 8 = .ok (.ireturn, 1) := by decide +kernel
theorem dX2_takeNumber_9 : decode cX2_takeNumber 9 = .ok (.aload_n 0, 1) := by decide +kernel
theorem dX2_takeNumber_10 : decode cX2_takeNumber 10 = .ok (.getfield 48, 3) := by decide +kernel
theorem dX2_takeNumber_13 : decode cX2_takeNumber 13 = .ok (.iconst 2, 1) := by decide +kernel
theorem dX2_takeNumber_14 : decode cX2_takeNumber 14 = .ok (.if_icmp .eq 15, 3) := by decide +kernel
theorem dX2_takeNumber_17 : decode cX2_takeNumber 17 = .ok (.aload_n 0, 1) := by decide +kernel
theorem dX2_takeNumber_18 : decode cX2_takeNumber 18 = .ok (.iconst 2, 1) := by decide +kernel
theorem dX2_takeNumber_19 : decode cX2_takeNumber 19 = .ok (.aload_n 0, 1) := by decide +kernel
theorem dX2_takeNumber_20 : decode cX2_takeNumber 20 = .ok (.getfield 72, 3) := by decide +kernel
theorem dX2_takeNumber_23 : decode cX2_takeNumber 23 = .ok (.invokevirtual 64, 3) := by decide +kernel
theorem dX2_takeNumber_26 : decode cX2_takeNumber 26 = .ok (.pop, 1) := by decide +kernel
theorem dX2_takeNumber_27 : decode cX2_takeNumber 27 = .ok (.iconst (-1), 1) := by decide +kernel
theorem dX2_takeNumber_28 : decode cX2_takeNumber 28 = .ok (.ireturn, 1) := by decide +kernel
theorem dX2_takeNumber_29 : decode cX2_takeNumber 29 = .ok (.iconst 0, 1) := by decide +kernel
theorem dX2_takeNumber_30 : decode cX2_takeNumber 30 = .ok (.istore_n 3, 1) := by decide +kernel
theorem dX2_takeNumber_31 : decode cX2_takeNumber 31 = .ok (.aload_n 0, 1) := by decide +kernel
theorem dX2_takeNumber_32 : decode cX2_takeNumber 32 = .ok (.getfield 72, 3) := by decide +kernel
theorem dX2_takeNumber_35 : decode cX2_takeNumber 35 = .ok (.istore 4, 2) := by decide +kernel
theorem dX2_takeNumber_37 : decode cX2_takeNumber 37 = .ok (.iload 4, 2) := by decide +kernel
theorem dX2_takeNumber_39 : decode cX2_takeNumber 39 = .ok (.aload_n 0, 1) := by decide +kernel
theorem dX2_takeNumber_40 : decode cX2_takeNumber 40 = .ok (.getfield 41, 3) := by decide +kernel
theorem dX2_takeNumber_43 : decode cX2_takeNumber 43 = .ok (.if_icmp .ge 24, 3) := by decide +kernel
theorem dX2_takeNumber_46 : decode cX2_takeNumber 46 = .ok (.bipush 10, 2) := by decide +kernel
theorem dX2_takeNumber_48 : decode cX2_takeNumber 48 = .ok (.iload_n 3, 1) := by decide +kernel
theorem dX2_takeNumber_49 : decode cX2_takeNumber 49 = .ok (.imul, 1) := by decide +kernel
theorem dX2_takeNumber_50 : decode cX2_takeNumber 50 = .ok (.aload_n 0, 1) := by decide +kernel
theorem dX2_takeNumber_51 : decode cX2_takeNumber 51 = .ok (.iload 4, 2) := by decide +kernel
theorem dX2_takeNumber_53 : decode cX2_takeNumber 53 = .ok (.invokevirtual 68, 3) := by decide +kernel
theorem dX2_takeNumber_56 : decode cX2_takeNumber 56 = .ok (.iadd, 1) := by decide +kernel
theorem dX2_takeNumber_57 : decode cX2_takeNumber 57 = .ok (.bipush 48, 2) := by decide +kernel
theorem dX2_takeNumber_59 : decode cX2_takeNumber 59 = .ok (.isub, 1) := by decide +kernel
theorem dX2_takeNumber_60 : decode cX2_takeNumber 60 = .ok (.istore_n 3, 1) := by decide +kernel
theorem dX2_takeNumber_61 : decode cX2_takeNumber 61 = .ok (.iinc 4 1, 3) := by decide +kernel
theorem dX2_takeNumber_64 : decode cX2_takeNumber 64 = .ok (.goto (-27), 3) := by decide +kernel
theorem dX2_takeNumber_67 : decode cX2_takeNumber 67 = .ok (.iload_n 3, 1) := by decide +kernel
theorem dX2_takeNumber_68 : decode cX2_takeNumber 68 = .ok (.iload_n 1, 1) := by decide +kernel
theorem dX2_takeNumber_69 : decode cX2_takeNumber 69 = .ok (.if_icmp .lt 8, 3) := by decide +kernel
theorem dX2_takeNumber_72 : decode cX2_takeNumber 72 = .ok (.iload_n 3, 1) := by decide +kernel
theorem dX2_takeNumber_73 : decode cX2_takeNumber 73 = .ok (.iload_n 2, 1) := by decide +kernel
theorem dX2_takeNumber_74 : decode cX2_takeNumber 74 = .ok (.if_icmp .le 15, 3) := by decide +kernel
theorem dX2_takeNumber_77 : decode cX2_takeNumber 77 = .ok (.aload_n 0, 1) := by decide +kernel
theorem dX2_takeNumber_78 : decode cX2_takeNumber 78 = .ok (.iconst 3, 1) := by decide +kernel
theorem dX2_takeNumber_79 : decode cX2_takeNumber 79 = .ok (.aload_n 0, 1) := by decide +kernel
theorem dX2_takeNumber_80 : decode cX2_takeNumber 80 = .ok (.getfield 72, 3) := by decide +kernel
theorem dX2_takeNumber_83 : decode cX2_takeNumber 83 = .ok (.invokevirtual 64, 3) := by decide +kernel
theorem dX2_takeNumber_86 : decode cX2_takeNumber 86 = .ok (.pop, 1) := by decide +kernel
theorem dX2_takeNumber_87 : decode cX2_takeNumber 87 = .ok (.iconst (-1), 1) := by decide +kernel
theorem dX2_takeNumber_88 : decode cX2_takeNumber 88 = .ok (.ireturn, 1) := by decide +kernel
theorem dX2_takeNumber_89 : decode cX2_takeNumber 89 = .ok (.iload_n 3, 1) := by decide +kernel
theorem dX2_takeNumber_90 : decode cX2_takeNumber 90 = .ok (.ireturn, 1) := by decide +kernel
theorem dX2_isWord_0 : decode cX2_isWord 0 = .ok (.aload_n 1, 1) := by decide +kernel
theorem dX2_isWord_1 : decode cX2_isWord 1 = .ok (.invokevirtual 81, 3) := by decide +kernel
theorem dX2_isWord_4 : decode cX2_isWord 4 = .ok (.aload_n 0, 1) := by decide +kernel
theorem dX2_isWord_5 : decode cX2_isWord 5 = .ok (.getfield 41, 3) := by decide +kernel
theorem dX2_isWord_8 : decode cX2_isWord 8 = .ok (.aload_n 0, 1) := by decide +kernel
theorem dX2_isWord_9 : decode cX2_isWord 9 = .ok (.getfield 72, 3) := by decide +kernel
theorem dX2_isWord_12 : decode cX2_isWord 12 = .ok (.isub, 1) := by decide +kernel
theorem dX2_isWord_13 : decode cX2_isWord 13 = .ok (.if_icmp .eq 5, 3) := by decide +kernel
theorem dX2_isWord_16 : decode cX2_isWord 16 = .ok (.iconst 0, 1) := by decide +kernel
theorem dX2_isWord_17 : decode cX2_isWord 17 = .ok (.ireturn, 1) := by decide +kernel
theorem dX2_isWord_18 : decode cX2_isWord 18 = .ok (.iconst 0, 1) := by decide +kernel
theorem dX2_isWord_19 : decode cX2_isWord 19 = .ok (.istore_n 2, 1) := by decide +kernel
theorem dX2_isWord_20 : decode cX2_isWord 20 = .ok (.iload_n 2, 1) := by decide +kernel
theorem dX2_isWord_21 : decode cX2_isWord 21 = .ok (.aload_n 1, 1) := by decide +kernel
theorem dX2_isWord_22 : decode cX2_isWord 22 = .ok (.invokevirtual 81, 3) := by decide +kernel
theorem dX2_isWord_25 : decode cX2_isWord 25 = .ok (.if_icmp .ge 29, 3) := by decide +kernel
theorem dX2_isWord_28 : decode cX2_isWord 28 = .ok (.aload_n 0, 1) := by decide +kernel
theorem dX2_isWord_29 : decode cX2_isWord 29 = .ok (.aload_n 0, 1) := by decide +kernel
theorem dX2_isWord_30 : decode cX2_isWord 30 = .ok (.getfield 72, 3) := by decide +kernel
theorem dX2_isWord_33 : decode cX2_isWord 33 = .ok (.iload_n 2, 1) := by decide +kernel
theorem dX2_isWord_34 : decode cX2_isWord 34 = .ok (.iadd, 1) := by decide +kernel
theorem dX2_isWord_35 : decode cX2_isWord 35 = .ok (.invokevirtual 68, 3) := by decide +kernel
theorem dX2_isWord_38 : decode cX2_isWord 38 = .ok (.aload_n 1, 1) := by decide +kernel
theorem dX2_isWord_39 : decode cX2_isWord 39 = .ok (.iload_n 2, 1) := by decide +kernel
theorem dX2_isWord_40 : decode cX2_isWord 40 = .ok (.invokevirtual 86, 3) := by decide +kernel
theorem dX2_isWord_43 : decode cX2_isWord 43 = .ok (.if_icmp .eq 5, 3) := by decide +kernel
theorem dX2_isWord_46 : decode cX2_isWord 46 = .ok (.iconst 0, 1) := by decide +kernel
theorem dX2_isWord_47 : decode cX2_isWord 47 = .ok (.ireturn, 1) := by decide +kernel
theorem dX2_isWord_48 : decode cX2_isWord 48 = .ok (.iinc 2 1, 3) := by decide +kernel
theorem dX2_isWord_51 : decode cX2_isWord 51 = .ok (.goto (-31), 3) := by decide +kernel
theorem dX2_isWord_54 : decode cX2_isWord 54 = .ok (.iconst 1, 1) := by decide +kernel
theorem dX2_isWord_55 : decode cX2_isWord 55 = .ok (.ireturn, 1) := by decide +kernel
theorem dX2_wordOf_0 : decode cX2_wordOf 0 = .ok (.iload_n 0, 1) := by decide +kernel
theorem dX2_wordOf_1 : decode cX2_wordOf 1 = .ok (.tableswitch 64 0 6 #[43, 46, 49, 52, 55, 58, 61], 43) := by decide +kernel
theorem dX2_wordOf_44 : decode cX2_wordOf 44 = .ok (.ldc 90, 2) := by decide +kernel
theorem dX2_wordOf_46 : decode cX2_wordOf 46 = .ok (.areturn, 1) := by decide +kernel
theorem dX2_wordOf_47 : decode cX2_wordOf 47 = .ok (.ldc 92, 2) := by decide +kernel
theorem dX2_wordOf_49 : decode cX2_wordOf 49 = .ok (.areturn, 1) := by decide +kernel
theorem dX2_wordOf_50 : decode cX2_wordOf 50 = .ok (.ldc 94, 2) := by decide +kernel
theorem dX2_wordOf_52 : decode cX2_wordOf 52 = .ok (.areturn, 1) := by decide +kernel
theorem dX2_wordOf_53 : decode cX2_wordOf 53 = .ok (.ldc 96, 2) := by decide +kernel
theorem dX2_wordOf_55 : decode cX2_wordOf 55 = .ok (.areturn, 1) := by decide +kernel
theorem dX2_wordOf_56 : decode cX2_wordOf 56 = .ok (.ldc 98, 2) := by decide +kernel
theorem dX2_wordOf_58 : decode cX2_wordOf 58 = .ok (.areturn, 1) := by decide +kernel
theorem dX2_wordOf_59 : decode cX2_wordOf 59 = .ok (.ldc 100, 2) := by decide +kernel
theorem dX2_wordOf_61 : decode cX2_wordOf 61 = .ok (.areturn, 1) := by decide +kernel
theorem dX2_wordOf_62 : decode cX2_wordOf 62 = .ok (.ldc 102, 2) := by decide +kernel
theorem dX2_wordOf_64 : decode cX2_wordOf 64 = .ok (.areturn, 1) := by decide +kernel
theorem dX2_wordOf_65 : decode cX2_wordOf 65 = .ok (.ldc 104, 2) := by decide +kernel
theorem dX2_wordOf_67 : decode cX2_wordOf 67 = .ok (.areturn, 1) := by decide +kernel
theorem dX2_lineOfWord_0 : decode cX2_lineOfWord 0 = .ok (.iconst 0, 1) := by decide +kernel
theorem dX2_lineOfWord_1 : decode cX2_lineOfWord 1 = .ok (.istore_n 1, 1) := by decide +kernel
theorem dX2_lineOfWord_2 : decode cX2_lineOfWord 2 = .ok (.iload_n 1, 1) := by decide +kernel
theorem dX2_lineOfWord_3 : decode cX2_lineOfWord 3 = .ok (.bipush 8, 2) := by decide +kernel
theorem dX2_lineOfWord_5 : decode cX2_lineOfWord 5 = .ok (.if_icmp .ge 22, 3) := by decide +kernel
theorem dX2_lineOfWord_8 : decode cX2_lineOfWord 8 = .ok (.aload_n 0, 1) := by decide +kernel
theorem dX2_lineOfWord_9 : decode cX2_lineOfWord 9 = .ok (.iload_n 1, 1) := by decide +kernel
theorem dX2_lineOfWord_10 : decode cX2_lineOfWord 10 = .ok (.invokestatic 106, 3) := by decide +kernel
theorem dX2_lineOfWord_13 : decode cX2_lineOfWord 13 = .ok (.invokevirtual 110, 3) := by decide +kernel
theorem dX2_lineOfWord_16 : decode cX2_lineOfWord 16 = .ok (.ifCond .eq 5, 3) := by decide +kernel
theorem dX2_lineOfWord_19 : decode cX2_lineOfWord 19 = .ok (.iload_n 1, 1) := by decide +kernel
theorem dX2_lineOfWord_20 : decode cX2_lineOfWord 20 = .ok (.ireturn, 1) := by decide +kernel
theorem dX2_lineOfWord_21 : decode cX2_lineOfWord 21 = .ok (.iinc 1 1, 3) := by decide +kernel
theorem dX2_lineOfWord_24 : decode cX2_lineOfWord 24 = .ok (.goto (-22), 3) := by decide +kernel
theorem dX2_lineOfWord_27 : decode cX2_lineOfWord 27 = .ok (.iconst (-1), 1) := by decide +kernel
theorem dX2_lineOfWord_28 : decode cX2_lineOfWord 28 = .ok (.ireturn, 1) := by decide +kernel
theorem dX2_takeLine_0 : decode cX2_takeLine 0 = .ok (.aload_n 0, 1) := by decide +kernel
theorem dX2_takeLine_1 : decode cX2_takeLine 1 = .ok (.getfield 48, 3) := by decide +kernel
theorem dX2_takeLine_4 : decode cX2_takeLine 4 = .ok (.iconst 1, 1) := by decide +kernel
theorem dX2_takeLine_5 : decode cX2_takeLine 5 = .ok (.if_icmp .ne 10, 3) := by decide +kernel
theorem dX2_takeLine_8 : decode cX2_takeLine 8 = .ok (.aload_n 0, 1) := by decide +kernel
theorem dX2_takeLine_9 : decode cX2_takeLine 9 = .ok (.invokevirtual 114, 3) := by decide +kernel
theorem dX2_takeLine_12 : decode cX2_takeLine 12 = .ok (.goto 4, 3) := by decide +kernel
theorem dX2_takeLine_15 : decode cX2_takeLine 15 = .ok (.iconst (-1), 1) := by decide +kernel
theorem dX2_takeLine_16 : decode cX2_takeLine 16 = .ok (.istore_n 1, 1) := by decide +kernel
theorem dX2_takeLine_17 : decode cX2_takeLine 17 = .ok (.iload_n 1, 1) := by decide +kernel
theorem dX2_takeLine_18 : decode cX2_takeLine 18 = .ok (.tableswitch 92 0 7 #[46, 51, 58, 65, 70, 75, 81, 87], 46) := by decide +kernel
theorem dX2_takeLine_64 : decode cX2_takeLine 64 = .ok (.aload_n 0, 1) := by decide +kernel
theorem dX2_takeLine_65 : decode cX2_takeLine 65 = .ok (.invokevirtual 117, 3) := by decide +kernel
theorem dX2_takeLine_68 : decode cX2_takeLine 68 = .ok (.ireturn, 1) := by decide +kernel
theorem dX2_takeLine_69 : decode cX2_takeLine 69 = .ok (.aload_n 0, 1) := by decide +kernel
theorem dX2_takeLine_70 : decode cX2_takeLine 70 = .ok (.iload_n 1, 1) := by decide +kernel
theorem dX2_takeLine_71 : decode cX2_takeLine 71 = .ok (.iconst 0, 1) := by decide +kernel
theorem dX2_takeLine_72 : decode cX2_takeLine 72 = .ok (.invokevirtual 120, 3) := by decide +kernel
theorem dX2_takeLine_75 : decode cX2_takeLine 75 = .ok (.ireturn, 1) := by decide +kernel
theorem dX2_takeLine_76 : decode cX2_takeLine 76 = .ok (.aload_n 0, 1) := by decide +kernel
theorem dX2_takeLine_77 : decode cX2_takeLine 77 = .ok (.iload_n 1, 1) := by decide +kernel
theorem dX2_takeLine_78 : decode cX2_takeLine 78 = .ok (.iconst 1, 1) := by decide +kernel
theorem dX2_takeLine_79 : decode cX2_takeLine 79 = .ok (.invokevirtual 120, 3) := by decide +kernel
theorem dX2_takeLine_82 : decode cX2_takeLine 82 = .ok (.ireturn, 1) := by decide +kernel
theorem dX2_takeLine_83 : decode cX2_takeLine 83 = .ok (.aload_n 0, 1) := by decide +kernel
theorem dX2_takeLine_84 : decode cX2_takeLine 84 = .ok (.invokevirtual 123, 3) := by decide +kernel
theorem dX2_takeLine_87 : decode cX2_takeLine 87 = .ok (.ireturn, 1) := by decide +kernel
theorem dX2_takeLine_88 : decode cX2_takeLine 88 = .ok (.aload_n 0, 1) := by decide +kernel
theorem dX2_takeLine_89 : decode cX2_takeLine 89 = .ok (.invokevirtual 126, 3) := by decide +kernel
theorem dX2_takeLine_92 : decode cX2_takeLine 92 = .ok (.ireturn, 1) := by decide +kernel
theorem dX2_takeLine_93 : decode cX2_takeLine 93 = .ok (.aload_n 0, 1) := by decide +kernel
theorem dX2_takeLine_94 : decode cX2_takeLine 94 = .ok (.iconst 0, 1) := by decide +kernel
theorem dX2_takeLine_95 : decode cX2_takeLine 95 = .ok (.invokevirtual 129, 3) := by decide +kernel
theorem dX2_takeLine_98 : decode cX2_takeLine 98 = .ok (.ireturn, 1) := by decide +kernel
theorem dX2_takeLine_99 : decode cX2_takeLine 99 = .ok (.aload_n 0, 1) := by decide +kernel
theorem dX2_takeLine_100 : decode cX2_takeLine 100 = .ok (.iconst 1, 1) := by decide +kernel
theorem dX2_takeLine_101 : decode cX2_takeLine 101 = .ok (.invokevirtual 129, 3) := by decide +kernel
theorem dX2_takeLine_104 : decode cX2_takeLine 104 = .ok (.ireturn, 1) := by decide +kernel
theorem dX2_takeLine_105 : decode cX2_takeLine 105 = .ok (.aload_n 0, 1) := by decide +kernel
theorem dX2_takeLine_106 : decode cX2_takeLine 106 = .ok (.invokevirtual 133, 3) := by decide +kernel
theorem dX2_takeLine_109 : decode cX2_takeLine 109 = .ok (.ireturn, 1) := by decide +kernel
theorem dX2_takeLine_110 : decode cX2_takeLine 110 = .ok (.aload_n 0, 1) := by decide +kernel
theorem dX2_takeLine_111 : decode cX2_takeLine 111 = .ok (.iconst 2, 1) := by decide +kernel
theorem dX2_takeLine_112 : decode cX2_takeLine 112 = .ok (.aload_n 0, 1) := by decide +kernel
theorem dX2_takeLine_113 : decode cX2_takeLine 113 = .ok (.getfield 72, 3) := by decide +kernel
theorem dX2_takeLine_116 : decode cX2_takeLine 116 = .ok (.invokevirtual 64, 3) := by decide +kernel
theorem dX2_takeLine_119 : decode cX2_takeLine 119 = .ok (.ireturn, 1) := by decide +kernel
theorem dX2_tellOnce_0 : decode cX2_tellOnce 0 = .ok (.iload_n 1, 1) := by decide +kernel
theorem dX2_tellOnce_1 : decode cX2_tellOnce 1 = .ok (.ifCond .lt 12, 3) := by decide +kernel
theorem dX2_tellOnce_4 : decode cX2_tellOnce 4 = .ok (.iload_n 1, 1) := by decide +kernel
theorem dX2_tellOnce_5 : decode cX2_tellOnce 5 = .ok (.aload_n 0, 1) := by decide +kernel
theorem dX2_tellOnce_6 : decode cX2_tellOnce 6 = .ok (.getfield 22, 3) := by decide +kernel
theorem dX2_tellOnce_9 : decode cX2_tellOnce 9 = .ok (.arraylength, 1) := by decide +kernel
theorem dX2_tellOnce_10 : decode cX2_tellOnce 10 = .ok (.if_icmp .lt 5, 3) := by decide +kernel
theorem dX2_tellOnce_13 : decode cX2_tellOnce 13 = .ok (.iconst 0, 1) := by decide +kernel
theorem dX2_tellOnce_14 : decode cX2_tellOnce 14 = .ok (.ireturn, 1) := by decide +kernel
theorem dX2_tellOnce_15 : decode cX2_tellOnce 15 = .ok (.aload_n 0, 1) := by decide +kernel
theorem dX2_tellOnce_16 : decode cX2_tellOnce 16 = .ok (.getfield 22, 3) := by decide +kernel
theorem dX2_tellOnce_19 : decode cX2_tellOnce 19 = .ok (.iload_n 1, 1) := by decide +kernel
theorem dX2_tellOnce_20 : decode cX2_tellOnce 20 = .ok (.iaload, 1) := by decide +kernel
theorem dX2_tellOnce_21 : decode cX2_tellOnce 21 = .ok (.iload_n 2, 1) := by decide +kernel
theorem dX2_tellOnce_22 : decode cX2_tellOnce 22 = .ok (.ishr, 1) := by decide +kernel
theorem dX2_tellOnce_23 : decode cX2_tellOnce 23 = .ok (.iconst 1, 1) := by decide +kernel
theorem dX2_tellOnce_24 : decode cX2_tellOnce 24 = .ok (.iand, 1) := by decide +kernel
theorem dX2_tellOnce_25 : decode cX2_tellOnce 25 = .ok (.iconst 1, 1) := by decide +kernel
theorem dX2_tellOnce_26 : decode cX2_tellOnce 26 = .ok (.if_icmp .ne 13, 3) := by decide +kernel
theorem dX2_tellOnce_29 : decode cX2_tellOnce 29 = .ok (.aload_n 0, 1) := by decide +kernel
theorem dX2_tellOnce_30 : decode cX2_tellOnce 30 = .ok (.iconst 4, 1) := by decide +kernel
theorem dX2_tellOnce_31 : decode cX2_tellOnce 31 = .ok (.aload_n 0, 1) := by decide +kernel
theorem dX2_tellOnce_32 : decode cX2_tellOnce 32 = .ok (.getfield 72, 3) := by decide +kernel
theorem dX2_tellOnce_35 : decode cX2_tellOnce 35 = .ok (.invokevirtual 64, 3) := by decide +kernel
theorem dX2_tellOnce_38 : decode cX2_tellOnce 38 = .ok (.ireturn, 1) := by decide +kernel
theorem dX2_tellOnce_39 : decode cX2_tellOnce 39 = .ok (.aload_n 0, 1) := by decide +kernel
theorem dX2_tellOnce_40 : decode cX2_tellOnce 40 = .ok (.getfield 22, 3) := by decide +kernel
theorem dX2_tellOnce_43 : decode cX2_tellOnce 43 = .ok (.iload_n 1, 1) := by decide +kernel
theorem dX2_tellOnce_44 : decode cX2_tellOnce 44 = .ok (.dup2, 1) := by decide +kernel
theorem dX2_tellOnce_45 : decode cX2_tellOnce 45 = .ok (.iaload, 1) := by decide +kernel
theorem dX2_tellOnce_46 : decode cX2_tellOnce 46 = .ok (.iconst 1, 1) := by decide +kernel
theorem dX2_tellOnce_47 : decode cX2_tellOnce 47 = .ok (.iload_n 2, 1) := by decide +kernel
theorem dX2_tellOnce_48 : decode cX2_tellOnce 48 = .ok (.ishl, 1) := by decide +kernel
theorem dX2_tellOnce_49 : decode cX2_tellOnce 49 = .ok (.ior, 1) := by decide +kernel
theorem dX2_tellOnce_50 : decode cX2_tellOnce 50 = .ok (.iastore, 1) := by decide +kernel
theorem dX2_tellOnce_51 : decode cX2_tellOnce 51 = .ok (.iconst 1, 1) := by decide +kernel
theorem dX2_tellOnce_52 : decode cX2_tellOnce 52 = .ok (.ireturn, 1) := by decide +kernel
theorem dX2_takeCity_0 : decode cX2_takeCity 0 = .ok (.aload_n 0, 1) := by decide +kernel
theorem dX2_takeCity_1 : decode cX2_takeCity 1 = .ok (.iconst 0, 1) := by decide +kernel
theorem dX2_takeCity_2 : decode cX2_takeCity 2 = .ok (.iconst 0, 1) := by decide +kernel
theorem dX2_takeCity_3 : decode cX2_takeCity 3 = .ok (.invokevirtual 136, 3) := by decide +kernel
theorem dX2_takeCity_6 : decode cX2_takeCity 6 = .ok (.ifCond .ne 5, 3) := by decide +kernel
theorem dX2_takeCity_9 : decode cX2_takeCity 9 = .ok (.iconst 0, 1) := by decide +kernel
theorem dX2_takeCity_10 : decode cX2_takeCity 10 = .ok (.ireturn, 1) := by decide +kernel
theorem dX2_takeCity_11 : decode cX2_takeCity 11 = .ok (.aload_n 0, 1) := by decide +kernel
theorem dX2_takeCity_12 : decode cX2_takeCity 12 = .ok (.iconst 2, 1) := by decide +kernel
theorem dX2_takeCity_13 : decode cX2_takeCity 13 = .ok (.bipush 8, 2) := by decide +kernel
theorem dX2_takeCity_15 : decode cX2_takeCity 15 = .ok (.invokevirtual 139, 3) := by decide +kernel
theorem dX2_takeCity_18 : decode cX2_takeCity 18 = .ok (.istore_n 1, 1) := by decide +kernel
theorem dX2_takeCity_19 : decode cX2_takeCity 19 = .ok (.iload_n 1, 1) := by decide +kernel
theorem dX2_takeCity_20 : decode cX2_takeCity 20 = .ok (.ifCond .lt 11, 3) := by decide +kernel
theorem dX2_takeCity_23 : decode cX2_takeCity 23 = .ok (.aload_n 0, 1) := by decide +kernel
theorem dX2_takeCity_24 : decode cX2_takeCity 24 = .ok (.getfield 12, 3) := by decide +kernel
theorem dX2_takeCity_27 : decode cX2_takeCity 27 = .ok (.iload_n 1, 1) := by decide +kernel
theorem dX2_takeCity_28 : decode cX2_takeCity 28 = .ok (.putfield 143, 3) := by decide +kernel
theorem dX2_takeCity_31 : decode cX2_takeCity 31 = .ok (.iload_n 1, 1) := by decide +kernel
theorem dX2_takeCity_32 : decode cX2_takeCity 32 = .ok (.ifCond .lt 7, 3) := by decide +kernel
theorem dX2_takeCity_35 : decode cX2_takeCity 35 = .ok (.iconst 1, 1) := by decide +kernel
theorem dX2_takeCity_36 : decode cX2_takeCity 36 = .ok (.goto 4, 3) := by decide +kernel
theorem dX2_takeCity_39 : decode cX2_takeCity 39 = .ok (.iconst 0, 1) := by decide +kernel
theorem dX2_takeCity_40 : decode cX2_takeCity 40 = .ok (.ireturn, 1) := by decide +kernel
theorem dX2_takeStreet_0 : decode cX2_takeStreet 0 = .ok (.aload_n 0, 1) := by decide +kernel
theorem dX2_takeStreet_1 : decode cX2_takeStreet 1 = .ok (.iconst 0, 1) := by decide +kernel
theorem dX2_takeStreet_2 : decode cX2_takeStreet 2 = .ok (.bipush 7, 2) := by decide +kernel
theorem dX2_takeStreet_4 : decode cX2_takeStreet 4 = .ok (.invokevirtual 139, 3) := by decide +kernel
theorem dX2_takeStreet_7 : decode cX2_takeStreet 7 = .ok (.istore_n 3, 1) := by decide +kernel
theorem dX2_takeStreet_8 : decode cX2_takeStreet 8 = .ok (.iload_n 3, 1) := by decide +kernel
theorem dX2_takeStreet_9 : decode cX2_takeStreet 9 = .ok (.ifCond .lt 12, 3) := by decide +kernel
theorem dX2_takeStreet_12 : decode cX2_takeStreet 12 = .ok (.aload_n 0, 1) := by decide +kernel
theorem dX2_takeStreet_13 : decode cX2_takeStreet 13 = .ok (.iload_n 1, 1) := by decide +kernel
theorem dX2_takeStreet_14 : decode cX2_takeStreet 14 = .ok (.iload_n 3, 1) := by decide +kernel
theorem dX2_takeStreet_15 : decode cX2_takeStreet 15 = .ok (.invokevirtual 136, 3) := by decide +kernel
theorem dX2_takeStreet_18 : decode cX2_takeStreet 18 = .ok (.ifCond .ne 5, 3) := by decide +kernel
theorem dX2_takeStreet_21 : decode cX2_takeStreet 21 = .ok (.iconst 0, 1) := by decide +kernel
theorem dX2_takeStreet_22 : decode cX2_takeStreet 22 = .ok (.ireturn, 1) := by decide +kernel
theorem dX2_takeStreet_23 : decode cX2_takeStreet 23 = .ok (.aload_n 0, 1) := by decide +kernel
theorem dX2_takeStreet_24 : decode cX2_takeStreet 24 = .ok (.iconst 0, 1) := by decide +kernel
theorem dX2_takeStreet_25 : decode cX2_takeStreet 25 = .ok (.bipush 7, 2) := by decide +kernel
theorem dX2_takeStreet_27 : decode cX2_takeStreet 27 = .ok (.invokevirtual 139, 3) := by decide +kernel
theorem dX2_takeStreet_30 : decode cX2_takeStreet 30 = .ok (.istore 4, 2) := by decide +kernel
theorem dX2_takeStreet_32 : decode cX2_takeStreet 32 = .ok (.iload 4, 2) := by decide +kernel
theorem dX2_takeStreet_34 : decode cX2_takeStreet 34 = .ok (.ifCond .ge 5, 3) := by decide +kernel
theorem dX2_takeStreet_37 : decode cX2_takeStreet 37 = .ok (.iconst 0, 1) := by decide +kernel
theorem dX2_takeStreet_38 : decode cX2_takeStreet 38 = .ok (.ireturn, 1) := by decide +kernel
theorem dX2_takeStreet_39 : decode cX2_takeStreet 39 = .ok (.aload_n 0, 1) := by decide +kernel
theorem dX2_takeStreet_40 : decode cX2_takeStreet 40 = .ok (.getfield 12, 3) := by decide +kernel
theorem dX2_takeStreet_43 : decode cX2_takeStreet 43 = .ok (.iload_n 3, 1) := by decide +kernel
theorem dX2_takeStreet_44 : decode cX2_takeStreet 44 = .ok (.iload_n 2, 1) := by decide +kernel
theorem dX2_takeStreet_45 : decode cX2_takeStreet 45 = .ok (.iload 4, 2) := by decide +kernel
theorem dX2_takeStreet_47 : decode cX2_takeStreet 47 = .ok (.invokevirtual 146, 3) := by decide +kernel
theorem dX2_takeStreet_50 : decode cX2_takeStreet 50 = .ok (.iconst 1, 1) := by decide +kernel
theorem dX2_takeStreet_51 : decode cX2_takeStreet 51 = .ok (.ireturn, 1) := by decide +kernel
theorem dX2_takeSign_0 : decode cX2_takeSign 0 = .ok (.aload_n 0, 1) := by decide +kernel
theorem dX2_takeSign_1 : decode cX2_takeSign 1 = .ok (.iconst 0, 1) := by decide +kernel
theorem dX2_takeSign_2 : decode cX2_takeSign 2 = .ok (.bipush 7, 2) := by decide +kernel
theorem dX2_takeSign_4 : decode cX2_takeSign 4 = .ok (.invokevirtual 139, 3) := by decide +kernel
theorem dX2_takeSign_7 : decode cX2_takeSign 7 = .ok (.istore_n 1, 1) := by decide +kernel
theorem dX2_takeSign_8 : decode cX2_takeSign 8 = .ok (.iload_n 1, 1) := by decide +kernel
theorem dX2_takeSign_9 : decode cX2_takeSign 9 = .ok (.ifCond .lt 12, 3) := by decide +kernel
theorem dX2_takeSign_12 : decode cX2_takeSign 12 = .ok (.aload_n 0, 1) := by decide +kernel
theorem dX2_takeSign_13 : decode cX2_takeSign 13 = .ok (.iconst 3, 1) := by decide +kernel
theorem dX2_takeSign_14 : decode cX2_takeSign 14 = .ok (.iload_n 1, 1) := by decide +kernel
theorem dX2_takeSign_15 : decode cX2_takeSign 15 = .ok (.invokevirtual 136, 3) := by decide +kernel
theorem dX2_takeSign_18 : decode cX2_takeSign 18 = .ok (.ifCond .ne 5, 3) := by decide +kernel
theorem dX2_takeSign_21 : decode cX2_takeSign 21 = .ok (.iconst 0, 1) := by decide +kernel
theorem dX2_takeSign_22 : decode cX2_takeSign 22 = .ok (.ireturn, 1) := by decide +kernel
theorem dX2_takeSign_23 : decode cX2_takeSign 23 = .ok (.aload_n 0, 1) := by decide +kernel
theorem dX2_takeSign_24 : decode cX2_takeSign 24 = .ok (.getfield 12, 3) := by decide +kernel
theorem dX2_takeSign_27 : decode cX2_takeSign 27 = .ok (.dup, 1) := by decide +kernel
theorem dX2_takeSign_28 : decode cX2_takeSign 28 = .ok (.getfield 150, 3) := by decide +kernel
theorem dX2_takeSign_31 : decode cX2_takeSign 31 = .ok (.iconst 1, 1) := by decide +kernel
theorem dX2_takeSign_32 : decode cX2_takeSign 32 = .ok (.iload_n 1, 1) := by decide +kernel
theorem dX2_takeSign_33 : decode cX2_takeSign 33 = .ok (.ishl, 1) := by decide +kernel
theorem dX2_takeSign_34 : decode cX2_takeSign 34 = .ok (.ior, 1) := by decide +kernel
theorem dX2_takeSign_35 : decode cX2_takeSign 35 = .ok (.putfield 150, 3) := by decide +kernel
theorem dX2_takeSign_38 : decode cX2_takeSign 38 = .ok (.iconst 1, 1) := by decide +kernel
theorem dX2_takeSign_39 : decode cX2_takeSign 39 = .ok (.ireturn, 1) := by decide +kernel
theorem dX2_takeHour_0 : decode cX2_takeHour 0 = .ok (.aload_n 0, 1) := by decide +kernel
theorem dX2_takeHour_1 : decode cX2_takeHour 1 = .ok (.iconst 4, 1) := by decide +kernel
theorem dX2_takeHour_2 : decode cX2_takeHour 2 = .ok (.iconst 0, 1) := by decide +kernel
theorem dX2_takeHour_3 : decode cX2_takeHour 3 = .ok (.invokevirtual 136, 3) := by decide +kernel
theorem dX2_takeHour_6 : decode cX2_takeHour 6 = .ok (.ifCond .ne 5, 3) := by decide +kernel
theorem dX2_takeHour_9 : decode cX2_takeHour 9 = .ok (.iconst 0, 1) := by decide +kernel
theorem dX2_takeHour_10 : decode cX2_takeHour 10 = .ok (.ireturn, 1) := by decide +kernel
theorem dX2_takeHour_11 : decode cX2_takeHour 11 = .ok (.aload_n 0, 1) := by decide +kernel
theorem dX2_takeHour_12 : decode cX2_takeHour 12 = .ok (.iconst 0, 1) := by decide +kernel
theorem dX2_takeHour_13 : decode cX2_takeHour 13 = .ok (.bipush 23, 2) := by decide +kernel
theorem dX2_takeHour_15 : decode cX2_takeHour 15 = .ok (.invokevirtual 139, 3) := by decide +kernel
theorem dX2_takeHour_18 : decode cX2_takeHour 18 = .ok (.istore_n 1, 1) := by decide +kernel
theorem dX2_takeHour_19 : decode cX2_takeHour 19 = .ok (.iload_n 1, 1) := by decide +kernel
theorem dX2_takeHour_20 : decode cX2_takeHour 20 = .ok (.ifCond .lt 11, 3) := by decide +kernel
theorem dX2_takeHour_23 : decode cX2_takeHour 23 = .ok (.aload_n 0, 1) := by decide +kernel
theorem dX2_takeHour_24 : decode cX2_takeHour 24 = .ok (.getfield 12, 3) := by decide +kernel
theorem dX2_takeHour_27 : decode cX2_takeHour 27 = .ok (.iload_n 1, 1) := by decide +kernel
theorem dX2_takeHour_28 : decode cX2_takeHour 28 = .ok (.putfield 153, 3) := by decide +kernel
theorem dX2_takeHour_31 : decode cX2_takeHour 31 = .ok (.iload_n 1, 1) := by decide +kernel
theorem dX2_takeHour_32 : decode cX2_takeHour 32 = .ok (.ifCond .lt 7, 3) := by decide +kernel
theorem dX2_takeHour_35 : decode cX2_takeHour 35 = .ok (.iconst 1, 1) := by decide +kernel
theorem dX2_takeHour_36 : decode cX2_takeHour 36 = .ok (.goto 4, 3) := by decide +kernel
theorem dX2_takeHour_39 : decode cX2_takeHour 39 = .ok (.iconst 0, 1) := by decide +kernel
theorem dX2_takeHour_40 : decode cX2_takeHour 40 = .ok (.ireturn, 1) := by decide +kernel
theorem dX2_takeGloves_0 : decode cX2_takeGloves 0 = .ok (.aload_n 0, 1) := by decide +kernel
theorem dX2_takeGloves_1 : decode cX2_takeGloves 1 = .ok (.bipush 7, 2) := by decide +kernel
theorem dX2_takeGloves_3 : decode cX2_takeGloves 3 = .ok (.iconst 0, 1) := by decide +kernel
theorem dX2_takeGloves_4 : decode cX2_takeGloves 4 = .ok (.invokevirtual 136, 3) := by decide +kernel
theorem dX2_takeGloves_7 : decode cX2_takeGloves 7 = .ok (.ifCond .ne 5, 3) := by decide +kernel
theorem dX2_takeGloves_10 : decode cX2_takeGloves 10 = .ok (.iconst 0, 1) := by decide +kernel
theorem dX2_takeGloves_11 : decode cX2_takeGloves 11 = .ok (.ireturn, 1) := by decide +kernel
theorem dX2_takeGloves_12 : decode cX2_takeGloves 12 = .ok (.iconst 0, 1) := by decide +kernel
theorem dX2_takeGloves_13 : decode cX2_takeGloves 13 = .ok (.istore_n 1, 1) := by decide +kernel
theorem dX2_takeGloves_14 : decode cX2_takeGloves 14 = .ok (.iload_n 1, 1) := by decide +kernel
theorem dX2_takeGloves_15 : decode cX2_takeGloves 15 = .ok (.aload_n 0, 1) := by decide +kernel
theorem dX2_takeGloves_16 : decode cX2_takeGloves 16 = .ok (.getfield 12, 3) := by decide +kernel
theorem dX2_takeGloves_19 : decode cX2_takeGloves 19 = .ok (.getfield 155, 3) := by decide +kernel
theorem dX2_takeGloves_22 : decode cX2_takeGloves 22 = .ok (.arraylength, 1) := by decide +kernel
theorem dX2_takeGloves_23 : decode cX2_takeGloves 23 = .ok (.if_icmp .ge 33, 3) := by decide +kernel
theorem dX2_takeGloves_26 : decode cX2_takeGloves 26 = .ok (.aload_n 0, 1) := by decide +kernel
theorem dX2_takeGloves_27 : decode cX2_takeGloves 27 = .ok (.iconst 0, 1) := by decide +kernel
theorem dX2_takeGloves_28 : decode cX2_takeGloves 28 = .ok (.bipush 9, 2) := by decide +kernel
theorem dX2_takeGloves_30 : decode cX2_takeGloves 30 = .ok (.invokevirtual 139, 3) := by decide +kernel
theorem dX2_takeGloves_33 : decode cX2_takeGloves 33 = .ok (.istore_n 2, 1) := by decide +kernel
theorem dX2_takeGloves_34 : decode cX2_takeGloves 34 = .ok (.iload_n 2, 1) := by decide +kernel
theorem dX2_takeGloves_35 : decode cX2_takeGloves 35 = .ok (.ifCond .ge 5, 3) := by decide +kernel
theorem dX2_takeGloves_38 : decode cX2_takeGloves 38 = .ok (.iconst 0, 1) := by decide +kernel
theorem dX2_takeGloves_39 : decode cX2_takeGloves 39 = .ok (.ireturn, 1) := by decide +kernel
theorem dX2_takeGloves_40 : decode cX2_takeGloves 40 = .ok (.aload_n 0, 1) := by decide +kernel
theorem dX2_takeGloves_41 : decode cX2_takeGloves 41 = .ok (.getfield 12, 3) := by decide +kernel
theorem dX2_takeGloves_44 : decode cX2_takeGloves 44 = .ok (.getfield 155, 3) := by decide +kernel
theorem dX2_takeGloves_47 : decode cX2_takeGloves 47 = .ok (.iload_n 1, 1) := by decide +kernel
theorem dX2_takeGloves_48 : decode cX2_takeGloves 48 = .ok (.iload_n 2, 1) := by decide +kernel
theorem dX2_takeGloves_49 : decode cX2_takeGloves 49 = .ok (.iastore, 1) := by decide +kernel
theorem dX2_takeGloves_50 : decode cX2_takeGloves 50 = .ok (.iinc 1 1, 3) := by decide +kernel
theorem dX2_takeGloves_53 : decode cX2_takeGloves 53 = .ok (.goto (-39), 3) := by decide +kernel
theorem dX2_takeGloves_56 : decode cX2_takeGloves 56 = .ok (.iconst 1, 1) := by decide +kernel
theorem dX2_takeGloves_57 : decode cX2_takeGloves 57 = .ok (.ireturn, 1) := by decide +kernel
theorem dX2_takeWalker_0 : decode cX2_takeWalker 0 = .ok (.aload_n 0, 1) := by decide +kernel
theorem dX2_takeWalker_1 : decode cX2_takeWalker 1 = .ok (.getfield 12, 3) := by decide +kernel
theorem dX2_takeWalker_4 : decode cX2_takeWalker 4 = .ok (.getfield 158, 3) := by decide +kernel
theorem dX2_takeWalker_7 : decode cX2_takeWalker 7 = .ok (.iconst 4, 1) := by decide +kernel
theorem dX2_takeWalker_8 : decode cX2_takeWalker 8 = .ok (.if_icmp .lt 13, 3) := by decide +kernel
theorem dX2_takeWalker_11 : decode cX2_takeWalker 11 = .ok (.aload_n 0, 1) := by decide +kernel
theorem dX2_takeWalker_12 : decode cX2_takeWalker 12 = .ok (.iconst 5, 1) := by decide +kernel
theorem dX2_takeWalker_13 : decode cX2_takeWalker 13 = .ok (.aload_n 0, 1) := by decide +kernel
theorem dX2_takeWalker_14 : decode cX2_takeWalker 14 = .ok (.getfield 72, 3) := by decide +kernel
theorem dX2_takeWalker_17 : decode cX2_takeWalker 17 = .ok (.invokevirtual 64, 3) := by decide +kernel
theorem dX2_takeWalker_20 : decode cX2_takeWalker 20 = .ok (.ireturn, 1) := by decide +kernel
theorem dX2_takeWalker_21 : decode cX2_takeWalker 21 = .ok (.aload_n 0, 1) := by decide +kernel
theorem dX2_takeWalker_22 : decode cX2_takeWalker 22 = .ok (.iconst 0, 1) := by decide +kernel
theorem dX2_takeWalker_23 : decode cX2_takeWalker 23 = .ok (.bipush 7, 2) := by decide +kernel
theorem dX2_takeWalker_25 : decode cX2_takeWalker 25 = .ok (.invokevirtual 139, 3) := by decide +kernel
theorem dX2_takeWalker_28 : decode cX2_takeWalker 28 = .ok (.istore_n 2, 1) := by decide +kernel
theorem dX2_takeWalker_29 : decode cX2_takeWalker 29 = .ok (.iload_n 2, 1) := by decide +kernel
theorem dX2_takeWalker_30 : decode cX2_takeWalker 30 = .ok (.ifCond .ge 5, 3) := by decide +kernel
theorem dX2_takeWalker_33 : decode cX2_takeWalker 33 = .ok (.iconst 0, 1) := by decide +kernel
theorem dX2_takeWalker_34 : decode cX2_takeWalker 34 = .ok (.ireturn, 1) := by decide +kernel
theorem dX2_takeWalker_35 : decode cX2_takeWalker 35 = .ok (.aload_n 0, 1) := by decide +kernel
theorem dX2_takeWalker_36 : decode cX2_takeWalker 36 = .ok (.getfield 12, 3) := by decide +kernel
theorem dX2_takeWalker_39 : decode cX2_takeWalker 39 = .ok (.getfield 161, 3) := by decide +kernel
theorem dX2_takeWalker_42 : decode cX2_takeWalker 42 = .ok (.aload_n 0, 1) := by decide +kernel
theorem dX2_takeWalker_43 : decode cX2_takeWalker 43 = .ok (.getfield 12, 3) := by decide +kernel
theorem dX2_takeWalker_46 : decode cX2_takeWalker 46 = .ok (.getfield 158, 3) := by decide +kernel
theorem dX2_takeWalker_49 : decode cX2_takeWalker 49 = .ok (.aaload, 1) := by decide +kernel
theorem dX2_takeWalker_50 : decode cX2_takeWalker 50 = .ok (.astore_n 3, 1) := by decide +kernel
theorem dX2_takeWalker_51 : decode cX2_takeWalker 51 = .ok (.aload_n 3, 1) := by decide +kernel
theorem dX2_takeWalker_52 : decode cX2_takeWalker 52 = .ok (.iload_n 2, 1) := by decide +kernel
theorem dX2_takeWalker_53 : decode cX2_takeWalker 53 = .ok (.iload_n 1, 1) := by decide +kernel
theorem dX2_takeWalker_54 : decode cX2_takeWalker 54 = .ok (.invokevirtual 165, 3) := by decide +kernel
theorem dX2_takeWalker_57 : decode cX2_takeWalker 57 = .ok (.aload_n 0, 1) := by decide +kernel
theorem dX2_takeWalker_58 : decode cX2_takeWalker 58 = .ok (.getfield 12, 3) := by decide +kernel
theorem dX2_takeWalker_61 : decode cX2_takeWalker 61 = .ok (.dup, 1) := by decide +kernel
theorem dX2_takeWalker_62 : decode cX2_takeWalker 62 = .ok (.getfield 158, 3) := by decide +kernel
theorem dX2_takeWalker_65 : decode cX2_takeWalker 65 = .ok (.iconst 1, 1) := by decide +kernel
theorem dX2_takeWalker_66 : decode cX2_takeWalker 66 = .ok (.iadd, 1) := by decide +kernel
theorem dX2_takeWalker_67 : decode cX2_takeWalker 67 = .ok (.putfield 158, 3) := by decide +kernel
theorem dX2_takeWalker_70 : decode cX2_takeWalker 70 = .ok (.aload_n 0, 1) := by decide +kernel
theorem dX2_takeWalker_71 : decode cX2_takeWalker 71 = .ok (.iconst 1, 1) := by decide +kernel
theorem dX2_takeWalker_72 : decode cX2_takeWalker 72 = .ok (.invokevirtual 54, 3) := by decide +kernel
theorem dX2_takeWalker_75 : decode cX2_takeWalker 75 = .ok (.ifCond .eq 31, 3) := by decide +kernel
theorem dX2_takeWalker_78 : decode cX2_takeWalker 78 = .ok (.aload_n 0, 1) := by decide +kernel
theorem dX2_takeWalker_79 : decode cX2_takeWalker 79 = .ok (.aload_n 3, 1) := by decide +kernel
theorem dX2_takeWalker_80 : decode cX2_takeWalker 80 = .ok (.invokevirtual 171, 3) := by decide +kernel
theorem dX2_takeWalker_83 : decode cX2_takeWalker 83 = .ok (.ifCond .eq 23, 3) := by decide +kernel
theorem dX2_takeWalker_86 : decode cX2_takeWalker 86 = .ok (.aload_n 0, 1) := by decide +kernel
theorem dX2_takeWalker_87 : decode cX2_takeWalker 87 = .ok (.iconst 1, 1) := by decide +kernel
theorem dX2_takeWalker_88 : decode cX2_takeWalker 88 = .ok (.invokevirtual 54, 3) := by decide +kernel
theorem dX2_takeWalker_91 : decode cX2_takeWalker 91 = .ok (.ifCond .eq 15, 3) := by decide +kernel
theorem dX2_takeWalker_94 : decode cX2_takeWalker 94 = .ok (.aload_n 0, 1) := by decide +kernel
theorem dX2_takeWalker_95 : decode cX2_takeWalker 95 = .ok (.aload_n 3, 1) := by decide +kernel
theorem dX2_takeWalker_96 : decode cX2_takeWalker 96 = .ok (.invokevirtual 175, 3) := by decide +kernel
theorem dX2_takeWalker_99 : decode cX2_takeWalker 99 = .ok (.ifCond .eq 7, 3) := by decide +kernel
theorem dX2_takeWalker_102 : decode cX2_takeWalker 102 = .ok (.iconst 1, 1) := by decide +kernel
theorem dX2_takeWalker_103 : decode cX2_takeWalker 103 = .ok (.goto 4, 3) := by decide +kernel
theorem dX2_takeWalker_106 : decode cX2_takeWalker 106 = .ok (.iconst 0, 1) := by decide +kernel
theorem dX2_takeWalker_107 : decode cX2_takeWalker 107 = .ok (.ireturn, 1) := by decide +kernel
theorem dX2_takeHand_0 : decode cX2_takeHand 0 = .ok (.aload_n 1, 1) := by decide +kernel
theorem dX2_takeHand_1 : decode cX2_takeHand 1 = .ok (.aload_n 0, 1) := by decide +kernel
theorem dX2_takeHand_2 : decode cX2_takeHand 2 = .ok (.ldc 94, 2) := by decide +kernel
theorem dX2_takeHand_4 : decode cX2_takeHand 4 = .ok (.invokevirtual 110, 3) := by decide +kernel
theorem dX2_takeHand_7 : decode cX2_takeHand 7 = .ok (.ifCond .eq 7, 3) := by decide +kernel
theorem dX2_takeHand_10 : decode cX2_takeHand 10 = .ok (.iconst 1, 1) := by decide +kernel
theorem dX2_takeHand_11 : decode cX2_takeHand 11 = .ok (.goto 4, 3) := by decide +kernel
theorem dX2_takeHand_14 : decode cX2_takeHand 14 = .ok (.iconst 0, 1) := by decide +kernel
theorem dX2_takeHand_15 : decode cX2_takeHand 15 = .ok (.putfield 178, 3) := by decide +kernel
theorem dX2_takeHand_18 : decode cX2_takeHand 18 = .ok (.aload_n 1, 1) := by decide +kernel
theorem dX2_takeHand_19 : decode cX2_takeHand 19 = .ok (.getfield 178, 3) := by decide +kernel
theorem dX2_takeHand_22 : decode cX2_takeHand 22 = .ok (.iconst 1, 1) := by decide +kernel
theorem dX2_takeHand_23 : decode cX2_takeHand 23 = .ok (.if_icmp .eq 24, 3) := by decide +kernel
theorem dX2_takeHand_26 : decode cX2_takeHand 26 = .ok (.aload_n 0, 1) := by decide +kernel
theorem dX2_takeHand_27 : decode cX2_takeHand 27 = .ok (.ldc 92, 2) := by decide +kernel
theorem dX2_takeHand_29 : decode cX2_takeHand 29 = .ok (.invokevirtual 110, 3) := by decide +kernel
theorem dX2_takeHand_32 : decode cX2_takeHand 32 = .ok (.ifCond .ne 15, 3) := by decide +kernel
theorem dX2_takeHand_35 : decode cX2_takeHand 35 = .ok (.aload_n 0, 1) := by decide +kernel
theorem dX2_takeHand_36 : decode cX2_takeHand 36 = .ok (.iconst 2, 1) := by decide +kernel
theorem dX2_takeHand_37 : decode cX2_takeHand 37 = .ok (.aload_n 0, 1) := by decide +kernel
theorem dX2_takeHand_38 : decode cX2_takeHand 38 = .ok (.getfield 72, 3) := by decide +kernel
theorem dX2_takeHand_41 : decode cX2_takeHand 41 = .ok (.invokevirtual 64, 3) := by decide +kernel
theorem dX2_takeHand_44 : decode cX2_takeHand 44 = .ok (.ifCond .eq 7, 3) := by decide +kernel
theorem dX2_takeHand_47 : decode cX2_takeHand 47 = .ok (.iconst 1, 1) := by decide +kernel
theorem dX2_takeHand_48 : decode cX2_takeHand 48 = .ok (.goto 4, 3) := by decide +kernel
theorem dX2_takeHand_51 : decode cX2_takeHand 51 = .ok (.iconst 0, 1) := by decide +kernel
theorem dX2_takeHand_52 : decode cX2_takeHand 52 = .ok (.ireturn, 1) := by decide +kernel
theorem dX2_takeRoute_0 : decode cX2_takeRoute 0 = .ok (.aload_n 0, 1) := by decide +kernel
theorem dX2_takeRoute_1 : decode cX2_takeRoute 1 = .ok (.getfield 41, 3) := by decide +kernel
theorem dX2_takeRoute_4 : decode cX2_takeRoute 4 = .ok (.aload_n 0, 1) := by decide +kernel
theorem dX2_takeRoute_5 : decode cX2_takeRoute 5 = .ok (.getfield 72, 3) := by decide +kernel
theorem dX2_takeRoute_8 : decode cX2_takeRoute 8 = .ok (.isub, 1) := by decide +kernel
theorem dX2_takeRoute_9 : decode cX2_takeRoute 9 = .ok (.bipush 10, 2) := by decide +kernel
theorem dX2_takeRoute_11 : decode cX2_takeRoute 11 = .ok (.if_icmp .le 13, 3) := by decide +kernel
theorem dX2_takeRoute_14 : decode cX2_takeRoute 14 = .ok (.aload_n 0, 1) := by decide +kernel
theorem dX2_takeRoute_15 : decode cX2_takeRoute 15 = .ok (.iconst 3, 1) := by decide +kernel
theorem dX2_takeRoute_16 : decode cX2_takeRoute 16 = .ok (.aload_n 0, 1) := by decide +kernel
theorem dX2_takeRoute_17 : decode cX2_takeRoute 17 = .ok (.getfield 72, 3) := by decide +kernel
theorem dX2_takeRoute_20 : decode cX2_takeRoute 20 = .ok (.invokevirtual 64, 3) := by decide +kernel
theorem dX2_takeRoute_23 : decode cX2_takeRoute 23 = .ok (.ireturn, 1) := by decide +kernel
theorem dX2_takeRoute_24 : decode cX2_takeRoute 24 = .ok (.aload_n 0, 1) := by decide +kernel
theorem dX2_takeRoute_25 : decode cX2_takeRoute 25 = .ok (.getfield 72, 3) := by decide +kernel
theorem dX2_takeRoute_28 : decode cX2_takeRoute 28 = .ok (.istore_n 2, 1) := by decide +kernel
theorem dX2_takeRoute_29 : decode cX2_takeRoute 29 = .ok (.iload_n 2, 1) := by decide +kernel
theorem dX2_takeRoute_30 : decode cX2_takeRoute 30 = .ok (.aload_n 0, 1) := by decide +kernel
theorem dX2_takeRoute_31 : decode cX2_takeRoute 31 = .ok (.getfield 41, 3) := by decide +kernel
theorem dX2_takeRoute_34 : decode cX2_takeRoute 34 = .ok (.if_icmp .ge 52, 3) := by decide +kernel
theorem dX2_takeRoute_37 : decode cX2_takeRoute 37 = .ok (.aload_n 0, 1) := by decide +kernel
theorem dX2_takeRoute_38 : decode cX2_takeRoute 38 = .ok (.iload_n 2, 1) := by decide +kernel
theorem dX2_takeRoute_39 : decode cX2_takeRoute 39 = .ok (.invokevirtual 68, 3) := by decide +kernel
theorem dX2_takeRoute_42 : decode cX2_takeRoute 42 = .ok (.istore_n 3, 1) := by decide +kernel
theorem dX2_takeRoute_43 : decode cX2_takeRoute 43 = .ok (.iload_n 3, 1) := by decide +kernel
theorem dX2_takeRoute_44 : decode cX2_takeRoute 44 = .ok (.bipush 108, 2) := by decide +kernel
theorem dX2_takeRoute_46 : decode cX2_takeRoute 46 = .ok (.if_icmp .eq 19, 3) := by decide +kernel
theorem dX2_takeRoute_49 : decode cX2_takeRoute 49 = .ok (.iload_n 3, 1) := by decide +kernel
theorem dX2_takeRoute_50 : decode cX2_takeRoute 50 = .ok (.bipush 114, 2) := by decide +kernel
theorem dX2_takeRoute_52 : decode cX2_takeRoute 52 = .ok (.if_icmp .eq 13, 3) := by decide +kernel
theorem dX2_takeRoute_55 : decode cX2_takeRoute 55 = .ok (.aload_n 0, 1) := by decide +kernel
theorem dX2_takeRoute_56 : decode cX2_takeRoute 56 = .ok (.iconst 3, 1) := by decide +kernel
theorem dX2_takeRoute_57 : decode cX2_takeRoute 57 = .ok (.aload_n 0, 1) := by decide +kernel
theorem dX2_takeRoute_58 : decode cX2_takeRoute 58 = .ok (.getfield 72, 3) := by decide +kernel
theorem dX2_takeRoute_61 : decode cX2_takeRoute 61 = .ok (.invokevirtual 64, 3) := by decide +kernel
theorem dX2_takeRoute_64 : decode cX2_takeRoute 64 = .ok (.ireturn, 1) := by decide +kernel
theorem dX2_takeRoute_65 : decode cX2_takeRoute 65 = .ok (.aload_n 1, 1) := by decide +kernel
theorem dX2_takeRoute_66 : decode cX2_takeRoute 66 = .ok (.iload_n 3, 1) := by decide +kernel
theorem dX2_takeRoute_67 : decode cX2_takeRoute 67 = .ok (.bipush 114, 2) := by decide +kernel
theorem dX2_takeRoute_69 : decode cX2_takeRoute 69 = .ok (.if_icmp .ne 7, 3) := by decide +kernel
theorem dX2_takeRoute_72 : decode cX2_takeRoute 72 = .ok (.iconst 1, 1) := by decide +kernel
theorem dX2_takeRoute_73 : decode cX2_takeRoute 73 = .ok (.goto 4, 3) := by decide +kernel
theorem dX2_takeRoute_76 : decode cX2_takeRoute 76 = .ok (.iconst 0, 1) := by decide +kernel
theorem dX2_takeRoute_77 : decode cX2_takeRoute 77 = .ok (.invokevirtual 181, 3) := by decide +kernel
theorem dX2_takeRoute_80 : decode cX2_takeRoute 80 = .ok (.iinc 2 1, 3) := by decide +kernel
theorem dX2_takeRoute_83 : decode cX2_takeRoute 83 = .ok (.goto (-54), 3) := by decide +kernel
theorem dX2_takeRoute_86 : decode cX2_takeRoute 86 = .ok (.iconst 1, 1) := by decide +kernel
theorem dX2_takeRoute_87 : decode cX2_takeRoute 87 = .ok (.ireturn, 1) := by decide +kernel
theorem dX3_init_0 : decode cX3_init 0 = .ok (.aload_n 0, 1) := by decide +kernel
theorem dX3_init_1 : decode cX3_init 1 = .ok (.invokespecial 3, 3) := by decide +kernel
theorem dX3_init_4 : decode cX3_init 4 = .ok (.aload_n 0, 1) := by decide +kernel
theorem dX3_init_5 : decode cX3_init 5 = .ok (.bipush 40, 2) := by decide +kernel
theorem dX3_init_7 : decode cX3_init 7 = .ok (.newarray .int, 2) := by decide +kernel
theorem dX3_init_9 : decode cX3_init 9 = .ok (.putfield 9, 3) := by decide +kernel
theorem dX3_init_12 : decode cX3_init 12 = .ok (.aload_n 0, 1) := by decide +kernel
theorem dX3_init_13 : decode cX3_init 13 = .ok (.iconst (-1), 1) := by decide +kernel
theorem dX3_init_14 : decode cX3_init 14 = .ok (.putfield 15, 3) := by decide +kernel
theorem dX3_init_17 : decode cX3_init 17 = .ok (.return_, 1) := by decide +kernel
theorem dX3_makeNew_0 : decode cX3_makeNew 0 = .ok (.aload_n 0, 1) := by decide +kernel
theorem dX3_makeNew_1 : decode cX3_makeNew 1 = .ok (.iload_n 1, 1) := by decide +kernel
theorem dX3_makeNew_2 : decode cX3_makeNew 2 = .ok (.putfield 19, 3) := by decide +kernel
theorem dX3_makeNew_5 : decode cX3_makeNew 5 = .ok (.aload_n 0, 1) := by decide +kernel
theorem dX3_makeNew_6 : decode cX3_makeNew 6 = .ok (.iload_n 2, 1) := by decide +kernel
theorem dX3_makeNew_7 : decode cX3_makeNew 7 = .ok (.putfield 15, 3) := by decide +kernel
theorem dX3_makeNew_10 : decode cX3_makeNew 10 = .ok (.aload_n 0, 1) := by decide +kernel
theorem dX3_makeNew_11 : decode cX3_makeNew 11 = .ok (.getfield 9, 3) := by decide +kernel
theorem dX3_makeNew_14 : decode cX3_makeNew 14 = .ok (.iconst 0, 1) := by decide +kernel
theorem dX3_makeNew_15 : decode cX3_makeNew 15 = .ok (.invokestatic 22, 3) := by decide +kernel
theorem dX3_makeNew_18 : decode cX3_makeNew 18 = .ok (.return_, 1) := by decide +kernel
theorem dX3_cut_0 : decode cX3_cut 0 = .ok (.aload_n 0, 1) := by decide +kernel
theorem dX3_cut_1 : decode cX3_cut 1 = .ok (.getfield 19, 3) := by decide +kernel
theorem dX3_cut_4 : decode cX3_cut 4 = .ok (.ifCond .ne 6, 3) := by decide +kernel
theorem dX3_cut_7 : decode cX3_cut 7 = .ok (.iload_n 1, 1) := by decide +kernel
theorem dX3_cut_8 : decode cX3_cut 8 = .ok (.i2b, 1) := by decide +kernel
theorem dX3_cut_9 : decode cX3_cut 9 = .ok (.ireturn, 1) := by decide +kernel
theorem dX3_cut_10 : decode cX3_cut 10 = .ok (.aload_n 0, 1) := by decide +kernel
theorem dX3_cut_11 : decode cX3_cut 11 = .ok (.getfield 19, 3) := by decide +kernel
theorem dX3_cut_14 : decode cX3_cut 14 = .ok (.iconst 1, 1) := by decide +kernel
theorem dX3_cut_15 : decode cX3_cut 15 = .ok (.if_icmp .ne 8, 3) := by decide +kernel
theorem dX3_cut_18 : decode cX3_cut 18 = .ok (.iload_n 1, 1) := by decide +kernel
theorem dX3_cut_19 : decode cX3_cut 19 = .ok (.i2s, 1) := by decide +kernel
theorem dX3_cut_20 : decode cX3_cut 20 = .ok (.goto 4, 3) := by decide +kernel
theorem dX3_cut_23 : decode cX3_cut 23 = .ok (.iload_n 1, 1) := by decide +kernel
theorem dX3_cut_24 : decode cX3_cut 24 = .ok (.ireturn, 1) := by decide +kernel
theorem dX3_cellAt_0 : decode cX3_cellAt 0 = .ok (.iload_n 1, 1) := by decide +kernel
theorem dX3_cellAt_1 : decode cX3_cellAt 1 = .ok (.ifCond .lt 21, 3) := by decide +kernel
theorem dX3_cellAt_4 : decode cX3_cellAt 4 = .ok (.iload_n 1, 1) := by decide +kernel
theorem dX3_cellAt_5 : decode cX3_cellAt 5 = .ok (.aload_n 0, 1) := by decide +kernel
theorem dX3_cellAt_6 : decode cX3_cellAt 6 = .ok (.getfield 9, 3) := by decide +kernel
theorem dX3_cellAt_9 : decode cX3_cellAt 9 = .ok (.arraylength, 1) := by decide +kernel
theorem dX3_cellAt_10 : decode cX3_cellAt 10 = .ok (.if_icmp .ge 12, 3) := by decide +kernel
theorem dX3_cellAt_13 : decode cX3_cellAt 13 = .ok (.aload_n 0, 1) := by decide +kernel
theorem dX3_cellAt_14 : decode cX3_cellAt 14 = .ok (.getfield 9, 3) := by decide +kernel
theorem dX3_cellAt_17 : decode cX3_cellAt 17 = .ok (.iload_n 1, 1) := by decide +kernel
theorem dX3_cellAt_18 : decode cX3_cellAt 18 = .ok (.iaload, 1) := by decide +kernel
theorem dX3_cellAt_19 : decode cX3_cellAt 19 = .ok (.goto 4, 3) := by decide +kernel
theorem dX3_cellAt_22 : decode cX3_cellAt 22 = .ok (.iconst (-1), 1) := by decide +kernel
theorem dX3_cellAt_23 : decode cX3_cellAt 23 = .ok (.ireturn, 1) := by decide +kernel
theorem dX3_wholePairs_0 : decode cX3_wholePairs 0 = .ok (.aload_n 0, 1) := by decide +kernel
theorem dX3_wholePairs_1 : decode cX3_wholePairs 1 = .ok (.getfield 15, 3) := by decide +kernel
theorem dX3_wholePairs_4 : decode cX3_wholePairs 4 = .ok (.ifCond .lt 15, 3) := by decide +kernel
theorem dX3_wholePairs_7 : decode cX3_wholePairs 7 = .ok (.iload_n 1, 1) := by decide +kernel
theorem dX3_wholePairs_8 : decode cX3_wholePairs 8 = .ok (.aload_n 0, 1) := by decide +kernel
theorem dX3_wholePairs_9 : decode cX3_wholePairs 9 = .ok (.getfield 19, 3) := by decide +kernel
theorem dX3_wholePairs_12 : decode cX3_wholePairs 12 = .ok (.if_icmp .ne 7, 3) := by decide +kernel
theorem dX3_wholePairs_15 : decode cX3_wholePairs 15 = .ok (.iload_n 2, 1) := by decide +kernel
theorem dX3_wholePairs_16 : decode cX3_wholePairs 16 = .ok (.ifCond .ge 5, 3) := by decide +kernel
theorem dX3_wholePairs_19 : decode cX3_wholePairs 19 = .ok (.iconst 0, 1) := by decide +kernel
theorem dX3_wholePairs_20 : decode cX3_wholePairs 20 = .ok (.ireturn, 1) := by decide +kernel
theorem dX3_wholePairs_21 : decode cX3_wholePairs 21 = .ok (.iconst 0, 1) := by decide +kernel
theorem dX3_wholePairs_22 : decode cX3_wholePairs 22 = .ok (.istore 4, 2) := by decide +kernel
theorem dX3_wholePairs_24 : decode cX3_wholePairs 24 = .ok (.iconst 0, 1) := by decide +kernel
theorem dX3_wholePairs_25 : decode cX3_wholePairs 25 = .ok (.istore 5, 2) := by decide +kernel
theorem dX3_wholePairs_27 : decode cX3_wholePairs 27 = .ok (.iload 5, 2) := by decide +kernel
theorem dX3_wholePairs_29 : decode cX3_wholePairs 29 = .ok (.iload_n 3, 1) := by decide +kernel
theorem dX3_wholePairs_30 : decode cX3_wholePairs 30 = .ok (.if_icmp .ge 27, 3) := by decide +kernel
theorem dX3_wholePairs_33 : decode cX3_wholePairs 33 = .ok (.iload_n 2, 1) := by decide +kernel
theorem dX3_wholePairs_34 : decode cX3_wholePairs 34 = .ok (.aload_n 0, 1) := by decide +kernel
theorem dX3_wholePairs_35 : decode cX3_wholePairs 35 = .ok (.getfield 15, 3) := by decide +kernel
theorem dX3_wholePairs_38 : decode cX3_wholePairs 38 = .ok (.iconst 1, 1) := by decide +kernel
theorem dX3_wholePairs_39 : decode cX3_wholePairs 39 = .ok (.isub, 1) := by decide +kernel
theorem dX3_wholePairs_40 : decode cX3_wholePairs 40 = .ok (.iconst 2, 1) := by decide +kernel
theorem dX3_wholePairs_41 : decode cX3_wholePairs 41 = .ok (.iload 5, 2) := by decide +kernel
theorem dX3_wholePairs_43 : decode cX3_wholePairs 43 = .ok (.imul, 1) := by decide +kernel
theorem dX3_wholePairs_44 : decode cX3_wholePairs 44 = .ok (.isub, 1) := by decide +kernel
theorem dX3_wholePairs_45 : decode cX3_wholePairs 45 = .ok (.if_icmp .ge 6, 3) := by decide +kernel
theorem dX3_wholePairs_48 : decode cX3_wholePairs 48 = .ok (.iinc 4 1, 3) := by decide +kernel
theorem dX3_wholePairs_51 : decode cX3_wholePairs 51 = .ok (.iinc 5 1, 3) := by decide +kernel
theorem dX3_wholePairs_54 : decode cX3_wholePairs 54 = .ok (.goto (-27), 3) := by decide +kernel
theorem dX3_wholePairs_57 : decode cX3_wholePairs 57 = .ok (.iload 4, 2) := by decide +kernel
theorem dX3_wholePairs_59 : decode cX3_wholePairs 59 = .ok (.ireturn, 1) := by decide +kernel
theorem dX3_faultAs_0 : decode cX3_faultAs 0 = .ok (.aload_n 0, 1) := by decide +kernel
theorem dX3_faultAs_1 : decode cX3_faultAs 1 = .ok (.getfield 15, 3) := by decide +kernel
theorem dX3_faultAs_4 : decode cX3_faultAs 4 = .ok (.ifCond .ge 5, 3) := by decide +kernel
theorem dX3_faultAs_7 : decode cX3_faultAs 7 = .ok (.iconst 1, 1) := by decide +kernel
theorem dX3_faultAs_8 : decode cX3_faultAs 8 = .ok (.ireturn, 1) := by decide +kernel
theorem dX3_faultAs_9 : decode cX3_faultAs 9 = .ok (.iload_n 1, 1) := by decide +kernel
theorem dX3_faultAs_10 : decode cX3_faultAs 10 = .ok (.aload_n 0, 1) := by decide +kernel
theorem dX3_faultAs_11 : decode cX3_faultAs 11 = .ok (.getfield 19, 3) := by decide +kernel
theorem dX3_faultAs_14 : decode cX3_faultAs 14 = .ok (.if_icmp .eq 7, 3) := by decide +kernel
theorem dX3_faultAs_17 : decode cX3_faultAs 17 = .ok (.iconst 3, 1) := by decide +kernel
theorem dX3_faultAs_18 : decode cX3_faultAs 18 = .ok (.goto 4, 3) := by decide +kernel
theorem dX3_faultAs_21 : decode cX3_faultAs 21 = .ok (.iconst 2, 1) := by decide +kernel
theorem dX3_faultAs_22 : decode cX3_faultAs 22 = .ok (.ireturn, 1) := by decide +kernel
theorem dX4_init_0 : decode cX4_init 0 = .ok (.aload_n 0, 1) := by decide +kernel
theorem dX4_init_1 : decode cX4_init 1 = .ok (.invokespecial 1, 3) := by decide +kernel
theorem dX4_init_4 : decode cX4_init 4 = .ok (.return_, 1) := by decide +kernel
theorem dX4_copyOf_0 : decode cX4_copyOf 0 = .ok (.aload_n 0, 1) := by decide +kernel
theorem dX4_copyOf_1 : decode cX4_copyOf 1 = .ok (.aload_n 1, 1) := by decide +kernel
theorem dX4_copyOf_2 : decode cX4_copyOf 2 = .ok (.getfield 7, 3) := by decide +kernel
theorem dX4_copyOf_5 : decode cX4_copyOf 5 = .ok (.putfield 7, 3) := by decide +kernel
theorem dX4_copyOf_8 : decode cX4_copyOf 8 = .ok (.aload_n 0, 1) := by decide +kernel
theorem dX4_copyOf_9 : decode cX4_copyOf 9 = .ok (.aload_n 1, 1) := by decide +kernel
theorem dX4_copyOf_10 : decode cX4_copyOf 10 = .ok (.getfield 13, 3) := by decide +kernel
theorem dX4_copyOf_13 : decode cX4_copyOf 13 = .ok (.putfield 13, 3) := by decide +kernel
theorem dX4_copyOf_16 : decode cX4_copyOf 16 = .ok (.aload_n 0, 1) := by decide +kernel
theorem dX4_copyOf_17 : decode cX4_copyOf 17 = .ok (.aload_n 1, 1) := by decide +kernel
theorem dX4_copyOf_18 : decode cX4_copyOf 18 = .ok (.getfield 16, 3) := by decide +kernel
theorem dX4_copyOf_21 : decode cX4_copyOf 21 = .ok (.putfield 16, 3) := by decide +kernel
theorem dX4_copyOf_24 : decode cX4_copyOf 24 = .ok (.aload_n 0, 1) := by decide +kernel
theorem dX4_copyOf_25 : decode cX4_copyOf 25 = .ok (.aload_n 1, 1) := by decide +kernel
theorem dX4_copyOf_26 : decode cX4_copyOf 26 = .ok (.getfield 20, 3) := by decide +kernel
theorem dX4_copyOf_29 : decode cX4_copyOf 29 = .ok (.putfield 20, 3) := by decide +kernel
theorem dX4_copyOf_32 : decode cX4_copyOf 32 = .ok (.aload_n 0, 1) := by decide +kernel
theorem dX4_copyOf_33 : decode cX4_copyOf 33 = .ok (.aload_n 1, 1) := by decide +kernel
theorem dX4_copyOf_34 : decode cX4_copyOf 34 = .ok (.getfield 23, 3) := by decide +kernel
theorem dX4_copyOf_37 : decode cX4_copyOf 37 = .ok (.putfield 23, 3) := by decide +kernel
theorem dX4_copyOf_40 : decode cX4_copyOf 40 = .ok (.aload_n 0, 1) := by decide +kernel
theorem dX4_copyOf_41 : decode cX4_copyOf 41 = .ok (.aload_n 1, 1) := by decide +kernel
theorem dX4_copyOf_42 : decode cX4_copyOf 42 = .ok (.getfield 26, 3) := by decide +kernel
theorem dX4_copyOf_45 : decode cX4_copyOf 45 = .ok (.putfield 26, 3) := by decide +kernel
theorem dX4_copyOf_48 : decode cX4_copyOf 48 = .ok (.return_, 1) := by decide +kernel
theorem dX4_begin_0 : decode cX4_begin 0 = .ok (.aload_n 0, 1) := by decide +kernel
theorem dX4_begin_1 : decode cX4_begin 1 = .ok (.iload_n 1, 1) := by decide +kernel
theorem dX4_begin_2 : decode cX4_begin 2 = .ok (.putfield 7, 3) := by decide +kernel
theorem dX4_begin_5 : decode cX4_begin 5 = .ok (.aload_n 0, 1) := by decide +kernel
theorem dX4_begin_6 : decode cX4_begin 6 = .ok (.iconst 0, 1) := by decide +kernel
theorem dX4_begin_7 : decode cX4_begin 7 = .ok (.putfield 13, 3) := by decide +kernel
theorem dX4_begin_10 : decode cX4_begin 10 = .ok (.aload_n 0, 1) := by decide +kernel
theorem dX4_begin_11 : decode cX4_begin 11 = .ok (.iload_n 2, 1) := by decide +kernel
theorem dX4_begin_12 : decode cX4_begin 12 = .ok (.putfield 16, 3) := by decide +kernel
theorem dX4_begin_15 : decode cX4_begin 15 = .ok (.aload_n 0, 1) := by decide +kernel
theorem dX4_begin_16 : decode cX4_begin 16 = .ok (.iconst 0, 1) := by decide +kernel
theorem dX4_begin_17 : decode cX4_begin 17 = .ok (.putfield 20, 3) := by decide +kernel
theorem dX4_begin_20 : decode cX4_begin 20 = .ok (.aload_n 0, 1) := by decide +kernel
theorem dX4_begin_21 : decode cX4_begin 21 = .ok (.iconst 0, 1) := by decide +kernel
theorem dX4_begin_22 : decode cX4_begin 22 = .ok (.putfield 23, 3) := by decide +kernel
theorem dX4_begin_25 : decode cX4_begin 25 = .ok (.aload_n 0, 1) := by decide +kernel
theorem dX4_begin_26 : decode cX4_begin 26 = .ok (.iconst 0, 1) := by decide +kernel
theorem dX4_begin_27 : decode cX4_begin 27 = .ok (.putfield 26, 3) := by decide +kernel
theorem dX4_begin_30 : decode cX4_begin 30 = .ok (.return_, 1) := by decide +kernel
theorem dX4_addLetter_0 : decode cX4_addLetter 0 = .ok (.aload_n 0, 1) := by decide +kernel
theorem dX4_addLetter_1 : decode cX4_addLetter 1 = .ok (.dup, 1) := by decide +kernel
theorem dX4_addLetter_2 : decode cX4_addLetter 2 = .ok (.getfield 20, 3) := by decide +kernel
theorem dX4_addLetter_5 : decode cX4_addLetter 5 = .ok (.iload_n 1, 1) := by decide +kernel
theorem dX4_addLetter_6 : decode cX4_addLetter 6 = .ok (.aload_n 0, 1) := by decide +kernel
theorem dX4_addLetter_7 : decode cX4_addLetter 7 = .ok (.getfield 23, 3) := by decide +kernel
theorem dX4_addLetter_10 : decode cX4_addLetter 10 = .ok (.ishl, 1) := by decide +kernel
theorem dX4_addLetter_11 : decode cX4_addLetter 11 = .ok (.ior, 1) := by decide +kernel
theorem dX4_addLetter_12 : decode cX4_addLetter 12 = .ok (.putfield 20, 3) := by decide +kernel
theorem dX4_addLetter_15 : decode cX4_addLetter 15 = .ok (.aload_n 0, 1) := by decide +kernel
theorem dX4_addLetter_16 : decode cX4_addLetter 16 = .ok (.dup, 1) := by decide +kernel
theorem dX4_addLetter_17 : decode cX4_addLetter 17 = .ok (.getfield 23, 3) := by decide +kernel
theorem dX4_addLetter_20 : decode cX4_addLetter 20 = .ok (.iconst 1, 1) := by decide +kernel
theorem dX4_addLetter_21 : decode cX4_addLetter 21 = .ok (.iadd, 1) := by decide +kernel
theorem dX4_addLetter_22 : decode cX4_addLetter 22 = .ok (.putfield 23, 3) := by decide +kernel
theorem dX4_addLetter_25 : decode cX4_addLetter 25 = .ok (.return_, 1) := by decide +kernel
theorem dX4_letterAt_0 : decode cX4_letterAt 0 = .ok (.aload_n 0, 1) := by decide +kernel
theorem dX4_letterAt_1 : decode cX4_letterAt 1 = .ok (.getfield 20, 3) := by decide +kernel
theorem dX4_letterAt_4 : decode cX4_letterAt 4 = .ok (.iload_n 1, 1) := by decide +kernel
theorem dX4_letterAt_5 : decode cX4_letterAt 5 = .ok (.ishr, 1) := by decide +kernel
theorem dX4_letterAt_6 : decode cX4_letterAt 6 = .ok (.iconst 1, 1) := by decide +kernel
theorem dX4_letterAt_7 : decode cX4_letterAt 7 = .ok (.iand, 1) := by decide +kernel
theorem dX4_letterAt_8 : decode cX4_letterAt 8 = .ok (.ireturn, 1) := by decide +kernel
theorem dX4_lettersLeft_0 : decode cX4_lettersLeft 0 = .ok (.aload_n 0, 1) := by decide +kernel
theorem dX4_lettersLeft_1 : decode cX4_lettersLeft 1 = .ok (.getfield 23, 3) := by decide +kernel
theorem dX4_lettersLeft_4 : decode cX4_lettersLeft 4 = .ok (.aload_n 0, 1) := by decide +kernel
theorem dX4_lettersLeft_5 : decode cX4_lettersLeft 5 = .ok (.getfield 26, 3) := by decide +kernel
theorem dX4_lettersLeft_8 : decode cX4_lettersLeft 8 = .ok (.isub, 1) := by decide +kernel
theorem dX4_lettersLeft_9 : decode cX4_lettersLeft 9 = .ok (.ireturn, 1) := by decide +kernel
theorem dX4_handIn_0 : decode cX4_handIn 0 = .ok (.iload_n 1, 1) := by decide +kernel
theorem dX4_handIn_1 : decode cX4_handIn 1 = .ok (.invokestatic 29, 3) := by decide +kernel
theorem dX4_handIn_4 : decode cX4_handIn 4 = .ok (.ifCond .eq 19, 3) := by decide +kernel
theorem dX4_handIn_7 : decode cX4_handIn 7 = .ok (.aload_n 0, 1) := by decide +kernel
theorem dX4_handIn_8 : decode cX4_handIn 8 = .ok (.getfield 16, 3) := by decide +kernel
theorem dX4_handIn_11 : decode cX4_handIn 11 = .ok (.ifCond .ne 12, 3) := by decide +kernel
theorem dX4_handIn_14 : decode cX4_handIn 14 = .ok (.iconst 1, 1) := by decide +kernel
theorem dX4_handIn_15 : decode cX4_handIn 15 = .ok (.aload_n 0, 1) := by decide +kernel
theorem dX4_handIn_16 : decode cX4_handIn 16 = .ok (.getfield 13, 3) := by decide +kernel
theorem dX4_handIn_19 : decode cX4_handIn 19 = .ok (.isub, 1) := by decide +kernel
theorem dX4_handIn_20 : decode cX4_handIn 20 = .ok (.goto 7, 3) := by decide +kernel
theorem dX4_handIn_23 : decode cX4_handIn 23 = .ok (.aload_n 0, 1) := by decide +kernel
theorem dX4_handIn_24 : decode cX4_handIn 24 = .ok (.getfield 13, 3) := by decide +kernel
theorem dX4_handIn_27 : decode cX4_handIn 27 = .ok (.ireturn, 1) := by decide +kernel
theorem dX5_init_0 : decode cX5_init 0 = .ok (.aload_n 0, 1) := by decide +kernel
theorem dX5_init_1 : decode cX5_init 1 = .ok (.invokespecial 3, 3) := by decide +kernel
theorem dX5_init_4 : decode cX5_init 4 = .ok (.aload_n 0, 1) := by decide +kernel
theorem dX5_init_5 : decode cX5_init 5 = .ok (.bipush 25, 2) := by decide +kernel
theorem dX5_init_7 : decode cX5_init 7 = .ok (.newarray .long, 2) := by decide +kernel
theorem dX5_init_9 : decode cX5_init 9 = .ok (.putfield 9, 3) := by decide +kernel
theorem dX5_init_12 : decode cX5_init 12 = .ok (.return_, 1) := by decide +kernel
theorem dX5_shortest_0 : decode cX5_shortest 0 = .ok (.aload_n 0, 1) := by decide +kernel
theorem dX5_shortest_1 : decode cX5_shortest 1 = .ok (.iload 4, 2) := by decide +kernel
theorem dX5_shortest_3 : decode cX5_shortest 3 = .ok (.putfield 15, 3) := by decide +kernel
theorem dX5_shortest_6 : decode cX5_shortest 6 = .ok (.aload_n 0, 1) := by decide +kernel
theorem dX5_shortest_7 : decode cX5_shortest 7 = .ok (.iload 5, 2) := by decide +kernel
theorem dX5_shortest_9 : decode cX5_shortest 9 = .ok (.putfield 19, 3) := by decide +kernel
theorem dX5_shortest_12 : decode cX5_shortest 12 = .ok (.aload_n 0, 1) := by decide +kernel
theorem dX5_shortest_13 : decode cX5_shortest 13 = .ok (.getfield 9, 3) := by decide +kernel
theorem dX5_shortest_16 : decode cX5_shortest 16 = .ok (.iconst 0, 1) := by decide +kernel
theorem dX5_shortest_17 : decode cX5_shortest 17 = .ok (.iload_n 2, 1) := by decide +kernel
theorem dX5_shortest_18 : decode cX5_shortest 18 = .ok (.iload_n 2, 1) := by decide +kernel
theorem dX5_shortest_19 : decode cX5_shortest 19 = .ok (.invokestatic 22, 3) := by decide +kernel
theorem dX5_shortest_22 : decode cX5_shortest 22 = .ok (.invokestatic 26, 3) := by decide +kernel
theorem dX5_shortest_25 : decode cX5_shortest 25 = .ok (.lastore, 1) := by decide +kernel
theorem dX5_shortest_26 : decode cX5_shortest 26 = .ok (.iconst 0, 1) := by decide +kernel
theorem dX5_shortest_27 : decode cX5_shortest 27 = .ok (.istore 6, 2) := by decide +kernel
theorem dX5_shortest_29 : decode cX5_shortest 29 = .ok (.iload 6, 2) := by decide +kernel
theorem dX5_shortest_31 : decode cX5_shortest 31 = .ok (.bipush 24, 2) := by decide +kernel
theorem dX5_shortest_33 : decode cX5_shortest 33 = .ok (.if_icmp .ge 56, 3) := by decide +kernel
theorem dX5_shortest_36 : decode cX5_shortest 36 = .ok (.aload_n 0, 1) := by decide +kernel
theorem dX5_shortest_37 : decode cX5_shortest 37 = .ok (.getfield 9, 3) := by decide +kernel
theorem dX5_shortest_40 : decode cX5_shortest 40 = .ok (.iload 6, 2) := by decide +kernel
theorem dX5_shortest_42 : decode cX5_shortest 42 = .ok (.laload, 1) := by decide +kernel
theorem dX5_shortest_43 : decode cX5_shortest 43 = .ok (.iload_n 3, 1) := by decide +kernel
theorem dX5_shortest_44 : decode cX5_shortest 44 = .ok (.iload_n 3, 1) := by decide +kernel
theorem dX5_shortest_45 : decode cX5_shortest 45 = .ok (.invokestatic 22, 3) := by decide +kernel
theorem dX5_shortest_48 : decode cX5_shortest 48 = .ok (.invokestatic 26, 3) := by decide +kernel
theorem dX5_shortest_51 : decode cX5_shortest 51 = .ok (.land, 1) := by decide +kernel
theorem dX5_shortest_52 : decode cX5_shortest 52 = .ok (.lconst 0, 1) := by decide +kernel
theorem dX5_shortest_53 : decode cX5_shortest 53 = .ok (.lcmp, 1) := by decide +kernel
theorem dX5_shortest_54 : decode cX5_shortest 54 = .ok (.ifCond .eq 6, 3) := by decide +kernel
theorem dX5_shortest_57 : decode cX5_shortest 57 = .ok (.iload 6, 2) := by decide +kernel
theorem dX5_shortest_59 : decode cX5_shortest 59 = .ok (.ireturn, 1) := by decide +kernel
theorem dX5_shortest_60 : decode cX5_shortest 60 = .ok (.aload_n 0, 1) := by decide +kernel
theorem dX5_shortest_61 : decode cX5_shortest 61 = .ok (.getfield 9, 3) := by decide +kernel
theorem dX5_shortest_64 : decode cX5_shortest 64 = .ok (.iload 6, 2) := by decide +kernel
theorem dX5_shortest_66 : decode cX5_shortest 66 = .ok (.iconst 1, 1) := by decide +kernel
theorem dX5_shortest_67 : decode cX5_shortest 67 = .ok (.iadd, 1) := by decide +kernel
theorem dX5_shortest_68 : decode cX5_shortest 68 = .ok (.aload_n 0, 1) := by decide +kernel
theorem dX5_shortest_69 : decode cX5_shortest 69 = .ok (.aload_n 1, 1) := by decide +kernel
theorem dX5_shortest_70 : decode cX5_shortest 70 = .ok (.aload_n 0, 1) := by decide +kernel
theorem dX5_shortest_71 : decode cX5_shortest 71 = .ok (.getfield 9, 3) := by decide +kernel
theorem dX5_shortest_74 : decode cX5_shortest 74 = .ok (.iload 6, 2) := by decide +kernel
theorem dX5_shortest_76 : decode cX5_shortest 76 = .ok (.laload, 1) := by decide +kernel
theorem dX5_shortest_77 : decode cX5_shortest 77 = .ok (.iload 6, 2) := by decide +kernel
theorem dX5_shortest_79 : decode cX5_shortest 79 = .ok (.invokevirtual 30, 3) := by decide +kernel
theorem dX5_shortest_82 : decode cX5_shortest 82 = .ok (.lastore, 1) := by decide +kernel
theorem dX5_shortest_83 : decode cX5_shortest 83 = .ok (.iinc 6 1, 3) := by decide +kernel
theorem dX5_shortest_86 : decode cX5_shortest 86 = .ok (.goto (-57), 3) := by decide +kernel
theorem dX5_shortest_89 : decode cX5_shortest 89 = .ok (.aload_n 0, 1) := by decide +kernel
theorem dX5_shortest_90 : decode cX5_shortest 90 = .ok (.getfield 9, 3) := by decide +kernel
theorem dX5_shortest_93 : decode cX5_shortest 93 = .ok (.bipush 24, 2) := by decide +kernel
theorem dX5_shortest_95 : decode cX5_shortest 95 = .ok (.laload, 1) := by decide +kernel
theorem dX5_shortest_96 : decode cX5_shortest 96 = .ok (.iload_n 3, 1) := by decide +kernel
theorem dX5_shortest_97 : decode cX5_shortest 97 = .ok (.iload_n 3, 1) := by decide +kernel
theorem dX5_shortest_98 : decode cX5_shortest 98 = .ok (.invokestatic 22, 3) := by decide +kernel
theorem dX5_shortest_101 : decode cX5_shortest 101 = .ok (.invokestatic 26, 3) := by decide +kernel
theorem dX5_shortest_104 : decode cX5_shortest 104 = .ok (.land, 1) := by decide +kernel
theorem dX5_shortest_105 : decode cX5_shortest 105 = .ok (.lconst 0, 1) := by decide +kernel
theorem dX5_shortest_106 : decode cX5_shortest 106 = .ok (.lcmp, 1) := by decide +kernel
theorem dX5_shortest_107 : decode cX5_shortest 107 = .ok (.ifCond .eq 8, 3) := by decide +kernel
theorem dX5_shortest_110 : decode cX5_shortest 110 = .ok (.bipush 24, 2) := by decide +kernel
theorem dX5_shortest_112 : decode cX5_shortest 112 = .ok (.goto 5, 3) := by decide +kernel
theorem dX5_shortest_115 : decode cX5_shortest 115 = .ok (.bipush (-4), 2) := by decide +kernel
theorem dX5_shortest_117 : decode cX5_shortest 117 = .ok (.ireturn, 1) := by decide +kernel
theorem dX5_letterOf_0 : decode cX5_letterOf 0 = .ok (.iload 4, 2) := by decide +kernel
theorem dX5_letterOf_2 : decode cX5_letterOf 2 = .ok (.ifCond .lt 10, 3) := by decide +kernel
theorem dX5_letterOf_5 : decode cX5_letterOf 5 = .ok (.iload 4, 2) := by decide +kernel
theorem dX5_letterOf_7 : decode cX5_letterOf 7 = .ok (.bipush 24, 2) := by decide +kernel
theorem dX5_letterOf_9 : decode cX5_letterOf 9 = .ok (.if_icmp .le 6, 3) := by decide +kernel
theorem dX5_letterOf_12 : decode cX5_letterOf 12 = .ok (.bipush (-4), 2) := by decide +kernel
theorem dX5_letterOf_14 : decode cX5_letterOf 14 = .ok (.ireturn, 1) := by decide +kernel
theorem dX5_letterOf_15 : decode cX5_letterOf 15 = .ok (.aload_n 0, 1) := by decide +kernel
theorem dX5_letterOf_16 : decode cX5_letterOf 16 = .ok (.getfield 9, 3) := by decide +kernel
theorem dX5_letterOf_19 : decode cX5_letterOf 19 = .ok (.iload 4, 2) := by decide +kernel
theorem dX5_letterOf_21 : decode cX5_letterOf 21 = .ok (.iload_n 3, 1) := by decide +kernel
theorem dX5_letterOf_22 : decode cX5_letterOf 22 = .ok (.iload_n 3, 1) := by decide +kernel
theorem dX5_letterOf_23 : decode cX5_letterOf 23 = .ok (.invokestatic 22, 3) := by decide +kernel
theorem dX5_letterOf_26 : decode cX5_letterOf 26 = .ok (.invokestatic 26, 3) := by decide +kernel
theorem dX5_letterOf_29 : decode cX5_letterOf 29 = .ok (.lastore, 1) := by decide +kernel
theorem dX5_letterOf_30 : decode cX5_letterOf 30 = .ok (.iload 4, 2) := by decide +kernel
theorem dX5_letterOf_32 : decode cX5_letterOf 32 = .ok (.iconst 1, 1) := by decide +kernel
theorem dX5_letterOf_33 : decode cX5_letterOf 33 = .ok (.isub, 1) := by decide +kernel
theorem dX5_letterOf_34 : decode cX5_letterOf 34 = .ok (.istore 6, 2) := by decide +kernel
theorem dX5_letterOf_36 : decode cX5_letterOf 36 = .ok (.iload 6, 2) := by decide +kernel
theorem dX5_letterOf_38 : decode cX5_letterOf 38 = .ok (.ifCond .lt 39, 3) := by decide +kernel
theorem dX5_letterOf_41 : decode cX5_letterOf 41 = .ok (.aload_n 0, 1) := by decide +kernel
theorem dX5_letterOf_42 : decode cX5_letterOf 42 = .ok (.getfield 9, 3) := by decide +kernel
theorem dX5_letterOf_45 : decode cX5_letterOf 45 = .ok (.iload 6, 2) := by decide +kernel
theorem dX5_letterOf_47 : decode cX5_letterOf 47 = .ok (.aload_n 0, 1) := by decide +kernel
theorem dX5_letterOf_48 : decode cX5_letterOf 48 = .ok (.aload_n 1, 1) := by decide +kernel
theorem dX5_letterOf_49 : decode cX5_letterOf 49 = .ok (.aload_n 0, 1) := by decide +kernel
theorem dX5_letterOf_50 : decode cX5_letterOf 50 = .ok (.getfield 9, 3) := by decide +kernel
theorem dX5_letterOf_53 : decode cX5_letterOf 53 = .ok (.iload 6, 2) := by decide +kernel
theorem dX5_letterOf_55 : decode cX5_letterOf 55 = .ok (.iconst 1, 1) := by decide +kernel
theorem dX5_letterOf_56 : decode cX5_letterOf 56 = .ok (.iadd, 1) := by decide +kernel
theorem dX5_letterOf_57 : decode cX5_letterOf 57 = .ok (.laload, 1) := by decide +kernel
theorem dX5_letterOf_58 : decode cX5_letterOf 58 = .ok (.aload_n 0, 1) := by decide +kernel
theorem dX5_letterOf_59 : decode cX5_letterOf 59 = .ok (.getfield 9, 3) := by decide +kernel
theorem dX5_letterOf_62 : decode cX5_letterOf 62 = .ok (.iload 6, 2) := by decide +kernel
theorem dX5_letterOf_64 : decode cX5_letterOf 64 = .ok (.laload, 1) := by decide +kernel
theorem dX5_letterOf_65 : decode cX5_letterOf 65 = .ok (.iload 6, 2) := by decide +kernel
theorem dX5_letterOf_67 : decode cX5_letterOf 67 = .ok (.invokevirtual 34, 3) := by decide +kernel
theorem dX5_letterOf_70 : decode cX5_letterOf 70 = .ok (.lastore, 1) := by decide +kernel
theorem dX5_letterOf_71 : decode cX5_letterOf 71 = .ok (.iinc 6 (-1), 3) := by decide +kernel
theorem dX5_letterOf_74 : decode cX5_letterOf 74 = .ok (.goto (-38), 3) := by decide +kernel
theorem dX5_letterOf_77 : decode cX5_letterOf 77 = .ok (.iload_n 2, 1) := by decide +kernel
theorem dX5_letterOf_78 : decode cX5_letterOf 78 = .ok (.iload_n 2, 1) := by decide +kernel
theorem dX5_letterOf_79 : decode cX5_letterOf 79 = .ok (.invokestatic 22, 3) := by decide +kernel
theorem dX5_letterOf_82 : decode cX5_letterOf 82 = .ok (.istore 6, 2) := by decide +kernel
theorem dX5_letterOf_84 : decode cX5_letterOf 84 = .ok (.bipush (-4), 2) := by decide +kernel
theorem dX5_letterOf_86 : decode cX5_letterOf 86 = .ok (.istore 7, 2) := by decide +kernel
theorem dX5_letterOf_88 : decode cX5_letterOf 88 = .ok (.iconst 0, 1) := by decide +kernel
theorem dX5_letterOf_89 : decode cX5_letterOf 89 = .ok (.istore 8, 2) := by decide +kernel
theorem dX5_letterOf_91 : decode cX5_letterOf 91 = .ok (.iload 8, 2) := by decide +kernel
theorem dX5_letterOf_93 : decode cX5_letterOf 93 = .ok (.iload 5, 2) := by decide +kernel
theorem dX5_letterOf_95 : decode cX5_letterOf 95 = .ok (.if_icmp .gt 77, 3) := by decide +kernel
theorem dX5_letterOf_98 : decode cX5_letterOf 98 = .ok (.iload 8, 2) := by decide +kernel
theorem dX5_letterOf_100 : decode cX5_letterOf 100 = .ok (.iload 4, 2) := by decide +kernel
theorem dX5_letterOf_102 : decode cX5_letterOf 102 = .ok (.if_icmp .ge 70, 3) := by decide +kernel
theorem dX5_letterOf_105 : decode cX5_letterOf 105 = .ok (.aload_n 0, 1) := by decide +kernel
theorem dX5_letterOf_106 : decode cX5_letterOf 106 = .ok (.aload_n 1, 1) := by decide +kernel
theorem dX5_letterOf_107 : decode cX5_letterOf 107 = .ok (.iload 6, 2) := by decide +kernel
theorem dX5_letterOf_109 : decode cX5_letterOf 109 = .ok (.iconst 0, 1) := by decide +kernel
theorem dX5_letterOf_110 : decode cX5_letterOf 110 = .ok (.iload 8, 2) := by decide +kernel
theorem dX5_letterOf_112 : decode cX5_letterOf 112 = .ok (.invokevirtual 38, 3) := by decide +kernel
theorem dX5_letterOf_115 : decode cX5_letterOf 115 = .ok (.istore 9, 2) := by decide +kernel
theorem dX5_letterOf_117 : decode cX5_letterOf 117 = .ok (.iload 9, 2) := by decide +kernel
theorem dX5_letterOf_119 : decode cX5_letterOf 119 = .ok (.invokestatic 26, 3) := by decide +kernel
theorem dX5_letterOf_122 : decode cX5_letterOf 122 = .ok (.aload_n 0, 1) := by decide +kernel
theorem dX5_letterOf_123 : decode cX5_letterOf 123 = .ok (.getfield 9, 3) := by decide +kernel
theorem dX5_letterOf_126 : decode cX5_letterOf 126 = .ok (.iload 8, 2) := by decide +kernel
theorem dX5_letterOf_128 : decode cX5_letterOf 128 = .ok (.iconst 1, 1) := by decide +kernel
theorem dX5_letterOf_129 : decode cX5_letterOf 129 = .ok (.iadd, 1) := by decide +kernel
theorem dX5_letterOf_130 : decode cX5_letterOf 130 = .ok (.laload, 1) := by decide +kernel
theorem dX5_letterOf_131 : decode cX5_letterOf 131 = .ok (.land, 1) := by decide +kernel
theorem dX5_letterOf_132 : decode cX5_letterOf 132 = .ok (.lconst 0, 1) := by decide +kernel
theorem dX5_letterOf_133 : decode cX5_letterOf 133 = .ok (.lcmp, 1) := by decide +kernel
theorem dX5_letterOf_134 : decode cX5_letterOf 134 = .ok (.ifCond .eq 7, 3) := by decide +kernel
theorem dX5_letterOf_137 : decode cX5_letterOf 137 = .ok (.iconst 0, 1) := by decide +kernel
theorem dX5_letterOf_138 : decode cX5_letterOf 138 = .ok (.goto 4, 3) := by decide +kernel
theorem dX5_letterOf_141 : decode cX5_letterOf 141 = .ok (.iconst 1, 1) := by decide +kernel
theorem dX5_letterOf_142 : decode cX5_letterOf 142 = .ok (.istore 7, 2) := by decide +kernel
theorem dX5_letterOf_144 : decode cX5_letterOf 144 = .ok (.iload 7, 2) := by decide +kernel
theorem dX5_letterOf_146 : decode cX5_letterOf 146 = .ok (.ifCond .ne 8, 3) := by decide +kernel
theorem dX5_letterOf_149 : decode cX5_letterOf 149 = .ok (.iload 9, 2) := by decide +kernel
theorem dX5_letterOf_151 : decode cX5_letterOf 151 = .ok (.goto 13, 3) := by decide +kernel
theorem dX5_letterOf_154 : decode cX5_letterOf 154 = .ok (.aload_n 0, 1) := by decide +kernel
theorem dX5_letterOf_155 : decode cX5_letterOf 155 = .ok (.aload_n 1, 1) := by decide +kernel
theorem dX5_letterOf_156 : decode cX5_letterOf 156 = .ok (.iload 6, 2) := by decide +kernel
theorem dX5_letterOf_158 : decode cX5_letterOf 158 = .ok (.iconst 1, 1) := by decide +kernel
theorem dX5_letterOf_159 : decode cX5_letterOf 159 = .ok (.iload 8, 2) := by decide +kernel
theorem dX5_letterOf_161 : decode cX5_letterOf 161 = .ok (.invokevirtual 38, 3) := by decide +kernel
theorem dX5_letterOf_164 : decode cX5_letterOf 164 = .ok (.istore 6, 2) := by decide +kernel
theorem dX5_letterOf_166 : decode cX5_letterOf 166 = .ok (.iinc 8 1, 3) := by decide +kernel
theorem dX5_letterOf_169 : decode cX5_letterOf 169 = .ok (.goto (-78), 3) := by decide +kernel
theorem dX5_letterOf_172 : decode cX5_letterOf 172 = .ok (.iload 7, 2) := by decide +kernel
theorem dX5_letterOf_174 : decode cX5_letterOf 174 = .ok (.ireturn, 1) := by decide +kernel
theorem dX5_stepAll_0 : decode cX5_stepAll 0 = .ok (.lconst 0, 1) := by decide +kernel
theorem dX5_stepAll_1 : decode cX5_stepAll 1 = .ok (.lstore 5, 2) := by decide +kernel
theorem dX5_stepAll_3 : decode cX5_stepAll 3 = .ok (.iconst 0, 1) := by decide +kernel
theorem dX5_stepAll_4 : decode cX5_stepAll 4 = .ok (.istore 7, 2) := by decide +kernel
theorem dX5_stepAll_6 : decode cX5_stepAll 6 = .ok (.iload 7, 2) := by decide +kernel
theorem dX5_stepAll_8 : decode cX5_stepAll 8 = .ok (.bipush 64, 2) := by decide +kernel
theorem dX5_stepAll_10 : decode cX5_stepAll 10 = .ok (.if_icmp .ge 53, 3) := by decide +kernel
theorem dX5_stepAll_13 : decode cX5_stepAll 13 = .ok (.lload_n 2, 1) := by decide +kernel
theorem dX5_stepAll_14 : decode cX5_stepAll 14 = .ok (.iload 7, 2) := by decide +kernel
theorem dX5_stepAll_16 : decode cX5_stepAll 16 = .ok (.invokestatic 26, 3) := by decide +kernel
theorem dX5_stepAll_19 : decode cX5_stepAll 19 = .ok (.land, 1) := by decide +kernel
theorem dX5_stepAll_20 : decode cX5_stepAll 20 = .ok (.lconst 0, 1) := by decide +kernel
theorem dX5_stepAll_21 : decode cX5_stepAll 21 = .ok (.lcmp, 1) := by decide +kernel
theorem dX5_stepAll_22 : decode cX5_stepAll 22 = .ok (.ifCond .eq 35, 3) := by decide +kernel
theorem dX5_stepAll_25 : decode cX5_stepAll 25 = .ok (.lload 5, 2) := by decide +kernel
theorem dX5_stepAll_27 : decode cX5_stepAll 27 = .ok (.aload_n 0, 1) := by decide +kernel
theorem dX5_stepAll_28 : decode cX5_stepAll 28 = .ok (.aload_n 1, 1) := by decide +kernel
theorem dX5_stepAll_29 : decode cX5_stepAll 29 = .ok (.iload 7, 2) := by decide +kernel
theorem dX5_stepAll_31 : decode cX5_stepAll 31 = .ok (.iconst 0, 1) := by decide +kernel
theorem dX5_stepAll_32 : decode cX5_stepAll 32 = .ok (.iload 4, 2) := by decide +kernel
theorem dX5_stepAll_34 : decode cX5_stepAll 34 = .ok (.invokevirtual 38, 3) := by decide +kernel
theorem dX5_stepAll_37 : decode cX5_stepAll 37 = .ok (.invokestatic 26, 3) := by decide +kernel
theorem dX5_stepAll_40 : decode cX5_stepAll 40 = .ok (.aload_n 0, 1) := by decide +kernel
theorem dX5_stepAll_41 : decode cX5_stepAll 41 = .ok (.aload_n 1, 1) := by decide +kernel
theorem dX5_stepAll_42 : decode cX5_stepAll 42 = .ok (.iload 7, 2) := by decide +kernel
theorem dX5_stepAll_44 : decode cX5_stepAll 44 = .ok (.iconst 1, 1) := by decide +kernel
theorem dX5_stepAll_45 : decode cX5_stepAll 45 = .ok (.iload 4, 2) := by decide +kernel
theorem dX5_stepAll_47 : decode cX5_stepAll 47 = .ok (.invokevirtual 38, 3) := by decide +kernel
theorem dX5_stepAll_50 : decode cX5_stepAll 50 = .ok (.invokestatic 26, 3) := by decide +kernel
theorem dX5_stepAll_53 : decode cX5_stepAll 53 = .ok (.lor, 1) := by decide +kernel
theorem dX5_stepAll_54 : decode cX5_stepAll 54 = .ok (.lor, 1) := by decide +kernel
theorem dX5_stepAll_55 : decode cX5_stepAll 55 = .ok (.lstore 5, 2) := by decide +kernel
theorem dX5_stepAll_57 : decode cX5_stepAll 57 = .ok (.iinc 7 1, 3) := by decide +kernel
theorem dX5_stepAll_60 : decode cX5_stepAll 60 = .ok (.goto (-54), 3) := by decide +kernel
theorem dX5_stepAll_63 : decode cX5_stepAll 63 = .ok (.lload 5, 2) := by decide +kernel
theorem dX5_stepAll_65 : decode cX5_stepAll 65 = .ok (.lreturn, 1) := by decide +kernel
theorem dX5_thoseThatStepInto_0 : decode cX5_thoseThatStepInto 0 = .ok (.lconst 0, 1) := by decide +kernel
theorem dX5_thoseThatStepInto_1 : decode cX5_thoseThatStepInto 1 = .ok (.lstore 7, 2) := by decide +kernel
theorem dX5_thoseThatStepInto_3 : decode cX5_thoseThatStepInto 3 = .ok (.iconst 0, 1) := by decide +kernel
theorem dX5_thoseThatStepInto_4 : decode cX5_thoseThatStepInto 4 = .ok (.istore 9, 2) := by decide +kernel
theorem dX5_thoseThatStepInto_6 : decode cX5_thoseThatStepInto 6 = .ok (.iload 9, 2) := by decide +kernel
theorem dX5_thoseThatStepInto_8 : decode cX5_thoseThatStepInto 8 = .ok (.bipush 64, 2) := by decide +kernel
theorem dX5_thoseThatStepInto_10 : decode cX5_thoseThatStepInto 10 = .ok (.if_icmp .ge 66, 3) := by decide +kernel
theorem dX5_thoseThatStepInto_13 : decode cX5_thoseThatStepInto 13 = .ok (.lload 4, 2) := by decide +kernel
theorem dX5_thoseThatStepInto_15 : decode cX5_thoseThatStepInto 15 = .ok (.iload 9, 2) := by decide +kernel
theorem dX5_thoseThatStepInto_17 : decode cX5_thoseThatStepInto 17 = .ok (.invokestatic 26, 3) := by decide +kernel
theorem dX5_thoseThatStepInto_20 : decode cX5_thoseThatStepInto 20 = .ok (.land, 1) := by decide +kernel
theorem dX5_thoseThatStepInto_21 : decode cX5_thoseThatStepInto 21 = .ok (.lconst 0, 1) := by decide +kernel
theorem dX5_thoseThatStepInto_22 : decode cX5_thoseThatStepInto 22 = .ok (.lcmp, 1) := by decide +kernel
theorem dX5_thoseThatStepInto_23 : decode cX5_thoseThatStepInto 23 = .ok (.ifCond .eq 47, 3) := by decide +kernel
theorem dX5_thoseThatStepInto_26 : decode cX5_thoseThatStepInto 26 = .ok (.aload_n 0, 1) := by decide +kernel
theorem dX5_thoseThatStepInto_27 : decode cX5_thoseThatStepInto 27 = .ok (.aload_n 1, 1) := by decide +kernel
theorem dX5_thoseThatStepInto_28 : decode cX5_thoseThatStepInto 28 = .ok (.iload 9, 2) := by decide +kernel
theorem dX5_thoseThatStepInto_30 : decode cX5_thoseThatStepInto 30 = .ok (.iconst 0, 1) := by decide +kernel
theorem dX5_thoseThatStepInto_31 : decode cX5_thoseThatStepInto 31 = .ok (.iload 6, 2) := by decide +kernel
theorem dX5_thoseThatStepInto_33 : decode cX5_thoseThatStepInto 33 = .ok (.invokevirtual 38, 3) := by decide +kernel
theorem dX5_thoseThatStepInto_36 : decode cX5_thoseThatStepInto 36 = .ok (.invokestatic 26, 3) := by decide +kernel
theorem dX5_thoseThatStepInto_39 : decode cX5_thoseThatStepInto 39 = .ok (.aload_n 0, 1) := by decide +kernel
theorem dX5_thoseThatStepInto_40 : decode cX5_thoseThatStepInto 40 = .ok (.aload_n 1, 1) := by decide +kernel
theorem dX5_thoseThatStepInto_41 : decode cX5_thoseThatStepInto 41 = .ok (.iload 9, 2) := by decide +kernel
theorem dX5_thoseThatStepInto_43 : decode cX5_thoseThatStepInto 43 = .ok (.iconst 1, 1) := by decide +kernel
theorem dX5_thoseThatStepInto_44 : decode cX5_thoseThatStepInto 44 = .ok (.iload 6, 2) := by decide +kernel
theorem dX5_thoseThatStepInto_46 : decode cX5_thoseThatStepInto 46 = .ok (.invokevirtual 38, 3) := by decide +kernel
theorem dX5_thoseThatStepInto_49 : decode cX5_thoseThatStepInto 49 = .ok (.invokestatic 26, 3) := by decide +kernel
theorem dX5_thoseThatStepInto_52 : decode cX5_thoseThatStepInto 52 = .ok (.lor, 1) := by decide +kernel
theorem dX5_thoseThatStepInto_53 : decode cX5_thoseThatStepInto 53 = .ok (.lload_n 2, 1) := by decide +kernel
theorem dX5_thoseThatStepInto_54 : decode cX5_thoseThatStepInto 54 = .ok (.land, 1) := by decide +kernel
theorem dX5_thoseThatStepInto_55 : decode cX5_thoseThatStepInto 55 = .ok (.lconst 0, 1) := by decide +kernel
theorem dX5_thoseThatStepInto_56 : decode cX5_thoseThatStepInto 56 = .ok (.lcmp, 1) := by decide +kernel
theorem dX5_thoseThatStepInto_57 : decode cX5_thoseThatStepInto 57 = .ok (.ifCond .eq 13, 3) := by decide +kernel
theorem dX5_thoseThatStepInto_60 : decode cX5_thoseThatStepInto 60 = .ok (.lload 7, 2) := by decide +kernel
theorem dX5_thoseThatStepInto_62 : decode cX5_thoseThatStepInto 62 = .ok (.iload 9, 2) := by decide +kernel
theorem dX5_thoseThatStepInto_64 : decode cX5_thoseThatStepInto 64 = .ok (.invokestatic 26, 3) := by decide +kernel
theorem dX5_thoseThatStepInto_67 : decode cX5_thoseThatStepInto 67 = .ok (.lor, 1) := by decide +kernel
theorem dX5_thoseThatStepInto_68 : decode cX5_thoseThatStepInto 68 = .ok (.lstore 7, 2) := by decide +kernel
theorem dX5_thoseThatStepInto_70 : decode cX5_thoseThatStepInto 70 = .ok (.iinc 9 1, 3) := by decide +kernel
theorem dX5_thoseThatStepInto_73 : decode cX5_thoseThatStepInto 73 = .ok (.goto (-67), 3) := by decide +kernel
theorem dX5_thoseThatStepInto_76 : decode cX5_thoseThatStepInto 76 = .ok (.lload 7, 2) := by decide +kernel
theorem dX5_thoseThatStepInto_78 : decode cX5_thoseThatStepInto 78 = .ok (.lreturn, 1) := by decide +kernel
theorem dX5_step_0 : decode cX5_step 0 = .ok (.iload_n 2, 1) := by decide +kernel
theorem dX5_step_1 : decode cX5_step 1 = .ok (.ifCond .ge 5, 3) := by decide +kernel
theorem dX5_step_4 : decode cX5_step 4 = .ok (.iconst (-1), 1) := by decide +kernel
theorem dX5_step_5 : decode cX5_step 5 = .ok (.ireturn, 1) := by decide +kernel
theorem dX5_step_6 : decode cX5_step 6 = .ok (.aload_n 1, 1) := by decide +kernel
theorem dX5_step_7 : decode cX5_step 7 = .ok (.iload_n 2, 1) := by decide +kernel
theorem dX5_step_8 : decode cX5_step 8 = .ok (.bipush 8, 2) := by decide +kernel
theorem dX5_step_10 : decode cX5_step 10 = .ok (.idiv, 1) := by decide +kernel
theorem dX5_step_11 : decode cX5_step 11 = .ok (.iload_n 3, 1) := by decide +kernel
theorem dX5_step_12 : decode cX5_step 12 = .ok (.aload_n 0, 1) := by decide +kernel
theorem dX5_step_13 : decode cX5_step 13 = .ok (.getfield 15, 3) := by decide +kernel
theorem dX5_step_16 : decode cX5_step 16 = .ok (.iload 4, 2) := by decide +kernel
theorem dX5_step_18 : decode cX5_step 18 = .ok (.iadd, 1) := by decide +kernel
theorem dX5_step_19 : decode cX5_step 19 = .ok (.iconst 0, 1) := by decide +kernel
theorem dX5_step_20 : decode cX5_step 20 = .ok (.invokevirtual 42, 3) := by decide +kernel
theorem dX5_step_23 : decode cX5_step 23 = .ok (.istore 5, 2) := by decide +kernel
theorem dX5_step_25 : decode cX5_step 25 = .ok (.aload_n 1, 1) := by decide +kernel
theorem dX5_step_26 : decode cX5_step 26 = .ok (.iload_n 2, 1) := by decide +kernel
theorem dX5_step_27 : decode cX5_step 27 = .ok (.bipush 8, 2) := by decide +kernel
theorem dX5_step_29 : decode cX5_step 29 = .ok (.irem, 1) := by decide +kernel
theorem dX5_step_30 : decode cX5_step 30 = .ok (.iload_n 3, 1) := by decide +kernel
theorem dX5_step_31 : decode cX5_step 31 = .ok (.aload_n 0, 1) := by decide +kernel
theorem dX5_step_32 : decode cX5_step 32 = .ok (.getfield 19, 3) := by decide +kernel
theorem dX5_step_35 : decode cX5_step 35 = .ok (.iload 4, 2) := by decide +kernel
theorem dX5_step_37 : decode cX5_step 37 = .ok (.iadd, 1) := by decide +kernel
theorem dX5_step_38 : decode cX5_step 38 = .ok (.iconst 0, 1) := by decide +kernel
theorem dX5_step_39 : decode cX5_step 39 = .ok (.invokevirtual 42, 3) := by decide +kernel
theorem dX5_step_42 : decode cX5_step 42 = .ok (.istore 6, 2) := by decide +kernel
theorem dX5_step_44 : decode cX5_step 44 = .ok (.iload 5, 2) := by decide +kernel
theorem dX5_step_46 : decode cX5_step 46 = .ok (.bipush (-4), 2) := by decide +kernel
theorem dX5_step_48 : decode cX5_step 48 = .ok (.if_icmp .eq 10, 3) := by decide +kernel
theorem dX5_step_51 : decode cX5_step 51 = .ok (.iload 6, 2) := by decide +kernel
theorem dX5_step_53 : decode cX5_step 53 = .ok (.bipush (-4), 2) := by decide +kernel
theorem dX5_step_55 : decode cX5_step 55 = .ok (.if_icmp .ne 7, 3) := by decide +kernel
theorem dX5_step_58 : decode cX5_step 58 = .ok (.iconst (-1), 1) := by decide +kernel
theorem dX5_step_59 : decode cX5_step 59 = .ok (.goto 10, 3) := by decide +kernel
theorem dX5_step_62 : decode cX5_step 62 = .ok (.iload 5, 2) := by decide +kernel
theorem dX5_step_64 : decode cX5_step 64 = .ok (.iload 6, 2) := by decide +kernel
theorem dX5_step_66 : decode cX5_step 66 = .ok (.invokestatic 22, 3) := by decide +kernel
theorem dX5_step_69 : decode cX5_step 69 = .ok (.ireturn, 1) := by decide +kernel
theorem dX5_pairOf_0 : decode cX5_pairOf 0 = .ok (.iload_n 0, 1) := by decide +kernel
theorem dX5_pairOf_1 : decode cX5_pairOf 1 = .ok (.bipush 8, 2) := by decide +kernel
theorem dX5_pairOf_3 : decode cX5_pairOf 3 = .ok (.imul, 1) := by decide +kernel
theorem dX5_pairOf_4 : decode cX5_pairOf 4 = .ok (.iload_n 1, 1) := by decide +kernel
theorem dX5_pairOf_5 : decode cX5_pairOf 5 = .ok (.iadd, 1) := by decide +kernel
theorem dX5_pairOf_6 : decode cX5_pairOf 6 = .ok (.ireturn, 1) := by decide +kernel
theorem dX5_bitOf_0 : decode cX5_bitOf 0 = .ok (.iload_n 0, 1) := by decide +kernel
theorem dX5_bitOf_1 : decode cX5_bitOf 1 = .ok (.ifCond .ge 7, 3) := by decide +kernel
theorem dX5_bitOf_4 : decode cX5_bitOf 4 = .ok (.lconst 0, 1) := by decide +kernel
theorem dX5_bitOf_5 : decode cX5_bitOf 5 = .ok (.goto 6, 3) := by decide +kernel
theorem dX5_bitOf_8 : decode cX5_bitOf 8 = .ok (.lconst 1, 1) := by decide +kernel
theorem dX5_bitOf_9 : decode cX5_bitOf 9 = .ok (.iload_n 0, 1) := by decide +kernel
theorem dX5_bitOf_10 : decode cX5_bitOf 10 = .ok (.lshl, 1) := by decide +kernel
theorem dX5_bitOf_11 : decode cX5_bitOf 11 = .ok (.lreturn, 1) := by decide +kernel
theorem dX6_init_0 : decode cX6_init 0 = .ok (.aload_n 0, 1) := by decide +kernel
theorem dX6_init_1 : decode cX6_init 1 = .ok (.invokespecial 1, 3) := by decide +kernel
theorem dX6_init_4 : decode cX6_init 4 = .ok (.aload_n 0, 1) := by decide +kernel
theorem dX6_init_5 : decode cX6_init 5 = .ok (.new 7, 3) := by decide +kernel
theorem dX6_init_8 : decode cX6_init 8 = .ok (.dup, 1) := by decide +kernel
theorem dX6_init_9 : decode cX6_init 9 = .ok (.invokespecial 9, 3) := by decide +kernel
theorem dX6_init_12 : decode cX6_init 12 = .ok (.putfield 10, 3) := by decide +kernel
theorem dX6_init_15 : decode cX6_init 15 = .ok (.aload_n 0, 1) := by decide +kernel
theorem dX6_init_16 : decode cX6_init 16 = .ok (.new 7, 3) := by decide +kernel
theorem dX6_init_19 : decode cX6_init 19 = .ok (.dup, 1) := by decide +kernel
theorem dX6_init_20 : decode cX6_init 20 = .ok (.invokespecial 9, 3) := by decide +kernel
theorem dX6_init_23 : decode cX6_init 23 = .ok (.putfield 16, 3) := by decide +kernel
theorem dX6_init_26 : decode cX6_init 26 = .ok (.aload_n 0, 1) := by decide +kernel
theorem dX6_init_27 : decode cX6_init 27 = .ok (.iconst 2, 1) := by decide +kernel
theorem dX6_init_28 : decode cX6_init 28 = .ok (.anewarray 7, 3) := by decide +kernel
theorem dX6_init_31 : decode cX6_init 31 = .ok (.putfield 19, 3) := by decide +kernel
theorem dX6_init_34 : decode cX6_init 34 = .ok (.iconst 0, 1) := by decide +kernel
theorem dX6_init_35 : decode cX6_init 35 = .ok (.istore_n 1, 1) := by decide +kernel
theorem dX6_init_36 : decode cX6_init 36 = .ok (.iload_n 1, 1) := by decide +kernel
theorem dX6_init_37 : decode cX6_init 37 = .ok (.iconst 2, 1) := by decide +kernel
theorem dX6_init_38 : decode cX6_init 38 = .ok (.if_icmp .ge 22, 3) := by decide +kernel
theorem dX6_init_41 : decode cX6_init 41 = .ok (.aload_n 0, 1) := by decide +kernel
theorem dX6_init_42 : decode cX6_init 42 = .ok (.getfield 19, 3) := by decide +kernel
theorem dX6_init_45 : decode cX6_init 45 = .ok (.iload_n 1, 1) := by decide +kernel
theorem dX6_init_46 : decode cX6_init 46 = .ok (.new 7, 3) := by decide +kernel
theorem dX6_init_49 : decode cX6_init 49 = .ok (.dup, 1) := by decide +kernel
theorem dX6_init_50 : decode cX6_init 50 = .ok (.invokespecial 9, 3) := by decide +kernel
theorem dX6_init_53 : decode cX6_init 53 = .ok (.aastore, 1) := by decide +kernel
theorem dX6_init_54 : decode cX6_init 54 = .ok (.iinc 1 1, 3) := by decide +kernel
theorem dX6_init_57 : decode cX6_init 57 = .ok (.goto (-21), 3) := by decide +kernel
theorem dX6_init_60 : decode cX6_init 60 = .ok (.aload_n 0, 1) := by decide +kernel
theorem dX6_init_61 : decode cX6_init 61 = .ok (.new 23, 3) := by decide +kernel
theorem dX6_init_64 : decode cX6_init 64 = .ok (.dup, 1) := by decide +kernel
theorem dX6_init_65 : decode cX6_init 65 = .ok (.invokespecial 25, 3) := by decide +kernel
theorem dX6_init_68 : decode cX6_init 68 = .ok (.putfield 26, 3) := by decide +kernel
theorem dX6_init_71 : decode cX6_init 71 = .ok (.aload_n 0, 1) := by decide +kernel
theorem dX6_init_72 : decode cX6_init 72 = .ok (.iconst 4, 1) := by decide +kernel
theorem dX6_init_73 : decode cX6_init 73 = .ok (.anewarray 30, 3) := by decide +kernel
theorem dX6_init_76 : decode cX6_init 76 = .ok (.putfield 32, 3) := by decide +kernel
theorem dX6_init_79 : decode cX6_init 79 = .ok (.iconst 0, 1) := by decide +kernel
theorem dX6_init_80 : decode cX6_init 80 = .ok (.istore_n 1, 1) := by decide +kernel
theorem dX6_init_81 : decode cX6_init 81 = .ok (.iload_n 1, 1) := by decide +kernel
theorem dX6_init_82 : decode cX6_init 82 = .ok (.iconst 4, 1) := by decide +kernel
theorem dX6_init_83 : decode cX6_init 83 = .ok (.if_icmp .ge 22, 3) := by decide +kernel
theorem dX6_init_86 : decode cX6_init 86 = .ok (.aload_n 0, 1) := by decide +kernel
theorem dX6_init_87 : decode cX6_init 87 = .ok (.getfield 32, 3) := by decide +kernel
theorem dX6_init_90 : decode cX6_init 90 = .ok (.iload_n 1, 1) := by decide +kernel
theorem dX6_init_91 : decode cX6_init 91 = .ok (.new 30, 3) := by decide +kernel
theorem dX6_init_94 : decode cX6_init 94 = .ok (.dup, 1) := by decide +kernel
theorem dX6_init_95 : decode cX6_init 95 = .ok (.invokespecial 36, 3) := by decide +kernel
theorem dX6_init_98 : decode cX6_init 98 = .ok (.aastore, 1) := by decide +kernel
theorem dX6_init_99 : decode cX6_init 99 = .ok (.iinc 1 1, 3) := by decide +kernel
theorem dX6_init_102 : decode cX6_init 102 = .ok (.goto (-21), 3) := by decide +kernel
theorem dX6_init_105 : decode cX6_init 105 = .ok (.aload_n 0, 1) := by decide +kernel
theorem dX6_init_106 : decode cX6_init 106 = .ok (.new 37, 3) := by decide +kernel
theorem dX6_init_109 : decode cX6_init 109 = .ok (.dup, 1) := by decide +kernel
theorem dX6_init_110 : decode cX6_init 110 = .ok (.invokespecial 39, 3) := by decide +kernel
theorem dX6_init_113 : decode cX6_init 113 = .ok (.putfield 40, 3) := by decide +kernel
theorem dX6_init_116 : decode cX6_init 116 = .ok (.aload_n 0, 1) := by decide +kernel
theorem dX6_init_117 : decode cX6_init 117 = .ok (.new 44, 3) := by decide +kernel
theorem dX6_init_120 : decode cX6_init 120 = .ok (.dup, 1) := by decide +kernel
theorem dX6_init_121 : decode cX6_init 121 = .ok (.invokespecial 46, 3) := by decide +kernel
theorem dX6_init_124 : decode cX6_init 124 = .ok (.putfield 47, 3) := by decide +kernel
theorem dX6_init_127 : decode cX6_init 127 = .ok (.return_, 1) := by decide +kernel
theorem dX6_feed_0 : decode cX6_feed 0 = .ok (.iload_n 1, 1) := by decide +kernel
theorem dX6_feed_1 : decode cX6_feed 1 = .ok (.ifCond .lt 9, 3) := by decide +kernel
theorem dX6_feed_4 : decode cX6_feed 4 = .ok (.iload_n 1, 1) := by decide +kernel
theorem dX6_feed_5 : decode cX6_feed 5 = .ok (.bipush 127, 2) := by decide +kernel
theorem dX6_feed_7 : decode cX6_feed 7 = .ok (.if_icmp .le 5, 3) := by decide +kernel
theorem dX6_feed_10 : decode cX6_feed 10 = .ok (.iconst (-1), 1) := by decide +kernel
theorem dX6_feed_11 : decode cX6_feed 11 = .ok (.ireturn, 1) := by decide +kernel
theorem dX6_feed_12 : decode cX6_feed 12 = .ok (.aload_n 0, 1) := by decide +kernel
theorem dX6_feed_13 : decode cX6_feed 13 = .ok (.getfield 26, 3) := by decide +kernel
theorem dX6_feed_16 : decode cX6_feed 16 = .ok (.getfield 51, 3) := by decide +kernel
theorem dX6_feed_19 : decode cX6_feed 19 = .ok (.sipush 160, 3) := by decide +kernel
theorem dX6_feed_22 : decode cX6_feed 22 = .ok (.if_icmp .lt 6, 3) := by decide +kernel
theorem dX6_feed_25 : decode cX6_feed 25 = .ok (.bipush (-3), 2) := by decide +kernel
theorem dX6_feed_27 : decode cX6_feed 27 = .ok (.ireturn, 1) := by decide +kernel
theorem dX6_feed_28 : decode cX6_feed 28 = .ok (.aload_n 0, 1) := by decide +kernel
theorem dX6_feed_29 : decode cX6_feed 29 = .ok (.getfield 26, 3) := by decide +kernel
theorem dX6_feed_32 : decode cX6_feed 32 = .ok (.getfield 55, 3) := by decide +kernel
theorem dX6_feed_35 : decode cX6_feed 35 = .ok (.aload_n 0, 1) := by decide +kernel
theorem dX6_feed_36 : decode cX6_feed 36 = .ok (.getfield 26, 3) := by decide +kernel
theorem dX6_feed_39 : decode cX6_feed 39 = .ok (.getfield 51, 3) := by decide +kernel
theorem dX6_feed_42 : decode cX6_feed 42 = .ok (.iload_n 1, 1) := by decide +kernel
theorem dX6_feed_43 : decode cX6_feed 43 = .ok (.iastore, 1) := by decide +kernel
theorem dX6_feed_44 : decode cX6_feed 44 = .ok (.aload_n 0, 1) := by decide +kernel
theorem dX6_feed_45 : decode cX6_feed 45 = .ok (.getfield 26, 3) := by decide +kernel
theorem dX6_feed_48 : decode cX6_feed 48 = .ok (.dup, 1) := by decide +kernel
theorem dX6_feed_49 : decode cX6_feed 49 = .ok (.getfield 51, 3) := by decide +kernel
theorem dX6_feed_52 : decode cX6_feed 52 = .ok (.iconst 1, 1) := by decide +kernel
theorem dX6_feed_53 : decode cX6_feed 53 = .ok (.iadd, 1) := by decide +kernel
theorem dX6_feed_54 : decode cX6_feed 54 = .ok (.putfield 51, 3) := by decide +kernel
theorem dX6_feed_57 : decode cX6_feed 57 = .ok (.aload_n 0, 1) := by decide +kernel
theorem dX6_feed_58 : decode cX6_feed 58 = .ok (.getfield 26, 3) := by decide +kernel
theorem dX6_feed_61 : decode cX6_feed 61 = .ok (.getfield 51, 3) := by decide +kernel
theorem dX6_feed_64 : decode cX6_feed 64 = .ok (.ireturn, 1) := by decide +kernel
theorem dX6_end_0 : decode cX6_end 0 = .ok (.iload_n 1, 1) := by decide +kernel
theorem dX6_end_1 : decode cX6_end 1 = .ok (.ifCond .lt 14, 3) := by decide +kernel
theorem dX6_end_4 : decode cX6_end 4 = .ok (.iload_n 1, 1) := by decide +kernel
theorem dX6_end_5 : decode cX6_end 5 = .ok (.aload_n 0, 1) := by decide +kernel
theorem dX6_end_6 : decode cX6_end 6 = .ok (.getfield 26, 3) := by decide +kernel
theorem dX6_end_9 : decode cX6_end 9 = .ok (.getfield 51, 3) := by decide +kernel
theorem dX6_end_12 : decode cX6_end 12 = .ok (.if_icmp .le 5, 3) := by decide +kernel
theorem dX6_end_15 : decode cX6_end 15 = .ok (.iconst (-1), 1) := by decide +kernel
theorem dX6_end_16 : decode cX6_end 16 = .ok (.ireturn, 1) := by decide +kernel
theorem dX6_end_17 : decode cX6_end 17 = .ok (.aload_n 0, 1) := by decide +kernel
theorem dX6_end_18 : decode cX6_end 18 = .ok (.getfield 26, 3) := by decide +kernel
theorem dX6_end_21 : decode cX6_end 21 = .ok (.getfield 51, 3) := by decide +kernel
theorem dX6_end_24 : decode cX6_end 24 = .ok (.istore_n 2, 1) := by decide +kernel
theorem dX6_end_25 : decode cX6_end 25 = .ok (.aload_n 0, 1) := by decide +kernel
theorem dX6_end_26 : decode cX6_end 26 = .ok (.getfield 26, 3) := by decide +kernel
theorem dX6_end_29 : decode cX6_end 29 = .ok (.iload_n 1, 1) := by decide +kernel
theorem dX6_end_30 : decode cX6_end 30 = .ok (.putfield 51, 3) := by decide +kernel
theorem dX6_end_33 : decode cX6_end 33 = .ok (.iload_n 2, 1) := by decide +kernel
theorem dX6_end_34 : decode cX6_end 34 = .ok (.ireturn, 1) := by decide +kernel
theorem dX6_text_0 : decode cX6_text 0 = .ok (.aload_n 0, 1) := by decide +kernel
theorem dX6_text_1 : decode cX6_text 1 = .ok (.getfield 26, 3) := by decide +kernel
theorem dX6_text_4 : decode cX6_text 4 = .ok (.invokevirtual 59, 3) := by decide +kernel
theorem dX6_text_7 : decode cX6_text 7 = .ok (.istore_n 1, 1) := by decide +kernel
theorem dX6_text_8 : decode cX6_text 8 = .ok (.aload_n 0, 1) := by decide +kernel
theorem dX6_text_9 : decode cX6_text 9 = .ok (.getfield 26, 3) := by decide +kernel
theorem dX6_text_12 : decode cX6_text 12 = .ok (.iconst 0, 1) := by decide +kernel
theorem dX6_text_13 : decode cX6_text 13 = .ok (.putfield 51, 3) := by decide +kernel
theorem dX6_text_16 : decode cX6_text 16 = .ok (.aload_n 0, 1) := by decide +kernel
theorem dX6_text_17 : decode cX6_text 17 = .ok (.aload_n 0, 1) := by decide +kernel
theorem dX6_text_18 : decode cX6_text 18 = .ok (.getfield 26, 3) := by decide +kernel
theorem dX6_text_21 : decode cX6_text 21 = .ok (.getfield 63, 3) := by decide +kernel
theorem dX6_text_24 : decode cX6_text 24 = .ok (.putfield 66, 3) := by decide +kernel
theorem dX6_text_27 : decode cX6_text 27 = .ok (.aload_n 0, 1) := by decide +kernel
theorem dX6_text_28 : decode cX6_text 28 = .ok (.getfield 66, 3) := by decide +kernel
theorem dX6_text_31 : decode cX6_text 31 = .ok (.ifCond .eq 14, 3) := by decide +kernel
theorem dX6_text_34 : decode cX6_text 34 = .ok (.bipush (-10), 2) := by decide +kernel
theorem dX6_text_36 : decode cX6_text 36 = .ok (.aload_n 0, 1) := by decide +kernel
theorem dX6_text_37 : decode cX6_text 37 = .ok (.getfield 26, 3) := by decide +kernel
theorem dX6_text_40 : decode cX6_text 40 = .ok (.getfield 69, 3) := by decide +kernel
theorem dX6_text_43 : decode cX6_text 43 = .ok (.isub, 1) := by decide +kernel
theorem dX6_text_44 : decode cX6_text 44 = .ok (.ireturn, 1) := by decide +kernel
theorem dX6_text_45 : decode cX6_text 45 = .ok (.aload_n 0, 1) := by decide +kernel
theorem dX6_text_46 : decode cX6_text 46 = .ok (.getfield 10, 3) := by decide +kernel
theorem dX6_text_49 : decode cX6_text 49 = .ok (.aload_n 0, 1) := by decide +kernel
theorem dX6_text_50 : decode cX6_text 50 = .ok (.getfield 26, 3) := by decide +kernel
theorem dX6_text_53 : decode cX6_text 53 = .ok (.getfield 72, 3) := by decide +kernel
theorem dX6_text_56 : decode cX6_text 56 = .ok (.invokevirtual 75, 3) := by decide +kernel
theorem dX6_text_59 : decode cX6_text 59 = .ok (.aload_n 0, 1) := by decide +kernel
theorem dX6_text_60 : decode cX6_text 60 = .ok (.iconst 0, 1) := by decide +kernel
theorem dX6_text_61 : decode cX6_text 61 = .ok (.putfield 79, 3) := by decide +kernel
theorem dX6_text_64 : decode cX6_text 64 = .ok (.iload_n 1, 1) := by decide +kernel
theorem dX6_text_65 : decode cX6_text 65 = .ok (.ireturn, 1) := by decide +kernel
theorem dX6_fault_0 : decode cX6_fault 0 = .ok (.aload_n 0, 1) := by decide +kernel
theorem dX6_fault_1 : decode cX6_fault 1 = .ok (.getfield 66, 3) := by decide +kernel
theorem dX6_fault_4 : decode cX6_fault 4 = .ok (.ireturn, 1) := by decide +kernel
theorem dX6_rule_0 : decode cX6_rule 0 = .ok (.iload_n 1, 1) := by decide +kernel
theorem dX6_rule_1 : decode cX6_rule 1 = .ok (.tableswitch 93 0 5 #[39, 47, 55, 63, 71, 79], 39) := by decide +kernel
theorem dX6_rule_40 : decode cX6_rule 40 = .ok (.aload_n 0, 1) := by decide +kernel
theorem dX6_rule_41 : decode cX6_rule 41 = .ok (.getfield 10, 3) := by decide +kernel
theorem dX6_rule_44 : decode cX6_rule 44 = .ok (.getfield 82, 3) := by decide +kernel
theorem dX6_rule_47 : decode cX6_rule 47 = .ok (.ireturn, 1) := by decide +kernel
theorem dX6_rule_48 : decode cX6_rule 48 = .ok (.aload_n 0, 1) := by decide +kernel
theorem dX6_rule_49 : decode cX6_rule 49 = .ok (.getfield 10, 3) := by decide +kernel
theorem dX6_rule_52 : decode cX6_rule 52 = .ok (.getfield 85, 3) := by decide +kernel
theorem dX6_rule_55 : decode cX6_rule 55 = .ok (.ireturn, 1) := by decide +kernel
theorem dX6_rule_56 : decode cX6_rule 56 = .ok (.aload_n 0, 1) := by decide +kernel
theorem dX6_rule_57 : decode cX6_rule 57 = .ok (.getfield 10, 3) := by decide +kernel
theorem dX6_rule_60 : decode cX6_rule 60 = .ok (.getfield 88, 3) := by decide +kernel
theorem dX6_rule_63 : decode cX6_rule 63 = .ok (.ireturn, 1) := by decide +kernel
theorem dX6_rule_64 : decode cX6_rule 64 = .ok (.aload_n 0, 1) := by decide +kernel
theorem dX6_rule_65 : decode cX6_rule 65 = .ok (.getfield 10, 3) := by decide +kernel
theorem dX6_rule_68 : decode cX6_rule 68 = .ok (.getfield 91, 3) := by decide +kernel
theorem dX6_rule_71 : decode cX6_rule 71 = .ok (.ireturn, 1) := by decide +kernel
theorem dX6_rule_72 : decode cX6_rule 72 = .ok (.aload_n 0, 1) := by decide +kernel
theorem dX6_rule_73 : decode cX6_rule 73 = .ok (.getfield 10, 3) := by decide +kernel
theorem dX6_rule_76 : decode cX6_rule 76 = .ok (.getfield 94, 3) := by decide +kernel
theorem dX6_rule_79 : decode cX6_rule 79 = .ok (.ireturn, 1) := by decide +kernel
theorem dX6_rule_80 : decode cX6_rule 80 = .ok (.aload_n 0, 1) := by decide +kernel
theorem dX6_rule_81 : decode cX6_rule 81 = .ok (.getfield 10, 3) := by decide +kernel
theorem dX6_rule_84 : decode cX6_rule 84 = .ok (.getfield 85, 3) := by decide +kernel
theorem dX6_rule_87 : decode cX6_rule 87 = .ok (.invokestatic 97, 3) := by decide +kernel
theorem dX6_rule_90 : decode cX6_rule 90 = .ok (.invokestatic 101, 3) := by decide +kernel
theorem dX6_rule_93 : decode cX6_rule 93 = .ok (.ireturn, 1) := by decide +kernel
theorem dX6_rule_94 : decode cX6_rule 94 = .ok (.iconst (-1), 1) := by decide +kernel
theorem dX6_rule_95 : decode cX6_rule 95 = .ok (.ireturn, 1) := by decide +kernel
theorem dX6_corner_0 : decode cX6_corner 0 = .ok (.aload_n 0, 1) := by decide +kernel
theorem dX6_corner_1 : decode cX6_corner 1 = .ok (.getfield 10, 3) := by decide +kernel
theorem dX6_corner_4 : decode cX6_corner 4 = .ok (.iload_n 1, 1) := by decide +kernel
theorem dX6_corner_5 : decode cX6_corner 5 = .ok (.invokevirtual 105, 3) := by decide +kernel
theorem dX6_corner_8 : decode cX6_corner 8 = .ok (.ifCond .eq 10, 3) := by decide +kernel
theorem dX6_corner_11 : decode cX6_corner 11 = .ok (.iload_n 2, 1) := by decide +kernel
theorem dX6_corner_12 : decode cX6_corner 12 = .ok (.invokestatic 108, 3) := by decide +kernel
theorem dX6_corner_15 : decode cX6_corner 15 = .ok (.ifCond .ne 5, 3) := by decide +kernel
theorem dX6_corner_18 : decode cX6_corner 18 = .ok (.iconst (-1), 1) := by decide +kernel
theorem dX6_corner_19 : decode cX6_corner 19 = .ok (.ireturn, 1) := by decide +kernel
theorem dX6_corner_20 : decode cX6_corner 20 = .ok (.aload_n 0, 1) := by decide +kernel
theorem dX6_corner_21 : decode cX6_corner 21 = .ok (.getfield 10, 3) := by decide +kernel
theorem dX6_corner_24 : decode cX6_corner 24 = .ok (.iload_n 1, 1) := by decide +kernel
theorem dX6_corner_25 : decode cX6_corner 25 = .ok (.iload_n 2, 1) := by decide +kernel
theorem dX6_corner_26 : decode cX6_corner 26 = .ok (.invokevirtual 111, 3) := by decide +kernel
theorem dX6_corner_29 : decode cX6_corner 29 = .ok (.ireturn, 1) := by decide +kernel
theorem dX6_walker_0 : decode cX6_walker 0 = .ok (.aload_n 0, 1) := by decide +kernel
theorem dX6_walker_1 : decode cX6_walker 1 = .ok (.getfield 10, 3) := by decide +kernel
theorem dX6_walker_4 : decode cX6_walker 4 = .ok (.iload_n 1, 1) := by decide +kernel
theorem dX6_walker_5 : decode cX6_walker 5 = .ok (.invokevirtual 115, 3) := by decide +kernel
theorem dX6_walker_8 : decode cX6_walker 8 = .ok (.ifCond .ne 5, 3) := by decide +kernel
theorem dX6_walker_11 : decode cX6_walker 11 = .ok (.iconst (-1), 1) := by decide +kernel
theorem dX6_walker_12 : decode cX6_walker 12 = .ok (.ireturn, 1) := by decide +kernel
theorem dX6_walker_13 : decode cX6_walker 13 = .ok (.aload_n 0, 1) := by decide +kernel
theorem dX6_walker_14 : decode cX6_walker 14 = .ok (.getfield 10, 3) := by decide +kernel
theorem dX6_walker_17 : decode cX6_walker 17 = .ok (.getfield 118, 3) := by decide +kernel
theorem dX6_walker_20 : decode cX6_walker 20 = .ok (.iload_n 1, 1) := by decide +kernel
theorem dX6_walker_21 : decode cX6_walker 21 = .ok (.aaload, 1) := by decide +kernel
theorem dX6_walker_22 : decode cX6_walker 22 = .ok (.astore_n 3, 1) := by decide +kernel
theorem dX6_walker_23 : decode cX6_walker 23 = .ok (.iload_n 2, 1) := by decide +kernel
theorem dX6_walker_24 : decode cX6_walker 24 = .ok (.tableswitch 62 0 3 #[32, 37, 49, 57], 32) := by decide +kernel
theorem dX6_walker_56 : decode cX6_walker 56 = .ok (.aload_n 3, 1) := by decide +kernel
theorem dX6_walker_57 : decode cX6_walker 57 = .ok (.getfield 122, 3) := by decide +kernel
theorem dX6_walker_60 : decode cX6_walker 60 = .ok (.ireturn, 1) := by decide +kernel
theorem dX6_walker_61 : decode cX6_walker 61 = .ok (.aload_n 3, 1) := by decide +kernel
theorem dX6_walker_62 : decode cX6_walker 62 = .ok (.aload_n 0, 1) := by decide +kernel
theorem dX6_walker_63 : decode cX6_walker 63 = .ok (.getfield 10, 3) := by decide +kernel
theorem dX6_walker_66 : decode cX6_walker 66 = .ok (.getfield 85, 3) := by decide +kernel
theorem dX6_walker_69 : decode cX6_walker 69 = .ok (.invokevirtual 125, 3) := by decide +kernel
theorem dX6_walker_72 : decode cX6_walker 72 = .ok (.ireturn, 1) := by decide +kernel
theorem dX6_walker_73 : decode cX6_walker 73 = .ok (.aload_n 3, 1) := by decide +kernel
theorem dX6_walker_74 : decode cX6_walker 74 = .ok (.getfield 129, 3) := by decide +kernel
theorem dX6_walker_77 : decode cX6_walker 77 = .ok (.invokestatic 101, 3) := by decide +kernel
theorem dX6_walker_80 : decode cX6_walker 80 = .ok (.ireturn, 1) := by decide +kernel
theorem dX6_walker_81 : decode cX6_walker 81 = .ok (.aload_n 3, 1) := by decide +kernel
theorem dX6_walker_82 : decode cX6_walker 82 = .ok (.invokevirtual 133, 3) := by decide +kernel
theorem dX6_walker_85 : decode cX6_walker 85 = .ok (.ireturn, 1) := by decide +kernel
theorem dX6_walker_86 : decode cX6_walker 86 = .ok (.iconst (-1), 1) := by decide +kernel
theorem dX6_walker_87 : decode cX6_walker 87 = .ok (.ireturn, 1) := by decide +kernel
theorem dX6_letter_0 : decode cX6_letter 0 = .ok (.aload_n 0, 1) := by decide +kernel
theorem dX6_letter_1 : decode cX6_letter 1 = .ok (.getfield 10, 3) := by decide +kernel
theorem dX6_letter_4 : decode cX6_letter 4 = .ok (.iload_n 1, 1) := by decide +kernel
theorem dX6_letter_5 : decode cX6_letter 5 = .ok (.invokevirtual 115, 3) := by decide +kernel
theorem dX6_letter_8 : decode cX6_letter 8 = .ok (.ifCond .ne 5, 3) := by decide +kernel
theorem dX6_letter_11 : decode cX6_letter 11 = .ok (.iconst (-1), 1) := by decide +kernel
theorem dX6_letter_12 : decode cX6_letter 12 = .ok (.ireturn, 1) := by decide +kernel
theorem dX6_letter_13 : decode cX6_letter 13 = .ok (.aload_n 0, 1) := by decide +kernel
theorem dX6_letter_14 : decode cX6_letter 14 = .ok (.getfield 10, 3) := by decide +kernel
theorem dX6_letter_17 : decode cX6_letter 17 = .ok (.getfield 118, 3) := by decide +kernel
theorem dX6_letter_20 : decode cX6_letter 20 = .ok (.iload_n 1, 1) := by decide +kernel
theorem dX6_letter_21 : decode cX6_letter 21 = .ok (.aaload, 1) := by decide +kernel
theorem dX6_letter_22 : decode cX6_letter 22 = .ok (.astore_n 3, 1) := by decide +kernel
theorem dX6_letter_23 : decode cX6_letter 23 = .ok (.iload_n 2, 1) := by decide +kernel
theorem dX6_letter_24 : decode cX6_letter 24 = .ok (.ifCond .lt 11, 3) := by decide +kernel
theorem dX6_letter_27 : decode cX6_letter 27 = .ok (.iload_n 2, 1) := by decide +kernel
theorem dX6_letter_28 : decode cX6_letter 28 = .ok (.aload_n 3, 1) := by decide +kernel
theorem dX6_letter_29 : decode cX6_letter 29 = .ok (.getfield 136, 3) := by decide +kernel
theorem dX6_letter_32 : decode cX6_letter 32 = .ok (.if_icmp .lt 5, 3) := by decide +kernel
theorem dX6_letter_35 : decode cX6_letter 35 = .ok (.iconst (-1), 1) := by decide +kernel
theorem dX6_letter_36 : decode cX6_letter 36 = .ok (.ireturn, 1) := by decide +kernel
theorem dX6_letter_37 : decode cX6_letter 37 = .ok (.aload_n 3, 1) := by decide +kernel
theorem dX6_letter_38 : decode cX6_letter 38 = .ok (.iload_n 2, 1) := by decide +kernel
theorem dX6_letter_39 : decode cX6_letter 39 = .ok (.invokevirtual 137, 3) := by decide +kernel
theorem dX6_letter_42 : decode cX6_letter 42 = .ok (.ireturn, 1) := by decide +kernel
theorem dX6_gloves_0 : decode cX6_gloves 0 = .ok (.iload_n 1, 1) := by decide +kernel
theorem dX6_gloves_1 : decode cX6_gloves 1 = .ok (.tableswitch 85 0 2 #[27, 46, 65], 27) := by decide +kernel
theorem dX6_gloves_28 : decode cX6_gloves 28 = .ok (.aload_n 0, 1) := by decide +kernel
theorem dX6_gloves_29 : decode cX6_gloves 29 = .ok (.getfield 10, 3) := by decide +kernel
theorem dX6_gloves_32 : decode cX6_gloves 32 = .ok (.iconst 0, 1) := by decide +kernel
theorem dX6_gloves_33 : decode cX6_gloves 33 = .ok (.aload_n 0, 1) := by decide +kernel
theorem dX6_gloves_34 : decode cX6_gloves 34 = .ok (.getfield 10, 3) := by decide +kernel
theorem dX6_gloves_37 : decode cX6_gloves 37 = .ok (.getfield 85, 3) := by decide +kernel
theorem dX6_gloves_40 : decode cX6_gloves 40 = .ok (.invokestatic 97, 3) := by decide +kernel
theorem dX6_gloves_43 : decode cX6_gloves 43 = .ok (.invokevirtual 140, 3) := by decide +kernel
theorem dX6_gloves_46 : decode cX6_gloves 46 = .ok (.ireturn, 1) := by decide +kernel
theorem dX6_gloves_47 : decode cX6_gloves 47 = .ok (.aload_n 0, 1) := by decide +kernel
theorem dX6_gloves_48 : decode cX6_gloves 48 = .ok (.getfield 10, 3) := by decide +kernel
theorem dX6_gloves_51 : decode cX6_gloves 51 = .ok (.iconst 1, 1) := by decide +kernel
theorem dX6_gloves_52 : decode cX6_gloves 52 = .ok (.aload_n 0, 1) := by decide +kernel
theorem dX6_gloves_53 : decode cX6_gloves 53 = .ok (.getfield 10, 3) := by decide +kernel
theorem dX6_gloves_56 : decode cX6_gloves 56 = .ok (.getfield 85, 3) := by decide +kernel
theorem dX6_gloves_59 : decode cX6_gloves 59 = .ok (.invokestatic 97, 3) := by decide +kernel
theorem dX6_gloves_62 : decode cX6_gloves 62 = .ok (.invokevirtual 140, 3) := by decide +kernel
theorem dX6_gloves_65 : decode cX6_gloves 65 = .ok (.ireturn, 1) := by decide +kernel
theorem dX6_gloves_66 : decode cX6_gloves 66 = .ok (.aload_n 0, 1) := by decide +kernel
theorem dX6_gloves_67 : decode cX6_gloves 67 = .ok (.getfield 10, 3) := by decide +kernel
theorem dX6_gloves_70 : decode cX6_gloves 70 = .ok (.iconst 0, 1) := by decide +kernel
theorem dX6_gloves_71 : decode cX6_gloves 71 = .ok (.iconst 0, 1) := by decide +kernel
theorem dX6_gloves_72 : decode cX6_gloves 72 = .ok (.invokevirtual 140, 3) := by decide +kernel
theorem dX6_gloves_75 : decode cX6_gloves 75 = .ok (.aload_n 0, 1) := by decide +kernel
theorem dX6_gloves_76 : decode cX6_gloves 76 = .ok (.getfield 10, 3) := by decide +kernel
theorem dX6_gloves_79 : decode cX6_gloves 79 = .ok (.iconst 1, 1) := by decide +kernel
theorem dX6_gloves_80 : decode cX6_gloves 80 = .ok (.iconst 0, 1) := by decide +kernel
theorem dX6_gloves_81 : decode cX6_gloves 81 = .ok (.invokevirtual 140, 3) := by decide +kernel
theorem dX6_gloves_84 : decode cX6_gloves 84 = .ok (.iadd, 1) := by decide +kernel
theorem dX6_gloves_85 : decode cX6_gloves 85 = .ok (.ireturn, 1) := by decide +kernel
theorem dX6_gloves_86 : decode cX6_gloves 86 = .ok (.iconst (-1), 1) := by decide +kernel
theorem dX6_gloves_87 : decode cX6_gloves 87 = .ok (.ireturn, 1) := by decide +kernel
theorem dX6_leads_0 : decode cX6_leads 0 = .ok (.aload_n 0, 1) := by decide +kernel
theorem dX6_leads_1 : decode cX6_leads 1 = .ok (.getfield 10, 3) := by decide +kernel
theorem dX6_leads_4 : decode cX6_leads 4 = .ok (.iload_n 1, 1) := by decide +kernel
theorem dX6_leads_5 : decode cX6_leads 5 = .ok (.invokevirtual 105, 3) := by decide +kernel
theorem dX6_leads_8 : decode cX6_leads 8 = .ok (.ifCond .eq 17, 3) := by decide +kernel
theorem dX6_leads_11 : decode cX6_leads 11 = .ok (.iload_n 2, 1) := by decide +kernel
theorem dX6_leads_12 : decode cX6_leads 12 = .ok (.invokestatic 108, 3) := by decide +kernel
theorem dX6_leads_15 : decode cX6_leads 15 = .ok (.ifCond .eq 10, 3) := by decide +kernel
theorem dX6_leads_18 : decode cX6_leads 18 = .ok (.iload_n 3, 1) := by decide +kernel
theorem dX6_leads_19 : decode cX6_leads 19 = .ok (.invokestatic 144, 3) := by decide +kernel
theorem dX6_leads_22 : decode cX6_leads 22 = .ok (.ifCond .ne 5, 3) := by decide +kernel
theorem dX6_leads_25 : decode cX6_leads 25 = .ok (.iconst (-1), 1) := by decide +kernel
theorem dX6_leads_26 : decode cX6_leads 26 = .ok (.ireturn, 1) := by decide +kernel
theorem dX6_leads_27 : decode cX6_leads 27 = .ok (.aload_n 0, 1) := by decide +kernel
theorem dX6_leads_28 : decode cX6_leads 28 = .ok (.getfield 10, 3) := by decide +kernel
theorem dX6_leads_31 : decode cX6_leads 31 = .ok (.iload_n 1, 1) := by decide +kernel
theorem dX6_leads_32 : decode cX6_leads 32 = .ok (.iload_n 2, 1) := by decide +kernel
theorem dX6_leads_33 : decode cX6_leads 33 = .ok (.iload_n 3, 1) := by decide +kernel
theorem dX6_leads_34 : decode cX6_leads 34 = .ok (.iconst 0, 1) := by decide +kernel
theorem dX6_leads_35 : decode cX6_leads 35 = .ok (.invokevirtual 147, 3) := by decide +kernel
theorem dX6_leads_38 : decode cX6_leads 38 = .ok (.ireturn, 1) := by decide +kernel
theorem dX6_street_0 : decode cX6_street 0 = .ok (.aload_n 0, 1) := by decide +kernel
theorem dX6_street_1 : decode cX6_street 1 = .ok (.getfield 10, 3) := by decide +kernel
theorem dX6_street_4 : decode cX6_street 4 = .ok (.iload_n 1, 1) := by decide +kernel
theorem dX6_street_5 : decode cX6_street 5 = .ok (.invokevirtual 105, 3) := by decide +kernel
theorem dX6_street_8 : decode cX6_street 8 = .ok (.ifCond .eq 27, 3) := by decide +kernel
theorem dX6_street_11 : decode cX6_street 11 = .ok (.iload_n 2, 1) := by decide +kernel
theorem dX6_street_12 : decode cX6_street 12 = .ok (.invokestatic 108, 3) := by decide +kernel
theorem dX6_street_15 : decode cX6_street 15 = .ok (.ifCond .eq 20, 3) := by decide +kernel
theorem dX6_street_18 : decode cX6_street 18 = .ok (.iload_n 3, 1) := by decide +kernel
theorem dX6_street_19 : decode cX6_street 19 = .ok (.bipush (-4), 2) := by decide +kernel
theorem dX6_street_21 : decode cX6_street 21 = .ok (.if_icmp .eq 16, 3) := by decide +kernel
theorem dX6_street_24 : decode cX6_street 24 = .ok (.aload_n 0, 1) := by decide +kernel
theorem dX6_street_25 : decode cX6_street 25 = .ok (.getfield 10, 3) := by decide +kernel
theorem dX6_street_28 : decode cX6_street 28 = .ok (.iload_n 3, 1) := by decide +kernel
theorem dX6_street_29 : decode cX6_street 29 = .ok (.invokevirtual 105, 3) := by decide +kernel
theorem dX6_street_32 : decode cX6_street 32 = .ok (.ifCond .ne 5, 3) := by decide +kernel
theorem dX6_street_35 : decode cX6_street 35 = .ok (.iconst (-1), 1) := by decide +kernel
theorem dX6_street_36 : decode cX6_street 36 = .ok (.ireturn, 1) := by decide +kernel
theorem dX6_street_37 : decode cX6_street 37 = .ok (.aload_n 0, 1) := by decide +kernel
theorem dX6_street_38 : decode cX6_street 38 = .ok (.getfield 10, 3) := by decide +kernel
theorem dX6_street_41 : decode cX6_street 41 = .ok (.iload_n 1, 1) := by decide +kernel
theorem dX6_street_42 : decode cX6_street 42 = .ok (.iload_n 2, 1) := by decide +kernel
theorem dX6_street_43 : decode cX6_street 43 = .ok (.invokevirtual 111, 3) := by decide +kernel
theorem dX6_street_46 : decode cX6_street 46 = .ok (.istore 4, 2) := by decide +kernel
theorem dX6_street_48 : decode cX6_street 48 = .ok (.aload_n 0, 1) := by decide +kernel
theorem dX6_street_49 : decode cX6_street 49 = .ok (.getfield 10, 3) := by decide +kernel
theorem dX6_street_52 : decode cX6_street 52 = .ok (.iload_n 1, 1) := by decide +kernel
theorem dX6_street_53 : decode cX6_street 53 = .ok (.iload_n 2, 1) := by decide +kernel
theorem dX6_street_54 : decode cX6_street 54 = .ok (.iload_n 3, 1) := by decide +kernel
theorem dX6_street_55 : decode cX6_street 55 = .ok (.invokevirtual 151, 3) := by decide +kernel
theorem dX6_street_58 : decode cX6_street 58 = .ok (.iload 4, 2) := by decide +kernel
theorem dX6_street_60 : decode cX6_street 60 = .ok (.ireturn, 1) := by decide +kernel
theorem dX6_sign_0 : decode cX6_sign 0 = .ok (.aload_n 0, 1) := by decide +kernel
theorem dX6_sign_1 : decode cX6_sign 1 = .ok (.getfield 10, 3) := by decide +kernel
theorem dX6_sign_4 : decode cX6_sign 4 = .ok (.iload_n 1, 1) := by decide +kernel
theorem dX6_sign_5 : decode cX6_sign 5 = .ok (.invokevirtual 105, 3) := by decide +kernel
theorem dX6_sign_8 : decode cX6_sign 8 = .ok (.ifCond .ne 5, 3) := by decide +kernel
theorem dX6_sign_11 : decode cX6_sign 11 = .ok (.iconst (-1), 1) := by decide +kernel
theorem dX6_sign_12 : decode cX6_sign 12 = .ok (.ireturn, 1) := by decide +kernel
theorem dX6_sign_13 : decode cX6_sign 13 = .ok (.aload_n 0, 1) := by decide +kernel
theorem dX6_sign_14 : decode cX6_sign 14 = .ok (.getfield 10, 3) := by decide +kernel
theorem dX6_sign_17 : decode cX6_sign 17 = .ok (.iload_n 1, 1) := by decide +kernel
theorem dX6_sign_18 : decode cX6_sign 18 = .ok (.invokevirtual 155, 3) := by decide +kernel
theorem dX6_sign_21 : decode cX6_sign 21 = .ok (.invokestatic 101, 3) := by decide +kernel
theorem dX6_sign_24 : decode cX6_sign 24 = .ok (.istore_n 3, 1) := by decide +kernel
theorem dX6_sign_25 : decode cX6_sign 25 = .ok (.iload_n 2, 1) := by decide +kernel
theorem dX6_sign_26 : decode cX6_sign 26 = .ok (.ifCond .eq 21, 3) := by decide +kernel
theorem dX6_sign_29 : decode cX6_sign 29 = .ok (.aload_n 0, 1) := by decide +kernel
theorem dX6_sign_30 : decode cX6_sign 30 = .ok (.getfield 10, 3) := by decide +kernel
theorem dX6_sign_33 : decode cX6_sign 33 = .ok (.dup, 1) := by decide +kernel
theorem dX6_sign_34 : decode cX6_sign 34 = .ok (.getfield 91, 3) := by decide +kernel
theorem dX6_sign_37 : decode cX6_sign 37 = .ok (.iconst 1, 1) := by decide +kernel
theorem dX6_sign_38 : decode cX6_sign 38 = .ok (.iload_n 1, 1) := by decide +kernel
theorem dX6_sign_39 : decode cX6_sign 39 = .ok (.ishl, 1) := by decide +kernel
theorem dX6_sign_40 : decode cX6_sign 40 = .ok (.ior, 1) := by decide +kernel
theorem dX6_sign_41 : decode cX6_sign 41 = .ok (.putfield 91, 3) := by decide +kernel
theorem dX6_sign_44 : decode cX6_sign 44 = .ok (.goto 20, 3) := by decide +kernel
theorem dX6_sign_47 : decode cX6_sign 47 = .ok (.aload_n 0, 1) := by decide +kernel
theorem dX6_sign_48 : decode cX6_sign 48 = .ok (.getfield 10, 3) := by decide +kernel
theorem dX6_sign_51 : decode cX6_sign 51 = .ok (.dup, 1) := by decide +kernel
theorem dX6_sign_52 : decode cX6_sign 52 = .ok (.getfield 91, 3) := by decide +kernel
theorem dX6_sign_55 : decode cX6_sign 55 = .ok (.iconst 1, 1) := by decide +kernel
theorem dX6_sign_56 : decode cX6_sign 56 = .ok (.iload_n 1, 1) := by decide +kernel
theorem dX6_sign_57 : decode cX6_sign 57 = .ok (.ishl, 1) := by decide +kernel
theorem dX6_sign_58 : decode cX6_sign 58 = .ok (.iconst (-1), 1) := by decide +kernel
theorem dX6_sign_59 : decode cX6_sign 59 = .ok (.ixor, 1) := by decide +kernel
theorem dX6_sign_60 : decode cX6_sign 60 = .ok (.iand, 1) := by decide +kernel
theorem dX6_sign_61 : decode cX6_sign 61 = .ok (.putfield 91, 3) := by decide +kernel
theorem dX6_sign_64 : decode cX6_sign 64 = .ok (.iload_n 3, 1) := by decide +kernel
theorem dX6_sign_65 : decode cX6_sign 65 = .ok (.ireturn, 1) := by decide +kernel
theorem dX6_clock_0 : decode cX6_clock 0 = .ok (.iload_n 1, 1) := by decide +kernel
theorem dX6_clock_1 : decode cX6_clock 1 = .ok (.invokestatic 144, 3) := by decide +kernel
theorem dX6_clock_4 : decode cX6_clock 4 = .ok (.ifCond .ne 5, 3) := by decide +kernel
theorem dX6_clock_7 : decode cX6_clock 7 = .ok (.iconst (-1), 1) := by decide +kernel
theorem dX6_clock_8 : decode cX6_clock 8 = .ok (.ireturn, 1) := by decide +kernel
theorem dX6_clock_9 : decode cX6_clock 9 = .ok (.aload_n 0, 1) := by decide +kernel
theorem dX6_clock_10 : decode cX6_clock 10 = .ok (.getfield 10, 3) := by decide +kernel
theorem dX6_clock_13 : decode cX6_clock 13 = .ok (.getfield 85, 3) := by decide +kernel
theorem dX6_clock_16 : decode cX6_clock 16 = .ok (.bipush 24, 2) := by decide +kernel
theorem dX6_clock_18 : decode cX6_clock 18 = .ok (.irem, 1) := by decide +kernel
theorem dX6_clock_19 : decode cX6_clock 19 = .ok (.istore_n 2, 1) := by decide +kernel
theorem dX6_clock_20 : decode cX6_clock 20 = .ok (.aload_n 0, 1) := by decide +kernel
theorem dX6_clock_21 : decode cX6_clock 21 = .ok (.getfield 10, 3) := by decide +kernel
theorem dX6_clock_24 : decode cX6_clock 24 = .ok (.iload_n 1, 1) := by decide +kernel
theorem dX6_clock_25 : decode cX6_clock 25 = .ok (.putfield 85, 3) := by decide +kernel
theorem dX6_clock_28 : decode cX6_clock 28 = .ok (.iload_n 2, 1) := by decide +kernel
theorem dX6_clock_29 : decode cX6_clock 29 = .ok (.ireturn, 1) := by decide +kernel
theorem dX6_put_0 : decode cX6_put 0 = .ok (.aload_n 0, 1) := by decide +kernel
theorem dX6_put_1 : decode cX6_put 1 = .ok (.getfield 10, 3) := by decide +kernel
theorem dX6_put_4 : decode cX6_put 4 = .ok (.iload_n 1, 1) := by decide +kernel
theorem dX6_put_5 : decode cX6_put 5 = .ok (.invokevirtual 115, 3) := by decide +kernel
theorem dX6_put_8 : decode cX6_put 8 = .ok (.ifCond .eq 14, 3) := by decide +kernel
theorem dX6_put_11 : decode cX6_put 11 = .ok (.aload_n 0, 1) := by decide +kernel
theorem dX6_put_12 : decode cX6_put 12 = .ok (.getfield 10, 3) := by decide +kernel
theorem dX6_put_15 : decode cX6_put 15 = .ok (.iload_n 2, 1) := by decide +kernel
theorem dX6_put_16 : decode cX6_put 16 = .ok (.invokevirtual 105, 3) := by decide +kernel
theorem dX6_put_19 : decode cX6_put 19 = .ok (.ifCond .ne 5, 3) := by decide +kernel
theorem dX6_put_22 : decode cX6_put 22 = .ok (.iconst (-1), 1) := by decide +kernel
theorem dX6_put_23 : decode cX6_put 23 = .ok (.ireturn, 1) := by decide +kernel
theorem dX6_put_24 : decode cX6_put 24 = .ok (.aload_n 0, 1) := by decide +kernel
theorem dX6_put_25 : decode cX6_put 25 = .ok (.getfield 10, 3) := by decide +kernel
theorem dX6_put_28 : decode cX6_put 28 = .ok (.getfield 118, 3) := by decide +kernel
theorem dX6_put_31 : decode cX6_put 31 = .ok (.iload_n 1, 1) := by decide +kernel
theorem dX6_put_32 : decode cX6_put 32 = .ok (.aaload, 1) := by decide +kernel
theorem dX6_put_33 : decode cX6_put 33 = .ok (.astore_n 3, 1) := by decide +kernel
theorem dX6_put_34 : decode cX6_put 34 = .ok (.aload_n 3, 1) := by decide +kernel
theorem dX6_put_35 : decode cX6_put 35 = .ok (.getfield 122, 3) := by decide +kernel
theorem dX6_put_38 : decode cX6_put 38 = .ok (.istore 4, 2) := by decide +kernel
theorem dX6_put_40 : decode cX6_put 40 = .ok (.aload_n 3, 1) := by decide +kernel
theorem dX6_put_41 : decode cX6_put 41 = .ok (.iload_n 2, 1) := by decide +kernel
theorem dX6_put_42 : decode cX6_put 42 = .ok (.putfield 122, 3) := by decide +kernel
theorem dX6_put_45 : decode cX6_put 45 = .ok (.iload 4, 2) := by decide +kernel
theorem dX6_put_47 : decode cX6_put 47 = .ok (.ireturn, 1) := by decide +kernel
theorem dX6_keeps_0 : decode cX6_keeps 0 = .ok (.aload_n 0, 1) := by decide +kernel
theorem dX6_keeps_1 : decode cX6_keeps 1 = .ok (.getfield 10, 3) := by decide +kernel
theorem dX6_keeps_4 : decode cX6_keeps 4 = .ok (.iload_n 1, 1) := by decide +kernel
theorem dX6_keeps_5 : decode cX6_keeps 5 = .ok (.invokevirtual 115, 3) := by decide +kernel
theorem dX6_keeps_8 : decode cX6_keeps 8 = .ok (.ifCond .ne 5, 3) := by decide +kernel
theorem dX6_keeps_11 : decode cX6_keeps 11 = .ok (.iconst (-1), 1) := by decide +kernel
theorem dX6_keeps_12 : decode cX6_keeps 12 = .ok (.ireturn, 1) := by decide +kernel
theorem dX6_keeps_13 : decode cX6_keeps 13 = .ok (.aload_n 0, 1) := by decide +kernel
theorem dX6_keeps_14 : decode cX6_keeps 14 = .ok (.getfield 10, 3) := by decide +kernel
theorem dX6_keeps_17 : decode cX6_keeps 17 = .ok (.getfield 118, 3) := by decide +kernel
theorem dX6_keeps_20 : decode cX6_keeps 20 = .ok (.iload_n 1, 1) := by decide +kernel
theorem dX6_keeps_21 : decode cX6_keeps 21 = .ok (.aaload, 1) := by decide +kernel
theorem dX6_keeps_22 : decode cX6_keeps 22 = .ok (.astore_n 3, 1) := by decide +kernel
theorem dX6_keeps_23 : decode cX6_keeps 23 = .ok (.aload_n 3, 1) := by decide +kernel
theorem dX6_keeps_24 : decode cX6_keeps 24 = .ok (.getfield 129, 3) := by decide +kernel
theorem dX6_keeps_27 : decode cX6_keeps 27 = .ok (.invokestatic 101, 3) := by decide +kernel
theorem dX6_keeps_30 : decode cX6_keeps 30 = .ok (.istore 4, 2) := by decide +kernel
theorem dX6_keeps_32 : decode cX6_keeps 32 = .ok (.aload_n 3, 1) := by decide +kernel
theorem dX6_keeps_33 : decode cX6_keeps 33 = .ok (.iload_n 2, 1) := by decide +kernel
theorem dX6_keeps_34 : decode cX6_keeps 34 = .ok (.putfield 129, 3) := by decide +kernel
theorem dX6_keeps_37 : decode cX6_keeps 37 = .ok (.iload 4, 2) := by decide +kernel
theorem dX6_keeps_39 : decode cX6_keeps 39 = .ok (.ireturn, 1) := by decide +kernel
theorem dX6_adds_0 : decode cX6_adds 0 = .ok (.aload_n 0, 1) := by decide +kernel
theorem dX6_adds_1 : decode cX6_adds 1 = .ok (.getfield 10, 3) := by decide +kernel
theorem dX6_adds_4 : decode cX6_adds 4 = .ok (.iload_n 1, 1) := by decide +kernel
theorem dX6_adds_5 : decode cX6_adds 5 = .ok (.invokevirtual 115, 3) := by decide +kernel
theorem dX6_adds_8 : decode cX6_adds 8 = .ok (.ifCond .eq 10, 3) := by decide +kernel
theorem dX6_adds_11 : decode cX6_adds 11 = .ok (.iload_n 2, 1) := by decide +kernel
theorem dX6_adds_12 : decode cX6_adds 12 = .ok (.invokestatic 108, 3) := by decide +kernel
theorem dX6_adds_15 : decode cX6_adds 15 = .ok (.ifCond .ne 5, 3) := by decide +kernel
theorem dX6_adds_18 : decode cX6_adds 18 = .ok (.iconst (-1), 1) := by decide +kernel
theorem dX6_adds_19 : decode cX6_adds 19 = .ok (.ireturn, 1) := by decide +kernel
theorem dX6_adds_20 : decode cX6_adds 20 = .ok (.aload_n 0, 1) := by decide +kernel
theorem dX6_adds_21 : decode cX6_adds 21 = .ok (.getfield 10, 3) := by decide +kernel
theorem dX6_adds_24 : decode cX6_adds 24 = .ok (.getfield 118, 3) := by decide +kernel
theorem dX6_adds_27 : decode cX6_adds 27 = .ok (.iload_n 1, 1) := by decide +kernel
theorem dX6_adds_28 : decode cX6_adds 28 = .ok (.aaload, 1) := by decide +kernel
theorem dX6_adds_29 : decode cX6_adds 29 = .ok (.astore_n 3, 1) := by decide +kernel
theorem dX6_adds_30 : decode cX6_adds 30 = .ok (.aload_n 3, 1) := by decide +kernel
theorem dX6_adds_31 : decode cX6_adds 31 = .ok (.getfield 136, 3) := by decide +kernel
theorem dX6_adds_34 : decode cX6_adds 34 = .ok (.bipush 10, 2) := by decide +kernel
theorem dX6_adds_36 : decode cX6_adds 36 = .ok (.if_icmp .lt 6, 3) := by decide +kernel
theorem dX6_adds_39 : decode cX6_adds 39 = .ok (.bipush (-3), 2) := by decide +kernel
theorem dX6_adds_41 : decode cX6_adds 41 = .ok (.ireturn, 1) := by decide +kernel
theorem dX6_adds_42 : decode cX6_adds 42 = .ok (.aload_n 3, 1) := by decide +kernel
theorem dX6_adds_43 : decode cX6_adds 43 = .ok (.iload_n 2, 1) := by decide +kernel
theorem dX6_adds_44 : decode cX6_adds 44 = .ok (.invokevirtual 158, 3) := by decide +kernel
theorem dX6_adds_47 : decode cX6_adds 47 = .ok (.aload_n 3, 1) := by decide +kernel
theorem dX6_adds_48 : decode cX6_adds 48 = .ok (.getfield 136, 3) := by decide +kernel
theorem dX6_adds_51 : decode cX6_adds 51 = .ok (.ireturn, 1) := by decide +kernel
theorem dX6_again_0 : decode cX6_again 0 = .ok (.aload_n 0, 1) := by decide +kernel
theorem dX6_again_1 : decode cX6_again 1 = .ok (.getfield 10, 3) := by decide +kernel
theorem dX6_again_4 : decode cX6_again 4 = .ok (.iload_n 1, 1) := by decide +kernel
theorem dX6_again_5 : decode cX6_again 5 = .ok (.invokevirtual 115, 3) := by decide +kernel
theorem dX6_again_8 : decode cX6_again 8 = .ok (.ifCond .ne 5, 3) := by decide +kernel
theorem dX6_again_11 : decode cX6_again 11 = .ok (.iconst (-1), 1) := by decide +kernel
theorem dX6_again_12 : decode cX6_again 12 = .ok (.ireturn, 1) := by decide +kernel
theorem dX6_again_13 : decode cX6_again 13 = .ok (.aload_n 0, 1) := by decide +kernel
theorem dX6_again_14 : decode cX6_again 14 = .ok (.getfield 10, 3) := by decide +kernel
theorem dX6_again_17 : decode cX6_again 17 = .ok (.getfield 118, 3) := by decide +kernel
theorem dX6_again_20 : decode cX6_again 20 = .ok (.iload_n 1, 1) := by decide +kernel
theorem dX6_again_21 : decode cX6_again 21 = .ok (.aaload, 1) := by decide +kernel
theorem dX6_again_22 : decode cX6_again 22 = .ok (.astore_n 2, 1) := by decide +kernel
theorem dX6_again_23 : decode cX6_again 23 = .ok (.aload_n 2, 1) := by decide +kernel
theorem dX6_again_24 : decode cX6_again 24 = .ok (.getfield 162, 3) := by decide +kernel
theorem dX6_again_27 : decode cX6_again 27 = .ok (.istore_n 3, 1) := by decide +kernel
theorem dX6_again_28 : decode cX6_again 28 = .ok (.aload_n 2, 1) := by decide +kernel
theorem dX6_again_29 : decode cX6_again 29 = .ok (.iconst 0, 1) := by decide +kernel
theorem dX6_again_30 : decode cX6_again 30 = .ok (.putfield 162, 3) := by decide +kernel
theorem dX6_again_33 : decode cX6_again 33 = .ok (.iload_n 3, 1) := by decide +kernel
theorem dX6_again_34 : decode cX6_again 34 = .ok (.ireturn, 1) := by decide +kernel
theorem dX6_buy_0 : decode cX6_buy 0 = .ok (.iload_n 1, 1) := by decide +kernel
theorem dX6_buy_1 : decode cX6_buy 1 = .ok (.ifCond .lt 25, 3) := by decide +kernel
theorem dX6_buy_4 : decode cX6_buy 4 = .ok (.iload_n 1, 1) := by decide +kernel
theorem dX6_buy_5 : decode cX6_buy 5 = .ok (.aload_n 0, 1) := by decide +kernel
theorem dX6_buy_6 : decode cX6_buy 6 = .ok (.getfield 10, 3) := by decide +kernel
theorem dX6_buy_9 : decode cX6_buy 9 = .ok (.getfield 165, 3) := by decide +kernel
theorem dX6_buy_12 : decode cX6_buy 12 = .ok (.arraylength, 1) := by decide +kernel
theorem dX6_buy_13 : decode cX6_buy 13 = .ok (.if_icmp .ge 13, 3) := by decide +kernel
theorem dX6_buy_16 : decode cX6_buy 16 = .ok (.iload_n 2, 1) := by decide +kernel
theorem dX6_buy_17 : decode cX6_buy 17 = .ok (.ifCond .lt 9, 3) := by decide +kernel
theorem dX6_buy_20 : decode cX6_buy 20 = .ok (.iload_n 2, 1) := by decide +kernel
theorem dX6_buy_21 : decode cX6_buy 21 = .ok (.bipush 9, 2) := by decide +kernel
theorem dX6_buy_23 : decode cX6_buy 23 = .ok (.if_icmp .le 5, 3) := by decide +kernel
theorem dX6_buy_26 : decode cX6_buy 26 = .ok (.iconst (-1), 1) := by decide +kernel
theorem dX6_buy_27 : decode cX6_buy 27 = .ok (.ireturn, 1) := by decide +kernel
theorem dX6_buy_28 : decode cX6_buy 28 = .ok (.aload_n 0, 1) := by decide +kernel
theorem dX6_buy_29 : decode cX6_buy 29 = .ok (.getfield 10, 3) := by decide +kernel
theorem dX6_buy_32 : decode cX6_buy 32 = .ok (.getfield 165, 3) := by decide +kernel
theorem dX6_buy_35 : decode cX6_buy 35 = .ok (.iload_n 1, 1) := by decide +kernel
theorem dX6_buy_36 : decode cX6_buy 36 = .ok (.iaload, 1) := by decide +kernel
theorem dX6_buy_37 : decode cX6_buy 37 = .ok (.istore_n 3, 1) := by decide +kernel
theorem dX6_buy_38 : decode cX6_buy 38 = .ok (.aload_n 0, 1) := by decide +kernel
theorem dX6_buy_39 : decode cX6_buy 39 = .ok (.getfield 10, 3) := by decide +kernel
theorem dX6_buy_42 : decode cX6_buy 42 = .ok (.getfield 165, 3) := by decide +kernel
theorem dX6_buy_45 : decode cX6_buy 45 = .ok (.iload_n 1, 1) := by decide +kernel
theorem dX6_buy_46 : decode cX6_buy 46 = .ok (.iload_n 2, 1) := by decide +kernel
theorem dX6_buy_47 : decode cX6_buy 47 = .ok (.iastore, 1) := by decide +kernel
theorem dX6_buy_48 : decode cX6_buy 48 = .ok (.iload_n 3, 1) := by decide +kernel
theorem dX6_buy_49 : decode cX6_buy 49 = .ok (.ireturn, 1) := by decide +kernel
theorem dX6_go_0 : decode cX6_go 0 = .ok (.iload_n 1, 1) := by decide +kernel
theorem dX6_go_1 : decode cX6_go 1 = .ok (.ifCond .lt 9, 3) := by decide +kernel
theorem dX6_go_4 : decode cX6_go 4 = .ok (.iload_n 1, 1) := by decide +kernel
theorem dX6_go_5 : decode cX6_go 5 = .ok (.bipush 60, 2) := by decide +kernel
theorem dX6_go_7 : decode cX6_go 7 = .ok (.if_icmp .le 5, 3) := by decide +kernel
theorem dX6_go_10 : decode cX6_go 10 = .ok (.iconst (-1), 1) := by decide +kernel
theorem dX6_go_11 : decode cX6_go 11 = .ok (.ireturn, 1) := by decide +kernel
theorem dX6_go_12 : decode cX6_go 12 = .ok (.aload_n 0, 1) := by decide +kernel
theorem dX6_go_13 : decode cX6_go 13 = .ok (.getfield 10, 3) := by decide +kernel
theorem dX6_go_16 : decode cX6_go 16 = .ok (.getfield 85, 3) := by decide +kernel
theorem dX6_go_19 : decode cX6_go 19 = .ok (.iload_n 1, 1) := by decide +kernel
theorem dX6_go_20 : decode cX6_go 20 = .ok (.iadd, 1) := by decide +kernel
theorem dX6_go_21 : decode cX6_go 21 = .ok (.sipush 999, 3) := by decide +kernel
theorem dX6_go_24 : decode cX6_go 24 = .ok (.if_icmp .le 6, 3) := by decide +kernel
theorem dX6_go_27 : decode cX6_go 27 = .ok (.bipush (-3), 2) := by decide +kernel
theorem dX6_go_29 : decode cX6_go 29 = .ok (.ireturn, 1) := by decide +kernel
theorem dX6_go_30 : decode cX6_go 30 = .ok (.iconst 0, 1) := by decide +kernel
theorem dX6_go_31 : decode cX6_go 31 = .ok (.istore_n 2, 1) := by decide +kernel
theorem dX6_go_32 : decode cX6_go 32 = .ok (.iconst 0, 1) := by decide +kernel
theorem dX6_go_33 : decode cX6_go 33 = .ok (.istore_n 3, 1) := by decide +kernel
theorem dX6_go_34 : decode cX6_go 34 = .ok (.iload_n 3, 1) := by decide +kernel
theorem dX6_go_35 : decode cX6_go 35 = .ok (.iload_n 1, 1) := by decide +kernel
theorem dX6_go_36 : decode cX6_go 36 = .ok (.if_icmp .ge 19, 3) := by decide +kernel
theorem dX6_go_39 : decode cX6_go 39 = .ok (.iload_n 2, 1) := by decide +kernel
theorem dX6_go_40 : decode cX6_go 40 = .ok (.aload_n 0, 1) := by decide +kernel
theorem dX6_go_41 : decode cX6_go 41 = .ok (.getfield 10, 3) := by decide +kernel
theorem dX6_go_44 : decode cX6_go 44 = .ok (.invokevirtual 168, 3) := by decide +kernel
theorem dX6_go_47 : decode cX6_go 47 = .ok (.iadd, 1) := by decide +kernel
theorem dX6_go_48 : decode cX6_go 48 = .ok (.istore_n 2, 1) := by decide +kernel
theorem dX6_go_49 : decode cX6_go 49 = .ok (.iinc 3 1, 3) := by decide +kernel
theorem dX6_go_52 : decode cX6_go 52 = .ok (.goto (-18), 3) := by decide +kernel
theorem dX6_go_55 : decode cX6_go 55 = .ok (.iload_n 2, 1) := by decide +kernel
theorem dX6_go_56 : decode cX6_go 56 = .ok (.ireturn, 1) := by decide +kernel
theorem dX6_ahead_0 : decode cX6_ahead 0 = .ok (.aload_n 0, 1) := by decide +kernel
theorem dX6_ahead_1 : decode cX6_ahead 1 = .ok (.getfield 10, 3) := by decide +kernel
theorem dX6_ahead_4 : decode cX6_ahead 4 = .ok (.iload_n 1, 1) := by decide +kernel
theorem dX6_ahead_5 : decode cX6_ahead 5 = .ok (.invokevirtual 115, 3) := by decide +kernel
theorem dX6_ahead_8 : decode cX6_ahead 8 = .ok (.ifCond .eq 20, 3) := by decide +kernel
theorem dX6_ahead_11 : decode cX6_ahead 11 = .ok (.iload_n 2, 1) := by decide +kernel
theorem dX6_ahead_12 : decode cX6_ahead 12 = .ok (.ifCond .lt 16, 3) := by decide +kernel
theorem dX6_ahead_15 : decode cX6_ahead 15 = .ok (.iload_n 2, 1) := by decide +kernel
theorem dX6_ahead_16 : decode cX6_ahead 16 = .ok (.bipush 60, 2) := by decide +kernel
theorem dX6_ahead_18 : decode cX6_ahead 18 = .ok (.if_icmp .gt 10, 3) := by decide +kernel
theorem dX6_ahead_21 : decode cX6_ahead 21 = .ok (.iload_n 3, 1) := by decide +kernel
theorem dX6_ahead_22 : decode cX6_ahead 22 = .ok (.invokestatic 108, 3) := by decide +kernel
theorem dX6_ahead_25 : decode cX6_ahead 25 = .ok (.ifCond .ne 5, 3) := by decide +kernel
theorem dX6_ahead_28 : decode cX6_ahead 28 = .ok (.iconst (-1), 1) := by decide +kernel
theorem dX6_ahead_29 : decode cX6_ahead 29 = .ok (.ireturn, 1) := by decide +kernel
theorem dX6_ahead_30 : decode cX6_ahead 30 = .ok (.aload_n 0, 1) := by decide +kernel
theorem dX6_ahead_31 : decode cX6_ahead 31 = .ok (.getfield 10, 3) := by decide +kernel
theorem dX6_ahead_34 : decode cX6_ahead 34 = .ok (.getfield 118, 3) := by decide +kernel
theorem dX6_ahead_37 : decode cX6_ahead 37 = .ok (.iload_n 1, 1) := by decide +kernel
theorem dX6_ahead_38 : decode cX6_ahead 38 = .ok (.aaload, 1) := by decide +kernel
theorem dX6_ahead_39 : decode cX6_ahead 39 = .ok (.astore 4, 2) := by decide +kernel
theorem dX6_ahead_41 : decode cX6_ahead 41 = .ok (.iload_n 3, 1) := by decide +kernel
theorem dX6_ahead_42 : decode cX6_ahead 42 = .ok (.iconst 1, 1) := by decide +kernel
theorem dX6_ahead_43 : decode cX6_ahead 43 = .ok (.if_icmp .ne 15, 3) := by decide +kernel
theorem dX6_ahead_46 : decode cX6_ahead 46 = .ok (.iconst 0, 1) := by decide +kernel
theorem dX6_ahead_47 : decode cX6_ahead 47 = .ok (.aload 4, 2) := by decide +kernel
theorem dX6_ahead_49 : decode cX6_ahead 49 = .ok (.invokevirtual 133, 3) := by decide +kernel
theorem dX6_ahead_52 : decode cX6_ahead 52 = .ok (.iload_n 2, 1) := by decide +kernel
theorem dX6_ahead_53 : decode cX6_ahead 53 = .ok (.isub, 1) := by decide +kernel
theorem dX6_ahead_54 : decode cX6_ahead 54 = .ok (.invokestatic 171, 3) := by decide +kernel
theorem dX6_ahead_57 : decode cX6_ahead 57 = .ok (.ireturn, 1) := by decide +kernel
theorem dX6_ahead_58 : decode cX6_ahead 58 = .ok (.aload_n 0, 1) := by decide +kernel
theorem dX6_ahead_59 : decode cX6_ahead 59 = .ok (.getfield 10, 3) := by decide +kernel
theorem dX6_ahead_62 : decode cX6_ahead 62 = .ok (.aload 4, 2) := by decide +kernel
theorem dX6_ahead_64 : decode cX6_ahead 64 = .ok (.aload 4, 2) := by decide +kernel
theorem dX6_ahead_66 : decode cX6_ahead 66 = .ok (.getfield 122, 3) := by decide +kernel
theorem dX6_ahead_69 : decode cX6_ahead 69 = .ok (.iload_n 2, 1) := by decide +kernel
theorem dX6_ahead_70 : decode cX6_ahead 70 = .ok (.aload 4, 2) := by decide +kernel
theorem dX6_ahead_72 : decode cX6_ahead 72 = .ok (.getfield 129, 3) := by decide +kernel
theorem dX6_ahead_75 : decode cX6_ahead 75 = .ok (.invokevirtual 176, 3) := by decide +kernel
theorem dX6_ahead_78 : decode cX6_ahead 78 = .ok (.ireturn, 1) := by decide +kernel
theorem dX6_clash_0 : decode cX6_clash 0 = .ok (.aload_n 0, 1) := by decide +kernel
theorem dX6_clash_1 : decode cX6_clash 1 = .ok (.getfield 10, 3) := by decide +kernel
theorem dX6_clash_4 : decode cX6_clash 4 = .ok (.iload_n 1, 1) := by decide +kernel
theorem dX6_clash_5 : decode cX6_clash 5 = .ok (.invokevirtual 115, 3) := by decide +kernel
theorem dX6_clash_8 : decode cX6_clash 8 = .ok (.ifCond .eq 19, 3) := by decide +kernel
theorem dX6_clash_11 : decode cX6_clash 11 = .ok (.aload_n 0, 1) := by decide +kernel
theorem dX6_clash_12 : decode cX6_clash 12 = .ok (.getfield 10, 3) := by decide +kernel
theorem dX6_clash_15 : decode cX6_clash 15 = .ok (.iload_n 2, 1) := by decide +kernel
theorem dX6_clash_16 : decode cX6_clash 16 = .ok (.invokevirtual 115, 3) := by decide +kernel
theorem dX6_clash_19 : decode cX6_clash 19 = .ok (.ifCond .eq 8, 3) := by decide +kernel
theorem dX6_clash_22 : decode cX6_clash 22 = .ok (.iload_n 1, 1) := by decide +kernel
theorem dX6_clash_23 : decode cX6_clash 23 = .ok (.iload_n 2, 1) := by decide +kernel
theorem dX6_clash_24 : decode cX6_clash 24 = .ok (.if_icmp .ne 5, 3) := by decide +kernel
theorem dX6_clash_27 : decode cX6_clash 27 = .ok (.iconst (-1), 1) := by decide +kernel
theorem dX6_clash_28 : decode cX6_clash 28 = .ok (.ireturn, 1) := by decide +kernel
theorem dX6_clash_29 : decode cX6_clash 29 = .ok (.aload_n 0, 1) := by decide +kernel
theorem dX6_clash_30 : decode cX6_clash 30 = .ok (.getfield 10, 3) := by decide +kernel
theorem dX6_clash_33 : decode cX6_clash 33 = .ok (.getfield 118, 3) := by decide +kernel
theorem dX6_clash_36 : decode cX6_clash 36 = .ok (.iload_n 1, 1) := by decide +kernel
theorem dX6_clash_37 : decode cX6_clash 37 = .ok (.aaload, 1) := by decide +kernel
theorem dX6_clash_38 : decode cX6_clash 38 = .ok (.astore_n 3, 1) := by decide +kernel
theorem dX6_clash_39 : decode cX6_clash 39 = .ok (.aload_n 0, 1) := by decide +kernel
theorem dX6_clash_40 : decode cX6_clash 40 = .ok (.getfield 10, 3) := by decide +kernel
theorem dX6_clash_43 : decode cX6_clash 43 = .ok (.getfield 118, 3) := by decide +kernel
theorem dX6_clash_46 : decode cX6_clash 46 = .ok (.iload_n 2, 1) := by decide +kernel
theorem dX6_clash_47 : decode cX6_clash 47 = .ok (.aaload, 1) := by decide +kernel
theorem dX6_clash_48 : decode cX6_clash 48 = .ok (.astore 4, 2) := by decide +kernel
theorem dX6_clash_50 : decode cX6_clash 50 = .ok (.aload_n 3, 1) := by decide +kernel
theorem dX6_clash_51 : decode cX6_clash 51 = .ok (.getfield 122, 3) := by decide +kernel
theorem dX6_clash_54 : decode cX6_clash 54 = .ok (.istore 5, 2) := by decide +kernel
theorem dX6_clash_56 : decode cX6_clash 56 = .ok (.aload 4, 2) := by decide +kernel
theorem dX6_clash_58 : decode cX6_clash 58 = .ok (.getfield 122, 3) := by decide +kernel
theorem dX6_clash_61 : decode cX6_clash 61 = .ok (.istore 6, 2) := by decide +kernel
theorem dX6_clash_63 : decode cX6_clash 63 = .ok (.iconst 0, 1) := by decide +kernel
theorem dX6_clash_64 : decode cX6_clash 64 = .ok (.istore 7, 2) := by decide +kernel
theorem dX6_clash_66 : decode cX6_clash 66 = .ok (.iload 7, 2) := by decide +kernel
theorem dX6_clash_68 : decode cX6_clash 68 = .ok (.bipush 10, 2) := by decide +kernel
theorem dX6_clash_70 : decode cX6_clash 70 = .ok (.if_icmp .ge 74, 3) := by decide +kernel
theorem dX6_clash_73 : decode cX6_clash 73 = .ok (.aload_n 0, 1) := by decide +kernel
theorem dX6_clash_74 : decode cX6_clash 74 = .ok (.getfield 10, 3) := by decide +kernel
theorem dX6_clash_77 : decode cX6_clash 77 = .ok (.aload_n 3, 1) := by decide +kernel
theorem dX6_clash_78 : decode cX6_clash 78 = .ok (.iload 5, 2) := by decide +kernel
theorem dX6_clash_80 : decode cX6_clash 80 = .ok (.iload 7, 2) := by decide +kernel
theorem dX6_clash_82 : decode cX6_clash 82 = .ok (.aload_n 3, 1) := by decide +kernel
theorem dX6_clash_83 : decode cX6_clash 83 = .ok (.getfield 129, 3) := by decide +kernel
theorem dX6_clash_86 : decode cX6_clash 86 = .ok (.invokevirtual 180, 3) := by decide +kernel
theorem dX6_clash_89 : decode cX6_clash 89 = .ok (.istore 8, 2) := by decide +kernel
theorem dX6_clash_91 : decode cX6_clash 91 = .ok (.aload_n 0, 1) := by decide +kernel
theorem dX6_clash_92 : decode cX6_clash 92 = .ok (.getfield 10, 3) := by decide +kernel
theorem dX6_clash_95 : decode cX6_clash 95 = .ok (.aload 4, 2) := by decide +kernel
theorem dX6_clash_97 : decode cX6_clash 97 = .ok (.iload 6, 2) := by decide +kernel
theorem dX6_clash_99 : decode cX6_clash 99 = .ok (.iload 7, 2) := by decide +kernel
theorem dX6_clash_101 : decode cX6_clash 101 = .ok (.aload 4, 2) := by decide +kernel
theorem dX6_clash_103 : decode cX6_clash 103 = .ok (.getfield 129, 3) := by decide +kernel
theorem dX6_clash_106 : decode cX6_clash 106 = .ok (.invokevirtual 180, 3) := by decide +kernel
theorem dX6_clash_109 : decode cX6_clash 109 = .ok (.istore 9, 2) := by decide +kernel
theorem dX6_clash_111 : decode cX6_clash 111 = .ok (.iload 5, 2) := by decide +kernel
theorem dX6_clash_113 : decode cX6_clash 113 = .ok (.iload 8, 2) := by decide +kernel
theorem dX6_clash_115 : decode cX6_clash 115 = .ok (.iload 6, 2) := by decide +kernel
theorem dX6_clash_117 : decode cX6_clash 117 = .ok (.iload 9, 2) := by decide +kernel
theorem dX6_clash_119 : decode cX6_clash 119 = .ok (.invokestatic 183, 3) := by decide +kernel
theorem dX6_clash_122 : decode cX6_clash 122 = .ok (.ifCond .eq 8, 3) := by decide +kernel
theorem dX6_clash_125 : decode cX6_clash 125 = .ok (.iload 7, 2) := by decide +kernel
theorem dX6_clash_127 : decode cX6_clash 127 = .ok (.iconst 1, 1) := by decide +kernel
theorem dX6_clash_128 : decode cX6_clash 128 = .ok (.iadd, 1) := by decide +kernel
theorem dX6_clash_129 : decode cX6_clash 129 = .ok (.ireturn, 1) := by decide +kernel
theorem dX6_clash_130 : decode cX6_clash 130 = .ok (.iload 8, 2) := by decide +kernel
theorem dX6_clash_132 : decode cX6_clash 132 = .ok (.istore 5, 2) := by decide +kernel
theorem dX6_clash_134 : decode cX6_clash 134 = .ok (.iload 9, 2) := by decide +kernel
theorem dX6_clash_136 : decode cX6_clash 136 = .ok (.istore 6, 2) := by decide +kernel
theorem dX6_clash_138 : decode cX6_clash 138 = .ok (.iinc 7 1, 3) := by decide +kernel
theorem dX6_clash_141 : decode cX6_clash 141 = .ok (.goto (-75), 3) := by decide +kernel
theorem dX6_clash_144 : decode cX6_clash 144 = .ok (.bipush (-4), 2) := by decide +kernel
theorem dX6_clash_146 : decode cX6_clash 146 = .ok (.ireturn, 1) := by decide +kernel
theorem dX6_way_0 : decode cX6_way 0 = .ok (.aload_n 0, 1) := by decide +kernel
theorem dX6_way_1 : decode cX6_way 1 = .ok (.getfield 10, 3) := by decide +kernel
theorem dX6_way_4 : decode cX6_way 4 = .ok (.iload_n 1, 1) := by decide +kernel
theorem dX6_way_5 : decode cX6_way 5 = .ok (.invokevirtual 105, 3) := by decide +kernel
theorem dX6_way_8 : decode cX6_way 8 = .ok (.ifCond .eq 29, 3) := by decide +kernel
theorem dX6_way_11 : decode cX6_way 11 = .ok (.aload_n 0, 1) := by decide +kernel
theorem dX6_way_12 : decode cX6_way 12 = .ok (.getfield 10, 3) := by decide +kernel
theorem dX6_way_15 : decode cX6_way 15 = .ok (.iload_n 2, 1) := by decide +kernel
theorem dX6_way_16 : decode cX6_way 16 = .ok (.invokevirtual 105, 3) := by decide +kernel
theorem dX6_way_19 : decode cX6_way 19 = .ok (.ifCond .eq 18, 3) := by decide +kernel
theorem dX6_way_22 : decode cX6_way 22 = .ok (.iload_n 3, 1) := by decide +kernel
theorem dX6_way_23 : decode cX6_way 23 = .ok (.invokestatic 144, 3) := by decide +kernel
theorem dX6_way_26 : decode cX6_way 26 = .ok (.ifCond .eq 11, 3) := by decide +kernel
theorem dX6_way_29 : decode cX6_way 29 = .ok (.iload 4, 2) := by decide +kernel
theorem dX6_way_31 : decode cX6_way 31 = .ok (.invokestatic 187, 3) := by decide +kernel
theorem dX6_way_34 : decode cX6_way 34 = .ok (.ifCond .ne 5, 3) := by decide +kernel
theorem dX6_way_37 : decode cX6_way 37 = .ok (.iconst (-1), 1) := by decide +kernel
theorem dX6_way_38 : decode cX6_way 38 = .ok (.ireturn, 1) := by decide +kernel
theorem dX6_way_39 : decode cX6_way 39 = .ok (.aload_n 0, 1) := by decide +kernel
theorem dX6_way_40 : decode cX6_way 40 = .ok (.iload_n 1, 1) := by decide +kernel
theorem dX6_way_41 : decode cX6_way 41 = .ok (.iload_n 2, 1) := by decide +kernel
theorem dX6_way_42 : decode cX6_way 42 = .ok (.iload_n 3, 1) := by decide +kernel
theorem dX6_way_43 : decode cX6_way 43 = .ok (.iload_n 3, 1) := by decide +kernel
theorem dX6_way_44 : decode cX6_way 44 = .ok (.iload 4, 2) := by decide +kernel
theorem dX6_way_46 : decode cX6_way 46 = .ok (.invokevirtual 190, 3) := by decide +kernel
theorem dX6_way_49 : decode cX6_way 49 = .ok (.ireturn, 1) := by decide +kernel
theorem dX6_both_0 : decode cX6_both 0 = .ok (.aload_n 0, 1) := by decide +kernel
theorem dX6_both_1 : decode cX6_both 1 = .ok (.getfield 10, 3) := by decide +kernel
theorem dX6_both_4 : decode cX6_both 4 = .ok (.iload_n 1, 1) := by decide +kernel
theorem dX6_both_5 : decode cX6_both 5 = .ok (.invokevirtual 105, 3) := by decide +kernel
theorem dX6_both_8 : decode cX6_both 8 = .ok (.ifCond .eq 29, 3) := by decide +kernel
theorem dX6_both_11 : decode cX6_both 11 = .ok (.aload_n 0, 1) := by decide +kernel
theorem dX6_both_12 : decode cX6_both 12 = .ok (.getfield 10, 3) := by decide +kernel
theorem dX6_both_15 : decode cX6_both 15 = .ok (.iload_n 2, 1) := by decide +kernel
theorem dX6_both_16 : decode cX6_both 16 = .ok (.invokevirtual 105, 3) := by decide +kernel
theorem dX6_both_19 : decode cX6_both 19 = .ok (.ifCond .eq 18, 3) := by decide +kernel
theorem dX6_both_22 : decode cX6_both 22 = .ok (.iload_n 3, 1) := by decide +kernel
theorem dX6_both_23 : decode cX6_both 23 = .ok (.invokestatic 144, 3) := by decide +kernel
theorem dX6_both_26 : decode cX6_both 26 = .ok (.ifCond .eq 11, 3) := by decide +kernel
theorem dX6_both_29 : decode cX6_both 29 = .ok (.iload 4, 2) := by decide +kernel
theorem dX6_both_31 : decode cX6_both 31 = .ok (.invokestatic 187, 3) := by decide +kernel
theorem dX6_both_34 : decode cX6_both 34 = .ok (.ifCond .ne 5, 3) := by decide +kernel
theorem dX6_both_37 : decode cX6_both 37 = .ok (.iconst (-1), 1) := by decide +kernel
theorem dX6_both_38 : decode cX6_both 38 = .ok (.ireturn, 1) := by decide +kernel
theorem dX6_both_39 : decode cX6_both 39 = .ok (.aload_n 0, 1) := by decide +kernel
theorem dX6_both_40 : decode cX6_both 40 = .ok (.iload_n 1, 1) := by decide +kernel
theorem dX6_both_41 : decode cX6_both 41 = .ok (.iload_n 2, 1) := by decide +kernel
theorem dX6_both_42 : decode cX6_both 42 = .ok (.iload_n 3, 1) := by decide +kernel
theorem dX6_both_43 : decode cX6_both 43 = .ok (.iload_n 3, 1) := by decide +kernel
theorem dX6_both_44 : decode cX6_both 44 = .ok (.bipush 12, 2) := by decide +kernel
theorem dX6_both_46 : decode cX6_both 46 = .ok (.iadd, 1) := by decide +kernel
theorem dX6_both_47 : decode cX6_both 47 = .ok (.iload 4, 2) := by decide +kernel
theorem dX6_both_49 : decode cX6_both 49 = .ok (.invokevirtual 190, 3) := by decide +kernel
theorem dX6_both_52 : decode cX6_both 52 = .ok (.ireturn, 1) := by decide +kernel
theorem dX6_reach_0 : decode cX6_reach 0 = .ok (.aload_n 0, 1) := by decide +kernel
theorem dX6_reach_1 : decode cX6_reach 1 = .ok (.getfield 10, 3) := by decide +kernel
theorem dX6_reach_4 : decode cX6_reach 4 = .ok (.iload_n 1, 1) := by decide +kernel
theorem dX6_reach_5 : decode cX6_reach 5 = .ok (.invokevirtual 105, 3) := by decide +kernel
theorem dX6_reach_8 : decode cX6_reach 8 = .ok (.ifCond .eq 20, 3) := by decide +kernel
theorem dX6_reach_11 : decode cX6_reach 11 = .ok (.iload_n 2, 1) := by decide +kernel
theorem dX6_reach_12 : decode cX6_reach 12 = .ok (.invokestatic 144, 3) := by decide +kernel
theorem dX6_reach_15 : decode cX6_reach 15 = .ok (.ifCond .eq 13, 3) := by decide +kernel
theorem dX6_reach_18 : decode cX6_reach 18 = .ok (.iload_n 3, 1) := by decide +kernel
theorem dX6_reach_19 : decode cX6_reach 19 = .ok (.ifCond .lt 9, 3) := by decide +kernel
theorem dX6_reach_22 : decode cX6_reach 22 = .ok (.iload_n 3, 1) := by decide +kernel
theorem dX6_reach_23 : decode cX6_reach 23 = .ok (.bipush 24, 2) := by decide +kernel
theorem dX6_reach_25 : decode cX6_reach 25 = .ok (.if_icmp .le 5, 3) := by decide +kernel
theorem dX6_reach_28 : decode cX6_reach 28 = .ok (.iconst (-1), 1) := by decide +kernel
theorem dX6_reach_29 : decode cX6_reach 29 = .ok (.ireturn, 1) := by decide +kernel
theorem dX6_reach_30 : decode cX6_reach 30 = .ok (.aload_n 0, 1) := by decide +kernel
theorem dX6_reach_31 : decode cX6_reach 31 = .ok (.getfield 10, 3) := by decide +kernel
theorem dX6_reach_34 : decode cX6_reach 34 = .ok (.iconst 1, 1) := by decide +kernel
theorem dX6_reach_35 : decode cX6_reach 35 = .ok (.iload_n 1, 1) := by decide +kernel
theorem dX6_reach_36 : decode cX6_reach 36 = .ok (.ishl, 1) := by decide +kernel
theorem dX6_reach_37 : decode cX6_reach 37 = .ok (.iload_n 3, 1) := by decide +kernel
theorem dX6_reach_38 : decode cX6_reach 38 = .ok (.invokevirtual 194, 3) := by decide +kernel
theorem dX6_reach_41 : decode cX6_reach 41 = .ok (.ireturn, 1) := by decide +kernel
theorem dX6_when_0 : decode cX6_when 0 = .ok (.aload_n 0, 1) := by decide +kernel
theorem dX6_when_1 : decode cX6_when 1 = .ok (.getfield 10, 3) := by decide +kernel
theorem dX6_when_4 : decode cX6_when 4 = .ok (.iload_n 1, 1) := by decide +kernel
theorem dX6_when_5 : decode cX6_when 5 = .ok (.invokevirtual 105, 3) := by decide +kernel
theorem dX6_when_8 : decode cX6_when 8 = .ok (.ifCond .eq 21, 3) := by decide +kernel
theorem dX6_when_11 : decode cX6_when 11 = .ok (.aload_n 0, 1) := by decide +kernel
theorem dX6_when_12 : decode cX6_when 12 = .ok (.getfield 10, 3) := by decide +kernel
theorem dX6_when_15 : decode cX6_when 15 = .ok (.iload_n 2, 1) := by decide +kernel
theorem dX6_when_16 : decode cX6_when 16 = .ok (.invokevirtual 105, 3) := by decide +kernel
theorem dX6_when_19 : decode cX6_when 19 = .ok (.ifCond .eq 10, 3) := by decide +kernel
theorem dX6_when_22 : decode cX6_when 22 = .ok (.iload_n 3, 1) := by decide +kernel
theorem dX6_when_23 : decode cX6_when 23 = .ok (.invokestatic 108, 3) := by decide +kernel
theorem dX6_when_26 : decode cX6_when 26 = .ok (.ifCond .ne 5, 3) := by decide +kernel
theorem dX6_when_29 : decode cX6_when 29 = .ok (.iconst (-1), 1) := by decide +kernel
theorem dX6_when_30 : decode cX6_when 30 = .ok (.ireturn, 1) := by decide +kernel
theorem dX6_when_31 : decode cX6_when 31 = .ok (.aload_n 0, 1) := by decide +kernel
theorem dX6_when_32 : decode cX6_when 32 = .ok (.getfield 10, 3) := by decide +kernel
theorem dX6_when_35 : decode cX6_when 35 = .ok (.iload_n 1, 1) := by decide +kernel
theorem dX6_when_36 : decode cX6_when 36 = .ok (.iload_n 2, 1) := by decide +kernel
theorem dX6_when_37 : decode cX6_when 37 = .ok (.invokevirtual 197, 3) := by decide +kernel
theorem dX6_when_40 : decode cX6_when 40 = .ok (.istore 4, 2) := by decide +kernel
theorem dX6_when_42 : decode cX6_when 42 = .ok (.iload 4, 2) := by decide +kernel
theorem dX6_when_44 : decode cX6_when 44 = .ok (.ifCond .ge 6, 3) := by decide +kernel
theorem dX6_when_47 : decode cX6_when 47 = .ok (.bipush (-4), 2) := by decide +kernel
theorem dX6_when_49 : decode cX6_when 49 = .ok (.ireturn, 1) := by decide +kernel
theorem dX6_when_50 : decode cX6_when 50 = .ok (.iload_n 3, 1) := by decide +kernel
theorem dX6_when_51 : decode cX6_when 51 = .ok (.ifCond .ne 7, 3) := by decide +kernel
theorem dX6_when_54 : decode cX6_when 54 = .ok (.iconst 0, 1) := by decide +kernel
theorem dX6_when_55 : decode cX6_when 55 = .ok (.goto 5, 3) := by decide +kernel
theorem dX6_when_58 : decode cX6_when 58 = .ok (.iload 4, 2) := by decide +kernel
theorem dX6_when_60 : decode cX6_when 60 = .ok (.ireturn, 1) := by decide +kernel
theorem dX6_signs_0 : decode cX6_signs 0 = .ok (.aload_n 0, 1) := by decide +kernel
theorem dX6_signs_1 : decode cX6_signs 1 = .ok (.getfield 10, 3) := by decide +kernel
theorem dX6_signs_4 : decode cX6_signs 4 = .ok (.iload_n 1, 1) := by decide +kernel
theorem dX6_signs_5 : decode cX6_signs 5 = .ok (.invokevirtual 105, 3) := by decide +kernel
theorem dX6_signs_8 : decode cX6_signs 8 = .ok (.ifCond .eq 25, 3) := by decide +kernel
theorem dX6_signs_11 : decode cX6_signs 11 = .ok (.aload_n 0, 1) := by decide +kernel
theorem dX6_signs_12 : decode cX6_signs 12 = .ok (.getfield 10, 3) := by decide +kernel
theorem dX6_signs_15 : decode cX6_signs 15 = .ok (.iload_n 2, 1) := by decide +kernel
theorem dX6_signs_16 : decode cX6_signs 16 = .ok (.invokevirtual 105, 3) := by decide +kernel
theorem dX6_signs_19 : decode cX6_signs 19 = .ok (.ifCond .eq 14, 3) := by decide +kernel
theorem dX6_signs_22 : decode cX6_signs 22 = .ok (.iload_n 3, 1) := by decide +kernel
theorem dX6_signs_23 : decode cX6_signs 23 = .ok (.iconst 1, 1) := by decide +kernel
theorem dX6_signs_24 : decode cX6_signs 24 = .ok (.if_icmp .lt 9, 3) := by decide +kernel
theorem dX6_signs_27 : decode cX6_signs 27 = .ok (.iload_n 3, 1) := by decide +kernel
theorem dX6_signs_28 : decode cX6_signs 28 = .ok (.bipush 24, 2) := by decide +kernel
theorem dX6_signs_30 : decode cX6_signs 30 = .ok (.if_icmp .le 5, 3) := by decide +kernel
theorem dX6_signs_33 : decode cX6_signs 33 = .ok (.iconst (-1), 1) := by decide +kernel
theorem dX6_signs_34 : decode cX6_signs 34 = .ok (.ireturn, 1) := by decide +kernel
theorem dX6_signs_35 : decode cX6_signs 35 = .ok (.aload_n 0, 1) := by decide +kernel
theorem dX6_signs_36 : decode cX6_signs 36 = .ok (.getfield 10, 3) := by decide +kernel
theorem dX6_signs_39 : decode cX6_signs 39 = .ok (.iload_n 1, 1) := by decide +kernel
theorem dX6_signs_40 : decode cX6_signs 40 = .ok (.iload_n 2, 1) := by decide +kernel
theorem dX6_signs_41 : decode cX6_signs 41 = .ok (.invokevirtual 197, 3) := by decide +kernel
theorem dX6_signs_44 : decode cX6_signs 44 = .ok (.istore 4, 2) := by decide +kernel
theorem dX6_signs_46 : decode cX6_signs 46 = .ok (.iload 4, 2) := by decide +kernel
theorem dX6_signs_48 : decode cX6_signs 48 = .ok (.ifCond .lt 9, 3) := by decide +kernel
theorem dX6_signs_51 : decode cX6_signs 51 = .ok (.iload 4, 2) := by decide +kernel
theorem dX6_signs_53 : decode cX6_signs 53 = .ok (.iload_n 3, 1) := by decide +kernel
theorem dX6_signs_54 : decode cX6_signs 54 = .ok (.if_icmp .le 8, 3) := by decide +kernel
theorem dX6_signs_57 : decode cX6_signs 57 = .ok (.bipush (-4), 2) := by decide +kernel
theorem dX6_signs_59 : decode cX6_signs 59 = .ok (.goto 4, 3) := by decide +kernel
theorem dX6_signs_62 : decode cX6_signs 62 = .ok (.iconst 0, 1) := by decide +kernel
theorem dX6_signs_63 : decode cX6_signs 63 = .ok (.ireturn, 1) := by decide +kernel
theorem dX6_meet_0 : decode cX6_meet 0 = .ok (.aload_n 0, 1) := by decide +kernel
theorem dX6_meet_1 : decode cX6_meet 1 = .ok (.getfield 10, 3) := by decide +kernel
theorem dX6_meet_4 : decode cX6_meet 4 = .ok (.iload_n 1, 1) := by decide +kernel
theorem dX6_meet_5 : decode cX6_meet 5 = .ok (.invokevirtual 115, 3) := by decide +kernel
theorem dX6_meet_8 : decode cX6_meet 8 = .ok (.ifCond .eq 26, 3) := by decide +kernel
theorem dX6_meet_11 : decode cX6_meet 11 = .ok (.aload_n 0, 1) := by decide +kernel
theorem dX6_meet_12 : decode cX6_meet 12 = .ok (.getfield 10, 3) := by decide +kernel
theorem dX6_meet_15 : decode cX6_meet 15 = .ok (.iload_n 2, 1) := by decide +kernel
theorem dX6_meet_16 : decode cX6_meet 16 = .ok (.invokevirtual 115, 3) := by decide +kernel
theorem dX6_meet_19 : decode cX6_meet 19 = .ok (.ifCond .eq 15, 3) := by decide +kernel
theorem dX6_meet_22 : decode cX6_meet 22 = .ok (.iload_n 1, 1) := by decide +kernel
theorem dX6_meet_23 : decode cX6_meet 23 = .ok (.iload_n 2, 1) := by decide +kernel
theorem dX6_meet_24 : decode cX6_meet 24 = .ok (.if_icmp .eq 10, 3) := by decide +kernel
theorem dX6_meet_27 : decode cX6_meet 27 = .ok (.iload_n 3, 1) := by decide +kernel
theorem dX6_meet_28 : decode cX6_meet 28 = .ok (.invokestatic 108, 3) := by decide +kernel
theorem dX6_meet_31 : decode cX6_meet 31 = .ok (.ifCond .ne 5, 3) := by decide +kernel
theorem dX6_meet_34 : decode cX6_meet 34 = .ok (.iconst (-1), 1) := by decide +kernel
theorem dX6_meet_35 : decode cX6_meet 35 = .ok (.ireturn, 1) := by decide +kernel
theorem dX6_meet_36 : decode cX6_meet 36 = .ok (.iconst 1, 1) := by decide +kernel
theorem dX6_meet_37 : decode cX6_meet 37 = .ok (.aload_n 0, 1) := by decide +kernel
theorem dX6_meet_38 : decode cX6_meet 38 = .ok (.getfield 10, 3) := by decide +kernel
theorem dX6_meet_41 : decode cX6_meet 41 = .ok (.getfield 118, 3) := by decide +kernel
theorem dX6_meet_44 : decode cX6_meet 44 = .ok (.iload_n 1, 1) := by decide +kernel
theorem dX6_meet_45 : decode cX6_meet 45 = .ok (.aaload, 1) := by decide +kernel
theorem dX6_meet_46 : decode cX6_meet 46 = .ok (.getfield 122, 3) := by decide +kernel
theorem dX6_meet_49 : decode cX6_meet 49 = .ok (.ishl, 1) := by decide +kernel
theorem dX6_meet_50 : decode cX6_meet 50 = .ok (.istore 4, 2) := by decide +kernel
theorem dX6_meet_52 : decode cX6_meet 52 = .ok (.iconst 1, 1) := by decide +kernel
theorem dX6_meet_53 : decode cX6_meet 53 = .ok (.aload_n 0, 1) := by decide +kernel
theorem dX6_meet_54 : decode cX6_meet 54 = .ok (.getfield 10, 3) := by decide +kernel
theorem dX6_meet_57 : decode cX6_meet 57 = .ok (.getfield 118, 3) := by decide +kernel
theorem dX6_meet_60 : decode cX6_meet 60 = .ok (.iload_n 2, 1) := by decide +kernel
theorem dX6_meet_61 : decode cX6_meet 61 = .ok (.aaload, 1) := by decide +kernel
theorem dX6_meet_62 : decode cX6_meet 62 = .ok (.getfield 122, 3) := by decide +kernel
theorem dX6_meet_65 : decode cX6_meet 65 = .ok (.ishl, 1) := by decide +kernel
theorem dX6_meet_66 : decode cX6_meet 66 = .ok (.istore 5, 2) := by decide +kernel
theorem dX6_meet_68 : decode cX6_meet 68 = .ok (.iconst 0, 1) := by decide +kernel
theorem dX6_meet_69 : decode cX6_meet 69 = .ok (.istore 6, 2) := by decide +kernel
theorem dX6_meet_71 : decode cX6_meet 71 = .ok (.iload 6, 2) := by decide +kernel
theorem dX6_meet_73 : decode cX6_meet 73 = .ok (.bipush 24, 2) := by decide +kernel
theorem dX6_meet_75 : decode cX6_meet 75 = .ok (.if_icmp .gt 59, 3) := by decide +kernel
theorem dX6_meet_78 : decode cX6_meet 78 = .ok (.iload 4, 2) := by decide +kernel
theorem dX6_meet_80 : decode cX6_meet 80 = .ok (.iload 5, 2) := by decide +kernel
theorem dX6_meet_82 : decode cX6_meet 82 = .ok (.iand, 1) := by decide +kernel
theorem dX6_meet_83 : decode cX6_meet 83 = .ok (.ifCond .eq 21, 3) := by decide +kernel
theorem dX6_meet_86 : decode cX6_meet 86 = .ok (.iload_n 3, 1) := by decide +kernel
theorem dX6_meet_87 : decode cX6_meet 87 = .ok (.ifCond .ne 8, 3) := by decide +kernel
theorem dX6_meet_90 : decode cX6_meet 90 = .ok (.iload 6, 2) := by decide +kernel
theorem dX6_meet_92 : decode cX6_meet 92 = .ok (.goto 11, 3) := by decide +kernel
theorem dX6_meet_95 : decode cX6_meet 95 = .ok (.iload 4, 2) := by decide +kernel
theorem dX6_meet_97 : decode cX6_meet 97 = .ok (.iload 5, 2) := by decide +kernel
theorem dX6_meet_99 : decode cX6_meet 99 = .ok (.iand, 1) := by decide +kernel
theorem dX6_meet_100 : decode cX6_meet 100 = .ok (.invokestatic 200, 3) := by decide +kernel
theorem dX6_meet_103 : decode cX6_meet 103 = .ok (.ireturn, 1) := by decide +kernel
theorem dX6_meet_104 : decode cX6_meet 104 = .ok (.aload_n 0, 1) := by decide +kernel
theorem dX6_meet_105 : decode cX6_meet 105 = .ok (.getfield 10, 3) := by decide +kernel
theorem dX6_meet_108 : decode cX6_meet 108 = .ok (.iload 4, 2) := by decide +kernel
theorem dX6_meet_110 : decode cX6_meet 110 = .ok (.iconst 1, 1) := by decide +kernel
theorem dX6_meet_111 : decode cX6_meet 111 = .ok (.invokevirtual 194, 3) := by decide +kernel
theorem dX6_meet_114 : decode cX6_meet 114 = .ok (.istore 4, 2) := by decide +kernel
theorem dX6_meet_116 : decode cX6_meet 116 = .ok (.aload_n 0, 1) := by decide +kernel
theorem dX6_meet_117 : decode cX6_meet 117 = .ok (.getfield 10, 3) := by decide +kernel
theorem dX6_meet_120 : decode cX6_meet 120 = .ok (.iload 5, 2) := by decide +kernel
theorem dX6_meet_122 : decode cX6_meet 122 = .ok (.iconst 1, 1) := by decide +kernel
theorem dX6_meet_123 : decode cX6_meet 123 = .ok (.invokevirtual 194, 3) := by decide +kernel
theorem dX6_meet_126 : decode cX6_meet 126 = .ok (.istore 5, 2) := by decide +kernel
theorem dX6_meet_128 : decode cX6_meet 128 = .ok (.iinc 6 1, 3) := by decide +kernel
theorem dX6_meet_131 : decode cX6_meet 131 = .ok (.goto (-60), 3) := by decide +kernel
theorem dX6_meet_134 : decode cX6_meet 134 = .ok (.bipush (-4), 2) := by decide +kernel
theorem dX6_meet_136 : decode cX6_meet 136 = .ok (.ireturn, 1) := by decide +kernel
theorem dX6_shake_0 : decode cX6_shake 0 = .ok (.aload_n 0, 1) := by decide +kernel
theorem dX6_shake_1 : decode cX6_shake 1 = .ok (.getfield 10, 3) := by decide +kernel
theorem dX6_shake_4 : decode cX6_shake 4 = .ok (.iload_n 1, 1) := by decide +kernel
theorem dX6_shake_5 : decode cX6_shake 5 = .ok (.invokevirtual 115, 3) := by decide +kernel
theorem dX6_shake_8 : decode cX6_shake 8 = .ok (.ifCond .eq 19, 3) := by decide +kernel
theorem dX6_shake_11 : decode cX6_shake 11 = .ok (.aload_n 0, 1) := by decide +kernel
theorem dX6_shake_12 : decode cX6_shake 12 = .ok (.getfield 10, 3) := by decide +kernel
theorem dX6_shake_15 : decode cX6_shake 15 = .ok (.iload_n 2, 1) := by decide +kernel
theorem dX6_shake_16 : decode cX6_shake 16 = .ok (.invokevirtual 115, 3) := by decide +kernel
theorem dX6_shake_19 : decode cX6_shake 19 = .ok (.ifCond .eq 8, 3) := by decide +kernel
theorem dX6_shake_22 : decode cX6_shake 22 = .ok (.iload_n 1, 1) := by decide +kernel
theorem dX6_shake_23 : decode cX6_shake 23 = .ok (.iload_n 2, 1) := by decide +kernel
theorem dX6_shake_24 : decode cX6_shake 24 = .ok (.if_icmp .ne 5, 3) := by decide +kernel
theorem dX6_shake_27 : decode cX6_shake 27 = .ok (.iconst (-1), 1) := by decide +kernel
theorem dX6_shake_28 : decode cX6_shake 28 = .ok (.ireturn, 1) := by decide +kernel
theorem dX6_shake_29 : decode cX6_shake 29 = .ok (.iconst 0, 1) := by decide +kernel
theorem dX6_shake_30 : decode cX6_shake 30 = .ok (.istore_n 3, 1) := by decide +kernel
theorem dX6_shake_31 : decode cX6_shake 31 = .ok (.iload_n 3, 1) := by decide +kernel
theorem dX6_shake_32 : decode cX6_shake 32 = .ok (.bipush 24, 2) := by decide +kernel
theorem dX6_shake_34 : decode cX6_shake 34 = .ok (.if_icmp .ge 40, 3) := by decide +kernel
theorem dX6_shake_37 : decode cX6_shake 37 = .ok (.aload_n 0, 1) := by decide +kernel
theorem dX6_shake_38 : decode cX6_shake 38 = .ok (.getfield 10, 3) := by decide +kernel
theorem dX6_shake_41 : decode cX6_shake 41 = .ok (.getfield 118, 3) := by decide +kernel
theorem dX6_shake_44 : decode cX6_shake 44 = .ok (.iload_n 1, 1) := by decide +kernel
theorem dX6_shake_45 : decode cX6_shake 45 = .ok (.aaload, 1) := by decide +kernel
theorem dX6_shake_46 : decode cX6_shake 46 = .ok (.iload_n 3, 1) := by decide +kernel
theorem dX6_shake_47 : decode cX6_shake 47 = .ok (.invokevirtual 125, 3) := by decide +kernel
theorem dX6_shake_50 : decode cX6_shake 50 = .ok (.aload_n 0, 1) := by decide +kernel
theorem dX6_shake_51 : decode cX6_shake 51 = .ok (.getfield 10, 3) := by decide +kernel
theorem dX6_shake_54 : decode cX6_shake 54 = .ok (.getfield 118, 3) := by decide +kernel
theorem dX6_shake_57 : decode cX6_shake 57 = .ok (.iload_n 2, 1) := by decide +kernel
theorem dX6_shake_58 : decode cX6_shake 58 = .ok (.aaload, 1) := by decide +kernel
theorem dX6_shake_59 : decode cX6_shake 59 = .ok (.iload_n 3, 1) := by decide +kernel
theorem dX6_shake_60 : decode cX6_shake 60 = .ok (.invokevirtual 125, 3) := by decide +kernel
theorem dX6_shake_63 : decode cX6_shake 63 = .ok (.if_icmp .ne 5, 3) := by decide +kernel
theorem dX6_shake_66 : decode cX6_shake 66 = .ok (.iload_n 3, 1) := by decide +kernel
theorem dX6_shake_67 : decode cX6_shake 67 = .ok (.ireturn, 1) := by decide +kernel
theorem dX6_shake_68 : decode cX6_shake 68 = .ok (.iinc 3 1, 3) := by decide +kernel
theorem dX6_shake_71 : decode cX6_shake 71 = .ok (.goto (-40), 3) := by decide +kernel
theorem dX6_shake_74 : decode cX6_shake 74 = .ok (.bipush (-4), 2) := by decide +kernel
theorem dX6_shake_76 : decode cX6_shake 76 = .ok (.ireturn, 1) := by decide +kernel
theorem dX6_pairs_0 : decode cX6_pairs 0 = .ok (.iload_n 1, 1) := by decide +kernel
theorem dX6_pairs_1 : decode cX6_pairs 1 = .ok (.invokestatic 144, 3) := by decide +kernel
theorem dX6_pairs_4 : decode cX6_pairs 4 = .ok (.ifCond .ne 5, 3) := by decide +kernel
theorem dX6_pairs_7 : decode cX6_pairs 7 = .ok (.iconst (-1), 1) := by decide +kernel
theorem dX6_pairs_8 : decode cX6_pairs 8 = .ok (.ireturn, 1) := by decide +kernel
theorem dX6_pairs_9 : decode cX6_pairs 9 = .ok (.iconst 0, 1) := by decide +kernel
theorem dX6_pairs_10 : decode cX6_pairs 10 = .ok (.istore_n 2, 1) := by decide +kernel
theorem dX6_pairs_11 : decode cX6_pairs 11 = .ok (.iconst 0, 1) := by decide +kernel
theorem dX6_pairs_12 : decode cX6_pairs 12 = .ok (.istore_n 3, 1) := by decide +kernel
theorem dX6_pairs_13 : decode cX6_pairs 13 = .ok (.iload_n 3, 1) := by decide +kernel
theorem dX6_pairs_14 : decode cX6_pairs 14 = .ok (.aload_n 0, 1) := by decide +kernel
theorem dX6_pairs_15 : decode cX6_pairs 15 = .ok (.getfield 10, 3) := by decide +kernel
theorem dX6_pairs_18 : decode cX6_pairs 18 = .ok (.getfield 88, 3) := by decide +kernel
theorem dX6_pairs_21 : decode cX6_pairs 21 = .ok (.if_icmp .ge 25, 3) := by decide +kernel
theorem dX6_pairs_24 : decode cX6_pairs 24 = .ok (.iload_n 2, 1) := by decide +kernel
theorem dX6_pairs_25 : decode cX6_pairs 25 = .ok (.aload_n 0, 1) := by decide +kernel
theorem dX6_pairs_26 : decode cX6_pairs 26 = .ok (.getfield 10, 3) := by decide +kernel
theorem dX6_pairs_29 : decode cX6_pairs 29 = .ok (.getfield 118, 3) := by decide +kernel
theorem dX6_pairs_32 : decode cX6_pairs 32 = .ok (.iload_n 3, 1) := by decide +kernel
theorem dX6_pairs_33 : decode cX6_pairs 33 = .ok (.aaload, 1) := by decide +kernel
theorem dX6_pairs_34 : decode cX6_pairs 34 = .ok (.iload_n 1, 1) := by decide +kernel
theorem dX6_pairs_35 : decode cX6_pairs 35 = .ok (.invokevirtual 125, 3) := by decide +kernel
theorem dX6_pairs_38 : decode cX6_pairs 38 = .ok (.iadd, 1) := by decide +kernel
theorem dX6_pairs_39 : decode cX6_pairs 39 = .ok (.istore_n 2, 1) := by decide +kernel
theorem dX6_pairs_40 : decode cX6_pairs 40 = .ok (.iinc 3 1, 3) := by decide +kernel
theorem dX6_pairs_43 : decode cX6_pairs 43 = .ok (.goto (-30), 3) := by decide +kernel
theorem dX6_pairs_46 : decode cX6_pairs 46 = .ok (.iload_n 2, 1) := by decide +kernel
theorem dX6_pairs_47 : decode cX6_pairs 47 = .ok (.iconst 2, 1) := by decide +kernel
theorem dX6_pairs_48 : decode cX6_pairs 48 = .ok (.idiv, 1) := by decide +kernel
theorem dX6_pairs_49 : decode cX6_pairs 49 = .ok (.aload_n 0, 1) := by decide +kernel
theorem dX6_pairs_50 : decode cX6_pairs 50 = .ok (.getfield 10, 3) := by decide +kernel
theorem dX6_pairs_53 : decode cX6_pairs 53 = .ok (.getfield 88, 3) := by decide +kernel
theorem dX6_pairs_56 : decode cX6_pairs 56 = .ok (.iload_n 2, 1) := by decide +kernel
theorem dX6_pairs_57 : decode cX6_pairs 57 = .ok (.isub, 1) := by decide +kernel
theorem dX6_pairs_58 : decode cX6_pairs 58 = .ok (.iconst 2, 1) := by decide +kernel
theorem dX6_pairs_59 : decode cX6_pairs 59 = .ok (.idiv, 1) := by decide +kernel
theorem dX6_pairs_60 : decode cX6_pairs 60 = .ok (.iadd, 1) := by decide +kernel
theorem dX6_pairs_61 : decode cX6_pairs 61 = .ok (.ireturn, 1) := by decide +kernel
theorem dX6_needs_0 : decode cX6_needs 0 = .ok (.iload_n 1, 1) := by decide +kernel
theorem dX6_needs_1 : decode cX6_needs 1 = .ok (.ifCond .lt 26, 3) := by decide +kernel
theorem dX6_needs_4 : decode cX6_needs 4 = .ok (.iload_n 1, 1) := by decide +kernel
theorem dX6_needs_5 : decode cX6_needs 5 = .ok (.bipush 9, 2) := by decide +kernel
theorem dX6_needs_7 : decode cX6_needs 7 = .ok (.if_icmp .gt 20, 3) := by decide +kernel
theorem dX6_needs_10 : decode cX6_needs 10 = .ok (.iload_n 2, 1) := by decide +kernel
theorem dX6_needs_11 : decode cX6_needs 11 = .ok (.ifCond .lt 16, 3) := by decide +kernel
theorem dX6_needs_14 : decode cX6_needs 14 = .ok (.iload_n 2, 1) := by decide +kernel
theorem dX6_needs_15 : decode cX6_needs 15 = .ok (.bipush 9, 2) := by decide +kernel
theorem dX6_needs_17 : decode cX6_needs 17 = .ok (.if_icmp .gt 10, 3) := by decide +kernel
theorem dX6_needs_20 : decode cX6_needs 20 = .ok (.iload_n 3, 1) := by decide +kernel
theorem dX6_needs_21 : decode cX6_needs 21 = .ok (.invokestatic 108, 3) := by decide +kernel
theorem dX6_needs_24 : decode cX6_needs 24 = .ok (.ifCond .ne 5, 3) := by decide +kernel
theorem dX6_needs_27 : decode cX6_needs 27 = .ok (.iconst (-1), 1) := by decide +kernel
theorem dX6_needs_28 : decode cX6_needs 28 = .ok (.ireturn, 1) := by decide +kernel
theorem dX6_needs_29 : decode cX6_needs 29 = .ok (.bipush 37, 2) := by decide +kernel
theorem dX6_needs_31 : decode cX6_needs 31 = .ok (.istore 4, 2) := by decide +kernel
theorem dX6_needs_33 : decode cX6_needs 33 = .ok (.iconst 0, 1) := by decide +kernel
theorem dX6_needs_34 : decode cX6_needs 34 = .ok (.istore 5, 2) := by decide +kernel
theorem dX6_needs_36 : decode cX6_needs 36 = .ok (.iconst 0, 1) := by decide +kernel
theorem dX6_needs_37 : decode cX6_needs 37 = .ok (.istore 6, 2) := by decide +kernel
theorem dX6_needs_39 : decode cX6_needs 39 = .ok (.iload 6, 2) := by decide +kernel
theorem dX6_needs_41 : decode cX6_needs 41 = .ok (.bipush 9, 2) := by decide +kernel
theorem dX6_needs_43 : decode cX6_needs 43 = .ok (.if_icmp .gt 141, 3) := by decide +kernel
theorem dX6_needs_46 : decode cX6_needs 46 = .ok (.iconst 0, 1) := by decide +kernel
theorem dX6_needs_47 : decode cX6_needs 47 = .ok (.istore 7, 2) := by decide +kernel
theorem dX6_needs_49 : decode cX6_needs 49 = .ok (.iload 7, 2) := by decide +kernel
theorem dX6_needs_51 : decode cX6_needs 51 = .ok (.bipush 9, 2) := by decide +kernel
theorem dX6_needs_53 : decode cX6_needs 53 = .ok (.if_icmp .gt 125, 3) := by decide +kernel
theorem dX6_needs_56 : decode cX6_needs 56 = .ok (.aload_n 0, 1) := by decide +kernel
theorem dX6_needs_57 : decode cX6_needs 57 = .ok (.getfield 10, 3) := by decide +kernel
theorem dX6_needs_60 : decode cX6_needs 60 = .ok (.getfield 165, 3) := by decide +kernel
theorem dX6_needs_63 : decode cX6_needs 63 = .ok (.iconst 0, 1) := by decide +kernel
theorem dX6_needs_64 : decode cX6_needs 64 = .ok (.iaload, 1) := by decide +kernel
theorem dX6_needs_65 : decode cX6_needs 65 = .ok (.iload 6, 2) := by decide +kernel
theorem dX6_needs_67 : decode cX6_needs 67 = .ok (.iadd, 1) := by decide +kernel
theorem dX6_needs_68 : decode cX6_needs 68 = .ok (.aload_n 0, 1) := by decide +kernel
theorem dX6_needs_69 : decode cX6_needs 69 = .ok (.getfield 10, 3) := by decide +kernel
theorem dX6_needs_72 : decode cX6_needs 72 = .ok (.getfield 165, 3) := by decide +kernel
theorem dX6_needs_75 : decode cX6_needs 75 = .ok (.iconst 1, 1) := by decide +kernel
theorem dX6_needs_76 : decode cX6_needs 76 = .ok (.iaload, 1) := by decide +kernel
theorem dX6_needs_77 : decode cX6_needs 77 = .ok (.iload 7, 2) := by decide +kernel
theorem dX6_needs_79 : decode cX6_needs 79 = .ok (.iadd, 1) := by decide +kernel
theorem dX6_needs_80 : decode cX6_needs 80 = .ok (.invokestatic 203, 3) := by decide +kernel
theorem dX6_needs_83 : decode cX6_needs 83 = .ok (.istore 8, 2) := by decide +kernel
theorem dX6_needs_85 : decode cX6_needs 85 = .ok (.iconst 0, 1) := by decide +kernel
theorem dX6_needs_86 : decode cX6_needs 86 = .ok (.iload_n 1, 1) := by decide +kernel
theorem dX6_needs_87 : decode cX6_needs 87 = .ok (.iload 8, 2) := by decide +kernel
theorem dX6_needs_89 : decode cX6_needs 89 = .ok (.isub, 1) := by decide +kernel
theorem dX6_needs_90 : decode cX6_needs 90 = .ok (.aload_n 0, 1) := by decide +kernel
theorem dX6_needs_91 : decode cX6_needs 91 = .ok (.getfield 10, 3) := by decide +kernel
theorem dX6_needs_94 : decode cX6_needs 94 = .ok (.getfield 165, 3) := by decide +kernel
theorem dX6_needs_97 : decode cX6_needs 97 = .ok (.iconst 2, 1) := by decide +kernel
theorem dX6_needs_98 : decode cX6_needs 98 = .ok (.iaload, 1) := by decide +kernel
theorem dX6_needs_99 : decode cX6_needs 99 = .ok (.isub, 1) := by decide +kernel
theorem dX6_needs_100 : decode cX6_needs 100 = .ok (.invokestatic 171, 3) := by decide +kernel
theorem dX6_needs_103 : decode cX6_needs 103 = .ok (.istore 9, 2) := by decide +kernel
theorem dX6_needs_105 : decode cX6_needs 105 = .ok (.iconst 0, 1) := by decide +kernel
theorem dX6_needs_106 : decode cX6_needs 106 = .ok (.iload_n 2, 1) := by decide +kernel
theorem dX6_needs_107 : decode cX6_needs 107 = .ok (.iload 8, 2) := by decide +kernel
theorem dX6_needs_109 : decode cX6_needs 109 = .ok (.isub, 1) := by decide +kernel
theorem dX6_needs_110 : decode cX6_needs 110 = .ok (.aload_n 0, 1) := by decide +kernel
theorem dX6_needs_111 : decode cX6_needs 111 = .ok (.getfield 10, 3) := by decide +kernel
theorem dX6_needs_114 : decode cX6_needs 114 = .ok (.getfield 165, 3) := by decide +kernel
theorem dX6_needs_117 : decode cX6_needs 117 = .ok (.iconst 3, 1) := by decide +kernel
theorem dX6_needs_118 : decode cX6_needs 118 = .ok (.iaload, 1) := by decide +kernel
theorem dX6_needs_119 : decode cX6_needs 119 = .ok (.isub, 1) := by decide +kernel
theorem dX6_needs_120 : decode cX6_needs 120 = .ok (.invokestatic 171, 3) := by decide +kernel
theorem dX6_needs_123 : decode cX6_needs 123 = .ok (.istore 10, 2) := by decide +kernel
theorem dX6_needs_125 : decode cX6_needs 125 = .ok (.iload 6, 2) := by decide +kernel
theorem dX6_needs_127 : decode cX6_needs 127 = .ok (.iload 7, 2) := by decide +kernel
theorem dX6_needs_129 : decode cX6_needs 129 = .ok (.iadd, 1) := by decide +kernel
theorem dX6_needs_130 : decode cX6_needs 130 = .ok (.iload 9, 2) := by decide +kernel
theorem dX6_needs_132 : decode cX6_needs 132 = .ok (.iadd, 1) := by decide +kernel
theorem dX6_needs_133 : decode cX6_needs 133 = .ok (.iload 10, 2) := by decide +kernel
theorem dX6_needs_135 : decode cX6_needs 135 = .ok (.iadd, 1) := by decide +kernel
theorem dX6_needs_136 : decode cX6_needs 136 = .ok (.istore 11, 2) := by decide +kernel
theorem dX6_needs_138 : decode cX6_needs 138 = .ok (.iload 11, 2) := by decide +kernel
theorem dX6_needs_140 : decode cX6_needs 140 = .ok (.iload 4, 2) := by decide +kernel
theorem dX6_needs_142 : decode cX6_needs 142 = .ok (.if_icmp .ge 30, 3) := by decide +kernel
theorem dX6_needs_145 : decode cX6_needs 145 = .ok (.iload 11, 2) := by decide +kernel
theorem dX6_needs_147 : decode cX6_needs 147 = .ok (.istore 4, 2) := by decide +kernel
theorem dX6_needs_149 : decode cX6_needs 149 = .ok (.sipush 1000, 3) := by decide +kernel
theorem dX6_needs_152 : decode cX6_needs 152 = .ok (.iload 6, 2) := by decide +kernel
theorem dX6_needs_154 : decode cX6_needs 154 = .ok (.imul, 1) := by decide +kernel
theorem dX6_needs_155 : decode cX6_needs 155 = .ok (.bipush 100, 2) := by decide +kernel
theorem dX6_needs_157 : decode cX6_needs 157 = .ok (.iload 7, 2) := by decide +kernel
theorem dX6_needs_159 : decode cX6_needs 159 = .ok (.imul, 1) := by decide +kernel
theorem dX6_needs_160 : decode cX6_needs 160 = .ok (.iadd, 1) := by decide +kernel
theorem dX6_needs_161 : decode cX6_needs 161 = .ok (.bipush 10, 2) := by decide +kernel
theorem dX6_needs_163 : decode cX6_needs 163 = .ok (.iload 9, 2) := by decide +kernel
theorem dX6_needs_165 : decode cX6_needs 165 = .ok (.imul, 1) := by decide +kernel
theorem dX6_needs_166 : decode cX6_needs 166 = .ok (.iadd, 1) := by decide +kernel
theorem dX6_needs_167 : decode cX6_needs 167 = .ok (.iload 10, 2) := by decide +kernel
theorem dX6_needs_169 : decode cX6_needs 169 = .ok (.iadd, 1) := by decide +kernel
theorem dX6_needs_170 : decode cX6_needs 170 = .ok (.istore 5, 2) := by decide +kernel
theorem dX6_needs_172 : decode cX6_needs 172 = .ok (.iinc 7 1, 3) := by decide +kernel
theorem dX6_needs_175 : decode cX6_needs 175 = .ok (.goto (-126), 3) := by decide +kernel
theorem dX6_needs_178 : decode cX6_needs 178 = .ok (.iinc 6 1, 3) := by decide +kernel
theorem dX6_needs_181 : decode cX6_needs 181 = .ok (.goto (-142), 3) := by decide +kernel
theorem dX6_needs_184 : decode cX6_needs 184 = .ok (.iload_n 3, 1) := by decide +kernel
theorem dX6_needs_185 : decode cX6_needs 185 = .ok (.ifCond .ne 8, 3) := by decide +kernel
theorem dX6_needs_188 : decode cX6_needs 188 = .ok (.iload 4, 2) := by decide +kernel
theorem dX6_needs_190 : decode cX6_needs 190 = .ok (.goto 5, 3) := by decide +kernel
theorem dX6_needs_193 : decode cX6_needs 193 = .ok (.iload 5, 2) := by decide +kernel
theorem dX6_needs_195 : decode cX6_needs 195 = .ok (.ireturn, 1) := by decide +kernel
theorem dX6_luck_0 : decode cX6_luck 0 = .ok (.aload_n 0, 1) := by decide +kernel
theorem dX6_luck_1 : decode cX6_luck 1 = .ok (.getfield 10, 3) := by decide +kernel
theorem dX6_luck_4 : decode cX6_luck 4 = .ok (.iload_n 1, 1) := by decide +kernel
theorem dX6_luck_5 : decode cX6_luck 5 = .ok (.invokevirtual 115, 3) := by decide +kernel
theorem dX6_luck_8 : decode cX6_luck 8 = .ok (.ifCond .eq 32, 3) := by decide +kernel
theorem dX6_luck_11 : decode cX6_luck 11 = .ok (.iload_n 2, 1) := by decide +kernel
theorem dX6_luck_12 : decode cX6_luck 12 = .ok (.ifCond .lt 28, 3) := by decide +kernel
theorem dX6_luck_15 : decode cX6_luck 15 = .ok (.iload_n 2, 1) := by decide +kernel
theorem dX6_luck_16 : decode cX6_luck 16 = .ok (.bipush 10, 2) := by decide +kernel
theorem dX6_luck_18 : decode cX6_luck 18 = .ok (.if_icmp .gt 22, 3) := by decide +kernel
theorem dX6_luck_21 : decode cX6_luck 21 = .ok (.aload_n 0, 1) := by decide +kernel
theorem dX6_luck_22 : decode cX6_luck 22 = .ok (.getfield 10, 3) := by decide +kernel
theorem dX6_luck_25 : decode cX6_luck 25 = .ok (.iload_n 3, 1) := by decide +kernel
theorem dX6_luck_26 : decode cX6_luck 26 = .ok (.invokevirtual 105, 3) := by decide +kernel
theorem dX6_luck_29 : decode cX6_luck 29 = .ok (.ifCond .eq 11, 3) := by decide +kernel
theorem dX6_luck_32 : decode cX6_luck 32 = .ok (.iload 4, 2) := by decide +kernel
theorem dX6_luck_34 : decode cX6_luck 34 = .ok (.invokestatic 108, 3) := by decide +kernel
theorem dX6_luck_37 : decode cX6_luck 37 = .ok (.ifCond .ne 7, 3) := by decide +kernel
theorem dX6_luck_40 : decode cX6_luck 40 = .ok (.ldc2_w 206, 3) := by decide +kernel
theorem dX6_luck_43 : decode cX6_luck 43 = .ok (.lreturn, 1) := by decide +kernel
theorem dX6_luck_44 : decode cX6_luck 44 = .ok (.aload_n 0, 1) := by decide +kernel
theorem dX6_luck_45 : decode cX6_luck 45 = .ok (.getfield 47, 3) := by decide +kernel
theorem dX6_luck_48 : decode cX6_luck 48 = .ok (.aload_n 0, 1) := by decide +kernel
theorem dX6_luck_49 : decode cX6_luck 49 = .ok (.getfield 10, 3) := by decide +kernel
theorem dX6_luck_52 : decode cX6_luck 52 = .ok (.aload_n 0, 1) := by decide +kernel
theorem dX6_luck_53 : decode cX6_luck 53 = .ok (.getfield 10, 3) := by decide +kernel
theorem dX6_luck_56 : decode cX6_luck 56 = .ok (.getfield 118, 3) := by decide +kernel
theorem dX6_luck_59 : decode cX6_luck 59 = .ok (.iload_n 1, 1) := by decide +kernel
theorem dX6_luck_60 : decode cX6_luck 60 = .ok (.aaload, 1) := by decide +kernel
theorem dX6_luck_61 : decode cX6_luck 61 = .ok (.iload_n 2, 1) := by decide +kernel
theorem dX6_luck_62 : decode cX6_luck 62 = .ok (.invokevirtual 208, 3) := by decide +kernel
theorem dX6_luck_65 : decode cX6_luck 65 = .ok (.aload_n 0, 1) := by decide +kernel
theorem dX6_luck_66 : decode cX6_luck 66 = .ok (.getfield 47, 3) := by decide +kernel
theorem dX6_luck_69 : decode cX6_luck 69 = .ok (.getfield 212, 3) := by decide +kernel
theorem dX6_luck_72 : decode cX6_luck 72 = .ok (.iload_n 3, 1) := by decide +kernel
theorem dX6_luck_73 : decode cX6_luck 73 = .ok (.laload, 1) := by decide +kernel
theorem dX6_luck_74 : decode cX6_luck 74 = .ok (.aload_n 0, 1) := by decide +kernel
theorem dX6_luck_75 : decode cX6_luck 75 = .ok (.getfield 47, 3) := by decide +kernel
theorem dX6_luck_78 : decode cX6_luck 78 = .ok (.getfield 216, 3) := by decide +kernel
theorem dX6_luck_81 : decode cX6_luck 81 = .ok (.invokestatic 220, 3) := by decide +kernel
theorem dX6_luck_84 : decode cX6_luck 84 = .ok (.lstore 5, 2) := by decide +kernel
theorem dX6_luck_86 : decode cX6_luck 86 = .ok (.lload 5, 2) := by decide +kernel
theorem dX6_luck_88 : decode cX6_luck 88 = .ok (.lconst 1, 1) := by decide +kernel
theorem dX6_luck_89 : decode cX6_luck 89 = .ok (.lcmp, 1) := by decide +kernel
theorem dX6_luck_90 : decode cX6_luck 90 = .ok (.ifCond .ge 7, 3) := by decide +kernel
theorem dX6_luck_93 : decode cX6_luck 93 = .ok (.iload 4, 2) := by decide +kernel
theorem dX6_luck_95 : decode cX6_luck 95 = .ok (.i2l, 1) := by decide +kernel
theorem dX6_luck_96 : decode cX6_luck 96 = .ok (.lreturn, 1) := by decide +kernel
theorem dX6_luck_97 : decode cX6_luck 97 = .ok (.iload 4, 2) := by decide +kernel
theorem dX6_luck_99 : decode cX6_luck 99 = .ok (.ifCond .ne 18, 3) := by decide +kernel
theorem dX6_luck_102 : decode cX6_luck 102 = .ok (.aload_n 0, 1) := by decide +kernel
theorem dX6_luck_103 : decode cX6_luck 103 = .ok (.getfield 47, 3) := by decide +kernel
theorem dX6_luck_106 : decode cX6_luck 106 = .ok (.getfield 212, 3) := by decide +kernel
theorem dX6_luck_109 : decode cX6_luck 109 = .ok (.iload_n 3, 1) := by decide +kernel
theorem dX6_luck_110 : decode cX6_luck 110 = .ok (.laload, 1) := by decide +kernel
theorem dX6_luck_111 : decode cX6_luck 111 = .ok (.lload 5, 2) := by decide +kernel
theorem dX6_luck_113 : decode cX6_luck 113 = .ok (.ldiv, 1) := by decide +kernel
theorem dX6_luck_114 : decode cX6_luck 114 = .ok (.goto 13, 3) := by decide +kernel
theorem dX6_luck_117 : decode cX6_luck 117 = .ok (.aload_n 0, 1) := by decide +kernel
theorem dX6_luck_118 : decode cX6_luck 118 = .ok (.getfield 47, 3) := by decide +kernel
theorem dX6_luck_121 : decode cX6_luck 121 = .ok (.getfield 216, 3) := by decide +kernel
theorem dX6_luck_124 : decode cX6_luck 124 = .ok (.lload 5, 2) := by decide +kernel
theorem dX6_luck_126 : decode cX6_luck 126 = .ok (.ldiv, 1) := by decide +kernel
theorem dX6_luck_127 : decode cX6_luck 127 = .ok (.lreturn, 1) := by decide +kernel
theorem dX6_see_0 : decode cX6_see 0 = .ok (.aload_n 0, 1) := by decide +kernel
theorem dX6_see_1 : decode cX6_see 1 = .ok (.getfield 10, 3) := by decide +kernel
theorem dX6_see_4 : decode cX6_see 4 = .ok (.iload_n 1, 1) := by decide +kernel
theorem dX6_see_5 : decode cX6_see 5 = .ok (.invokevirtual 115, 3) := by decide +kernel
theorem dX6_see_8 : decode cX6_see 8 = .ok (.ifCond .eq 24, 3) := by decide +kernel
theorem dX6_see_11 : decode cX6_see 11 = .ok (.iload_n 2, 1) := by decide +kernel
theorem dX6_see_12 : decode cX6_see 12 = .ok (.ifCond .lt 20, 3) := by decide +kernel
theorem dX6_see_15 : decode cX6_see 15 = .ok (.iload_n 2, 1) := by decide +kernel
theorem dX6_see_16 : decode cX6_see 16 = .ok (.bipush 10, 2) := by decide +kernel
theorem dX6_see_18 : decode cX6_see 18 = .ok (.if_icmp .gt 14, 3) := by decide +kernel
theorem dX6_see_21 : decode cX6_see 21 = .ok (.aload_n 0, 1) := by decide +kernel
theorem dX6_see_22 : decode cX6_see 22 = .ok (.getfield 10, 3) := by decide +kernel
theorem dX6_see_25 : decode cX6_see 25 = .ok (.iload_n 3, 1) := by decide +kernel
theorem dX6_see_26 : decode cX6_see 26 = .ok (.invokevirtual 105, 3) := by decide +kernel
theorem dX6_see_29 : decode cX6_see 29 = .ok (.ifCond .ne 5, 3) := by decide +kernel
theorem dX6_see_32 : decode cX6_see 32 = .ok (.iconst (-1), 1) := by decide +kernel
theorem dX6_see_33 : decode cX6_see 33 = .ok (.ireturn, 1) := by decide +kernel
theorem dX6_see_34 : decode cX6_see 34 = .ok (.aload_n 0, 1) := by decide +kernel
theorem dX6_see_35 : decode cX6_see 35 = .ok (.getfield 10, 3) := by decide +kernel
theorem dX6_see_38 : decode cX6_see 38 = .ok (.getfield 224, 3) := by decide +kernel
theorem dX6_see_41 : decode cX6_see 41 = .ok (.bipush 8, 2) := by decide +kernel
theorem dX6_see_43 : decode cX6_see 43 = .ok (.if_icmp .lt 6, 3) := by decide +kernel
theorem dX6_see_46 : decode cX6_see 46 = .ok (.bipush (-3), 2) := by decide +kernel
theorem dX6_see_48 : decode cX6_see 48 = .ok (.ireturn, 1) := by decide +kernel
theorem dX6_see_49 : decode cX6_see 49 = .ok (.aload_n 0, 1) := by decide +kernel
theorem dX6_see_50 : decode cX6_see 50 = .ok (.getfield 10, 3) := by decide +kernel
theorem dX6_see_53 : decode cX6_see 53 = .ok (.iload_n 1, 1) := by decide +kernel
theorem dX6_see_54 : decode cX6_see 54 = .ok (.iload_n 2, 1) := by decide +kernel
theorem dX6_see_55 : decode cX6_see 55 = .ok (.iload_n 3, 1) := by decide +kernel
theorem dX6_see_56 : decode cX6_see 56 = .ok (.iload 4, 2) := by decide +kernel
theorem dX6_see_58 : decode cX6_see 58 = .ok (.invokevirtual 227, 3) := by decide +kernel
theorem dX6_see_61 : decode cX6_see 61 = .ok (.aload_n 0, 1) := by decide +kernel
theorem dX6_see_62 : decode cX6_see 62 = .ok (.getfield 10, 3) := by decide +kernel
theorem dX6_see_65 : decode cX6_see 65 = .ok (.getfield 224, 3) := by decide +kernel
theorem dX6_see_68 : decode cX6_see 68 = .ok (.ireturn, 1) := by decide +kernel
theorem dX6_forget_0 : decode cX6_forget 0 = .ok (.iload_n 1, 1) := by decide +kernel
theorem dX6_forget_1 : decode cX6_forget 1 = .ok (.ifCond .lt 14, 3) := by decide +kernel
theorem dX6_forget_4 : decode cX6_forget 4 = .ok (.iload_n 1, 1) := by decide +kernel
theorem dX6_forget_5 : decode cX6_forget 5 = .ok (.aload_n 0, 1) := by decide +kernel
theorem dX6_forget_6 : decode cX6_forget 6 = .ok (.getfield 10, 3) := by decide +kernel
theorem dX6_forget_9 : decode cX6_forget 9 = .ok (.getfield 224, 3) := by decide +kernel
theorem dX6_forget_12 : decode cX6_forget 12 = .ok (.if_icmp .le 5, 3) := by decide +kernel
theorem dX6_forget_15 : decode cX6_forget 15 = .ok (.iconst (-1), 1) := by decide +kernel
theorem dX6_forget_16 : decode cX6_forget 16 = .ok (.ireturn, 1) := by decide +kernel
theorem dX6_forget_17 : decode cX6_forget 17 = .ok (.aload_n 0, 1) := by decide +kernel
theorem dX6_forget_18 : decode cX6_forget 18 = .ok (.getfield 10, 3) := by decide +kernel
theorem dX6_forget_21 : decode cX6_forget 21 = .ok (.getfield 224, 3) := by decide +kernel
theorem dX6_forget_24 : decode cX6_forget 24 = .ok (.istore_n 2, 1) := by decide +kernel
theorem dX6_forget_25 : decode cX6_forget 25 = .ok (.aload_n 0, 1) := by decide +kernel
theorem dX6_forget_26 : decode cX6_forget 26 = .ok (.getfield 10, 3) := by decide +kernel
theorem dX6_forget_29 : decode cX6_forget 29 = .ok (.iload_n 1, 1) := by decide +kernel
theorem dX6_forget_30 : decode cX6_forget 30 = .ok (.putfield 224, 3) := by decide +kernel
theorem dX6_forget_33 : decode cX6_forget 33 = .ok (.iload_n 2, 1) := by decide +kernel
theorem dX6_forget_34 : decode cX6_forget 34 = .ok (.ireturn, 1) := by decide +kernel
theorem dX6_fits_0 : decode cX6_fits 0 = .ok (.aload_n 0, 1) := by decide +kernel
theorem dX6_fits_1 : decode cX6_fits 1 = .ok (.getfield 10, 3) := by decide +kernel
theorem dX6_fits_4 : decode cX6_fits 4 = .ok (.iload_n 1, 1) := by decide +kernel
theorem dX6_fits_5 : decode cX6_fits 5 = .ok (.invokevirtual 115, 3) := by decide +kernel
theorem dX6_fits_8 : decode cX6_fits 8 = .ok (.ifCond .eq 10, 3) := by decide +kernel
theorem dX6_fits_11 : decode cX6_fits 11 = .ok (.iload_n 2, 1) := by decide +kernel
theorem dX6_fits_12 : decode cX6_fits 12 = .ok (.invokestatic 108, 3) := by decide +kernel
theorem dX6_fits_15 : decode cX6_fits 15 = .ok (.ifCond .ne 5, 3) := by decide +kernel
theorem dX6_fits_18 : decode cX6_fits 18 = .ok (.iconst (-1), 1) := by decide +kernel
theorem dX6_fits_19 : decode cX6_fits 19 = .ok (.ireturn, 1) := by decide +kernel
theorem dX6_fits_20 : decode cX6_fits 20 = .ok (.iconst 0, 1) := by decide +kernel
theorem dX6_fits_21 : decode cX6_fits 21 = .ok (.istore_n 3, 1) := by decide +kernel
theorem dX6_fits_22 : decode cX6_fits 22 = .ok (.iconst 0, 1) := by decide +kernel
theorem dX6_fits_23 : decode cX6_fits 23 = .ok (.istore 4, 2) := by decide +kernel
theorem dX6_fits_25 : decode cX6_fits 25 = .ok (.iload 4, 2) := by decide +kernel
theorem dX6_fits_27 : decode cX6_fits 27 = .ok (.aload_n 0, 1) := by decide +kernel
theorem dX6_fits_28 : decode cX6_fits 28 = .ok (.getfield 10, 3) := by decide +kernel
theorem dX6_fits_31 : decode cX6_fits 31 = .ok (.getfield 82, 3) := by decide +kernel
theorem dX6_fits_34 : decode cX6_fits 34 = .ok (.if_icmp .ge 39, 3) := by decide +kernel
theorem dX6_fits_37 : decode cX6_fits 37 = .ok (.aload_n 0, 1) := by decide +kernel
theorem dX6_fits_38 : decode cX6_fits 38 = .ok (.getfield 10, 3) := by decide +kernel
theorem dX6_fits_41 : decode cX6_fits 41 = .ok (.iload_n 1, 1) := by decide +kernel
theorem dX6_fits_42 : decode cX6_fits 42 = .ok (.iload 4, 2) := by decide +kernel
theorem dX6_fits_44 : decode cX6_fits 44 = .ok (.iload_n 2, 1) := by decide +kernel
theorem dX6_fits_45 : decode cX6_fits 45 = .ok (.iconst 1, 1) := by decide +kernel
theorem dX6_fits_46 : decode cX6_fits 46 = .ok (.if_icmp .ne 7, 3) := by decide +kernel
theorem dX6_fits_49 : decode cX6_fits 49 = .ok (.iconst 1, 1) := by decide +kernel
theorem dX6_fits_50 : decode cX6_fits 50 = .ok (.goto 4, 3) := by decide +kernel
theorem dX6_fits_53 : decode cX6_fits 53 = .ok (.iconst 0, 1) := by decide +kernel
theorem dX6_fits_54 : decode cX6_fits 54 = .ok (.invokevirtual 231, 3) := by decide +kernel
theorem dX6_fits_57 : decode cX6_fits 57 = .ok (.ifCond .eq 10, 3) := by decide +kernel
theorem dX6_fits_60 : decode cX6_fits 60 = .ok (.iload_n 3, 1) := by decide +kernel
theorem dX6_fits_61 : decode cX6_fits 61 = .ok (.iconst 1, 1) := by decide +kernel
theorem dX6_fits_62 : decode cX6_fits 62 = .ok (.iload 4, 2) := by decide +kernel
theorem dX6_fits_64 : decode cX6_fits 64 = .ok (.ishl, 1) := by decide +kernel
theorem dX6_fits_65 : decode cX6_fits 65 = .ok (.ior, 1) := by decide +kernel
theorem dX6_fits_66 : decode cX6_fits 66 = .ok (.istore_n 3, 1) := by decide +kernel
theorem dX6_fits_67 : decode cX6_fits 67 = .ok (.iinc 4 1, 3) := by decide +kernel
theorem dX6_fits_70 : decode cX6_fits 70 = .ok (.goto (-45), 3) := by decide +kernel
theorem dX6_fits_73 : decode cX6_fits 73 = .ok (.iload_n 3, 1) := by decide +kernel
theorem dX6_fits_74 : decode cX6_fits 74 = .ok (.ireturn, 1) := by decide +kernel
theorem dX6_drift_0 : decode cX6_drift 0 = .ok (.iload_n 2, 1) := by decide +kernel
theorem dX6_drift_1 : decode cX6_drift 1 = .ok (.iconst 1, 1) := by decide +kernel
theorem dX6_drift_2 : decode cX6_drift 2 = .ok (.if_icmp .lt 16, 3) := by decide +kernel
theorem dX6_drift_5 : decode cX6_drift 5 = .ok (.iload_n 2, 1) := by decide +kernel
theorem dX6_drift_6 : decode cX6_drift 6 = .ok (.bipush 60, 2) := by decide +kernel
theorem dX6_drift_8 : decode cX6_drift 8 = .ok (.if_icmp .gt 10, 3) := by decide +kernel
theorem dX6_drift_11 : decode cX6_drift 11 = .ok (.iload_n 3, 1) := by decide +kernel
theorem dX6_drift_12 : decode cX6_drift 12 = .ok (.invokestatic 108, 3) := by decide +kernel
theorem dX6_drift_15 : decode cX6_drift 15 = .ok (.ifCond .ne 5, 3) := by decide +kernel
theorem dX6_drift_18 : decode cX6_drift 18 = .ok (.iconst (-1), 1) := by decide +kernel
theorem dX6_drift_19 : decode cX6_drift 19 = .ok (.ireturn, 1) := by decide +kernel
theorem dX6_drift_20 : decode cX6_drift 20 = .ok (.aload_n 0, 1) := by decide +kernel
theorem dX6_drift_21 : decode cX6_drift 21 = .ok (.getfield 16, 3) := by decide +kernel
theorem dX6_drift_24 : decode cX6_drift 24 = .ok (.aload_n 0, 1) := by decide +kernel
theorem dX6_drift_25 : decode cX6_drift 25 = .ok (.getfield 10, 3) := by decide +kernel
theorem dX6_drift_28 : decode cX6_drift 28 = .ok (.invokevirtual 75, 3) := by decide +kernel
theorem dX6_drift_31 : decode cX6_drift 31 = .ok (.aload_n 0, 1) := by decide +kernel
theorem dX6_drift_32 : decode cX6_drift 32 = .ok (.getfield 16, 3) := by decide +kernel
theorem dX6_drift_35 : decode cX6_drift 35 = .ok (.iload_n 1, 1) := by decide +kernel
theorem dX6_drift_36 : decode cX6_drift 36 = .ok (.iload_n 2, 1) := by decide +kernel
theorem dX6_drift_37 : decode cX6_drift 37 = .ok (.invokevirtual 235, 3) := by decide +kernel
theorem dX6_drift_40 : decode cX6_drift 40 = .ok (.istore 4, 2) := by decide +kernel
theorem dX6_drift_42 : decode cX6_drift 42 = .ok (.iload_n 3, 1) := by decide +kernel
theorem dX6_drift_43 : decode cX6_drift 43 = .ok (.ifCond .ne 8, 3) := by decide +kernel
theorem dX6_drift_46 : decode cX6_drift 46 = .ok (.iload 4, 2) := by decide +kernel
theorem dX6_drift_48 : decode cX6_drift 48 = .ok (.goto 10, 3) := by decide +kernel
theorem dX6_drift_51 : decode cX6_drift 51 = .ok (.aload_n 0, 1) := by decide +kernel
theorem dX6_drift_52 : decode cX6_drift 52 = .ok (.getfield 16, 3) := by decide +kernel
theorem dX6_drift_55 : decode cX6_drift 55 = .ok (.invokevirtual 238, 3) := by decide +kernel
theorem dX6_drift_58 : decode cX6_drift 58 = .ok (.ireturn, 1) := by decide +kernel
theorem dX6_keep_0 : decode cX6_keep 0 = .ok (.iload_n 1, 1) := by decide +kernel
theorem dX6_keep_1 : decode cX6_keep 1 = .ok (.ifCond .lt 8, 3) := by decide +kernel
theorem dX6_keep_4 : decode cX6_keep 4 = .ok (.iload_n 1, 1) := by decide +kernel
theorem dX6_keep_5 : decode cX6_keep 5 = .ok (.iconst 2, 1) := by decide +kernel
theorem dX6_keep_6 : decode cX6_keep 6 = .ok (.if_icmp .lt 5, 3) := by decide +kernel
theorem dX6_keep_9 : decode cX6_keep 9 = .ok (.iconst (-1), 1) := by decide +kernel
theorem dX6_keep_10 : decode cX6_keep 10 = .ok (.ireturn, 1) := by decide +kernel
theorem dX6_keep_11 : decode cX6_keep 11 = .ok (.aload_n 0, 1) := by decide +kernel
theorem dX6_keep_12 : decode cX6_keep 12 = .ok (.getfield 79, 3) := by decide +kernel
theorem dX6_keep_15 : decode cX6_keep 15 = .ok (.iload_n 1, 1) := by decide +kernel
theorem dX6_keep_16 : decode cX6_keep 16 = .ok (.ishr, 1) := by decide +kernel
theorem dX6_keep_17 : decode cX6_keep 17 = .ok (.iconst 1, 1) := by decide +kernel
theorem dX6_keep_18 : decode cX6_keep 18 = .ok (.iand, 1) := by decide +kernel
theorem dX6_keep_19 : decode cX6_keep 19 = .ok (.istore_n 2, 1) := by decide +kernel
theorem dX6_keep_20 : decode cX6_keep 20 = .ok (.aload_n 0, 1) := by decide +kernel
theorem dX6_keep_21 : decode cX6_keep 21 = .ok (.getfield 19, 3) := by decide +kernel
theorem dX6_keep_24 : decode cX6_keep 24 = .ok (.iload_n 1, 1) := by decide +kernel
theorem dX6_keep_25 : decode cX6_keep 25 = .ok (.aaload, 1) := by decide +kernel
theorem dX6_keep_26 : decode cX6_keep 26 = .ok (.aload_n 0, 1) := by decide +kernel
theorem dX6_keep_27 : decode cX6_keep 27 = .ok (.getfield 10, 3) := by decide +kernel
theorem dX6_keep_30 : decode cX6_keep 30 = .ok (.invokevirtual 75, 3) := by decide +kernel
theorem dX6_keep_33 : decode cX6_keep 33 = .ok (.aload_n 0, 1) := by decide +kernel
theorem dX6_keep_34 : decode cX6_keep 34 = .ok (.dup, 1) := by decide +kernel
theorem dX6_keep_35 : decode cX6_keep 35 = .ok (.getfield 79, 3) := by decide +kernel
theorem dX6_keep_38 : decode cX6_keep 38 = .ok (.iconst 1, 1) := by decide +kernel
theorem dX6_keep_39 : decode cX6_keep 39 = .ok (.iload_n 1, 1) := by decide +kernel
theorem dX6_keep_40 : decode cX6_keep 40 = .ok (.ishl, 1) := by decide +kernel
theorem dX6_keep_41 : decode cX6_keep 41 = .ok (.ior, 1) := by decide +kernel
theorem dX6_keep_42 : decode cX6_keep 42 = .ok (.putfield 79, 3) := by decide +kernel
theorem dX6_keep_45 : decode cX6_keep 45 = .ok (.iload_n 2, 1) := by decide +kernel
theorem dX6_keep_46 : decode cX6_keep 46 = .ok (.ireturn, 1) := by decide +kernel
theorem dX6_back_0 : decode cX6_back 0 = .ok (.iload_n 1, 1) := by decide +kernel
theorem dX6_back_1 : decode cX6_back 1 = .ok (.ifCond .lt 8, 3) := by decide +kernel
theorem dX6_back_4 : decode cX6_back 4 = .ok (.iload_n 1, 1) := by decide +kernel
theorem dX6_back_5 : decode cX6_back 5 = .ok (.iconst 2, 1) := by decide +kernel
theorem dX6_back_6 : decode cX6_back 6 = .ok (.if_icmp .lt 5, 3) := by decide +kernel
theorem dX6_back_9 : decode cX6_back 9 = .ok (.iconst (-1), 1) := by decide +kernel
theorem dX6_back_10 : decode cX6_back 10 = .ok (.ireturn, 1) := by decide +kernel
theorem dX6_back_11 : decode cX6_back 11 = .ok (.aload_n 0, 1) := by decide +kernel
theorem dX6_back_12 : decode cX6_back 12 = .ok (.getfield 79, 3) := by decide +kernel
theorem dX6_back_15 : decode cX6_back 15 = .ok (.iload_n 1, 1) := by decide +kernel
theorem dX6_back_16 : decode cX6_back 16 = .ok (.ishr, 1) := by decide +kernel
theorem dX6_back_17 : decode cX6_back 17 = .ok (.iconst 1, 1) := by decide +kernel
theorem dX6_back_18 : decode cX6_back 18 = .ok (.iand, 1) := by decide +kernel
theorem dX6_back_19 : decode cX6_back 19 = .ok (.ifCond .ne 6, 3) := by decide +kernel
theorem dX6_back_22 : decode cX6_back 22 = .ok (.bipush (-2), 2) := by decide +kernel
theorem dX6_back_24 : decode cX6_back 24 = .ok (.ireturn, 1) := by decide +kernel
theorem dX6_back_25 : decode cX6_back 25 = .ok (.aload_n 0, 1) := by decide +kernel
theorem dX6_back_26 : decode cX6_back 26 = .ok (.getfield 10, 3) := by decide +kernel
theorem dX6_back_29 : decode cX6_back 29 = .ok (.aload_n 0, 1) := by decide +kernel
theorem dX6_back_30 : decode cX6_back 30 = .ok (.getfield 19, 3) := by decide +kernel
theorem dX6_back_33 : decode cX6_back 33 = .ok (.iload_n 1, 1) := by decide +kernel
theorem dX6_back_34 : decode cX6_back 34 = .ok (.aaload, 1) := by decide +kernel
theorem dX6_back_35 : decode cX6_back 35 = .ok (.invokevirtual 75, 3) := by decide +kernel
theorem dX6_back_38 : decode cX6_back 38 = .ok (.aload_n 0, 1) := by decide +kernel
theorem dX6_back_39 : decode cX6_back 39 = .ok (.getfield 10, 3) := by decide +kernel
theorem dX6_back_42 : decode cX6_back 42 = .ok (.getfield 85, 3) := by decide +kernel
theorem dX6_back_45 : decode cX6_back 45 = .ok (.ireturn, 1) := by decide +kernel
theorem dX6_sheet_0 : decode cX6_sheet 0 = .ok (.iload_n 1, 1) := by decide +kernel
theorem dX6_sheet_1 : decode cX6_sheet 1 = .ok (.ifCond .lt 21, 3) := by decide +kernel
theorem dX6_sheet_4 : decode cX6_sheet 4 = .ok (.iload_n 1, 1) := by decide +kernel
theorem dX6_sheet_5 : decode cX6_sheet 5 = .ok (.iconst 4, 1) := by decide +kernel
theorem dX6_sheet_6 : decode cX6_sheet 6 = .ok (.if_icmp .ge 16, 3) := by decide +kernel
theorem dX6_sheet_9 : decode cX6_sheet 9 = .ok (.iload_n 2, 1) := by decide +kernel
theorem dX6_sheet_10 : decode cX6_sheet 10 = .ok (.invokestatic 241, 3) := by decide +kernel
theorem dX6_sheet_13 : decode cX6_sheet 13 = .ok (.ifCond .eq 9, 3) := by decide +kernel
theorem dX6_sheet_16 : decode cX6_sheet 16 = .ok (.iload_n 3, 1) := by decide +kernel
theorem dX6_sheet_17 : decode cX6_sheet 17 = .ok (.bipush 40, 2) := by decide +kernel
theorem dX6_sheet_19 : decode cX6_sheet 19 = .ok (.if_icmp .le 5, 3) := by decide +kernel
theorem dX6_sheet_22 : decode cX6_sheet 22 = .ok (.iconst (-1), 1) := by decide +kernel
theorem dX6_sheet_23 : decode cX6_sheet 23 = .ok (.ireturn, 1) := by decide +kernel
theorem dX6_sheet_24 : decode cX6_sheet 24 = .ok (.iload_n 3, 1) := by decide +kernel
theorem dX6_sheet_25 : decode cX6_sheet 25 = .ok (.ifCond .ge 6, 3) := by decide +kernel
theorem dX6_sheet_28 : decode cX6_sheet 28 = .ok (.bipush (-14), 2) := by decide +kernel
theorem dX6_sheet_30 : decode cX6_sheet 30 = .ok (.ireturn, 1) := by decide +kernel
theorem dX6_sheet_31 : decode cX6_sheet 31 = .ok (.aload_n 0, 1) := by decide +kernel
theorem dX6_sheet_32 : decode cX6_sheet 32 = .ok (.getfield 32, 3) := by decide +kernel
theorem dX6_sheet_35 : decode cX6_sheet 35 = .ok (.iload_n 1, 1) := by decide +kernel
theorem dX6_sheet_36 : decode cX6_sheet 36 = .ok (.aaload, 1) := by decide +kernel
theorem dX6_sheet_37 : decode cX6_sheet 37 = .ok (.iload_n 2, 1) := by decide +kernel
theorem dX6_sheet_38 : decode cX6_sheet 38 = .ok (.iload_n 3, 1) := by decide +kernel
theorem dX6_sheet_39 : decode cX6_sheet 39 = .ok (.invokevirtual 244, 3) := by decide +kernel
theorem dX6_sheet_42 : decode cX6_sheet 42 = .ok (.iconst 1, 1) := by decide +kernel
theorem dX6_sheet_43 : decode cX6_sheet 43 = .ok (.ireturn, 1) := by decide +kernel
theorem dX6_lay_0 : decode cX6_lay 0 = .ok (.iload_n 1, 1) := by decide +kernel
theorem dX6_lay_1 : decode cX6_lay 1 = .ok (.ifCond .lt 8, 3) := by decide +kernel
theorem dX6_lay_4 : decode cX6_lay 4 = .ok (.iload_n 1, 1) := by decide +kernel
theorem dX6_lay_5 : decode cX6_lay 5 = .ok (.iconst 4, 1) := by decide +kernel
theorem dX6_lay_6 : decode cX6_lay 6 = .ok (.if_icmp .lt 5, 3) := by decide +kernel
theorem dX6_lay_9 : decode cX6_lay 9 = .ok (.iconst (-1), 1) := by decide +kernel
theorem dX6_lay_10 : decode cX6_lay 10 = .ok (.ireturn, 1) := by decide +kernel
theorem dX6_lay_11 : decode cX6_lay 11 = .ok (.aload_n 0, 1) := by decide +kernel
theorem dX6_lay_12 : decode cX6_lay 12 = .ok (.getfield 32, 3) := by decide +kernel
theorem dX6_lay_15 : decode cX6_lay 15 = .ok (.iload_n 1, 1) := by decide +kernel
theorem dX6_lay_16 : decode cX6_lay 16 = .ok (.aaload, 1) := by decide +kernel
theorem dX6_lay_17 : decode cX6_lay 17 = .ok (.astore 4, 2) := by decide +kernel
theorem dX6_lay_19 : decode cX6_lay 19 = .ok (.aload 4, 2) := by decide +kernel
theorem dX6_lay_21 : decode cX6_lay 21 = .ok (.getfield 248, 3) := by decide +kernel
theorem dX6_lay_24 : decode cX6_lay 24 = .ok (.ifCond .ge 6, 3) := by decide +kernel
theorem dX6_lay_27 : decode cX6_lay 27 = .ok (.bipush (-11), 2) := by decide +kernel
theorem dX6_lay_29 : decode cX6_lay 29 = .ok (.ireturn, 1) := by decide +kernel
theorem dX6_lay_30 : decode cX6_lay 30 = .ok (.iload_n 2, 1) := by decide +kernel
theorem dX6_lay_31 : decode cX6_lay 31 = .ok (.ifCond .lt 12, 3) := by decide +kernel
theorem dX6_lay_34 : decode cX6_lay 34 = .ok (.iload_n 2, 1) := by decide +kernel
theorem dX6_lay_35 : decode cX6_lay 35 = .ok (.aload 4, 2) := by decide +kernel
theorem dX6_lay_37 : decode cX6_lay 37 = .ok (.getfield 248, 3) := by decide +kernel
theorem dX6_lay_40 : decode cX6_lay 40 = .ok (.if_icmp .lt 6, 3) := by decide +kernel
theorem dX6_lay_43 : decode cX6_lay 43 = .ok (.bipush (-12), 2) := by decide +kernel
theorem dX6_lay_45 : decode cX6_lay 45 = .ok (.ireturn, 1) := by decide +kernel
theorem dX6_lay_46 : decode cX6_lay 46 = .ok (.aload 4, 2) := by decide +kernel
theorem dX6_lay_48 : decode cX6_lay 48 = .ok (.getfield 251, 3) := by decide +kernel
theorem dX6_lay_51 : decode cX6_lay 51 = .ok (.iload_n 2, 1) := by decide +kernel
theorem dX6_lay_52 : decode cX6_lay 52 = .ok (.aload 4, 2) := by decide +kernel
theorem dX6_lay_54 : decode cX6_lay 54 = .ok (.iload_n 3, 1) := by decide +kernel
theorem dX6_lay_55 : decode cX6_lay 55 = .ok (.invokevirtual 254, 3) := by decide +kernel
theorem dX6_lay_58 : decode cX6_lay 58 = .ok (.iastore, 1) := by decide +kernel
theorem dX6_lay_59 : decode cX6_lay 59 = .ok (.iconst 1, 1) := by decide +kernel
theorem dX6_lay_60 : decode cX6_lay 60 = .ok (.ireturn, 1) := by decide +kernel
theorem dX6_read_0 : decode cX6_read 0 = .ok (.iload_n 1, 1) := by decide +kernel
theorem dX6_read_1 : decode cX6_read 1 = .ok (.ifCond .lt 27, 3) := by decide +kernel
theorem dX6_read_4 : decode cX6_read 4 = .ok (.iload_n 1, 1) := by decide +kernel
theorem dX6_read_5 : decode cX6_read 5 = .ok (.iconst 4, 1) := by decide +kernel
theorem dX6_read_6 : decode cX6_read 6 = .ok (.if_icmp .ge 22, 3) := by decide +kernel
theorem dX6_read_9 : decode cX6_read 9 = .ok (.iload_n 2, 1) := by decide +kernel
theorem dX6_read_10 : decode cX6_read 10 = .ok (.invokestatic 241, 3) := by decide +kernel
theorem dX6_read_13 : decode cX6_read 13 = .ok (.ifCond .eq 15, 3) := by decide +kernel
theorem dX6_read_16 : decode cX6_read 16 = .ok (.iload 4, 2) := by decide +kernel
theorem dX6_read_18 : decode cX6_read 18 = .ok (.ifCond .lt 10, 3) := by decide +kernel
theorem dX6_read_21 : decode cX6_read 21 = .ok (.iload 4, 2) := by decide +kernel
theorem dX6_read_23 : decode cX6_read 23 = .ok (.bipush 20, 2) := by decide +kernel
theorem dX6_read_25 : decode cX6_read 25 = .ok (.if_icmp .le 5, 3) := by decide +kernel
theorem dX6_read_28 : decode cX6_read 28 = .ok (.iconst (-1), 1) := by decide +kernel
theorem dX6_read_29 : decode cX6_read 29 = .ok (.ireturn, 1) := by decide +kernel
theorem dX6_read_30 : decode cX6_read 30 = .ok (.aload_n 0, 1) := by decide +kernel
theorem dX6_read_31 : decode cX6_read 31 = .ok (.getfield 32, 3) := by decide +kernel
theorem dX6_read_34 : decode cX6_read 34 = .ok (.iload_n 1, 1) := by decide +kernel
theorem dX6_read_35 : decode cX6_read 35 = .ok (.aaload, 1) := by decide +kernel
theorem dX6_read_36 : decode cX6_read 36 = .ok (.astore 5, 2) := by decide +kernel
theorem dX6_read_38 : decode cX6_read 38 = .ok (.aload 5, 2) := by decide +kernel
theorem dX6_read_40 : decode cX6_read 40 = .ok (.iload_n 2, 1) := by decide +kernel
theorem dX6_read_41 : decode cX6_read 41 = .ok (.iload_n 3, 1) := by decide +kernel
theorem dX6_read_42 : decode cX6_read 42 = .ok (.iload 4, 2) := by decide +kernel
theorem dX6_read_44 : decode cX6_read 44 = .ok (.invokevirtual 257, 3) := by decide +kernel
theorem dX6_read_47 : decode cX6_read 47 = .ok (.istore 6, 2) := by decide +kernel
theorem dX6_read_49 : decode cX6_read 49 = .ok (.iconst 0, 1) := by decide +kernel
theorem dX6_read_50 : decode cX6_read 50 = .ok (.istore 7, 2) := by decide +kernel
theorem dX6_read_52 : decode cX6_read 52 = .ok (.iload 7, 2) := by decide +kernel
theorem dX6_read_54 : decode cX6_read 54 = .ok (.iload 6, 2) := by decide +kernel
theorem dX6_read_56 : decode cX6_read 56 = .ok (.if_icmp .ge 59, 3) := by decide +kernel
theorem dX6_read_59 : decode cX6_read 59 = .ok (.iload_n 3, 1) := by decide +kernel
theorem dX6_read_60 : decode cX6_read 60 = .ok (.iconst 2, 1) := by decide +kernel
theorem dX6_read_61 : decode cX6_read 61 = .ok (.iload 7, 2) := by decide +kernel
theorem dX6_read_63 : decode cX6_read 63 = .ok (.imul, 1) := by decide +kernel
theorem dX6_read_64 : decode cX6_read 64 = .ok (.iadd, 1) := by decide +kernel
theorem dX6_read_65 : decode cX6_read 65 = .ok (.istore 8, 2) := by decide +kernel
theorem dX6_read_67 : decode cX6_read 67 = .ok (.aload_n 0, 1) := by decide +kernel
theorem dX6_read_68 : decode cX6_read 68 = .ok (.getfield 10, 3) := by decide +kernel
theorem dX6_read_71 : decode cX6_read 71 = .ok (.aload 5, 2) := by decide +kernel
theorem dX6_read_73 : decode cX6_read 73 = .ok (.iload 8, 2) := by decide +kernel
theorem dX6_read_75 : decode cX6_read 75 = .ok (.invokevirtual 261, 3) := by decide +kernel
theorem dX6_read_78 : decode cX6_read 78 = .ok (.invokevirtual 115, 3) := by decide +kernel
theorem dX6_read_81 : decode cX6_read 81 = .ok (.ifCond .eq 22, 3) := by decide +kernel
theorem dX6_read_84 : decode cX6_read 84 = .ok (.aload_n 0, 1) := by decide +kernel
theorem dX6_read_85 : decode cX6_read 85 = .ok (.getfield 10, 3) := by decide +kernel
theorem dX6_read_88 : decode cX6_read 88 = .ok (.aload 5, 2) := by decide +kernel
theorem dX6_read_90 : decode cX6_read 90 = .ok (.iload 8, 2) := by decide +kernel
theorem dX6_read_92 : decode cX6_read 92 = .ok (.iconst 1, 1) := by decide +kernel
theorem dX6_read_93 : decode cX6_read 93 = .ok (.iadd, 1) := by decide +kernel
theorem dX6_read_94 : decode cX6_read 94 = .ok (.invokevirtual 261, 3) := by decide +kernel
theorem dX6_read_97 : decode cX6_read 97 = .ok (.invokevirtual 105, 3) := by decide +kernel
theorem dX6_read_100 : decode cX6_read 100 = .ok (.ifCond .ne 9, 3) := by decide +kernel
theorem dX6_read_103 : decode cX6_read 103 = .ok (.bipush (-20), 2) := by decide +kernel
theorem dX6_read_105 : decode cX6_read 105 = .ok (.iload 7, 2) := by decide +kernel
theorem dX6_read_107 : decode cX6_read 107 = .ok (.isub, 1) := by decide +kernel
theorem dX6_read_108 : decode cX6_read 108 = .ok (.ireturn, 1) := by decide +kernel
theorem dX6_read_109 : decode cX6_read 109 = .ok (.iinc 7 1, 3) := by decide +kernel
theorem dX6_read_112 : decode cX6_read 112 = .ok (.goto (-60), 3) := by decide +kernel
theorem dX6_read_115 : decode cX6_read 115 = .ok (.iconst 0, 1) := by decide +kernel
theorem dX6_read_116 : decode cX6_read 116 = .ok (.istore 7, 2) := by decide +kernel
theorem dX6_read_118 : decode cX6_read 118 = .ok (.iload 7, 2) := by decide +kernel
theorem dX6_read_120 : decode cX6_read 120 = .ok (.iload 6, 2) := by decide +kernel
theorem dX6_read_122 : decode cX6_read 122 = .ok (.if_icmp .ge 38, 3) := by decide +kernel
theorem dX6_read_125 : decode cX6_read 125 = .ok (.iload_n 3, 1) := by decide +kernel
theorem dX6_read_126 : decode cX6_read 126 = .ok (.iconst 2, 1) := by decide +kernel
theorem dX6_read_127 : decode cX6_read 127 = .ok (.iload 7, 2) := by decide +kernel
theorem dX6_read_129 : decode cX6_read 129 = .ok (.imul, 1) := by decide +kernel
theorem dX6_read_130 : decode cX6_read 130 = .ok (.iadd, 1) := by decide +kernel
theorem dX6_read_131 : decode cX6_read 131 = .ok (.istore 8, 2) := by decide +kernel
theorem dX6_read_133 : decode cX6_read 133 = .ok (.aload_n 0, 1) := by decide +kernel
theorem dX6_read_134 : decode cX6_read 134 = .ok (.aload 5, 2) := by decide +kernel
theorem dX6_read_136 : decode cX6_read 136 = .ok (.iload 8, 2) := by decide +kernel
theorem dX6_read_138 : decode cX6_read 138 = .ok (.invokevirtual 261, 3) := by decide +kernel
theorem dX6_read_141 : decode cX6_read 141 = .ok (.aload 5, 2) := by decide +kernel
theorem dX6_read_143 : decode cX6_read 143 = .ok (.iload 8, 2) := by decide +kernel
theorem dX6_read_145 : decode cX6_read 145 = .ok (.iconst 1, 1) := by decide +kernel
theorem dX6_read_146 : decode cX6_read 146 = .ok (.iadd, 1) := by decide +kernel
theorem dX6_read_147 : decode cX6_read 147 = .ok (.invokevirtual 261, 3) := by decide +kernel
theorem dX6_read_150 : decode cX6_read 150 = .ok (.invokevirtual 264, 3) := by decide +kernel
theorem dX6_read_153 : decode cX6_read 153 = .ok (.pop, 1) := by decide +kernel
theorem dX6_read_154 : decode cX6_read 154 = .ok (.iinc 7 1, 3) := by decide +kernel
theorem dX6_read_157 : decode cX6_read 157 = .ok (.goto (-39), 3) := by decide +kernel
theorem dX6_read_160 : decode cX6_read 160 = .ok (.aload_n 0, 1) := by decide +kernel
theorem dX6_read_161 : decode cX6_read 161 = .ok (.iload 6, 2) := by decide +kernel
theorem dX6_read_163 : decode cX6_read 163 = .ok (.iload 4, 2) := by decide +kernel
theorem dX6_read_165 : decode cX6_read 165 = .ok (.if_icmp .ne 7, 3) := by decide +kernel
theorem dX6_read_168 : decode cX6_read 168 = .ok (.iconst 0, 1) := by decide +kernel
theorem dX6_read_169 : decode cX6_read 169 = .ok (.goto 9, 3) := by decide +kernel
theorem dX6_read_172 : decode cX6_read 172 = .ok (.aload 5, 2) := by decide +kernel
theorem dX6_read_174 : decode cX6_read 174 = .ok (.iload_n 2, 1) := by decide +kernel
theorem dX6_read_175 : decode cX6_read 175 = .ok (.invokevirtual 267, 3) := by decide +kernel
theorem dX6_read_178 : decode cX6_read 178 = .ok (.putfield 270, 3) := by decide +kernel
theorem dX6_read_181 : decode cX6_read 181 = .ok (.iload 6, 2) := by decide +kernel
theorem dX6_read_183 : decode cX6_read 183 = .ok (.ireturn, 1) := by decide +kernel
theorem dX6_torn_0 : decode cX6_torn 0 = .ok (.aload_n 0, 1) := by decide +kernel
theorem dX6_torn_1 : decode cX6_torn 1 = .ok (.getfield 270, 3) := by decide +kernel
theorem dX6_torn_4 : decode cX6_torn 4 = .ok (.ireturn, 1) := by decide +kernel
theorem dX6_count_0 : decode cX6_count 0 = .ok (.iload_n 1, 1) := by decide +kernel
theorem dX6_count_1 : decode cX6_count 1 = .ok (.tableswitch 121 0 6 #[43, 51, 59, 67, 75, 102, 110], 43) := by decide +kernel
theorem dX6_count_44 : decode cX6_count 44 = .ok (.aload_n 0, 1) := by decide +kernel
theorem dX6_count_45 : decode cX6_count 45 = .ok (.getfield 10, 3) := by decide +kernel
theorem dX6_count_48 : decode cX6_count 48 = .ok (.invokevirtual 273, 3) := by decide +kernel
theorem dX6_count_51 : decode cX6_count 51 = .ok (.ireturn, 1) := by decide +kernel
theorem dX6_count_52 : decode cX6_count 52 = .ok (.aload_n 0, 1) := by decide +kernel
theorem dX6_count_53 : decode cX6_count 53 = .ok (.getfield 10, 3) := by decide +kernel
theorem dX6_count_56 : decode cX6_count 56 = .ok (.getfield 224, 3) := by decide +kernel
theorem dX6_count_59 : decode cX6_count 59 = .ok (.ireturn, 1) := by decide +kernel
theorem dX6_count_60 : decode cX6_count 60 = .ok (.aload_n 0, 1) := by decide +kernel
theorem dX6_count_61 : decode cX6_count 61 = .ok (.getfield 79, 3) := by decide +kernel
theorem dX6_count_64 : decode cX6_count 64 = .ok (.invokestatic 276, 3) := by decide +kernel
theorem dX6_count_67 : decode cX6_count 67 = .ok (.ireturn, 1) := by decide +kernel
theorem dX6_count_68 : decode cX6_count 68 = .ok (.aload_n 0, 1) := by decide +kernel
theorem dX6_count_69 : decode cX6_count 69 = .ok (.getfield 26, 3) := by decide +kernel
theorem dX6_count_72 : decode cX6_count 72 = .ok (.getfield 51, 3) := by decide +kernel
theorem dX6_count_75 : decode cX6_count 75 = .ok (.ireturn, 1) := by decide +kernel
theorem dX6_count_76 : decode cX6_count 76 = .ok (.aload_n 0, 1) := by decide +kernel
theorem dX6_count_77 : decode cX6_count 77 = .ok (.getfield 32, 3) := by decide +kernel
theorem dX6_count_80 : decode cX6_count 80 = .ok (.iconst 0, 1) := by decide +kernel
theorem dX6_count_81 : decode cX6_count 81 = .ok (.aaload, 1) := by decide +kernel
theorem dX6_count_82 : decode cX6_count 82 = .ok (.getfield 248, 3) := by decide +kernel
theorem dX6_count_85 : decode cX6_count 85 = .ok (.ifCond .ge 8, 3) := by decide +kernel
theorem dX6_count_88 : decode cX6_count 88 = .ok (.bipush (-4), 2) := by decide +kernel
theorem dX6_count_90 : decode cX6_count 90 = .ok (.goto 12, 3) := by decide +kernel
theorem dX6_count_93 : decode cX6_count 93 = .ok (.aload_n 0, 1) := by decide +kernel
theorem dX6_count_94 : decode cX6_count 94 = .ok (.getfield 32, 3) := by decide +kernel
theorem dX6_count_97 : decode cX6_count 97 = .ok (.iconst 0, 1) := by decide +kernel
theorem dX6_count_98 : decode cX6_count 98 = .ok (.aaload, 1) := by decide +kernel
theorem dX6_count_99 : decode cX6_count 99 = .ok (.getfield 248, 3) := by decide +kernel
theorem dX6_count_102 : decode cX6_count 102 = .ok (.ireturn, 1) := by decide +kernel
theorem dX6_count_103 : decode cX6_count 103 = .ok (.aload_n 0, 1) := by decide +kernel
theorem dX6_count_104 : decode cX6_count 104 = .ok (.getfield 10, 3) := by decide +kernel
theorem dX6_count_107 : decode cX6_count 107 = .ok (.invokevirtual 281, 3) := by decide +kernel
theorem dX6_count_110 : decode cX6_count 110 = .ok (.ireturn, 1) := by decide +kernel
theorem dX6_count_111 : decode cX6_count 111 = .ok (.aload_n 0, 1) := by decide +kernel
theorem dX6_count_112 : decode cX6_count 112 = .ok (.getfield 10, 3) := by decide +kernel
theorem dX6_count_115 : decode cX6_count 115 = .ok (.invokevirtual 238, 3) := by decide +kernel
theorem dX6_count_118 : decode cX6_count 118 = .ok (.invokestatic 276, 3) := by decide +kernel
theorem dX6_count_121 : decode cX6_count 121 = .ok (.ireturn, 1) := by decide +kernel
theorem dX6_count_122 : decode cX6_count 122 = .ok (.iconst (-1), 1) := by decide +kernel
theorem dX6_count_123 : decode cX6_count 123 = .ok (.ireturn, 1) := by decide +kernel
theorem dX6_oneIf_0 : decode cX6_oneIf 0 = .ok (.iload_n 0, 1) := by decide +kernel
theorem dX6_oneIf_1 : decode cX6_oneIf 1 = .ok (.ifCond .eq 7, 3) := by decide +kernel
theorem dX6_oneIf_4 : decode cX6_oneIf 4 = .ok (.iconst 1, 1) := by decide +kernel
theorem dX6_oneIf_5 : decode cX6_oneIf 5 = .ok (.goto 4, 3) := by decide +kernel
theorem dX6_oneIf_8 : decode cX6_oneIf 8 = .ok (.iconst 0, 1) := by decide +kernel
theorem dX6_oneIf_9 : decode cX6_oneIf 9 = .ok (.ireturn, 1) := by decide +kernel
theorem dX6_isZeroOrOne_0 : decode cX6_isZeroOrOne 0 = .ok (.iload_n 0, 1) := by decide +kernel
theorem dX6_isZeroOrOne_1 : decode cX6_isZeroOrOne 1 = .ok (.ifCond .eq 8, 3) := by decide +kernel
theorem dX6_isZeroOrOne_4 : decode cX6_isZeroOrOne 4 = .ok (.iload_n 0, 1) := by decide +kernel
theorem dX6_isZeroOrOne_5 : decode cX6_isZeroOrOne 5 = .ok (.iconst 1, 1) := by decide +kernel
theorem dX6_isZeroOrOne_6 : decode cX6_isZeroOrOne 6 = .ok (.if_icmp .ne 7, 3) := by decide +kernel
theorem dX6_isZeroOrOne_9 : decode cX6_isZeroOrOne 9 = .ok (.iconst 1, 1) := by decide +kernel
theorem dX6_isZeroOrOne_10 : decode cX6_isZeroOrOne 10 = .ok (.goto 4, 3) := by decide +kernel
theorem dX6_isZeroOrOne_13 : decode cX6_isZeroOrOne 13 = .ok (.iconst 0, 1) := by decide +kernel
theorem dX6_isZeroOrOne_14 : decode cX6_isZeroOrOne 14 = .ok (.ireturn, 1) := by decide +kernel
theorem dX6_isHour_0 : decode cX6_isHour 0 = .ok (.iload_n 0, 1) := by decide +kernel
theorem dX6_isHour_1 : decode cX6_isHour 1 = .ok (.ifCond .lt 13, 3) := by decide +kernel
theorem dX6_isHour_4 : decode cX6_isHour 4 = .ok (.iload_n 0, 1) := by decide +kernel
theorem dX6_isHour_5 : decode cX6_isHour 5 = .ok (.bipush 24, 2) := by decide +kernel
theorem dX6_isHour_7 : decode cX6_isHour 7 = .ok (.if_icmp .ge 7, 3) := by decide +kernel
theorem dX6_isHour_10 : decode cX6_isHour 10 = .ok (.iconst 1, 1) := by decide +kernel
theorem dX6_isHour_11 : decode cX6_isHour 11 = .ok (.goto 4, 3) := by decide +kernel
theorem dX6_isHour_14 : decode cX6_isHour 14 = .ok (.iconst 0, 1) := by decide +kernel
theorem dX6_isHour_15 : decode cX6_isHour 15 = .ok (.ireturn, 1) := by decide +kernel
theorem dX6_isLane_0 : decode cX6_isLane 0 = .ok (.iload_n 0, 1) := by decide +kernel
theorem dX6_isLane_1 : decode cX6_isLane 1 = .ok (.ifCond .lt 12, 3) := by decide +kernel
theorem dX6_isLane_4 : decode cX6_isLane 4 = .ok (.iload_n 0, 1) := by decide +kernel
theorem dX6_isLane_5 : decode cX6_isLane 5 = .ok (.iconst 2, 1) := by decide +kernel
theorem dX6_isLane_6 : decode cX6_isLane 6 = .ok (.if_icmp .gt 7, 3) := by decide +kernel
theorem dX6_isLane_9 : decode cX6_isLane 9 = .ok (.iconst 1, 1) := by decide +kernel
theorem dX6_isLane_10 : decode cX6_isLane 10 = .ok (.goto 4, 3) := by decide +kernel
theorem dX6_isLane_13 : decode cX6_isLane 13 = .ok (.iconst 0, 1) := by decide +kernel
theorem dX6_isLane_14 : decode cX6_isLane 14 = .ok (.ireturn, 1) := by decide +kernel
theorem dX6_isWordAsk_0 : decode cX6_isWordAsk 0 = .ok (.iload_n 0, 1) := by decide +kernel
theorem dX6_isWordAsk_1 : decode cX6_isWordAsk 1 = .ok (.ifCond .eq 15, 3) := by decide +kernel
theorem dX6_isWordAsk_4 : decode cX6_isWordAsk 4 = .ok (.iload_n 0, 1) := by decide +kernel
theorem dX6_isWordAsk_5 : decode cX6_isWordAsk 5 = .ok (.bipush 10, 2) := by decide +kernel
theorem dX6_isWordAsk_7 : decode cX6_isWordAsk 7 = .ok (.if_icmp .lt 13, 3) := by decide +kernel
theorem dX6_isWordAsk_10 : decode cX6_isWordAsk 10 = .ok (.iload_n 0, 1) := by decide +kernel
theorem dX6_isWordAsk_11 : decode cX6_isWordAsk 11 = .ok (.bipush 34, 2) := by decide +kernel
theorem dX6_isWordAsk_13 : decode cX6_isWordAsk 13 = .ok (.if_icmp .ge 7, 3) := by decide +kernel
theorem dX6_isWordAsk_16 : decode cX6_isWordAsk 16 = .ok (.iconst 1, 1) := by decide +kernel
theorem dX6_isWordAsk_17 : decode cX6_isWordAsk 17 = .ok (.goto 4, 3) := by decide +kernel
theorem dX6_isWordAsk_20 : decode cX6_isWordAsk 20 = .ok (.iconst 0, 1) := by decide +kernel
theorem dX6_isWordAsk_21 : decode cX6_isWordAsk 21 = .ok (.ireturn, 1) := by decide +kernel
theorem dX6_isTurned_0 : decode cX6_isTurned 0 = .ok (.iload_n 0, 1) := by decide +kernel
theorem dX6_isTurned_1 : decode cX6_isTurned 1 = .ok (.bipush 24, 2) := by decide +kernel
theorem dX6_isTurned_3 : decode cX6_isTurned 3 = .ok (.irem, 1) := by decide +kernel
theorem dX6_isTurned_4 : decode cX6_isTurned 4 = .ok (.bipush 12, 2) := by decide +kernel
theorem dX6_isTurned_6 : decode cX6_isTurned 6 = .ok (.if_icmp .lt 7, 3) := by decide +kernel
theorem dX6_isTurned_9 : decode cX6_isTurned 9 = .ok (.iconst 1, 1) := by decide +kernel
theorem dX6_isTurned_10 : decode cX6_isTurned 10 = .ok (.goto 4, 3) := by decide +kernel
theorem dX6_isTurned_13 : decode cX6_isTurned 13 = .ok (.iconst 0, 1) := by decide +kernel
theorem dX6_isTurned_14 : decode cX6_isTurned 14 = .ok (.ireturn, 1) := by decide +kernel
theorem dX6_isHeadOn_0 : decode cX6_isHeadOn 0 = .ok (.iload_n 0, 1) := by decide +kernel
theorem dX6_isHeadOn_1 : decode cX6_isHeadOn 1 = .ok (.iload_n 1, 1) := by decide +kernel
theorem dX6_isHeadOn_2 : decode cX6_isHeadOn 2 = .ok (.if_icmp .eq 17, 3) := by decide +kernel
theorem dX6_isHeadOn_5 : decode cX6_isHeadOn 5 = .ok (.iload_n 1, 1) := by decide +kernel
theorem dX6_isHeadOn_6 : decode cX6_isHeadOn 6 = .ok (.iload_n 2, 1) := by decide +kernel
theorem dX6_isHeadOn_7 : decode cX6_isHeadOn 7 = .ok (.if_icmp .ne 12, 3) := by decide +kernel
theorem dX6_isHeadOn_10 : decode cX6_isHeadOn 10 = .ok (.iload_n 0, 1) := by decide +kernel
theorem dX6_isHeadOn_11 : decode cX6_isHeadOn 11 = .ok (.iload_n 3, 1) := by decide +kernel
theorem dX6_isHeadOn_12 : decode cX6_isHeadOn 12 = .ok (.if_icmp .ne 7, 3) := by decide +kernel
theorem dX6_isHeadOn_15 : decode cX6_isHeadOn 15 = .ok (.iconst 1, 1) := by decide +kernel
theorem dX6_isHeadOn_16 : decode cX6_isHeadOn 16 = .ok (.goto 4, 3) := by decide +kernel
theorem dX6_isHeadOn_19 : decode cX6_isHeadOn 19 = .ok (.iconst 0, 1) := by decide +kernel
theorem dX6_isHeadOn_20 : decode cX6_isHeadOn 20 = .ok (.ireturn, 1) := by decide +kernel
theorem dX6_lowestOf_0 : decode cX6_lowestOf 0 = .ok (.iconst 0, 1) := by decide +kernel
theorem dX6_lowestOf_1 : decode cX6_lowestOf 1 = .ok (.istore_n 1, 1) := by decide +kernel
theorem dX6_lowestOf_2 : decode cX6_lowestOf 2 = .ok (.iload_n 1, 1) := by decide +kernel
theorem dX6_lowestOf_3 : decode cX6_lowestOf 3 = .ok (.bipush 8, 2) := by decide +kernel
theorem dX6_lowestOf_5 : decode cX6_lowestOf 5 = .ok (.if_icmp .ge 20, 3) := by decide +kernel
theorem dX6_lowestOf_8 : decode cX6_lowestOf 8 = .ok (.iload_n 0, 1) := by decide +kernel
theorem dX6_lowestOf_9 : decode cX6_lowestOf 9 = .ok (.iload_n 1, 1) := by decide +kernel
theorem dX6_lowestOf_10 : decode cX6_lowestOf 10 = .ok (.ishr, 1) := by decide +kernel
theorem dX6_lowestOf_11 : decode cX6_lowestOf 11 = .ok (.iconst 1, 1) := by decide +kernel
theorem dX6_lowestOf_12 : decode cX6_lowestOf 12 = .ok (.iand, 1) := by decide +kernel
theorem dX6_lowestOf_13 : decode cX6_lowestOf 13 = .ok (.iconst 1, 1) := by decide +kernel
theorem dX6_lowestOf_14 : decode cX6_lowestOf 14 = .ok (.if_icmp .ne 5, 3) := by decide +kernel
theorem dX6_lowestOf_17 : decode cX6_lowestOf 17 = .ok (.iload_n 1, 1) := by decide +kernel
theorem dX6_lowestOf_18 : decode cX6_lowestOf 18 = .ok (.ireturn, 1) := by decide +kernel
theorem dX6_lowestOf_19 : decode cX6_lowestOf 19 = .ok (.iinc 1 1, 3) := by decide +kernel
theorem dX6_lowestOf_22 : decode cX6_lowestOf 22 = .ok (.goto (-20), 3) := by decide +kernel
theorem dX6_lowestOf_25 : decode cX6_lowestOf 25 = .ok (.bipush (-4), 2) := by decide +kernel
theorem dX6_lowestOf_27 : decode cX6_lowestOf 27 = .ok (.ireturn, 1) := by decide +kernel
theorem dX6_commonDivisor_0 : decode cX6_commonDivisor 0 = .ok (.lload_n 0, 1) := by decide +kernel
theorem dX6_commonDivisor_1 : decode cX6_commonDivisor 1 = .ok (.lstore 4, 2) := by decide +kernel
theorem dX6_commonDivisor_3 : decode cX6_commonDivisor 3 = .ok (.lload_n 2, 1) := by decide +kernel
theorem dX6_commonDivisor_4 : decode cX6_commonDivisor 4 = .ok (.lstore 6, 2) := by decide +kernel
theorem dX6_commonDivisor_6 : decode cX6_commonDivisor 6 = .ok (.iconst 0, 1) := by decide +kernel
theorem dX6_commonDivisor_7 : decode cX6_commonDivisor 7 = .ok (.istore 8, 2) := by decide +kernel
theorem dX6_commonDivisor_9 : decode cX6_commonDivisor 9 = .ok (.iload 8, 2) := by decide +kernel
theorem dX6_commonDivisor_11 : decode cX6_commonDivisor 11 = .ok (.sipush 200, 3) := by decide +kernel
theorem dX6_commonDivisor_14 : decode cX6_commonDivisor 14 = .ok (.if_icmp .ge 31, 3) := by decide +kernel
theorem dX6_commonDivisor_17 : decode cX6_commonDivisor 17 = .ok (.lload 6, 2) := by decide +kernel
theorem dX6_commonDivisor_19 : decode cX6_commonDivisor 19 = .ok (.lconst 0, 1) := by decide +kernel
theorem dX6_commonDivisor_20 : decode cX6_commonDivisor 20 = .ok (.lcmp, 1) := by decide +kernel
theorem dX6_commonDivisor_21 : decode cX6_commonDivisor 21 = .ok (.ifCond .eq 24, 3) := by decide +kernel
theorem dX6_commonDivisor_24 : decode cX6_commonDivisor 24 = .ok (.lload 4, 2) := by decide +kernel
theorem dX6_commonDivisor_26 : decode cX6_commonDivisor 26 = .ok (.lload 6, 2) := by decide +kernel
theorem dX6_commonDivisor_28 : decode cX6_commonDivisor 28 = .ok (.lrem, 1) := by decide +kernel
theorem dX6_commonDivisor_29 : decode cX6_commonDivisor 29 = .ok (.lstore 9, 2) := by decide +kernel
theorem dX6_commonDivisor_31 : decode cX6_commonDivisor 31 = .ok (.lload 6, 2) := by decide +kernel
theorem dX6_commonDivisor_33 : decode cX6_commonDivisor 33 = .ok (.lstore 4, 2) := by decide +kernel
theorem dX6_commonDivisor_35 : decode cX6_commonDivisor 35 = .ok (.lload 9, 2) := by decide +kernel
theorem dX6_commonDivisor_37 : decode cX6_commonDivisor 37 = .ok (.lstore 6, 2) := by decide +kernel
theorem dX6_commonDivisor_39 : decode cX6_commonDivisor 39 = .ok (.iinc 8 1, 3) := by decide +kernel
theorem dX6_commonDivisor_42 : decode cX6_commonDivisor 42 = .ok (.goto (-33), 3) := by decide +kernel
theorem dX6_commonDivisor_45 : decode cX6_commonDivisor 45 = .ok (.lload 4, 2) := by decide +kernel
theorem dX6_commonDivisor_47 : decode cX6_commonDivisor 47 = .ok (.lreturn, 1) := by decide +kernel
theorem dX6_askWord_0 : decode cX6_askWord 0 = .ok (.aload_n 0, 1) := by decide +kernel
theorem dX6_askWord_1 : decode cX6_askWord 1 = .ok (.getfield 40, 3) := by decide +kernel
theorem dX6_askWord_4 : decode cX6_askWord 4 = .ok (.aload_n 0, 1) := by decide +kernel
theorem dX6_askWord_5 : decode cX6_askWord 5 = .ok (.getfield 10, 3) := by decide +kernel
theorem dX6_askWord_8 : decode cX6_askWord 8 = .ok (.iload_n 1, 1) := by decide +kernel
theorem dX6_askWord_9 : decode cX6_askWord 9 = .ok (.iload_n 2, 1) := by decide +kernel
theorem dX6_askWord_10 : decode cX6_askWord 10 = .ok (.iload_n 3, 1) := by decide +kernel
theorem dX6_askWord_11 : decode cX6_askWord 11 = .ok (.iload 4, 2) := by decide +kernel
theorem dX6_askWord_13 : decode cX6_askWord 13 = .ok (.invokevirtual 284, 3) := by decide +kernel
theorem dX6_askWord_16 : decode cX6_askWord 16 = .ok (.istore 6, 2) := by decide +kernel
theorem dX6_askWord_18 : decode cX6_askWord 18 = .ok (.iload 5, 2) := by decide +kernel
theorem dX6_askWord_20 : decode cX6_askWord 20 = .ok (.ifCond .eq 8, 3) := by decide +kernel
theorem dX6_askWord_23 : decode cX6_askWord 23 = .ok (.iload 6, 2) := by decide +kernel
theorem dX6_askWord_25 : decode cX6_askWord 25 = .ok (.ifCond .ge 6, 3) := by decide +kernel
theorem dX6_askWord_28 : decode cX6_askWord 28 = .ok (.iload 6, 2) := by decide +kernel
theorem dX6_askWord_30 : decode cX6_askWord 30 = .ok (.ireturn, 1) := by decide +kernel
theorem dX6_askWord_31 : decode cX6_askWord 31 = .ok (.iload 5, 2) := by decide +kernel
theorem dX6_askWord_33 : decode cX6_askWord 33 = .ok (.bipush 10, 2) := by decide +kernel
theorem dX6_askWord_35 : decode cX6_askWord 35 = .ok (.isub, 1) := by decide +kernel
theorem dX6_askWord_36 : decode cX6_askWord 36 = .ok (.iload 6, 2) := by decide +kernel
theorem dX6_askWord_38 : decode cX6_askWord 38 = .ok (.if_icmp .ge 26, 3) := by decide +kernel
theorem dX6_askWord_41 : decode cX6_askWord 41 = .ok (.aload_n 0, 1) := by decide +kernel
theorem dX6_askWord_42 : decode cX6_askWord 42 = .ok (.getfield 40, 3) := by decide +kernel
theorem dX6_askWord_45 : decode cX6_askWord 45 = .ok (.aload_n 0, 1) := by decide +kernel
theorem dX6_askWord_46 : decode cX6_askWord 46 = .ok (.getfield 10, 3) := by decide +kernel
theorem dX6_askWord_49 : decode cX6_askWord 49 = .ok (.iload_n 1, 1) := by decide +kernel
theorem dX6_askWord_50 : decode cX6_askWord 50 = .ok (.iload_n 2, 1) := by decide +kernel
theorem dX6_askWord_51 : decode cX6_askWord 51 = .ok (.iload 6, 2) := by decide +kernel
theorem dX6_askWord_53 : decode cX6_askWord 53 = .ok (.iload 5, 2) := by decide +kernel
theorem dX6_askWord_55 : decode cX6_askWord 55 = .ok (.bipush 10, 2) := by decide +kernel
theorem dX6_askWord_57 : decode cX6_askWord 57 = .ok (.isub, 1) := by decide +kernel
theorem dX6_askWord_58 : decode cX6_askWord 58 = .ok (.invokevirtual 288, 3) := by decide +kernel
theorem dX6_askWord_61 : decode cX6_askWord 61 = .ok (.goto 5, 3) := by decide +kernel
theorem dX6_askWord_64 : decode cX6_askWord 64 = .ok (.bipush (-4), 2) := by decide +kernel
theorem dX6_askWord_66 : decode cX6_askWord 66 = .ok (.ireturn, 1) := by decide +kernel
theorem dJ6_bitCount_0f7a4_0 : decode cJ6_bitCount_0f7a4 0 = .ok (.iload_n 0, 1) := by decide +kernel
theorem dJ6_bitCount_0f7a4_1 : decode cJ6_bitCount_0f7a4 1 = .ok (.iload_n 0, 1) := by decide +kernel
theorem dJ6_bitCount_0f7a4_2 : decode cJ6_bitCount_0f7a4 2 = .ok (.iconst 1, 1) := by decide +kernel
theorem dJ6_bitCount_0f7a4_3 : decode cJ6_bitCount_0f7a4 3 = .ok (.iushr, 1) := by decide +kernel
theorem dJ6_bitCount_0f7a4_4 : decode cJ6_bitCount_0f7a4 4 = .ok (.ldc_w 265, 3) := by decide +kernel
theorem dJ6_bitCount_0f7a4_7 : decode cJ6_bitCount_0f7a4 7 = .ok (.iand, 1) := by decide +kernel
theorem dJ6_bitCount_0f7a4_8 : decode cJ6_bitCount_0f7a4 8 = .ok (.isub, 1) := by decide +kernel
theorem dJ6_bitCount_0f7a4_9 : decode cJ6_bitCount_0f7a4 9 = .ok (.istore_n 0, 1) := by decide +kernel
theorem dJ6_bitCount_0f7a4_10 : decode cJ6_bitCount_0f7a4 10 = .ok (.iload_n 0, 1) := by decide +kernel
theorem dJ6_bitCount_0f7a4_11 : decode cJ6_bitCount_0f7a4 11 = .ok (.ldc_w 266, 3) := by decide +kernel
theorem dJ6_bitCount_0f7a4_14 : decode cJ6_bitCount_0f7a4 14 = .ok (.iand, 1) := by decide +kernel
theorem dJ6_bitCount_0f7a4_15 : decode cJ6_bitCount_0f7a4 15 = .ok (.iload_n 0, 1) := by decide +kernel
theorem dJ6_bitCount_0f7a4_16 : decode cJ6_bitCount_0f7a4 16 = .ok (.iconst 2, 1) := by decide +kernel
theorem dJ6_bitCount_0f7a4_17 : decode cJ6_bitCount_0f7a4 17 = .ok (.iushr, 1) := by decide +kernel
theorem dJ6_bitCount_0f7a4_18 : decode cJ6_bitCount_0f7a4 18 = .ok (.ldc_w 266, 3) := by decide +kernel
theorem dJ6_bitCount_0f7a4_21 : decode cJ6_bitCount_0f7a4 21 = .ok (.iand, 1) := by decide +kernel
theorem dJ6_bitCount_0f7a4_22 : decode cJ6_bitCount_0f7a4 22 = .ok (.iadd, 1) := by decide +kernel
theorem dJ6_bitCount_0f7a4_23 : decode cJ6_bitCount_0f7a4 23 = .ok (.istore_n 0, 1) := by decide +kernel
theorem dJ6_bitCount_0f7a4_24 : decode cJ6_bitCount_0f7a4 24 = .ok (.iload_n 0, 1) := by decide +kernel
theorem dJ6_bitCount_0f7a4_25 : decode cJ6_bitCount_0f7a4 25 = .ok (.iload_n 0, 1) := by decide +kernel
theorem dJ6_bitCount_0f7a4_26 : decode cJ6_bitCount_0f7a4 26 = .ok (.iconst 4, 1) := by decide +kernel
theorem dJ6_bitCount_0f7a4_27 : decode cJ6_bitCount_0f7a4 27 = .ok (.iushr, 1) := by decide +kernel
theorem dJ6_bitCount_0f7a4_28 : decode cJ6_bitCount_0f7a4 28 = .ok (.iadd, 1) := by decide +kernel
theorem dJ6_bitCount_0f7a4_29 : decode cJ6_bitCount_0f7a4 29 = .ok (.ldc_w 267, 3) := by decide +kernel
theorem dJ6_bitCount_0f7a4_32 : decode cJ6_bitCount_0f7a4 32 = .ok (.iand, 1) := by decide +kernel
theorem dJ6_bitCount_0f7a4_33 : decode cJ6_bitCount_0f7a4 33 = .ok (.istore_n 0, 1) := by decide +kernel
theorem dJ6_bitCount_0f7a4_34 : decode cJ6_bitCount_0f7a4 34 = .ok (.iload_n 0, 1) := by decide +kernel
theorem dJ6_bitCount_0f7a4_35 : decode cJ6_bitCount_0f7a4 35 = .ok (.iload_n 0, 1) := by decide +kernel
theorem dJ6_bitCount_0f7a4_36 : decode cJ6_bitCount_0f7a4 36 = .ok (.bipush 8, 2) := by decide +kernel
theorem dJ6_bitCount_0f7a4_38 : decode cJ6_bitCount_0f7a4 38 = .ok (.iushr, 1) := by decide +kernel
theorem dJ6_bitCount_0f7a4_39 : decode cJ6_bitCount_0f7a4 39 = .ok (.iadd, 1) := by decide +kernel
theorem dJ6_bitCount_0f7a4_40 : decode cJ6_bitCount_0f7a4 40 = .ok (.istore_n 0, 1) := by decide +kernel
theorem dJ6_bitCount_0f7a4_41 : decode cJ6_bitCount_0f7a4 41 = .ok (.iload_n 0, 1) := by decide +kernel
theorem dJ6_bitCount_0f7a4_42 : decode cJ6_bitCount_0f7a4 42 = .ok (.iload_n 0, 1) := by decide +kernel
theorem dJ6_bitCount_0f7a4_43 : decode cJ6_bitCount_0f7a4 43 = .ok (.bipush 16, 2) := by decide +kernel
theorem dJ6_bitCount_0f7a4_45 : decode cJ6_bitCount_0f7a4 45 = .ok (.iushr, 1) := by decide +kernel
theorem dJ6_bitCount_0f7a4_46 : decode cJ6_bitCount_0f7a4 46 = .ok (.iadd, 1) := by decide +kernel
theorem dJ6_bitCount_0f7a4_47 : decode cJ6_bitCount_0f7a4 47 = .ok (.istore_n 0, 1) := by decide +kernel
theorem dJ6_bitCount_0f7a4_48 : decode cJ6_bitCount_0f7a4 48 = .ok (.iload_n 0, 1) := by decide +kernel
theorem dJ6_bitCount_0f7a4_49 : decode cJ6_bitCount_0f7a4 49 = .ok (.bipush 63, 2) := by decide +kernel
theorem dJ6_bitCount_0f7a4_51 : decode cJ6_bitCount_0f7a4 51 = .ok (.iand, 1) := by decide +kernel
theorem dJ6_bitCount_0f7a4_52 : decode cJ6_bitCount_0f7a4 52 = .ok (.ireturn, 1) := by decide +kernel
theorem dJ9_max_7cf53_0 : decode cJ9_max_7cf53 0 = .ok (.iload_n 0, 1) := by decide +kernel
theorem dJ9_max_7cf53_1 : decode cJ9_max_7cf53 1 = .ok (.iload_n 1, 1) := by decide +kernel
theorem dJ9_max_7cf53_2 : decode cJ9_max_7cf53 2 = .ok (.if_icmp .lt 7, 3) := by decide +kernel
theorem dJ9_max_7cf53_5 : decode cJ9_max_7cf53 5 = .ok (.iload_n 0, 1) := by decide +kernel
theorem dJ9_max_7cf53_6 : decode cJ9_max_7cf53 6 = .ok (.goto 4, 3) := by decide +kernel
theorem dJ9_max_7cf53_9 : decode cJ9_max_7cf53 9 = .ok (.iload_n 1, 1) := by decide +kernel
theorem dJ9_max_7cf53_10 : decode cJ9_max_7cf53 10 = .ok (.ireturn, 1) := by decide +kernel
theorem dJ9_min_7cf53_0 : decode cJ9_min_7cf53 0 = .ok (.iload_n 0, 1) := by decide +kernel
theorem dJ9_min_7cf53_1 : decode cJ9_min_7cf53 1 = .ok (.iload_n 1, 1) := by decide +kernel
theorem dJ9_min_7cf53_2 : decode cJ9_min_7cf53 2 = .ok (.if_icmp .gt 7, 3) := by decide +kernel
theorem dJ9_min_7cf53_5 : decode cJ9_min_7cf53 5 = .ok (.iload_n 0, 1) := by decide +kernel
theorem dJ9_min_7cf53_6 : decode cJ9_min_7cf53 6 = .ok (.goto 4, 3) := by decide +kernel
theorem dJ9_min_7cf53_9 : decode cJ9_min_7cf53 9 = .ok (.iload_n 1, 1) := by decide +kernel
theorem dJ9_min_7cf53_10 : decode cJ9_min_7cf53 10 = .ok (.ireturn, 1) := by decide +kernel
theorem dJ0_length_8abf5_0 : decode cJ0_length_8abf5 0 = .ok (.aload_n 0, 1) := by decide +kernel
theorem dJ0_length_8abf5_1 : decode cJ0_length_8abf5 1 = .ok (.getfield 9, 3) := by decide +kernel
theorem dJ0_length_8abf5_4 : decode cJ0_length_8abf5 4 = .ok (.arraylength, 1) := by decide +kernel
theorem dJ0_length_8abf5_5 : decode cJ0_length_8abf5 5 = .ok (.aload_n 0, 1) := by decide +kernel
theorem dJ0_length_8abf5_6 : decode cJ0_length_8abf5 6 = .ok (.invokevirtual 335, 3) := by decide +kernel
theorem dJ0_length_8abf5_9 : decode cJ0_length_8abf5 9 = .ok (.ishr, 1) := by decide +kernel
theorem dJ0_length_8abf5_10 : decode cJ0_length_8abf5 10 = .ok (.ireturn, 1) := by decide +kernel
theorem dJ0_charAt_5068e_0 : decode cJ0_charAt_5068e 0 = .ok (.aload_n 0, 1) := by decide +kernel
theorem dJ0_charAt_5068e_1 : decode cJ0_charAt_5068e 1 = .ok (.invokevirtual 492, 3) := by decide +kernel
theorem dJ0_charAt_5068e_4 : decode cJ0_charAt_5068e 4 = .ok (.ifCond .eq 12, 3) := by decide +kernel
theorem dJ0_charAt_5068e_7 : decode cJ0_charAt_5068e 7 = .ok (.aload_n 0, 1) := by decide +kernel
theorem dJ0_charAt_5068e_8 : decode cJ0_charAt_5068e 8 = .ok (.getfield 9, 3) := by decide +kernel
theorem dJ0_charAt_5068e_11 : decode cJ0_charAt_5068e 11 = .ok (.iload_n 1, 1) := by decide +kernel
theorem dJ0_charAt_5068e_12 : decode cJ0_charAt_5068e 12 = .ok (.invokestatic 495, 3) := by decide +kernel
theorem dJ0_charAt_5068e_15 : decode cJ0_charAt_5068e 15 = .ok (.ireturn, 1) := by decide +kernel
theorem dJ0_charAt_5068e_16 : decode cJ0_charAt_5068e 16 = .ok (.aload_n 0, 1) := by decide +kernel
theorem dJ0_charAt_5068e_17 : decode cJ0_charAt_5068e 17 = .ok (.getfield 9, 3) := by decide +kernel
theorem dJ0_charAt_5068e_20 : decode cJ0_charAt_5068e 20 = .ok (.iload_n 1, 1) := by decide +kernel
theorem dJ0_charAt_5068e_21 : decode cJ0_charAt_5068e 21 = .ok (.invokestatic 498, 3) := by decide +kernel
theorem dJ0_charAt_5068e_24 : decode cJ0_charAt_5068e 24 = .ok (.ireturn, 1) := by decide +kernel
theorem dJ0_coder_7d493_0 : decode cJ0_coder_7d493 0 = .ok (.getstatic 38, 3) := by decide +kernel
theorem dJ0_coder_7d493_3 : decode cJ0_coder_7d493 3 = .ok (.ifCond .eq 10, 3) := by decide +kernel
theorem dJ0_coder_7d493_6 : decode cJ0_coder_7d493 6 = .ok (.aload_n 0, 1) := by decide +kernel
theorem dJ0_coder_7d493_7 : decode cJ0_coder_7d493 7 = .ok (.getfield 15, 3) := by decide +kernel
theorem dJ0_coder_7d493_10 : decode cJ0_coder_7d493 10 = .ok (.goto 4, 3) := by decide +kernel
theorem dJ0_coder_7d493_13 : decode cJ0_coder_7d493 13 = .ok (.iconst 1, 1) := by decide +kernel
theorem dJ0_coder_7d493_14 : decode cJ0_coder_7d493 14 = .ok (.ireturn, 1) := by decide +kernel
theorem dJ0_isLatin1_aae02_0 : decode cJ0_isLatin1_aae02 0 = .ok (.getstatic 38, 3) := by decide +kernel
theorem dJ0_isLatin1_aae02_3 : decode cJ0_isLatin1_aae02 3 = .ok (.ifCond .eq 14, 3) := by decide +kernel
theorem dJ0_isLatin1_aae02_6 : decode cJ0_isLatin1_aae02 6 = .ok (.aload_n 0, 1) := by decide +kernel
theorem dJ0_isLatin1_aae02_7 : decode cJ0_isLatin1_aae02 7 = .ok (.getfield 15, 3) := by decide +kernel
theorem dJ0_isLatin1_aae02_10 : decode cJ0_isLatin1_aae02 10 = .ok (.ifCond .ne 7, 3) := by decide +kernel
theorem dJ0_isLatin1_aae02_13 : decode cJ0_isLatin1_aae02 13 = .ok (.iconst 1, 1) := by decide +kernel
theorem dJ0_isLatin1_aae02_14 : decode cJ0_isLatin1_aae02 14 = .ok (.goto 4, 3) := by decide +kernel
theorem dJ0_isLatin1_aae02_17 : decode cJ0_isLatin1_aae02 17 = .ok (.iconst 0, 1) := by decide +kernel
theorem dJ0_isLatin1_aae02_18 : decode cJ0_isLatin1_aae02 18 = .ok (.ireturn, 1) := by decide +kernel
theorem dJ0_checkIndex_df160_0 : decode cJ0_checkIndex_df160 0 = .ok (.iload_n 0, 1) := by decide +kernel
theorem dJ0_checkIndex_df160_1 : decode cJ0_checkIndex_df160 1 = .ok (.iload_n 1, 1) := by decide +kernel
theorem dJ0_checkIndex_df160_2 : decode cJ0_checkIndex_df160 2 = .ok (.getstatic 1053, 3) := by decide +kernel
theorem dJ0_checkIndex_df160_5 : decode cJ0_checkIndex_df160 5 = .ok (.invokestatic 1059, 3) := by decide +kernel
theorem dJ0_checkIndex_df160_8 : decode cJ0_checkIndex_df160 8 = .ok (.pop, 1) := by decide +kernel
theorem dJ0_checkIndex_df160_9 : decode cJ0_checkIndex_df160 9 = .ok (.return_, 1) := by decide +kernel
theorem dJ1_charAt_3b067_0 : decode cJ1_charAt_3b067 0 = .ok (.iload_n 1, 1) := by decide +kernel
theorem dJ1_charAt_3b067_1 : decode cJ1_charAt_3b067 1 = .ok (.aload_n 0, 1) := by decide +kernel
theorem dJ1_charAt_3b067_2 : decode cJ1_charAt_3b067 2 = .ok (.arraylength, 1) := by decide +kernel
theorem dJ1_charAt_3b067_3 : decode cJ1_charAt_3b067 3 = .ok (.invokestatic 9, 3) := by decide +kernel
theorem dJ1_charAt_3b067_6 : decode cJ1_charAt_3b067 6 = .ok (.aload_n 0, 1) := by decide +kernel
theorem dJ1_charAt_3b067_7 : decode cJ1_charAt_3b067 7 = .ok (.iload_n 1, 1) := by decide +kernel
theorem dJ1_charAt_3b067_8 : decode cJ1_charAt_3b067 8 = .ok (.baload, 1) := by decide +kernel
theorem dJ1_charAt_3b067_9 : decode cJ1_charAt_3b067 9 = .ok (.sipush 255, 3) := by decide +kernel
theorem dJ1_charAt_3b067_12 : decode cJ1_charAt_3b067 12 = .ok (.iand, 1) := by decide +kernel
theorem dJ1_charAt_3b067_13 : decode cJ1_charAt_3b067 13 = .ok (.i2c, 1) := by decide +kernel
theorem dJ1_charAt_3b067_14 : decode cJ1_charAt_3b067 14 = .ok (.ireturn, 1) := by decide +kernel
theorem dJ2_getChar_3b067_0 : decode cJ2_getChar_3b067 0 = .ok (.getstatic 44, 3) := by decide +kernel
theorem dJ2_getChar_3b067_3 : decode cJ2_getChar_3b067 3 = .ok (.ifCond .ne 25, 3) := by decide +kernel
theorem dJ2_getChar_3b067_6 : decode cJ2_getChar_3b067 6 = .ok (.iload_n 1, 1) := by decide +kernel
theorem dJ2_getChar_3b067_7 : decode cJ2_getChar_3b067 7 = .ok (.ifCond .lt 11, 3) := by decide +kernel
theorem dJ2_getChar_3b067_10 : decode cJ2_getChar_3b067 10 = .ok (.iload_n 1, 1) := by decide +kernel
theorem dJ2_getChar_3b067_11 : decode cJ2_getChar_3b067 11 = .ok (.aload_n 0, 1) := by decide +kernel
theorem dJ2_getChar_3b067_12 : decode cJ2_getChar_3b067 12 = .ok (.invokestatic 48, 3) := by decide +kernel
theorem dJ2_getChar_3b067_15 : decode cJ2_getChar_3b067 15 = .ok (.if_icmp .lt 13, 3) := by decide +kernel
theorem dJ2_getChar_3b067_18 : decode cJ2_getChar_3b067 18 = .ok (.new 52, 3) := by decide +kernel
theorem dJ2_getChar_3b067_21 : decode cJ2_getChar_3b067 21 = .ok (.dup, 1) := by decide +kernel
theorem dJ2_getChar_3b067_22 : decode cJ2_getChar_3b067 22 = .ok (.ldc 54, 2) := by decide +kernel
theorem dJ2_getChar_3b067_24 : decode cJ2_getChar_3b067 24 = .ok (.invokespecial 56, 3) := by decide +kernel
theorem dJ2_getChar_3b067_27 : decode cJ2_getChar_3b067 27 = .ok (.athrow, 1) := by decide +kernel
theorem dJ2_getChar_3b067_28 : decode cJ2_getChar_3b067 28 = .ok (.iload_n 1, 1) := by decide +kernel
theorem dJ2_getChar_3b067_29 : decode cJ2_getChar_3b067 29 = .ok (.iconst 1, 1) := by decide +kernel
theorem dJ2_getChar_3b067_30 : decode cJ2_getChar_3b067 30 = .ok (.ishl, 1) := by decide +kernel
theorem dJ2_getChar_3b067_31 : decode cJ2_getChar_3b067 31 = .ok (.istore_n 1, 1) := by decide +kernel
theorem dJ2_getChar_3b067_32 : decode cJ2_getChar_3b067 32 = .ok (.aload_n 0, 1) := by decide +kernel
theorem dJ2_getChar_3b067_33 : decode cJ2_getChar_3b067 33 = .ok (.iload_n 1, 1) := by decide +kernel
theorem dJ2_getChar_3b067_34 : decode cJ2_getChar_3b067 34 = .ok (.iinc 1 1, 3) := by decide +kernel
theorem dJ2_getChar_3b067_37 : decode cJ2_getChar_3b067 37 = .ok (.baload, 1) := by decide +kernel
theorem dJ2_getChar_3b067_38 : decode cJ2_getChar_3b067 38 = .ok (.sipush 255, 3) := by decide +kernel
theorem dJ2_getChar_3b067_41 : decode cJ2_getChar_3b067 41 = .ok (.iand, 1) := by decide +kernel
theorem dJ2_getChar_3b067_42 : decode cJ2_getChar_3b067 42 = .ok (.getstatic 59, 3) := by decide +kernel
theorem dJ2_getChar_3b067_45 : decode cJ2_getChar_3b067 45 = .ok (.ishl, 1) := by decide +kernel
theorem dJ2_getChar_3b067_46 : decode cJ2_getChar_3b067 46 = .ok (.aload_n 0, 1) := by decide +kernel
theorem dJ2_getChar_3b067_47 : decode cJ2_getChar_3b067 47 = .ok (.iload_n 1, 1) := by decide +kernel
theorem dJ2_getChar_3b067_48 : decode cJ2_getChar_3b067 48 = .ok (.baload, 1) := by decide +kernel
theorem dJ2_getChar_3b067_49 : decode cJ2_getChar_3b067 49 = .ok (.sipush 255, 3) := by decide +kernel
theorem dJ2_getChar_3b067_52 : decode cJ2_getChar_3b067 52 = .ok (.iand, 1) := by decide +kernel
theorem dJ2_getChar_3b067_53 : decode cJ2_getChar_3b067 53 = .ok (.getstatic 63, 3) := by decide +kernel
theorem dJ2_getChar_3b067_56 : decode cJ2_getChar_3b067 56 = .ok (.ishl, 1) := by decide +kernel
theorem dJ2_getChar_3b067_57 : decode cJ2_getChar_3b067 57 = .ok (.ior, 1) := by decide +kernel
theorem dJ2_getChar_3b067_58 : decode cJ2_getChar_3b067 58 = .ok (.i2c, 1) := by decide +kernel
theorem dJ2_getChar_3b067_59 : decode cJ2_getChar_3b067 59 = .ok (.ireturn, 1) := by decide +kernel
theorem dJ2_length_9d52b_0 : decode cJ2_length_9d52b 0 = .ok (.aload_n 0, 1) := by decide +kernel
theorem dJ2_length_9d52b_1 : decode cJ2_length_9d52b 1 = .ok (.arraylength, 1) := by decide +kernel
theorem dJ2_length_9d52b_2 : decode cJ2_length_9d52b 2 = .ok (.iconst 1, 1) := by decide +kernel
theorem dJ2_length_9d52b_3 : decode cJ2_length_9d52b 3 = .ok (.ishr, 1) := by decide +kernel
theorem dJ2_length_9d52b_4 : decode cJ2_length_9d52b 4 = .ok (.ireturn, 1) := by decide +kernel
theorem dJ2_charAt_3b067_0 : decode cJ2_charAt_3b067 0 = .ok (.iload_n 1, 1) := by decide +kernel
theorem dJ2_charAt_3b067_1 : decode cJ2_charAt_3b067 1 = .ok (.aload_n 0, 1) := by decide +kernel
theorem dJ2_charAt_3b067_2 : decode cJ2_charAt_3b067 2 = .ok (.invokestatic 67, 3) := by decide +kernel
theorem dJ2_charAt_3b067_5 : decode cJ2_charAt_3b067 5 = .ok (.aload_n 0, 1) := by decide +kernel
theorem dJ2_charAt_3b067_6 : decode cJ2_charAt_3b067 6 = .ok (.iload_n 1, 1) := by decide +kernel
theorem dJ2_charAt_3b067_7 : decode cJ2_charAt_3b067 7 = .ok (.invokestatic 71, 3) := by decide +kernel
theorem dJ2_charAt_3b067_10 : decode cJ2_charAt_3b067 10 = .ok (.ireturn, 1) := by decide +kernel
theorem dJ2_checkIndex_2214a_0 : decode cJ2_checkIndex_2214a 0 = .ok (.iload_n 0, 1) := by decide +kernel
theorem dJ2_checkIndex_2214a_1 : decode cJ2_checkIndex_2214a 1 = .ok (.aload_n 1, 1) := by decide +kernel
theorem dJ2_checkIndex_2214a_2 : decode cJ2_checkIndex_2214a 2 = .ok (.invokestatic 48, 3) := by decide +kernel
theorem dJ2_checkIndex_2214a_5 : decode cJ2_checkIndex_2214a 5 = .ok (.invokestatic 414, 3) := by decide +kernel
theorem dJ2_checkIndex_2214a_8 : decode cJ2_checkIndex_2214a 8 = .ok (.return_, 1) := by decide +kernel
theorem dJ7_fill_d0a16_0 : decode cJ7_fill_d0a16 0 = .ok (.iconst 0, 1) := by decide +kernel
theorem dJ7_fill_d0a16_1 : decode cJ7_fill_d0a16 1 = .ok (.istore_n 3, 1) := by decide +kernel
theorem dJ7_fill_d0a16_2 : decode cJ7_fill_d0a16 2 = .ok (.aload_n 0, 1) := by decide +kernel
theorem dJ7_fill_d0a16_3 : decode cJ7_fill_d0a16 3 = .ok (.arraylength, 1) := by decide +kernel
theorem dJ7_fill_d0a16_4 : decode cJ7_fill_d0a16 4 = .ok (.istore 4, 2) := by decide +kernel
theorem dJ7_fill_d0a16_6 : decode cJ7_fill_d0a16 6 = .ok (.iload_n 3, 1) := by decide +kernel
theorem dJ7_fill_d0a16_7 : decode cJ7_fill_d0a16 7 = .ok (.iload 4, 2) := by decide +kernel
theorem dJ7_fill_d0a16_9 : decode cJ7_fill_d0a16 9 = .ok (.if_icmp .ge 13, 3) := by decide +kernel
theorem dJ7_fill_d0a16_12 : decode cJ7_fill_d0a16 12 = .ok (.aload_n 0, 1) := by decide +kernel
theorem dJ7_fill_d0a16_13 : decode cJ7_fill_d0a16 13 = .ok (.iload_n 3, 1) := by decide +kernel
theorem dJ7_fill_d0a16_14 : decode cJ7_fill_d0a16 14 = .ok (.lload_n 1, 1) := by decide +kernel
theorem dJ7_fill_d0a16_15 : decode cJ7_fill_d0a16 15 = .ok (.lastore, 1) := by decide +kernel
theorem dJ7_fill_d0a16_16 : decode cJ7_fill_d0a16 16 = .ok (.iinc 3 1, 3) := by decide +kernel
theorem dJ7_fill_d0a16_19 : decode cJ7_fill_d0a16 19 = .ok (.goto (-13), 3) := by decide +kernel
theorem dJ7_fill_d0a16_22 : decode cJ7_fill_d0a16 22 = .ok (.return_, 1) := by decide +kernel
theorem dJ7_fill_53178_0 : decode cJ7_fill_53178 0 = .ok (.iconst 0, 1) := by decide +kernel
theorem dJ7_fill_53178_1 : decode cJ7_fill_53178 1 = .ok (.istore_n 2, 1) := by decide +kernel
theorem dJ7_fill_53178_2 : decode cJ7_fill_53178 2 = .ok (.aload_n 0, 1) := by decide +kernel
theorem dJ7_fill_53178_3 : decode cJ7_fill_53178 3 = .ok (.arraylength, 1) := by decide +kernel
theorem dJ7_fill_53178_4 : decode cJ7_fill_53178 4 = .ok (.istore_n 3, 1) := by decide +kernel
theorem dJ7_fill_53178_5 : decode cJ7_fill_53178 5 = .ok (.iload_n 2, 1) := by decide +kernel
theorem dJ7_fill_53178_6 : decode cJ7_fill_53178 6 = .ok (.iload_n 3, 1) := by decide +kernel
theorem dJ7_fill_53178_7 : decode cJ7_fill_53178 7 = .ok (.if_icmp .ge 13, 3) := by decide +kernel
theorem dJ7_fill_53178_10 : decode cJ7_fill_53178 10 = .ok (.aload_n 0, 1) := by decide +kernel
theorem dJ7_fill_53178_11 : decode cJ7_fill_53178 11 = .ok (.iload_n 2, 1) := by decide +kernel
theorem dJ7_fill_53178_12 : decode cJ7_fill_53178 12 = .ok (.iload_n 1, 1) := by decide +kernel
theorem dJ7_fill_53178_13 : decode cJ7_fill_53178 13 = .ok (.iastore, 1) := by decide +kernel
theorem dJ7_fill_53178_14 : decode cJ7_fill_53178 14 = .ok (.iinc 2 1, 3) := by decide +kernel
theorem dJ7_fill_53178_17 : decode cJ7_fill_53178 17 = .ok (.goto (-12), 3) := by decide +kernel
theorem dJ7_fill_53178_20 : decode cJ7_fill_53178 20 = .ok (.return_, 1) := by decide +kernel
theorem dJ3_checkIndex_8e157_0 : decode cJ3_checkIndex_8e157 0 = .ok (.iload_n 0, 1) := by decide +kernel
theorem dJ3_checkIndex_8e157_1 : decode cJ3_checkIndex_8e157 1 = .ok (.ifCond .lt 8, 3) := by decide +kernel
theorem dJ3_checkIndex_8e157_4 : decode cJ3_checkIndex_8e157 4 = .ok (.iload_n 0, 1) := by decide +kernel
theorem dJ3_checkIndex_8e157_5 : decode cJ3_checkIndex_8e157 5 = .ok (.iload_n 1, 1) := by decide +kernel
theorem dJ3_checkIndex_8e157_6 : decode cJ3_checkIndex_8e157 6 = .ok (.if_icmp .lt 10, 3) := by decide +kernel
theorem dJ3_checkIndex_8e157_9 : decode cJ3_checkIndex_8e157 9 = .ok (.aload_n 2, 1) := by decide +kernel
theorem dJ3_checkIndex_8e157_10 : decode cJ3_checkIndex_8e157 10 = .ok (.iload_n 0, 1) := by decide +kernel
theorem dJ3_checkIndex_8e157_11 : decode cJ3_checkIndex_8e157 11 = .ok (.iload_n 1, 1) := by decide +kernel
theorem dJ3_checkIndex_8e157_12 : decode cJ3_checkIndex_8e157 12 = .ok (.invokestatic 95, 3) := by decide +kernel
theorem dJ3_checkIndex_8e157_15 : decode cJ3_checkIndex_8e157 15 = .ok (.athrow, 1) := by decide +kernel
theorem dJ3_checkIndex_8e157_16 : decode cJ3_checkIndex_8e157 16 = .ok (.iload_n 0, 1) := by decide +kernel
theorem dJ3_checkIndex_8e157_17 : decode cJ3_checkIndex_8e157 17 = .ok (.ireturn, 1) := by decide +kernel
