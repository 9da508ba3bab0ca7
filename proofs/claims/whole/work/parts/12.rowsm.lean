theorem dX4_init_0 : decode cX4_init 0 = .ok (.aload_n 0, 1) := by decide +kernel
theorem dX4_init_1 : decode cX4_init 1 = .ok (.invokespecial 1, 3) := by decide +kernel
theorem dX4_init_4 : decode cX4_init 4 = .ok (.aload_n 0, 1) := by decide +kernel
theorem dX4_init_5 : decode cX4_init 5 = .ok (.bipush 80, 2) := by decide +kernel
theorem dX4_init_7 : decode cX4_init 7 = .ok (.newarray .int, 2) := by decide +kernel
theorem dX4_init_9 : decode cX4_init 9 = .ok (.putfield 7, 3) := by decide +kernel
theorem dX4_init_12 : decode cX4_init 12 = .ok (.aload_n 0, 1) := by decide +kernel
theorem dX4_init_13 : decode cX4_init 13 = .ok (.bipush 80, 2) := by decide +kernel
theorem dX4_init_15 : decode cX4_init 15 = .ok (.newarray .int, 2) := by decide +kernel
theorem dX4_init_17 : decode cX4_init 17 = .ok (.putfield 13, 3) := by decide +kernel
theorem dX4_init_20 : decode cX4_init 20 = .ok (.aload_n 0, 1) := by decide +kernel
theorem dX4_init_21 : decode cX4_init 21 = .ok (.bipush 80, 2) := by decide +kernel
theorem dX4_init_23 : decode cX4_init 23 = .ok (.newarray .int, 2) := by decide +kernel
theorem dX4_init_25 : decode cX4_init 25 = .ok (.putfield 16, 3) := by decide +kernel
theorem dX4_init_28 : decode cX4_init 28 = .ok (.aload_n 0, 1) := by decide +kernel
theorem dX4_init_29 : decode cX4_init 29 = .ok (.bipush 80, 2) := by decide +kernel
theorem dX4_init_31 : decode cX4_init 31 = .ok (.newarray .int, 2) := by decide +kernel
theorem dX4_init_33 : decode cX4_init 33 = .ok (.putfield 19, 3) := by decide +kernel
theorem dX4_init_36 : decode cX4_init 36 = .ok (.aload_n 0, 1) := by decide +kernel
theorem dX4_init_37 : decode cX4_init 37 = .ok (.bipush 60, 2) := by decide +kernel
theorem dX4_init_39 : decode cX4_init 39 = .ok (.newarray .boolean, 2) := by decide +kernel
theorem dX4_init_41 : decode cX4_init 41 = .ok (.putfield 22, 3) := by decide +kernel
theorem dX4_init_44 : decode cX4_init 44 = .ok (.aload_n 0, 1) := by decide +kernel
theorem dX4_init_45 : decode cX4_init 45 = .ok (.bipush 60, 2) := by decide +kernel
theorem dX4_init_47 : decode cX4_init 47 = .ok (.newarray .int, 2) := by decide +kernel
theorem dX4_init_49 : decode cX4_init 49 = .ok (.putfield 26, 3) := by decide +kernel
theorem dX4_init_52 : decode cX4_init 52 = .ok (.aload_n 0, 1) := by decide +kernel
theorem dX4_init_53 : decode cX4_init 53 = .ok (.bipush 60, 2) := by decide +kernel
theorem dX4_init_55 : decode cX4_init 55 = .ok (.newarray .int, 2) := by decide +kernel
theorem dX4_init_57 : decode cX4_init 57 = .ok (.putfield 29, 3) := by decide +kernel
theorem dX4_init_60 : decode cX4_init 60 = .ok (.aload_n 0, 1) := by decide +kernel
theorem dX4_init_61 : decode cX4_init 61 = .ok (.bipush 60, 2) := by decide +kernel
theorem dX4_init_63 : decode cX4_init 63 = .ok (.newarray .int, 2) := by decide +kernel
theorem dX4_init_65 : decode cX4_init 65 = .ok (.putfield 32, 3) := by decide +kernel
theorem dX4_init_68 : decode cX4_init 68 = .ok (.aload_n 0, 1) := by decide +kernel
theorem dX4_init_69 : decode cX4_init 69 = .ok (.bipush 60, 2) := by decide +kernel
theorem dX4_init_71 : decode cX4_init 71 = .ok (.newarray .int, 2) := by decide +kernel
theorem dX4_init_73 : decode cX4_init 73 = .ok (.putfield 35, 3) := by decide +kernel
theorem dX4_init_76 : decode cX4_init 76 = .ok (.aload_n 0, 1) := by decide +kernel
theorem dX4_init_77 : decode cX4_init 77 = .ok (.bipush 60, 2) := by decide +kernel
theorem dX4_init_79 : decode cX4_init 79 = .ok (.newarray .int, 2) := by decide +kernel
theorem dX4_init_81 : decode cX4_init 81 = .ok (.putfield 38, 3) := by decide +kernel
theorem dX4_init_84 : decode cX4_init 84 = .ok (.aload_n 0, 1) := by decide +kernel
theorem dX4_init_85 : decode cX4_init 85 = .ok (.bipush 60, 2) := by decide +kernel
theorem dX4_init_87 : decode cX4_init 87 = .ok (.newarray .int, 2) := by decide +kernel
theorem dX4_init_89 : decode cX4_init 89 = .ok (.putfield 41, 3) := by decide +kernel
theorem dX4_init_92 : decode cX4_init 92 = .ok (.aload_n 0, 1) := by decide +kernel
theorem dX4_init_93 : decode cX4_init 93 = .ok (.bipush 60, 2) := by decide +kernel
theorem dX4_init_95 : decode cX4_init 95 = .ok (.newarray .int, 2) := by decide +kernel
theorem dX4_init_97 : decode cX4_init 97 = .ok (.putfield 44, 3) := by decide +kernel
theorem dX4_init_100 : decode cX4_init 100 = .ok (.aload_n 0, 1) := by decide +kernel
theorem dX4_init_101 : decode cX4_init 101 = .ok (.bipush 60, 2) := by decide +kernel
theorem dX4_init_103 : decode cX4_init 103 = .ok (.newarray .int, 2) := by decide +kernel
theorem dX4_init_105 : decode cX4_init 105 = .ok (.putfield 47, 3) := by decide +kernel
theorem dX4_init_108 : decode cX4_init 108 = .ok (.aload_n 0, 1) := by decide +kernel
theorem dX4_init_109 : decode cX4_init 109 = .ok (.bipush 60, 2) := by decide +kernel
theorem dX4_init_111 : decode cX4_init 111 = .ok (.newarray .int, 2) := by decide +kernel
theorem dX4_init_113 : decode cX4_init 113 = .ok (.putfield 50, 3) := by decide +kernel
theorem dX4_init_116 : decode cX4_init 116 = .ok (.aload_n 0, 1) := by decide +kernel
theorem dX4_init_117 : decode cX4_init 117 = .ok (.bipush 60, 2) := by decide +kernel
theorem dX4_init_119 : decode cX4_init 119 = .ok (.newarray .int, 2) := by decide +kernel
theorem dX4_init_121 : decode cX4_init 121 = .ok (.putfield 53, 3) := by decide +kernel
theorem dX4_init_124 : decode cX4_init 124 = .ok (.aload_n 0, 1) := by decide +kernel
theorem dX4_init_125 : decode cX4_init 125 = .ok (.bipush 80, 2) := by decide +kernel
theorem dX4_init_127 : decode cX4_init 127 = .ok (.newarray .boolean, 2) := by decide +kernel
theorem dX4_init_129 : decode cX4_init 129 = .ok (.putfield 56, 3) := by decide +kernel
theorem dX4_init_132 : decode cX4_init 132 = .ok (.aload_n 0, 1) := by decide +kernel
theorem dX4_init_133 : decode cX4_init 133 = .ok (.bipush 80, 2) := by decide +kernel
theorem dX4_init_135 : decode cX4_init 135 = .ok (.newarray .int, 2) := by decide +kernel
theorem dX4_init_137 : decode cX4_init 137 = .ok (.putfield 59, 3) := by decide +kernel
theorem dX4_init_140 : decode cX4_init 140 = .ok (.aload_n 0, 1) := by decide +kernel
theorem dX4_init_141 : decode cX4_init 141 = .ok (.sipush 200, 3) := by decide +kernel
theorem dX4_init_144 : decode cX4_init 144 = .ok (.newarray .int, 2) := by decide +kernel
theorem dX4_init_146 : decode cX4_init 146 = .ok (.putfield 62, 3) := by decide +kernel
theorem dX4_init_149 : decode cX4_init 149 = .ok (.iconst 0, 1) := by decide +kernel
theorem dX4_init_150 : decode cX4_init 150 = .ok (.istore_n 1, 1) := by decide +kernel
theorem dX4_init_151 : decode cX4_init 151 = .ok (.iload_n 1, 1) := by decide +kernel
theorem dX4_init_152 : decode cX4_init 152 = .ok (.bipush 60, 2) := by decide +kernel
theorem dX4_init_154 : decode cX4_init 154 = .ok (.if_icmp .ge 16, 3) := by decide +kernel
theorem dX4_init_157 : decode cX4_init 157 = .ok (.aload_n 0, 1) := by decide +kernel
theorem dX4_init_158 : decode cX4_init 158 = .ok (.getfield 44, 3) := by decide +kernel
theorem dX4_init_161 : decode cX4_init 161 = .ok (.iload_n 1, 1) := by decide +kernel
theorem dX4_init_162 : decode cX4_init 162 = .ok (.iconst (-1), 1) := by decide +kernel
theorem dX4_init_163 : decode cX4_init 163 = .ok (.iastore, 1) := by decide +kernel
theorem dX4_init_164 : decode cX4_init 164 = .ok (.iinc 1 1, 3) := by decide +kernel
theorem dX4_init_167 : decode cX4_init 167 = .ok (.goto (-16), 3) := by decide +kernel
theorem dX4_init_170 : decode cX4_init 170 = .ok (.return_, 1) := by decide +kernel
theorem dX4_within_0 : decode cX4_within 0 = .ok (.iload_n 0, 1) := by decide +kernel
theorem dX4_within_1 : decode cX4_within 1 = .ok (.iload_n 1, 1) := by decide +kernel
theorem dX4_within_2 : decode cX4_within 2 = .ok (.if_icmp .lt 12, 3) := by decide +kernel
theorem dX4_within_5 : decode cX4_within 5 = .ok (.iload_n 0, 1) := by decide +kernel
theorem dX4_within_6 : decode cX4_within 6 = .ok (.iload_n 2, 1) := by decide +kernel
theorem dX4_within_7 : decode cX4_within 7 = .ok (.if_icmp .gt 7, 3) := by decide +kernel
theorem dX4_within_10 : decode cX4_within 10 = .ok (.iconst 1, 1) := by decide +kernel
theorem dX4_within_11 : decode cX4_within 11 = .ok (.goto 4, 3) := by decide +kernel
theorem dX4_within_14 : decode cX4_within 14 = .ok (.iconst 0, 1) := by decide +kernel
theorem dX4_within_15 : decode cX4_within 15 = .ok (.ireturn, 1) := by decide +kernel
set_option maxRecDepth 20000 in
theorem ggX4_isFormula_X4_within : GoodIn wsX4_isFormula wsX4_within := goodIn_r _ [5] (by decide +kernel) (by decide +kernel)
set_option maxRecDepth 20000 in
theorem gX4_isFormula_X4_within : GoodIn wsX4_isFormula (va_wsS RX4 69 yX4_within wsX4_within) := goodIn_app (goodIn_of _ (by decide +kernel)) ggX4_isFormula_X4_within
theorem dX4_isFormula_0 : decode cX4_isFormula 0 = .ok (.iload_n 1, 1) := by decide +kernel
theorem dX4_isFormula_1 : decode cX4_isFormula 1 = .ok (.iconst 0, 1) := by decide +kernel
theorem dX4_isFormula_2 : decode cX4_isFormula 2 = .ok (.aload_n 0, 1) := by decide +kernel
theorem dX4_isFormula_3 : decode cX4_isFormula 3 = .ok (.getfield 65, 3) := by decide +kernel
theorem dX4_isFormula_6 : decode cX4_isFormula 6 = .ok (.iconst 1, 1) := by decide +kernel
theorem dX4_isFormula_7 : decode cX4_isFormula 7 = .ok (.isub, 1) := by decide +kernel
theorem dX4_isFormula_8 : decode cX4_isFormula 8 = .ok (.invokestatic 69, 3) := by decide +kernel
theorem dX4_isFormula_11 : decode cX4_isFormula 11 = .ok (.ireturn, 1) := by decide +kernel
set_option maxRecDepth 20000 in
theorem ggX4_isLine_X4_within : GoodIn wsX4_isLine wsX4_within := goodIn_r _ [4] (by decide +kernel) (by decide +kernel)
set_option maxRecDepth 20000 in
theorem gX4_isLine_X4_within : GoodIn wsX4_isLine (va_wsS RX4 69 yX4_within wsX4_within) := goodIn_app (goodIn_of _ (by decide +kernel)) ggX4_isLine_X4_within
theorem dX4_isLine_0 : decode cX4_isLine 0 = .ok (.iload_n 0, 1) := by decide +kernel
theorem dX4_isLine_1 : decode cX4_isLine 1 = .ok (.iconst 0, 1) := by decide +kernel
theorem dX4_isLine_2 : decode cX4_isLine 2 = .ok (.bipush 59, 2) := by decide +kernel
theorem dX4_isLine_4 : decode cX4_isLine 4 = .ok (.invokestatic 69, 3) := by decide +kernel
theorem dX4_isLine_7 : decode cX4_isLine 7 = .ok (.ireturn, 1) := by decide +kernel
theorem dX4_make_0 : decode cX4_make 0 = .ok (.iload_n 1, 1) := by decide +kernel
theorem dX4_make_1 : decode cX4_make 1 = .ok (.ifCond .ne 7, 3) := by decide +kernel
theorem dX4_make_4 : decode cX4_make 4 = .ok (.iconst (-1), 1) := by decide +kernel
theorem dX4_make_5 : decode cX4_make 5 = .ok (.goto 4, 3) := by decide +kernel
theorem dX4_make_8 : decode cX4_make 8 = .ok (.iload_n 2, 1) := by decide +kernel
theorem dX4_make_9 : decode cX4_make 9 = .ok (.istore 4, 2) := by decide +kernel
theorem dX4_make_11 : decode cX4_make 11 = .ok (.iload_n 1, 1) := by decide +kernel
theorem dX4_make_12 : decode cX4_make 12 = .ok (.iconst 2, 1) := by decide +kernel
theorem dX4_make_13 : decode cX4_make 13 = .ok (.if_icmp .ge 7, 3) := by decide +kernel
theorem dX4_make_16 : decode cX4_make 16 = .ok (.iconst (-1), 1) := by decide +kernel
theorem dX4_make_17 : decode cX4_make 17 = .ok (.goto 4, 3) := by decide +kernel
theorem dX4_make_20 : decode cX4_make 20 = .ok (.iload_n 3, 1) := by decide +kernel
theorem dX4_make_21 : decode cX4_make 21 = .ok (.istore 5, 2) := by decide +kernel
theorem dX4_make_23 : decode cX4_make 23 = .ok (.iconst 0, 1) := by decide +kernel
theorem dX4_make_24 : decode cX4_make 24 = .ok (.istore 6, 2) := by decide +kernel
theorem dX4_make_26 : decode cX4_make 26 = .ok (.iload 6, 2) := by decide +kernel
theorem dX4_make_28 : decode cX4_make 28 = .ok (.aload_n 0, 1) := by decide +kernel
theorem dX4_make_29 : decode cX4_make 29 = .ok (.getfield 65, 3) := by decide +kernel
theorem dX4_make_32 : decode cX4_make 32 = .ok (.if_icmp .ge 47, 3) := by decide +kernel
theorem dX4_make_35 : decode cX4_make 35 = .ok (.aload_n 0, 1) := by decide +kernel
theorem dX4_make_36 : decode cX4_make 36 = .ok (.getfield 7, 3) := by decide +kernel
theorem dX4_make_39 : decode cX4_make 39 = .ok (.iload 6, 2) := by decide +kernel
theorem dX4_make_41 : decode cX4_make 41 = .ok (.iaload, 1) := by decide +kernel
theorem dX4_make_42 : decode cX4_make 42 = .ok (.iload_n 1, 1) := by decide +kernel
theorem dX4_make_43 : decode cX4_make 43 = .ok (.if_icmp .ne 30, 3) := by decide +kernel
theorem dX4_make_46 : decode cX4_make 46 = .ok (.aload_n 0, 1) := by decide +kernel
theorem dX4_make_47 : decode cX4_make 47 = .ok (.getfield 13, 3) := by decide +kernel
theorem dX4_make_50 : decode cX4_make 50 = .ok (.iload 6, 2) := by decide +kernel
theorem dX4_make_52 : decode cX4_make 52 = .ok (.iaload, 1) := by decide +kernel
theorem dX4_make_53 : decode cX4_make 53 = .ok (.iload 4, 2) := by decide +kernel
theorem dX4_make_55 : decode cX4_make 55 = .ok (.if_icmp .ne 18, 3) := by decide +kernel
theorem dX4_make_58 : decode cX4_make 58 = .ok (.aload_n 0, 1) := by decide +kernel
theorem dX4_make_59 : decode cX4_make 59 = .ok (.getfield 16, 3) := by decide +kernel
theorem dX4_make_62 : decode cX4_make 62 = .ok (.iload 6, 2) := by decide +kernel
theorem dX4_make_64 : decode cX4_make 64 = .ok (.iaload, 1) := by decide +kernel
theorem dX4_make_65 : decode cX4_make 65 = .ok (.iload 5, 2) := by decide +kernel
theorem dX4_make_67 : decode cX4_make 67 = .ok (.if_icmp .ne 6, 3) := by decide +kernel
theorem dX4_make_70 : decode cX4_make 70 = .ok (.iload 6, 2) := by decide +kernel
theorem dX4_make_72 : decode cX4_make 72 = .ok (.ireturn, 1) := by decide +kernel
theorem dX4_make_73 : decode cX4_make 73 = .ok (.iinc 6 1, 3) := by decide +kernel
theorem dX4_make_76 : decode cX4_make 76 = .ok (.goto (-50), 3) := by decide +kernel
theorem dX4_make_79 : decode cX4_make 79 = .ok (.iload_n 1, 1) := by decide +kernel
theorem dX4_make_80 : decode cX4_make 80 = .ok (.iconst 2, 1) := by decide +kernel
theorem dX4_make_81 : decode cX4_make 81 = .ok (.if_icmp .ge 7, 3) := by decide +kernel
theorem dX4_make_84 : decode cX4_make 84 = .ok (.iconst 1, 1) := by decide +kernel
theorem dX4_make_85 : decode cX4_make 85 = .ok (.goto 35, 3) := by decide +kernel
theorem dX4_make_88 : decode cX4_make 88 = .ok (.iconst 1, 1) := by decide +kernel
theorem dX4_make_89 : decode cX4_make 89 = .ok (.aload_n 0, 1) := by decide +kernel
theorem dX4_make_90 : decode cX4_make 90 = .ok (.getfield 19, 3) := by decide +kernel
theorem dX4_make_93 : decode cX4_make 93 = .ok (.iload_n 2, 1) := by decide +kernel
theorem dX4_make_94 : decode cX4_make 94 = .ok (.iaload, 1) := by decide +kernel
theorem dX4_make_95 : decode cX4_make 95 = .ok (.aload_n 0, 1) := by decide +kernel
theorem dX4_make_96 : decode cX4_make 96 = .ok (.getfield 19, 3) := by decide +kernel
theorem dX4_make_99 : decode cX4_make 99 = .ok (.iload_n 3, 1) := by decide +kernel
theorem dX4_make_100 : decode cX4_make 100 = .ok (.iaload, 1) := by decide +kernel
theorem dX4_make_101 : decode cX4_make 101 = .ok (.if_icmp .le 12, 3) := by decide +kernel
theorem dX4_make_104 : decode cX4_make 104 = .ok (.aload_n 0, 1) := by decide +kernel
theorem dX4_make_105 : decode cX4_make 105 = .ok (.getfield 19, 3) := by decide +kernel
theorem dX4_make_108 : decode cX4_make 108 = .ok (.iload_n 2, 1) := by decide +kernel
theorem dX4_make_109 : decode cX4_make 109 = .ok (.iaload, 1) := by decide +kernel
theorem dX4_make_110 : decode cX4_make 110 = .ok (.goto 9, 3) := by decide +kernel
theorem dX4_make_113 : decode cX4_make 113 = .ok (.aload_n 0, 1) := by decide +kernel
theorem dX4_make_114 : decode cX4_make 114 = .ok (.getfield 19, 3) := by decide +kernel
theorem dX4_make_117 : decode cX4_make 117 = .ok (.iload_n 3, 1) := by decide +kernel
theorem dX4_make_118 : decode cX4_make 118 = .ok (.iaload, 1) := by decide +kernel
theorem dX4_make_119 : decode cX4_make 119 = .ok (.iadd, 1) := by decide +kernel
theorem dX4_make_120 : decode cX4_make 120 = .ok (.istore 6, 2) := by decide +kernel
theorem dX4_make_122 : decode cX4_make 122 = .ok (.aload_n 0, 1) := by decide +kernel
theorem dX4_make_123 : decode cX4_make 123 = .ok (.getfield 65, 3) := by decide +kernel
theorem dX4_make_126 : decode cX4_make 126 = .ok (.bipush 80, 2) := by decide +kernel
theorem dX4_make_128 : decode cX4_make 128 = .ok (.if_icmp .eq 10, 3) := by decide +kernel
theorem dX4_make_131 : decode cX4_make 131 = .ok (.iload 6, 2) := by decide +kernel
theorem dX4_make_133 : decode cX4_make 133 = .ok (.bipush 12, 2) := by decide +kernel
theorem dX4_make_135 : decode cX4_make 135 = .ok (.if_icmp .le 6, 3) := by decide +kernel
theorem dX4_make_138 : decode cX4_make 138 = .ok (.bipush (-4), 2) := by decide +kernel
theorem dX4_make_140 : decode cX4_make 140 = .ok (.ireturn, 1) := by decide +kernel
theorem dX4_make_141 : decode cX4_make 141 = .ok (.aload_n 0, 1) := by decide +kernel
theorem dX4_make_142 : decode cX4_make 142 = .ok (.getfield 7, 3) := by decide +kernel
theorem dX4_make_145 : decode cX4_make 145 = .ok (.aload_n 0, 1) := by decide +kernel
theorem dX4_make_146 : decode cX4_make 146 = .ok (.getfield 65, 3) := by decide +kernel
theorem dX4_make_149 : decode cX4_make 149 = .ok (.iload_n 1, 1) := by decide +kernel
theorem dX4_make_150 : decode cX4_make 150 = .ok (.iastore, 1) := by decide +kernel
theorem dX4_make_151 : decode cX4_make 151 = .ok (.aload_n 0, 1) := by decide +kernel
theorem dX4_make_152 : decode cX4_make 152 = .ok (.getfield 13, 3) := by decide +kernel
theorem dX4_make_155 : decode cX4_make 155 = .ok (.aload_n 0, 1) := by decide +kernel
theorem dX4_make_156 : decode cX4_make 156 = .ok (.getfield 65, 3) := by decide +kernel
theorem dX4_make_159 : decode cX4_make 159 = .ok (.iload 4, 2) := by decide +kernel
theorem dX4_make_161 : decode cX4_make 161 = .ok (.iastore, 1) := by decide +kernel
theorem dX4_make_162 : decode cX4_make 162 = .ok (.aload_n 0, 1) := by decide +kernel
theorem dX4_make_163 : decode cX4_make 163 = .ok (.getfield 16, 3) := by decide +kernel
theorem dX4_make_166 : decode cX4_make 166 = .ok (.aload_n 0, 1) := by decide +kernel
theorem dX4_make_167 : decode cX4_make 167 = .ok (.getfield 65, 3) := by decide +kernel
theorem dX4_make_170 : decode cX4_make 170 = .ok (.iload 5, 2) := by decide +kernel
theorem dX4_make_172 : decode cX4_make 172 = .ok (.iastore, 1) := by decide +kernel
theorem dX4_make_173 : decode cX4_make 173 = .ok (.aload_n 0, 1) := by decide +kernel
theorem dX4_make_174 : decode cX4_make 174 = .ok (.getfield 19, 3) := by decide +kernel
theorem dX4_make_177 : decode cX4_make 177 = .ok (.aload_n 0, 1) := by decide +kernel
theorem dX4_make_178 : decode cX4_make 178 = .ok (.getfield 65, 3) := by decide +kernel
theorem dX4_make_181 : decode cX4_make 181 = .ok (.iload 6, 2) := by decide +kernel
theorem dX4_make_183 : decode cX4_make 183 = .ok (.iastore, 1) := by decide +kernel
theorem dX4_make_184 : decode cX4_make 184 = .ok (.aload_n 0, 1) := by decide +kernel
theorem dX4_make_185 : decode cX4_make 185 = .ok (.dup, 1) := by decide +kernel
theorem dX4_make_186 : decode cX4_make 186 = .ok (.getfield 65, 3) := by decide +kernel
theorem dX4_make_189 : decode cX4_make 189 = .ok (.iconst 1, 1) := by decide +kernel
theorem dX4_make_190 : decode cX4_make 190 = .ok (.iadd, 1) := by decide +kernel
theorem dX4_make_191 : decode cX4_make 191 = .ok (.putfield 65, 3) := by decide +kernel
theorem dX4_make_194 : decode cX4_make 194 = .ok (.aload_n 0, 1) := by decide +kernel
theorem dX4_make_195 : decode cX4_make 195 = .ok (.getfield 65, 3) := by decide +kernel
theorem dX4_make_198 : decode cX4_make 198 = .ok (.iconst 1, 1) := by decide +kernel
theorem dX4_make_199 : decode cX4_make 199 = .ok (.isub, 1) := by decide +kernel
theorem dX4_make_200 : decode cX4_make 200 = .ok (.ireturn, 1) := by decide +kernel
set_option maxRecDepth 20000 in
theorem ggX4_formula_X4_within : GoodIn wsX4_formula wsX4_within := goodIn_r _ [4] (by decide +kernel) (by decide +kernel)
set_option maxRecDepth 20000 in
theorem gX4_formula_X4_within : GoodIn wsX4_formula (va_wsS RX4 69 yX4_within wsX4_within) := goodIn_app (goodIn_of _ (by decide +kernel)) ggX4_formula_X4_within
set_option maxRecDepth 20000 in
theorem ggX4_formula_X4_isFormula : GoodIn wsX4_formula wsX4_isFormula := goodIn_r _ [8, 9, 1, 2, 3, 4, 18, 19, 20, 21, 22, 23, 24, 25, 26, 27, 28, 29, 30, 31, 32, 33, 34, 35, 36, 37, 38, 39, 40, 41, 42] (by decide +kernel) (by decide +kernel)
set_option maxRecDepth 20000 in
theorem gX4_formula_X4_isFormula : GoodIn wsX4_formula (wsV RX4 73 RX4 yX4_isFormula wsX4_isFormula) := goodIn_app (goodIn_of _ (by decide +kernel)) ggX4_formula_X4_isFormula
set_option maxRecDepth 20000 in
theorem ggX4_formula_X4_make : GoodIn wsX4_formula wsX4_make := goodIn_r _ [13, 9, 14, 15, 16, 17, 18, 19, 20, 21, 22, 23, 24, 25, 26, 27, 28, 29, 30, 31, 32, 33, 34, 35, 36, 37, 38, 39, 40, 41, 42] (by decide +kernel) (by decide +kernel)
set_option maxRecDepth 20000 in
theorem gX4_formula_X4_make : GoodIn wsX4_formula (wsV RX4 77 RX4 yX4_make wsX4_make) := goodIn_app (goodIn_of _ (by decide +kernel)) ggX4_formula_X4_make
theorem dX4_formula_0 : decode cX4_formula 0 = .ok (.iload_n 1, 1) := by decide +kernel
theorem dX4_formula_1 : decode cX4_formula 1 = .ok (.iconst 2, 1) := by decide +kernel
theorem dX4_formula_2 : decode cX4_formula 2 = .ok (.iconst 4, 1) := by decide +kernel
theorem dX4_formula_3 : decode cX4_formula 3 = .ok (.invokestatic 69, 3) := by decide +kernel
theorem dX4_formula_6 : decode cX4_formula 6 = .ok (.ifCond .eq 22, 3) := by decide +kernel
theorem dX4_formula_9 : decode cX4_formula 9 = .ok (.aload_n 0, 1) := by decide +kernel
theorem dX4_formula_10 : decode cX4_formula 10 = .ok (.iload_n 2, 1) := by decide +kernel
theorem dX4_formula_11 : decode cX4_formula 11 = .ok (.invokevirtual 73, 3) := by decide +kernel
theorem dX4_formula_14 : decode cX4_formula 14 = .ok (.ifCond .eq 11, 3) := by decide +kernel
theorem dX4_formula_17 : decode cX4_formula 17 = .ok (.aload_n 0, 1) := by decide +kernel
theorem dX4_formula_18 : decode cX4_formula 18 = .ok (.iload_n 3, 1) := by decide +kernel
theorem dX4_formula_19 : decode cX4_formula 19 = .ok (.invokevirtual 73, 3) := by decide +kernel
theorem dX4_formula_22 : decode cX4_formula 22 = .ok (.ifCond .ne 6, 3) := by decide +kernel
theorem dX4_formula_25 : decode cX4_formula 25 = .ok (.bipush (-2), 2) := by decide +kernel
theorem dX4_formula_27 : decode cX4_formula 27 = .ok (.ireturn, 1) := by decide +kernel
theorem dX4_formula_28 : decode cX4_formula 28 = .ok (.iload_n 1, 1) := by decide +kernel
theorem dX4_formula_29 : decode cX4_formula 29 = .ok (.iconst 0, 1) := by decide +kernel
theorem dX4_formula_30 : decode cX4_formula 30 = .ok (.iconst 4, 1) := by decide +kernel
theorem dX4_formula_31 : decode cX4_formula 31 = .ok (.invokestatic 69, 3) := by decide +kernel
theorem dX4_formula_34 : decode cX4_formula 34 = .ok (.ifCond .eq 17, 3) := by decide +kernel
theorem dX4_formula_37 : decode cX4_formula 37 = .ok (.iload_n 1, 1) := by decide +kernel
theorem dX4_formula_38 : decode cX4_formula 38 = .ok (.iconst 1, 1) := by decide +kernel
theorem dX4_formula_39 : decode cX4_formula 39 = .ok (.if_icmp .ne 15, 3) := by decide +kernel
theorem dX4_formula_42 : decode cX4_formula 42 = .ok (.iload_n 2, 1) := by decide +kernel
theorem dX4_formula_43 : decode cX4_formula 43 = .ok (.iconst 0, 1) := by decide +kernel
theorem dX4_formula_44 : decode cX4_formula 44 = .ok (.iconst 5, 1) := by decide +kernel
theorem dX4_formula_45 : decode cX4_formula 45 = .ok (.invokestatic 69, 3) := by decide +kernel
theorem dX4_formula_48 : decode cX4_formula 48 = .ok (.ifCond .ne 6, 3) := by decide +kernel
theorem dX4_formula_51 : decode cX4_formula 51 = .ok (.bipush (-3), 2) := by decide +kernel
theorem dX4_formula_53 : decode cX4_formula 53 = .ok (.ireturn, 1) := by decide +kernel
theorem dX4_formula_54 : decode cX4_formula 54 = .ok (.aload_n 0, 1) := by decide +kernel
theorem dX4_formula_55 : decode cX4_formula 55 = .ok (.iload_n 1, 1) := by decide +kernel
theorem dX4_formula_56 : decode cX4_formula 56 = .ok (.iload_n 2, 1) := by decide +kernel
theorem dX4_formula_57 : decode cX4_formula 57 = .ok (.iload_n 3, 1) := by decide +kernel
theorem dX4_formula_58 : decode cX4_formula 58 = .ok (.invokevirtual 77, 3) := by decide +kernel
theorem dX4_formula_61 : decode cX4_formula 61 = .ok (.ireturn, 1) := by decide +kernel
set_option maxRecDepth 20000 in
theorem ggX4_about_X4_isFormula : GoodIn wsX4_about wsX4_isFormula := goodIn_r _ [9, 10, 11, 12, 8, 13, 14, 15, 16, 17, 18, 19, 20, 21, 22, 23, 24, 25, 26, 27, 28, 29, 30, 31, 32, 33, 34, 35, 36, 37, 38] (by decide +kernel) (by decide +kernel)
set_option maxRecDepth 20000 in
theorem gX4_about_X4_isFormula : GoodIn wsX4_about (wsV RX4 73 RX4 yX4_isFormula wsX4_isFormula) := goodIn_app (goodIn_of _ (by decide +kernel)) ggX4_about_X4_isFormula
theorem dX4_about_0 : decode cX4_about 0 = .ok (.aload_n 0, 1) := by decide +kernel
theorem dX4_about_1 : decode cX4_about 1 = .ok (.iload_n 1, 1) := by decide +kernel
theorem dX4_about_2 : decode cX4_about 2 = .ok (.invokevirtual 73, 3) := by decide +kernel
theorem dX4_about_5 : decode cX4_about 5 = .ok (.ifCond .ne 6, 3) := by decide +kernel
theorem dX4_about_8 : decode cX4_about 8 = .ok (.bipush (-2), 2) := by decide +kernel
theorem dX4_about_10 : decode cX4_about 10 = .ok (.ireturn, 1) := by decide +kernel
theorem dX4_about_11 : decode cX4_about 11 = .ok (.iload_n 2, 1) := by decide +kernel
theorem dX4_about_12 : decode cX4_about 12 = .ok (.tableswitch 49 0 2 #[28, 35, 42], 28) := by decide +kernel
theorem dX4_about_40 : decode cX4_about 40 = .ok (.aload_n 0, 1) := by decide +kernel
theorem dX4_about_41 : decode cX4_about 41 = .ok (.getfield 7, 3) := by decide +kernel
theorem dX4_about_44 : decode cX4_about 44 = .ok (.iload_n 1, 1) := by decide +kernel
theorem dX4_about_45 : decode cX4_about 45 = .ok (.iaload, 1) := by decide +kernel
theorem dX4_about_46 : decode cX4_about 46 = .ok (.ireturn, 1) := by decide +kernel
theorem dX4_about_47 : decode cX4_about 47 = .ok (.aload_n 0, 1) := by decide +kernel
theorem dX4_about_48 : decode cX4_about 48 = .ok (.getfield 13, 3) := by decide +kernel
theorem dX4_about_51 : decode cX4_about 51 = .ok (.iload_n 1, 1) := by decide +kernel
theorem dX4_about_52 : decode cX4_about 52 = .ok (.iaload, 1) := by decide +kernel
theorem dX4_about_53 : decode cX4_about 53 = .ok (.ireturn, 1) := by decide +kernel
theorem dX4_about_54 : decode cX4_about 54 = .ok (.aload_n 0, 1) := by decide +kernel
theorem dX4_about_55 : decode cX4_about 55 = .ok (.getfield 16, 3) := by decide +kernel
theorem dX4_about_58 : decode cX4_about 58 = .ok (.iload_n 1, 1) := by decide +kernel
theorem dX4_about_59 : decode cX4_about 59 = .ok (.iaload, 1) := by decide +kernel
theorem dX4_about_60 : decode cX4_about 60 = .ok (.ireturn, 1) := by decide +kernel
theorem dX4_about_61 : decode cX4_about 61 = .ok (.iload_n 2, 1) := by decide +kernel
theorem dX4_about_62 : decode cX4_about 62 = .ok (.iconst 3, 1) := by decide +kernel
theorem dX4_about_63 : decode cX4_about 63 = .ok (.if_icmp .ne 12, 3) := by decide +kernel
theorem dX4_about_66 : decode cX4_about 66 = .ok (.aload_n 0, 1) := by decide +kernel
theorem dX4_about_67 : decode cX4_about 67 = .ok (.getfield 19, 3) := by decide +kernel
theorem dX4_about_70 : decode cX4_about 70 = .ok (.iload_n 1, 1) := by decide +kernel
theorem dX4_about_71 : decode cX4_about 71 = .ok (.iaload, 1) := by decide +kernel
theorem dX4_about_72 : decode cX4_about 72 = .ok (.goto 5, 3) := by decide +kernel
theorem dX4_about_75 : decode cX4_about 75 = .ok (.bipush (-3), 2) := by decide +kernel
theorem dX4_about_77 : decode cX4_about 77 = .ok (.ireturn, 1) := by decide +kernel
theorem dX4_evaluate_0 : decode cX4_evaluate 0 = .ok (.iconst 0, 1) := by decide +kernel
theorem dX4_evaluate_1 : decode cX4_evaluate 1 = .ok (.istore_n 2, 1) := by decide +kernel
theorem dX4_evaluate_2 : decode cX4_evaluate 2 = .ok (.iload_n 2, 1) := by decide +kernel
theorem dX4_evaluate_3 : decode cX4_evaluate 3 = .ok (.aload_n 0, 1) := by decide +kernel
theorem dX4_evaluate_4 : decode cX4_evaluate 4 = .ok (.getfield 65, 3) := by decide +kernel
theorem dX4_evaluate_7 : decode cX4_evaluate 7 = .ok (.if_icmp .ge 208, 3) := by decide +kernel
theorem dX4_evaluate_10 : decode cX4_evaluate 10 = .ok (.aload_n 0, 1) := by decide +kernel
theorem dX4_evaluate_11 : decode cX4_evaluate 11 = .ok (.getfield 7, 3) := by decide +kernel
theorem dX4_evaluate_14 : decode cX4_evaluate 14 = .ok (.iload_n 2, 1) := by decide +kernel
theorem dX4_evaluate_15 : decode cX4_evaluate 15 = .ok (.iaload, 1) := by decide +kernel
theorem dX4_evaluate_16 : decode cX4_evaluate 16 = .ok (.tableswitch 154 0 3 #[32, 42, 70, 112], 32) := by decide +kernel
theorem dX4_evaluate_48 : decode cX4_evaluate 48 = .ok (.aload_n 0, 1) := by decide +kernel
theorem dX4_evaluate_49 : decode cX4_evaluate 49 = .ok (.getfield 56, 3) := by decide +kernel
theorem dX4_evaluate_52 : decode cX4_evaluate 52 = .ok (.iload_n 2, 1) := by decide +kernel
theorem dX4_evaluate_53 : decode cX4_evaluate 53 = .ok (.iconst 0, 1) := by decide +kernel
theorem dX4_evaluate_54 : decode cX4_evaluate 54 = .ok (.bastore, 1) := by decide +kernel
theorem dX4_evaluate_55 : decode cX4_evaluate 55 = .ok (.goto 154, 3) := by decide +kernel
theorem dX4_evaluate_58 : decode cX4_evaluate 58 = .ok (.aload_n 0, 1) := by decide +kernel
theorem dX4_evaluate_59 : decode cX4_evaluate 59 = .ok (.getfield 56, 3) := by decide +kernel
theorem dX4_evaluate_62 : decode cX4_evaluate 62 = .ok (.iload_n 2, 1) := by decide +kernel
theorem dX4_evaluate_63 : decode cX4_evaluate 63 = .ok (.iload_n 1, 1) := by decide +kernel
theorem dX4_evaluate_64 : decode cX4_evaluate 64 = .ok (.aload_n 0, 1) := by decide +kernel
theorem dX4_evaluate_65 : decode cX4_evaluate 65 = .ok (.getfield 13, 3) := by decide +kernel
theorem dX4_evaluate_68 : decode cX4_evaluate 68 = .ok (.iload_n 2, 1) := by decide +kernel
theorem dX4_evaluate_69 : decode cX4_evaluate 69 = .ok (.iaload, 1) := by decide +kernel
theorem dX4_evaluate_70 : decode cX4_evaluate 70 = .ok (.ishr, 1) := by decide +kernel
theorem dX4_evaluate_71 : decode cX4_evaluate 71 = .ok (.iconst 1, 1) := by decide +kernel
theorem dX4_evaluate_72 : decode cX4_evaluate 72 = .ok (.iand, 1) := by decide +kernel
theorem dX4_evaluate_73 : decode cX4_evaluate 73 = .ok (.iconst 1, 1) := by decide +kernel
theorem dX4_evaluate_74 : decode cX4_evaluate 74 = .ok (.if_icmp .ne 7, 3) := by decide +kernel
theorem dX4_evaluate_77 : decode cX4_evaluate 77 = .ok (.iconst 1, 1) := by decide +kernel
theorem dX4_evaluate_78 : decode cX4_evaluate 78 = .ok (.goto 4, 3) := by decide +kernel
theorem dX4_evaluate_81 : decode cX4_evaluate 81 = .ok (.iconst 0, 1) := by decide +kernel
theorem dX4_evaluate_82 : decode cX4_evaluate 82 = .ok (.bastore, 1) := by decide +kernel
theorem dX4_evaluate_83 : decode cX4_evaluate 83 = .ok (.goto 126, 3) := by decide +kernel
theorem dX4_evaluate_86 : decode cX4_evaluate 86 = .ok (.aload_n 0, 1) := by decide +kernel
theorem dX4_evaluate_87 : decode cX4_evaluate 87 = .ok (.getfield 56, 3) := by decide +kernel
theorem dX4_evaluate_90 : decode cX4_evaluate 90 = .ok (.iload_n 2, 1) := by decide +kernel
theorem dX4_evaluate_91 : decode cX4_evaluate 91 = .ok (.aload_n 0, 1) := by decide +kernel
theorem dX4_evaluate_92 : decode cX4_evaluate 92 = .ok (.getfield 56, 3) := by decide +kernel
theorem dX4_evaluate_95 : decode cX4_evaluate 95 = .ok (.aload_n 0, 1) := by decide +kernel
theorem dX4_evaluate_96 : decode cX4_evaluate 96 = .ok (.getfield 13, 3) := by decide +kernel
theorem dX4_evaluate_99 : decode cX4_evaluate 99 = .ok (.iload_n 2, 1) := by decide +kernel
theorem dX4_evaluate_100 : decode cX4_evaluate 100 = .ok (.iaload, 1) := by decide +kernel
theorem dX4_evaluate_101 : decode cX4_evaluate 101 = .ok (.baload, 1) := by decide +kernel
theorem dX4_evaluate_102 : decode cX4_evaluate 102 = .ok (.ifCond .eq 21, 3) := by decide +kernel
theorem dX4_evaluate_105 : decode cX4_evaluate 105 = .ok (.aload_n 0, 1) := by decide +kernel
theorem dX4_evaluate_106 : decode cX4_evaluate 106 = .ok (.getfield 56, 3) := by decide +kernel
theorem dX4_evaluate_109 : decode cX4_evaluate 109 = .ok (.aload_n 0, 1) := by decide +kernel
theorem dX4_evaluate_110 : decode cX4_evaluate 110 = .ok (.getfield 16, 3) := by decide +kernel
theorem dX4_evaluate_113 : decode cX4_evaluate 113 = .ok (.iload_n 2, 1) := by decide +kernel
theorem dX4_evaluate_114 : decode cX4_evaluate 114 = .ok (.iaload, 1) := by decide +kernel
theorem dX4_evaluate_115 : decode cX4_evaluate 115 = .ok (.baload, 1) := by decide +kernel
theorem dX4_evaluate_116 : decode cX4_evaluate 116 = .ok (.ifCond .eq 7, 3) := by decide +kernel
theorem dX4_evaluate_119 : decode cX4_evaluate 119 = .ok (.iconst 1, 1) := by decide +kernel
theorem dX4_evaluate_120 : decode cX4_evaluate 120 = .ok (.goto 4, 3) := by decide +kernel
theorem dX4_evaluate_123 : decode cX4_evaluate 123 = .ok (.iconst 0, 1) := by decide +kernel
theorem dX4_evaluate_124 : decode cX4_evaluate 124 = .ok (.bastore, 1) := by decide +kernel
theorem dX4_evaluate_125 : decode cX4_evaluate 125 = .ok (.goto 84, 3) := by decide +kernel
theorem dX4_evaluate_128 : decode cX4_evaluate 128 = .ok (.aload_n 0, 1) := by decide +kernel
theorem dX4_evaluate_129 : decode cX4_evaluate 129 = .ok (.getfield 56, 3) := by decide +kernel
theorem dX4_evaluate_132 : decode cX4_evaluate 132 = .ok (.iload_n 2, 1) := by decide +kernel
theorem dX4_evaluate_133 : decode cX4_evaluate 133 = .ok (.aload_n 0, 1) := by decide +kernel
theorem dX4_evaluate_134 : decode cX4_evaluate 134 = .ok (.getfield 56, 3) := by decide +kernel
theorem dX4_evaluate_137 : decode cX4_evaluate 137 = .ok (.aload_n 0, 1) := by decide +kernel
theorem dX4_evaluate_138 : decode cX4_evaluate 138 = .ok (.getfield 13, 3) := by decide +kernel
theorem dX4_evaluate_141 : decode cX4_evaluate 141 = .ok (.iload_n 2, 1) := by decide +kernel
theorem dX4_evaluate_142 : decode cX4_evaluate 142 = .ok (.iaload, 1) := by decide +kernel
theorem dX4_evaluate_143 : decode cX4_evaluate 143 = .ok (.baload, 1) := by decide +kernel
theorem dX4_evaluate_144 : decode cX4_evaluate 144 = .ok (.ifCond .ne 17, 3) := by decide +kernel
theorem dX4_evaluate_147 : decode cX4_evaluate 147 = .ok (.aload_n 0, 1) := by decide +kernel
theorem dX4_evaluate_148 : decode cX4_evaluate 148 = .ok (.getfield 56, 3) := by decide +kernel
theorem dX4_evaluate_151 : decode cX4_evaluate 151 = .ok (.aload_n 0, 1) := by decide +kernel
theorem dX4_evaluate_152 : decode cX4_evaluate 152 = .ok (.getfield 16, 3) := by decide +kernel
theorem dX4_evaluate_155 : decode cX4_evaluate 155 = .ok (.iload_n 2, 1) := by decide +kernel
theorem dX4_evaluate_156 : decode cX4_evaluate 156 = .ok (.iaload, 1) := by decide +kernel
theorem dX4_evaluate_157 : decode cX4_evaluate 157 = .ok (.baload, 1) := by decide +kernel
theorem dX4_evaluate_158 : decode cX4_evaluate 158 = .ok (.ifCond .eq 7, 3) := by decide +kernel
theorem dX4_evaluate_161 : decode cX4_evaluate 161 = .ok (.iconst 1, 1) := by decide +kernel
theorem dX4_evaluate_162 : decode cX4_evaluate 162 = .ok (.goto 4, 3) := by decide +kernel
theorem dX4_evaluate_165 : decode cX4_evaluate 165 = .ok (.iconst 0, 1) := by decide +kernel
theorem dX4_evaluate_166 : decode cX4_evaluate 166 = .ok (.bastore, 1) := by decide +kernel
theorem dX4_evaluate_167 : decode cX4_evaluate 167 = .ok (.goto 42, 3) := by decide +kernel
theorem dX4_evaluate_170 : decode cX4_evaluate 170 = .ok (.aload_n 0, 1) := by decide +kernel
theorem dX4_evaluate_171 : decode cX4_evaluate 171 = .ok (.getfield 56, 3) := by decide +kernel
theorem dX4_evaluate_174 : decode cX4_evaluate 174 = .ok (.iload_n 2, 1) := by decide +kernel
theorem dX4_evaluate_175 : decode cX4_evaluate 175 = .ok (.aload_n 0, 1) := by decide +kernel
theorem dX4_evaluate_176 : decode cX4_evaluate 176 = .ok (.getfield 56, 3) := by decide +kernel
theorem dX4_evaluate_179 : decode cX4_evaluate 179 = .ok (.aload_n 0, 1) := by decide +kernel
theorem dX4_evaluate_180 : decode cX4_evaluate 180 = .ok (.getfield 13, 3) := by decide +kernel
theorem dX4_evaluate_183 : decode cX4_evaluate 183 = .ok (.iload_n 2, 1) := by decide +kernel
theorem dX4_evaluate_184 : decode cX4_evaluate 184 = .ok (.iaload, 1) := by decide +kernel
theorem dX4_evaluate_185 : decode cX4_evaluate 185 = .ok (.baload, 1) := by decide +kernel
theorem dX4_evaluate_186 : decode cX4_evaluate 186 = .ok (.ifCond .eq 17, 3) := by decide +kernel
theorem dX4_evaluate_189 : decode cX4_evaluate 189 = .ok (.aload_n 0, 1) := by decide +kernel
theorem dX4_evaluate_190 : decode cX4_evaluate 190 = .ok (.getfield 56, 3) := by decide +kernel
theorem dX4_evaluate_193 : decode cX4_evaluate 193 = .ok (.aload_n 0, 1) := by decide +kernel
theorem dX4_evaluate_194 : decode cX4_evaluate 194 = .ok (.getfield 16, 3) := by decide +kernel
theorem dX4_evaluate_197 : decode cX4_evaluate 197 = .ok (.iload_n 2, 1) := by decide +kernel
theorem dX4_evaluate_198 : decode cX4_evaluate 198 = .ok (.iaload, 1) := by decide +kernel
theorem dX4_evaluate_199 : decode cX4_evaluate 199 = .ok (.baload, 1) := by decide +kernel
theorem dX4_evaluate_200 : decode cX4_evaluate 200 = .ok (.ifCond .eq 7, 3) := by decide +kernel
theorem dX4_evaluate_203 : decode cX4_evaluate 203 = .ok (.iconst 1, 1) := by decide +kernel
theorem dX4_evaluate_204 : decode cX4_evaluate 204 = .ok (.goto 4, 3) := by decide +kernel
theorem dX4_evaluate_207 : decode cX4_evaluate 207 = .ok (.iconst 0, 1) := by decide +kernel
theorem dX4_evaluate_208 : decode cX4_evaluate 208 = .ok (.bastore, 1) := by decide +kernel
theorem dX4_evaluate_209 : decode cX4_evaluate 209 = .ok (.iinc 2 1, 3) := by decide +kernel
theorem dX4_evaluate_212 : decode cX4_evaluate 212 = .ok (.goto (-210), 3) := by decide +kernel
theorem dX4_evaluate_215 : decode cX4_evaluate 215 = .ok (.return_, 1) := by decide +kernel
set_option maxRecDepth 20000 in
theorem ggX4_value_X4_isFormula : GoodIn wsX4_value wsX4_isFormula := goodIn_r _ [6, 7, 8, 9, 5, 10, 18, 19, 20, 21, 22, 23, 24, 25, 26, 27, 28, 29, 30, 31, 32, 33, 34, 35, 36, 37, 38, 39, 40, 41, 42] (by decide +kernel) (by decide +kernel)
set_option maxRecDepth 20000 in
theorem gX4_value_X4_isFormula : GoodIn wsX4_value (wsV RX4 73 RX4 yX4_isFormula wsX4_isFormula) := goodIn_app (goodIn_of _ (by decide +kernel)) ggX4_value_X4_isFormula
set_option maxRecDepth 20000 in
theorem ggX4_value_X4_within : GoodIn wsX4_value wsX4_within := goodIn_r _ [10] (by decide +kernel) (by decide +kernel)
set_option maxRecDepth 20000 in
theorem gX4_value_X4_within : GoodIn wsX4_value (va_wsS RX4 69 yX4_within wsX4_within) := goodIn_app (goodIn_of _ (by decide +kernel)) ggX4_value_X4_within
set_option maxRecDepth 20000 in
theorem ggX4_value_X4_evaluate : GoodIn wsX4_value wsX4_evaluate := goodIn_r _ [14, 7, 15, 1, 16, 17, 18, 19, 20, 21, 22, 23, 24, 25, 26, 27, 28, 29, 30, 31, 32, 33, 34, 35, 36, 37, 38, 39, 40, 41, 42] (by decide +kernel) (by decide +kernel)
set_option maxRecDepth 20000 in
theorem gX4_value_X4_evaluate : GoodIn wsX4_value (wsV RX4 81 RX4 yX4_evaluate wsX4_evaluate) := goodIn_app (goodIn_of _ (by decide +kernel)) ggX4_value_X4_evaluate
theorem dX4_value_0 : decode cX4_value 0 = .ok (.aload_n 0, 1) := by decide +kernel
theorem dX4_value_1 : decode cX4_value 1 = .ok (.iload_n 1, 1) := by decide +kernel
theorem dX4_value_2 : decode cX4_value 2 = .ok (.invokevirtual 73, 3) := by decide +kernel
theorem dX4_value_5 : decode cX4_value 5 = .ok (.ifCond .ne 6, 3) := by decide +kernel
theorem dX4_value_8 : decode cX4_value 8 = .ok (.bipush (-2), 2) := by decide +kernel
theorem dX4_value_10 : decode cX4_value 10 = .ok (.ireturn, 1) := by decide +kernel
theorem dX4_value_11 : decode cX4_value 11 = .ok (.iload_n 2, 1) := by decide +kernel
theorem dX4_value_12 : decode cX4_value 12 = .ok (.iconst 0, 1) := by decide +kernel
theorem dX4_value_13 : decode cX4_value 13 = .ok (.bipush 63, 2) := by decide +kernel
theorem dX4_value_15 : decode cX4_value 15 = .ok (.invokestatic 69, 3) := by decide +kernel
theorem dX4_value_18 : decode cX4_value 18 = .ok (.ifCond .ne 6, 3) := by decide +kernel
theorem dX4_value_21 : decode cX4_value 21 = .ok (.bipush (-3), 2) := by decide +kernel
theorem dX4_value_23 : decode cX4_value 23 = .ok (.ireturn, 1) := by decide +kernel
theorem dX4_value_24 : decode cX4_value 24 = .ok (.aload_n 0, 1) := by decide +kernel
theorem dX4_value_25 : decode cX4_value 25 = .ok (.iload_n 2, 1) := by decide +kernel
theorem dX4_value_26 : decode cX4_value 26 = .ok (.invokevirtual 81, 3) := by decide +kernel
theorem dX4_value_29 : decode cX4_value 29 = .ok (.aload_n 0, 1) := by decide +kernel
theorem dX4_value_30 : decode cX4_value 30 = .ok (.getfield 56, 3) := by decide +kernel
theorem dX4_value_33 : decode cX4_value 33 = .ok (.iload_n 1, 1) := by decide +kernel
theorem dX4_value_34 : decode cX4_value 34 = .ok (.baload, 1) := by decide +kernel
theorem dX4_value_35 : decode cX4_value 35 = .ok (.ifCond .eq 7, 3) := by decide +kernel
theorem dX4_value_38 : decode cX4_value 38 = .ok (.iconst 1, 1) := by decide +kernel
theorem dX4_value_39 : decode cX4_value 39 = .ok (.goto 4, 3) := by decide +kernel
theorem dX4_value_42 : decode cX4_value 42 = .ok (.iconst 0, 1) := by decide +kernel
theorem dX4_value_43 : decode cX4_value 43 = .ok (.ireturn, 1) := by decide +kernel
set_option maxRecDepth 20000 in
theorem ggX4_truths_X4_isFormula : GoodIn wsX4_truths wsX4_isFormula := goodIn_r _ [6, 7, 8, 9, 5, 10, 18, 19, 20, 21, 22, 23, 24, 25, 26, 27, 28, 29, 30, 31, 32, 33, 34, 35, 36, 37, 38, 39, 40, 41, 42] (by decide +kernel) (by decide +kernel)
set_option maxRecDepth 20000 in
theorem gX4_truths_X4_isFormula : GoodIn wsX4_truths (wsV RX4 73 RX4 yX4_isFormula wsX4_isFormula) := goodIn_app (goodIn_of _ (by decide +kernel)) ggX4_truths_X4_isFormula
set_option maxRecDepth 20000 in
theorem ggX4_truths_X4_evaluate : GoodIn wsX4_truths wsX4_evaluate := goodIn_r _ [14, 7, 15, 1, 16, 17, 18, 19, 20, 21, 22, 23, 24, 25, 26, 27, 28, 29, 30, 31, 32, 33, 34, 35, 36, 37, 38, 39, 40, 41, 42] (by decide +kernel) (by decide +kernel)
set_option maxRecDepth 20000 in
theorem gX4_truths_X4_evaluate : GoodIn wsX4_truths (wsV RX4 81 RX4 yX4_evaluate wsX4_evaluate) := goodIn_app (goodIn_of _ (by decide +kernel)) ggX4_truths_X4_evaluate
theorem dX4_truths_0 : decode cX4_truths 0 = .ok (.aload_n 0, 1) := by decide +kernel
theorem dX4_truths_1 : decode cX4_truths 1 = .ok (.iload_n 1, 1) := by decide +kernel
theorem dX4_truths_2 : decode cX4_truths 2 = .ok (.invokevirtual 73, 3) := by decide +kernel
theorem dX4_truths_5 : decode cX4_truths 5 = .ok (.ifCond .ne 6, 3) := by decide +kernel
theorem dX4_truths_8 : decode cX4_truths 8 = .ok (.bipush (-2), 2) := by decide +kernel
theorem dX4_truths_10 : decode cX4_truths 10 = .ok (.ireturn, 1) := by decide +kernel
theorem dX4_truths_11 : decode cX4_truths 11 = .ok (.iconst 0, 1) := by decide +kernel
theorem dX4_truths_12 : decode cX4_truths 12 = .ok (.istore_n 2, 1) := by decide +kernel
theorem dX4_truths_13 : decode cX4_truths 13 = .ok (.iconst 0, 1) := by decide +kernel
theorem dX4_truths_14 : decode cX4_truths 14 = .ok (.istore_n 3, 1) := by decide +kernel
theorem dX4_truths_15 : decode cX4_truths 15 = .ok (.iload_n 3, 1) := by decide +kernel
theorem dX4_truths_16 : decode cX4_truths 16 = .ok (.bipush 64, 2) := by decide +kernel
theorem dX4_truths_18 : decode cX4_truths 18 = .ok (.if_icmp .ge 31, 3) := by decide +kernel
theorem dX4_truths_21 : decode cX4_truths 21 = .ok (.aload_n 0, 1) := by decide +kernel
theorem dX4_truths_22 : decode cX4_truths 22 = .ok (.iload_n 3, 1) := by decide +kernel
theorem dX4_truths_23 : decode cX4_truths 23 = .ok (.invokevirtual 81, 3) := by decide +kernel
theorem dX4_truths_26 : decode cX4_truths 26 = .ok (.iload_n 2, 1) := by decide +kernel
theorem dX4_truths_27 : decode cX4_truths 27 = .ok (.aload_n 0, 1) := by decide +kernel
theorem dX4_truths_28 : decode cX4_truths 28 = .ok (.getfield 56, 3) := by decide +kernel
theorem dX4_truths_31 : decode cX4_truths 31 = .ok (.iload_n 1, 1) := by decide +kernel
theorem dX4_truths_32 : decode cX4_truths 32 = .ok (.baload, 1) := by decide +kernel
theorem dX4_truths_33 : decode cX4_truths 33 = .ok (.ifCond .eq 7, 3) := by decide +kernel
theorem dX4_truths_36 : decode cX4_truths 36 = .ok (.iconst 1, 1) := by decide +kernel
theorem dX4_truths_37 : decode cX4_truths 37 = .ok (.goto 4, 3) := by decide +kernel
theorem dX4_truths_40 : decode cX4_truths 40 = .ok (.iconst 0, 1) := by decide +kernel
theorem dX4_truths_41 : decode cX4_truths 41 = .ok (.iadd, 1) := by decide +kernel
theorem dX4_truths_42 : decode cX4_truths 42 = .ok (.istore_n 2, 1) := by decide +kernel
theorem dX4_truths_43 : decode cX4_truths 43 = .ok (.iinc 3 1, 3) := by decide +kernel
theorem dX4_truths_46 : decode cX4_truths 46 = .ok (.goto (-31), 3) := by decide +kernel
theorem dX4_truths_49 : decode cX4_truths 49 = .ok (.iload_n 2, 1) := by decide +kernel
theorem dX4_truths_50 : decode cX4_truths 50 = .ok (.ireturn, 1) := by decide +kernel
set_option maxRecDepth 20000 in
theorem ggX4_instead_X4_isFormula : GoodIn wsX4_instead wsX4_isFormula := goodIn_r _ [10, 11, 12, 13, 9, 14, 20, 21, 22, 23, 24, 25, 26, 27, 28, 29, 30, 31, 32, 33, 34, 35, 36, 37, 38, 39, 40, 41, 42, 43, 44] (by decide +kernel) (by decide +kernel)
set_option maxRecDepth 20000 in
theorem gX4_instead_X4_isFormula : GoodIn wsX4_instead (wsV RX4 73 RX4 yX4_isFormula wsX4_isFormula) := goodIn_app (goodIn_of _ (by decide +kernel)) ggX4_instead_X4_isFormula
set_option maxRecDepth 20000 in
theorem ggX4_instead_X4_within : GoodIn wsX4_instead wsX4_within := goodIn_r _ [14] (by decide +kernel) (by decide +kernel)
set_option maxRecDepth 20000 in
theorem gX4_instead_X4_within : GoodIn wsX4_instead (va_wsS RX4 69 yX4_within wsX4_within) := goodIn_app (goodIn_of _ (by decide +kernel)) ggX4_instead_X4_within
set_option maxRecDepth 20000 in
theorem ggX4_instead_X4_make : GoodIn wsX4_instead wsX4_make := goodIn_r _ [18, 11, 2, 3, 5, 19, 20, 21, 22, 23, 24, 25, 26, 27, 28, 29, 30, 31, 32, 33, 34, 35, 36, 37, 38, 39, 40, 41, 42, 43, 44] (by decide +kernel) (by decide +kernel)
set_option maxRecDepth 20000 in
theorem gX4_instead_X4_make : GoodIn wsX4_instead (wsV RX4 77 RX4 yX4_make wsX4_make) := goodIn_app (goodIn_of _ (by decide +kernel)) ggX4_instead_X4_make
theorem dX4_instead_0 : decode cX4_instead 0 = .ok (.aload_n 0, 1) := by decide +kernel
theorem dX4_instead_1 : decode cX4_instead 1 = .ok (.iload_n 1, 1) := by decide +kernel
theorem dX4_instead_2 : decode cX4_instead 2 = .ok (.invokevirtual 73, 3) := by decide +kernel
theorem dX4_instead_5 : decode cX4_instead 5 = .ok (.ifCond .eq 11, 3) := by decide +kernel
theorem dX4_instead_8 : decode cX4_instead 8 = .ok (.aload_n 0, 1) := by decide +kernel
theorem dX4_instead_9 : decode cX4_instead 9 = .ok (.iload_n 3, 1) := by decide +kernel
theorem dX4_instead_10 : decode cX4_instead 10 = .ok (.invokevirtual 73, 3) := by decide +kernel
theorem dX4_instead_13 : decode cX4_instead 13 = .ok (.ifCond .ne 6, 3) := by decide +kernel
theorem dX4_instead_16 : decode cX4_instead 16 = .ok (.bipush (-2), 2) := by decide +kernel
theorem dX4_instead_18 : decode cX4_instead 18 = .ok (.ireturn, 1) := by decide +kernel
theorem dX4_instead_19 : decode cX4_instead 19 = .ok (.iload_n 2, 1) := by decide +kernel
theorem dX4_instead_20 : decode cX4_instead 20 = .ok (.iconst 0, 1) := by decide +kernel
theorem dX4_instead_21 : decode cX4_instead 21 = .ok (.iconst 5, 1) := by decide +kernel
theorem dX4_instead_22 : decode cX4_instead 22 = .ok (.invokestatic 69, 3) := by decide +kernel
theorem dX4_instead_25 : decode cX4_instead 25 = .ok (.ifCond .ne 6, 3) := by decide +kernel
theorem dX4_instead_28 : decode cX4_instead 28 = .ok (.bipush (-3), 2) := by decide +kernel
theorem dX4_instead_30 : decode cX4_instead 30 = .ok (.ireturn, 1) := by decide +kernel
theorem dX4_instead_31 : decode cX4_instead 31 = .ok (.iconst 0, 1) := by decide +kernel
theorem dX4_instead_32 : decode cX4_instead 32 = .ok (.istore 4, 2) := by decide +kernel
theorem dX4_instead_34 : decode cX4_instead 34 = .ok (.iload 4, 2) := by decide +kernel
theorem dX4_instead_36 : decode cX4_instead 36 = .ok (.iload_n 1, 1) := by decide +kernel
theorem dX4_instead_37 : decode cX4_instead 37 = .ok (.if_icmp .gt 63, 3) := by decide +kernel
theorem dX4_instead_40 : decode cX4_instead 40 = .ok (.aload_n 0, 1) := by decide +kernel
theorem dX4_instead_41 : decode cX4_instead 41 = .ok (.getfield 59, 3) := by decide +kernel
theorem dX4_instead_44 : decode cX4_instead 44 = .ok (.iload 4, 2) := by decide +kernel
theorem dX4_instead_46 : decode cX4_instead 46 = .ok (.aload_n 0, 1) := by decide +kernel
theorem dX4_instead_47 : decode cX4_instead 47 = .ok (.getfield 7, 3) := by decide +kernel
theorem dX4_instead_50 : decode cX4_instead 50 = .ok (.iload 4, 2) := by decide +kernel
theorem dX4_instead_52 : decode cX4_instead 52 = .ok (.iaload, 1) := by decide +kernel
theorem dX4_instead_53 : decode cX4_instead 53 = .ok (.ifCond .ne 8, 3) := by decide +kernel
theorem dX4_instead_56 : decode cX4_instead 56 = .ok (.iload 4, 2) := by decide +kernel
theorem dX4_instead_58 : decode cX4_instead 58 = .ok (.goto 35, 3) := by decide +kernel
theorem dX4_instead_61 : decode cX4_instead 61 = .ok (.aload_n 0, 1) := by decide +kernel
theorem dX4_instead_62 : decode cX4_instead 62 = .ok (.getfield 7, 3) := by decide +kernel
theorem dX4_instead_65 : decode cX4_instead 65 = .ok (.iload 4, 2) := by decide +kernel
theorem dX4_instead_67 : decode cX4_instead 67 = .ok (.iaload, 1) := by decide +kernel
theorem dX4_instead_68 : decode cX4_instead 68 = .ok (.iconst 1, 1) := by decide +kernel
theorem dX4_instead_69 : decode cX4_instead 69 = .ok (.if_icmp .ne 23, 3) := by decide +kernel
theorem dX4_instead_72 : decode cX4_instead 72 = .ok (.aload_n 0, 1) := by decide +kernel
theorem dX4_instead_73 : decode cX4_instead 73 = .ok (.getfield 13, 3) := by decide +kernel
theorem dX4_instead_76 : decode cX4_instead 76 = .ok (.iload 4, 2) := by decide +kernel
theorem dX4_instead_78 : decode cX4_instead 78 = .ok (.iaload, 1) := by decide +kernel
theorem dX4_instead_79 : decode cX4_instead 79 = .ok (.iload_n 2, 1) := by decide +kernel
theorem dX4_instead_80 : decode cX4_instead 80 = .ok (.if_icmp .ne 7, 3) := by decide +kernel
theorem dX4_instead_83 : decode cX4_instead 83 = .ok (.iload_n 3, 1) := by decide +kernel
theorem dX4_instead_84 : decode cX4_instead 84 = .ok (.goto 9, 3) := by decide +kernel
theorem dX4_instead_87 : decode cX4_instead 87 = .ok (.iload 4, 2) := by decide +kernel
theorem dX4_instead_89 : decode cX4_instead 89 = .ok (.goto 4, 3) := by decide +kernel
theorem dX4_instead_92 : decode cX4_instead 92 = .ok (.iconst (-1), 1) := by decide +kernel
theorem dX4_instead_93 : decode cX4_instead 93 = .ok (.iastore, 1) := by decide +kernel
theorem dX4_instead_94 : decode cX4_instead 94 = .ok (.iinc 4 1, 3) := by decide +kernel
theorem dX4_instead_97 : decode cX4_instead 97 = .ok (.goto (-63), 3) := by decide +kernel
theorem dX4_instead_100 : decode cX4_instead 100 = .ok (.iconst 1, 1) := by decide +kernel
theorem dX4_instead_101 : decode cX4_instead 101 = .ok (.istore 4, 2) := by decide +kernel
theorem dX4_instead_103 : decode cX4_instead 103 = .ok (.aload_n 0, 1) := by decide +kernel
theorem dX4_instead_104 : decode cX4_instead 104 = .ok (.getfield 62, 3) := by decide +kernel
theorem dX4_instead_107 : decode cX4_instead 107 = .ok (.iconst 0, 1) := by decide +kernel
theorem dX4_instead_108 : decode cX4_instead 108 = .ok (.iload_n 1, 1) := by decide +kernel
theorem dX4_instead_109 : decode cX4_instead 109 = .ok (.iastore, 1) := by decide +kernel
theorem dX4_instead_110 : decode cX4_instead 110 = .ok (.iload 4, 2) := by decide +kernel
theorem dX4_instead_112 : decode cX4_instead 112 = .ok (.ifCond .le 165, 3) := by decide +kernel
theorem dX4_instead_115 : decode cX4_instead 115 = .ok (.aload_n 0, 1) := by decide +kernel
theorem dX4_instead_116 : decode cX4_instead 116 = .ok (.getfield 62, 3) := by decide +kernel
theorem dX4_instead_119 : decode cX4_instead 119 = .ok (.iload 4, 2) := by decide +kernel
theorem dX4_instead_121 : decode cX4_instead 121 = .ok (.iconst 1, 1) := by decide +kernel
theorem dX4_instead_122 : decode cX4_instead 122 = .ok (.isub, 1) := by decide +kernel
theorem dX4_instead_123 : decode cX4_instead 123 = .ok (.iaload, 1) := by decide +kernel
theorem dX4_instead_124 : decode cX4_instead 124 = .ok (.istore 5, 2) := by decide +kernel
theorem dX4_instead_126 : decode cX4_instead 126 = .ok (.aload_n 0, 1) := by decide +kernel
theorem dX4_instead_127 : decode cX4_instead 127 = .ok (.getfield 59, 3) := by decide +kernel
theorem dX4_instead_130 : decode cX4_instead 130 = .ok (.iload 5, 2) := by decide +kernel
theorem dX4_instead_132 : decode cX4_instead 132 = .ok (.iaload, 1) := by decide +kernel
theorem dX4_instead_133 : decode cX4_instead 133 = .ok (.iconst (-1), 1) := by decide +kernel
theorem dX4_instead_134 : decode cX4_instead 134 = .ok (.if_icmp .eq 9, 3) := by decide +kernel
theorem dX4_instead_137 : decode cX4_instead 137 = .ok (.iinc 4 (-1), 3) := by decide +kernel
theorem dX4_instead_140 : decode cX4_instead 140 = .ok (.goto 134, 3) := by decide +kernel
theorem dX4_instead_143 : decode cX4_instead 143 = .ok (.aload_n 0, 1) := by decide +kernel
theorem dX4_instead_144 : decode cX4_instead 144 = .ok (.getfield 59, 3) := by decide +kernel
theorem dX4_instead_147 : decode cX4_instead 147 = .ok (.aload_n 0, 1) := by decide +kernel
theorem dX4_instead_148 : decode cX4_instead 148 = .ok (.getfield 13, 3) := by decide +kernel
theorem dX4_instead_151 : decode cX4_instead 151 = .ok (.iload 5, 2) := by decide +kernel
theorem dX4_instead_153 : decode cX4_instead 153 = .ok (.iaload, 1) := by decide +kernel
theorem dX4_instead_154 : decode cX4_instead 154 = .ok (.iaload, 1) := by decide +kernel
theorem dX4_instead_155 : decode cX4_instead 155 = .ok (.iconst (-1), 1) := by decide +kernel
theorem dX4_instead_156 : decode cX4_instead 156 = .ok (.if_icmp .ne 23, 3) := by decide +kernel
theorem dX4_instead_159 : decode cX4_instead 159 = .ok (.aload_n 0, 1) := by decide +kernel
theorem dX4_instead_160 : decode cX4_instead 160 = .ok (.getfield 62, 3) := by decide +kernel
theorem dX4_instead_163 : decode cX4_instead 163 = .ok (.iload 4, 2) := by decide +kernel
theorem dX4_instead_165 : decode cX4_instead 165 = .ok (.aload_n 0, 1) := by decide +kernel
theorem dX4_instead_166 : decode cX4_instead 166 = .ok (.getfield 13, 3) := by decide +kernel
theorem dX4_instead_169 : decode cX4_instead 169 = .ok (.iload 5, 2) := by decide +kernel
theorem dX4_instead_171 : decode cX4_instead 171 = .ok (.iaload, 1) := by decide +kernel
theorem dX4_instead_172 : decode cX4_instead 172 = .ok (.iastore, 1) := by decide +kernel
theorem dX4_instead_173 : decode cX4_instead 173 = .ok (.iinc 4 1, 3) := by decide +kernel
theorem dX4_instead_176 : decode cX4_instead 176 = .ok (.goto 98, 3) := by decide +kernel
theorem dX4_instead_179 : decode cX4_instead 179 = .ok (.aload_n 0, 1) := by decide +kernel
theorem dX4_instead_180 : decode cX4_instead 180 = .ok (.getfield 59, 3) := by decide +kernel
theorem dX4_instead_183 : decode cX4_instead 183 = .ok (.aload_n 0, 1) := by decide +kernel
theorem dX4_instead_184 : decode cX4_instead 184 = .ok (.getfield 16, 3) := by decide +kernel
theorem dX4_instead_187 : decode cX4_instead 187 = .ok (.iload 5, 2) := by decide +kernel
theorem dX4_instead_189 : decode cX4_instead 189 = .ok (.iaload, 1) := by decide +kernel
theorem dX4_instead_190 : decode cX4_instead 190 = .ok (.iaload, 1) := by decide +kernel
theorem dX4_instead_191 : decode cX4_instead 191 = .ok (.iconst (-1), 1) := by decide +kernel
theorem dX4_instead_192 : decode cX4_instead 192 = .ok (.if_icmp .ne 23, 3) := by decide +kernel
theorem dX4_instead_195 : decode cX4_instead 195 = .ok (.aload_n 0, 1) := by decide +kernel
theorem dX4_instead_196 : decode cX4_instead 196 = .ok (.getfield 62, 3) := by decide +kernel
theorem dX4_instead_199 : decode cX4_instead 199 = .ok (.iload 4, 2) := by decide +kernel
theorem dX4_instead_201 : decode cX4_instead 201 = .ok (.aload_n 0, 1) := by decide +kernel
theorem dX4_instead_202 : decode cX4_instead 202 = .ok (.getfield 16, 3) := by decide +kernel
theorem dX4_instead_205 : decode cX4_instead 205 = .ok (.iload 5, 2) := by decide +kernel
theorem dX4_instead_207 : decode cX4_instead 207 = .ok (.iaload, 1) := by decide +kernel
theorem dX4_instead_208 : decode cX4_instead 208 = .ok (.iastore, 1) := by decide +kernel
theorem dX4_instead_209 : decode cX4_instead 209 = .ok (.iinc 4 1, 3) := by decide +kernel
theorem dX4_instead_212 : decode cX4_instead 212 = .ok (.goto 62, 3) := by decide +kernel
theorem dX4_instead_215 : decode cX4_instead 215 = .ok (.aload_n 0, 1) := by decide +kernel
theorem dX4_instead_216 : decode cX4_instead 216 = .ok (.aload_n 0, 1) := by decide +kernel
theorem dX4_instead_217 : decode cX4_instead 217 = .ok (.getfield 7, 3) := by decide +kernel
theorem dX4_instead_220 : decode cX4_instead 220 = .ok (.iload 5, 2) := by decide +kernel
theorem dX4_instead_222 : decode cX4_instead 222 = .ok (.iaload, 1) := by decide +kernel
theorem dX4_instead_223 : decode cX4_instead 223 = .ok (.aload_n 0, 1) := by decide +kernel
theorem dX4_instead_224 : decode cX4_instead 224 = .ok (.getfield 59, 3) := by decide +kernel
theorem dX4_instead_227 : decode cX4_instead 227 = .ok (.aload_n 0, 1) := by decide +kernel
theorem dX4_instead_228 : decode cX4_instead 228 = .ok (.getfield 13, 3) := by decide +kernel
theorem dX4_instead_231 : decode cX4_instead 231 = .ok (.iload 5, 2) := by decide +kernel
theorem dX4_instead_233 : decode cX4_instead 233 = .ok (.iaload, 1) := by decide +kernel
theorem dX4_instead_234 : decode cX4_instead 234 = .ok (.iaload, 1) := by decide +kernel
theorem dX4_instead_235 : decode cX4_instead 235 = .ok (.aload_n 0, 1) := by decide +kernel
theorem dX4_instead_236 : decode cX4_instead 236 = .ok (.getfield 59, 3) := by decide +kernel
theorem dX4_instead_239 : decode cX4_instead 239 = .ok (.aload_n 0, 1) := by decide +kernel
theorem dX4_instead_240 : decode cX4_instead 240 = .ok (.getfield 16, 3) := by decide +kernel
theorem dX4_instead_243 : decode cX4_instead 243 = .ok (.iload 5, 2) := by decide +kernel
theorem dX4_instead_245 : decode cX4_instead 245 = .ok (.iaload, 1) := by decide +kernel
theorem dX4_instead_246 : decode cX4_instead 246 = .ok (.iaload, 1) := by decide +kernel
theorem dX4_instead_247 : decode cX4_instead 247 = .ok (.invokevirtual 77, 3) := by decide +kernel
theorem dX4_instead_250 : decode cX4_instead 250 = .ok (.istore 6, 2) := by decide +kernel
theorem dX4_instead_252 : decode cX4_instead 252 = .ok (.iload 6, 2) := by decide +kernel
theorem dX4_instead_254 : decode cX4_instead 254 = .ok (.bipush (-4), 2) := by decide +kernel
theorem dX4_instead_256 : decode cX4_instead 256 = .ok (.if_icmp .ne 6, 3) := by decide +kernel
theorem dX4_instead_259 : decode cX4_instead 259 = .ok (.bipush (-4), 2) := by decide +kernel
theorem dX4_instead_261 : decode cX4_instead 261 = .ok (.ireturn, 1) := by decide +kernel
theorem dX4_instead_262 : decode cX4_instead 262 = .ok (.aload_n 0, 1) := by decide +kernel
theorem dX4_instead_263 : decode cX4_instead 263 = .ok (.getfield 59, 3) := by decide +kernel
theorem dX4_instead_266 : decode cX4_instead 266 = .ok (.iload 5, 2) := by decide +kernel
theorem dX4_instead_268 : decode cX4_instead 268 = .ok (.iload 6, 2) := by decide +kernel
theorem dX4_instead_270 : decode cX4_instead 270 = .ok (.iastore, 1) := by decide +kernel
theorem dX4_instead_271 : decode cX4_instead 271 = .ok (.iinc 4 (-1), 3) := by decide +kernel
theorem dX4_instead_274 : decode cX4_instead 274 = .ok (.goto (-164), 3) := by decide +kernel
theorem dX4_instead_277 : decode cX4_instead 277 = .ok (.aload_n 0, 1) := by decide +kernel
theorem dX4_instead_278 : decode cX4_instead 278 = .ok (.getfield 59, 3) := by decide +kernel
theorem dX4_instead_281 : decode cX4_instead 281 = .ok (.iload_n 1, 1) := by decide +kernel
theorem dX4_instead_282 : decode cX4_instead 282 = .ok (.iaload, 1) := by decide +kernel
theorem dX4_instead_283 : decode cX4_instead 283 = .ok (.ireturn, 1) := by decide +kernel
theorem dX4_formulas_0 : decode cX4_formulas 0 = .ok (.aload_n 0, 1) := by decide +kernel
theorem dX4_formulas_1 : decode cX4_formulas 1 = .ok (.getfield 65, 3) := by decide +kernel
theorem dX4_formulas_4 : decode cX4_formulas 4 = .ok (.ireturn, 1) := by decide +kernel
set_option maxRecDepth 20000 in
theorem ggX4_lay_X4_isLine : GoodIn wsX4_lay wsX4_isLine := goodIn_r _ [10, 11, 12, 9, 13] (by decide +kernel) (by decide +kernel)
set_option maxRecDepth 20000 in
theorem gX4_lay_X4_isLine : GoodIn wsX4_lay (va_wsS RX4 85 yX4_isLine wsX4_isLine) := goodIn_app (goodIn_of _ (by decide +kernel)) ggX4_lay_X4_isLine
theorem dX4_lay_0 : decode cX4_lay 0 = .ok (.iload_n 1, 1) := by decide +kernel
theorem dX4_lay_1 : decode cX4_lay 1 = .ok (.invokestatic 85, 3) := by decide +kernel
theorem dX4_lay_4 : decode cX4_lay 4 = .ok (.ifCond .ne 6, 3) := by decide +kernel
theorem dX4_lay_7 : decode cX4_lay 7 = .ok (.bipush (-3), 2) := by decide +kernel
theorem dX4_lay_9 : decode cX4_lay 9 = .ok (.ireturn, 1) := by decide +kernel
theorem dX4_lay_10 : decode cX4_lay 10 = .ok (.aload_n 0, 1) := by decide +kernel
theorem dX4_lay_11 : decode cX4_lay 11 = .ok (.getfield 22, 3) := by decide +kernel
theorem dX4_lay_14 : decode cX4_lay 14 = .ok (.iload_n 1, 1) := by decide +kernel
theorem dX4_lay_15 : decode cX4_lay 15 = .ok (.baload, 1) := by decide +kernel
theorem dX4_lay_16 : decode cX4_lay 16 = .ok (.ifCond .eq 7, 3) := by decide +kernel
theorem dX4_lay_19 : decode cX4_lay 19 = .ok (.iconst 0, 1) := by decide +kernel
theorem dX4_lay_20 : decode cX4_lay 20 = .ok (.goto 4, 3) := by decide +kernel
theorem dX4_lay_23 : decode cX4_lay 23 = .ok (.iconst 1, 1) := by decide +kernel
theorem dX4_lay_24 : decode cX4_lay 24 = .ok (.istore 7, 2) := by decide +kernel
theorem dX4_lay_26 : decode cX4_lay 26 = .ok (.aload_n 0, 1) := by decide +kernel
theorem dX4_lay_27 : decode cX4_lay 27 = .ok (.getfield 22, 3) := by decide +kernel
theorem dX4_lay_30 : decode cX4_lay 30 = .ok (.iload_n 1, 1) := by decide +kernel
theorem dX4_lay_31 : decode cX4_lay 31 = .ok (.iconst 1, 1) := by decide +kernel
theorem dX4_lay_32 : decode cX4_lay 32 = .ok (.bastore, 1) := by decide +kernel
theorem dX4_lay_33 : decode cX4_lay 33 = .ok (.aload_n 0, 1) := by decide +kernel
theorem dX4_lay_34 : decode cX4_lay 34 = .ok (.getfield 26, 3) := by decide +kernel
theorem dX4_lay_37 : decode cX4_lay 37 = .ok (.iload_n 1, 1) := by decide +kernel
theorem dX4_lay_38 : decode cX4_lay 38 = .ok (.iload_n 2, 1) := by decide +kernel
theorem dX4_lay_39 : decode cX4_lay 39 = .ok (.iastore, 1) := by decide +kernel
theorem dX4_lay_40 : decode cX4_lay 40 = .ok (.aload_n 0, 1) := by decide +kernel
theorem dX4_lay_41 : decode cX4_lay 41 = .ok (.getfield 29, 3) := by decide +kernel
theorem dX4_lay_44 : decode cX4_lay 44 = .ok (.iload_n 1, 1) := by decide +kernel
theorem dX4_lay_45 : decode cX4_lay 45 = .ok (.iload_n 3, 1) := by decide +kernel
theorem dX4_lay_46 : decode cX4_lay 46 = .ok (.iastore, 1) := by decide +kernel
theorem dX4_lay_47 : decode cX4_lay 47 = .ok (.aload_n 0, 1) := by decide +kernel
theorem dX4_lay_48 : decode cX4_lay 48 = .ok (.getfield 32, 3) := by decide +kernel
theorem dX4_lay_51 : decode cX4_lay 51 = .ok (.iload_n 1, 1) := by decide +kernel
theorem dX4_lay_52 : decode cX4_lay 52 = .ok (.iload 4, 2) := by decide +kernel
theorem dX4_lay_54 : decode cX4_lay 54 = .ok (.iastore, 1) := by decide +kernel
theorem dX4_lay_55 : decode cX4_lay 55 = .ok (.aload_n 0, 1) := by decide +kernel
theorem dX4_lay_56 : decode cX4_lay 56 = .ok (.getfield 35, 3) := by decide +kernel
theorem dX4_lay_59 : decode cX4_lay 59 = .ok (.iload_n 1, 1) := by decide +kernel
theorem dX4_lay_60 : decode cX4_lay 60 = .ok (.iload 5, 2) := by decide +kernel
theorem dX4_lay_62 : decode cX4_lay 62 = .ok (.iastore, 1) := by decide +kernel
theorem dX4_lay_63 : decode cX4_lay 63 = .ok (.aload_n 0, 1) := by decide +kernel
theorem dX4_lay_64 : decode cX4_lay 64 = .ok (.getfield 38, 3) := by decide +kernel
theorem dX4_lay_67 : decode cX4_lay 67 = .ok (.iload_n 1, 1) := by decide +kernel
theorem dX4_lay_68 : decode cX4_lay 68 = .ok (.iload 6, 2) := by decide +kernel
theorem dX4_lay_70 : decode cX4_lay 70 = .ok (.iastore, 1) := by decide +kernel
theorem dX4_lay_71 : decode cX4_lay 71 = .ok (.iload 7, 2) := by decide +kernel
theorem dX4_lay_73 : decode cX4_lay 73 = .ok (.ireturn, 1) := by decide +kernel
set_option maxRecDepth 20000 in
theorem ggX4_take_X4_isLine : GoodIn wsX4_take wsX4_isLine := goodIn_r _ [5, 6, 7, 4, 8] (by decide +kernel) (by decide +kernel)
set_option maxRecDepth 20000 in
theorem gX4_take_X4_isLine : GoodIn wsX4_take (va_wsS RX4 85 yX4_isLine wsX4_isLine) := goodIn_app (goodIn_of _ (by decide +kernel)) ggX4_take_X4_isLine
theorem dX4_take_0 : decode cX4_take 0 = .ok (.iload_n 1, 1) := by decide +kernel
theorem dX4_take_1 : decode cX4_take 1 = .ok (.invokestatic 85, 3) := by decide +kernel
theorem dX4_take_4 : decode cX4_take 4 = .ok (.ifCond .ne 6, 3) := by decide +kernel
theorem dX4_take_7 : decode cX4_take 7 = .ok (.bipush (-3), 2) := by decide +kernel
theorem dX4_take_9 : decode cX4_take 9 = .ok (.ireturn, 1) := by decide +kernel
theorem dX4_take_10 : decode cX4_take 10 = .ok (.aload_n 0, 1) := by decide +kernel
theorem dX4_take_11 : decode cX4_take 11 = .ok (.getfield 22, 3) := by decide +kernel
theorem dX4_take_14 : decode cX4_take 14 = .ok (.iload_n 1, 1) := by decide +kernel
theorem dX4_take_15 : decode cX4_take 15 = .ok (.baload, 1) := by decide +kernel
theorem dX4_take_16 : decode cX4_take 16 = .ok (.ifCond .eq 7, 3) := by decide +kernel
theorem dX4_take_19 : decode cX4_take 19 = .ok (.iconst 1, 1) := by decide +kernel
theorem dX4_take_20 : decode cX4_take 20 = .ok (.goto 4, 3) := by decide +kernel
theorem dX4_take_23 : decode cX4_take 23 = .ok (.iconst 0, 1) := by decide +kernel
theorem dX4_take_24 : decode cX4_take 24 = .ok (.istore_n 2, 1) := by decide +kernel
theorem dX4_take_25 : decode cX4_take 25 = .ok (.aload_n 0, 1) := by decide +kernel
theorem dX4_take_26 : decode cX4_take 26 = .ok (.getfield 22, 3) := by decide +kernel
theorem dX4_take_29 : decode cX4_take 29 = .ok (.iload_n 1, 1) := by decide +kernel
theorem dX4_take_30 : decode cX4_take 30 = .ok (.iconst 0, 1) := by decide +kernel
theorem dX4_take_31 : decode cX4_take 31 = .ok (.bastore, 1) := by decide +kernel
theorem dX4_take_32 : decode cX4_take 32 = .ok (.iload_n 2, 1) := by decide +kernel
theorem dX4_take_33 : decode cX4_take 33 = .ok (.ireturn, 1) := by decide +kernel
theorem dX4_allOpen_0 : decode cX4_allOpen 0 = .ok (.iload_n 1, 1) := by decide +kernel
theorem dX4_allOpen_1 : decode cX4_allOpen 1 = .ok (.istore_n 2, 1) := by decide +kernel
theorem dX4_allOpen_2 : decode cX4_allOpen 2 = .ok (.iload_n 2, 1) := by decide +kernel
theorem dX4_allOpen_3 : decode cX4_allOpen 3 = .ok (.iconst (-1), 1) := by decide +kernel
theorem dX4_allOpen_4 : decode cX4_allOpen 4 = .ok (.if_icmp .eq 23, 3) := by decide +kernel
theorem dX4_allOpen_7 : decode cX4_allOpen 7 = .ok (.aload_n 0, 1) := by decide +kernel
theorem dX4_allOpen_8 : decode cX4_allOpen 8 = .ok (.getfield 50, 3) := by decide +kernel
theorem dX4_allOpen_11 : decode cX4_allOpen 11 = .ok (.iload_n 2, 1) := by decide +kernel
theorem dX4_allOpen_12 : decode cX4_allOpen 12 = .ok (.iaload, 1) := by decide +kernel
theorem dX4_allOpen_13 : decode cX4_allOpen 13 = .ok (.iconst (-1), 1) := by decide +kernel
theorem dX4_allOpen_14 : decode cX4_allOpen 14 = .ok (.if_icmp .ne 13, 3) := by decide +kernel
theorem dX4_allOpen_17 : decode cX4_allOpen 17 = .ok (.aload_n 0, 1) := by decide +kernel
theorem dX4_allOpen_18 : decode cX4_allOpen 18 = .ok (.getfield 53, 3) := by decide +kernel
theorem dX4_allOpen_21 : decode cX4_allOpen 21 = .ok (.iload_n 2, 1) := by decide +kernel
theorem dX4_allOpen_22 : decode cX4_allOpen 22 = .ok (.iaload, 1) := by decide +kernel
theorem dX4_allOpen_23 : decode cX4_allOpen 23 = .ok (.istore_n 2, 1) := by decide +kernel
theorem dX4_allOpen_24 : decode cX4_allOpen 24 = .ok (.goto (-22), 3) := by decide +kernel
theorem dX4_allOpen_27 : decode cX4_allOpen 27 = .ok (.iload_n 2, 1) := by decide +kernel
theorem dX4_allOpen_28 : decode cX4_allOpen 28 = .ok (.iconst (-1), 1) := by decide +kernel
theorem dX4_allOpen_29 : decode cX4_allOpen 29 = .ok (.if_icmp .ne 7, 3) := by decide +kernel
theorem dX4_allOpen_32 : decode cX4_allOpen 32 = .ok (.iconst 1, 1) := by decide +kernel
theorem dX4_allOpen_33 : decode cX4_allOpen 33 = .ok (.goto 4, 3) := by decide +kernel
theorem dX4_allOpen_36 : decode cX4_allOpen 36 = .ok (.iconst 0, 1) := by decide +kernel
theorem dX4_allOpen_37 : decode cX4_allOpen 37 = .ok (.ireturn, 1) := by decide +kernel
set_option maxRecDepth 20000 in
theorem ggX4_inForce_X4_allOpen : GoodIn wsX4_inForce wsX4_allOpen := goodIn_r _ [7, 8, 9, 10, 11, 12, 13, 14, 15, 16, 17, 18, 19, 20, 21, 22, 23, 24, 25, 26, 27, 28, 29, 30, 31, 32, 33, 34] (by decide +kernel) (by decide +kernel)
set_option maxRecDepth 20000 in
theorem gX4_inForce_X4_allOpen : GoodIn wsX4_inForce (wsV RX4 88 RX4 yX4_allOpen wsX4_allOpen) := goodIn_app (goodIn_of _ (by decide +kernel)) ggX4_inForce_X4_allOpen
theorem dX4_inForce_0 : decode cX4_inForce 0 = .ok (.aload_n 0, 1) := by decide +kernel
theorem dX4_inForce_1 : decode cX4_inForce 1 = .ok (.getfield 44, 3) := by decide +kernel
theorem dX4_inForce_4 : decode cX4_inForce 4 = .ok (.iload_n 1, 1) := by decide +kernel
theorem dX4_inForce_5 : decode cX4_inForce 5 = .ok (.iaload, 1) := by decide +kernel
theorem dX4_inForce_6 : decode cX4_inForce 6 = .ok (.iconst (-1), 1) := by decide +kernel
theorem dX4_inForce_7 : decode cX4_inForce 7 = .ok (.if_icmp .eq 20, 3) := by decide +kernel
theorem dX4_inForce_10 : decode cX4_inForce 10 = .ok (.aload_n 0, 1) := by decide +kernel
theorem dX4_inForce_11 : decode cX4_inForce 11 = .ok (.aload_n 0, 1) := by decide +kernel
theorem dX4_inForce_12 : decode cX4_inForce 12 = .ok (.getfield 47, 3) := by decide +kernel
theorem dX4_inForce_15 : decode cX4_inForce 15 = .ok (.iload_n 1, 1) := by decide +kernel
theorem dX4_inForce_16 : decode cX4_inForce 16 = .ok (.iaload, 1) := by decide +kernel
theorem dX4_inForce_17 : decode cX4_inForce 17 = .ok (.invokevirtual 88, 3) := by decide +kernel
theorem dX4_inForce_20 : decode cX4_inForce 20 = .ok (.ifCond .eq 7, 3) := by decide +kernel
theorem dX4_inForce_23 : decode cX4_inForce 23 = .ok (.iconst 1, 1) := by decide +kernel
theorem dX4_inForce_24 : decode cX4_inForce 24 = .ok (.goto 4, 3) := by decide +kernel
theorem dX4_inForce_27 : decode cX4_inForce 27 = .ok (.iconst 0, 1) := by decide +kernel
theorem dX4_inForce_28 : decode cX4_inForce 28 = .ok (.ireturn, 1) := by decide +kernel
set_option maxRecDepth 20000 in
theorem ggX4_badLine_X4_isLine : GoodIn wsX4_badLine wsX4_isLine := goodIn_r _ [4, 5, 6, 3, 7] (by decide +kernel) (by decide +kernel)
set_option maxRecDepth 20000 in
theorem gX4_badLine_X4_isLine : GoodIn wsX4_badLine (va_wsS RX4 85 yX4_isLine wsX4_isLine) := goodIn_app (goodIn_of _ (by decide +kernel)) ggX4_badLine_X4_isLine
set_option maxRecDepth 20000 in
theorem ggX4_badLine_X4_inForce : GoodIn wsX4_badLine wsX4_inForce := goodIn_r _ [11, 12, 13, 14, 15, 16, 3, 17, 18, 19, 20, 21, 22, 23, 24, 25, 26, 27, 28, 29, 30, 31, 32, 33, 34, 35, 36, 37, 38, 39, 40, 41, 42, 43, 44] (by decide +kernel) (by decide +kernel)
set_option maxRecDepth 20000 in
theorem gX4_badLine_X4_inForce : GoodIn wsX4_badLine (wsV RX4 91 RX4 yX4_inForce wsX4_inForce) := goodIn_app (goodIn_of _ (by decide +kernel)) ggX4_badLine_X4_inForce
theorem dX4_badLine_0 : decode cX4_badLine 0 = .ok (.iload_n 2, 1) := by decide +kernel
theorem dX4_badLine_1 : decode cX4_badLine 1 = .ok (.invokestatic 85, 3) := by decide +kernel
theorem dX4_badLine_4 : decode cX4_badLine 4 = .ok (.ifCond .ne 7, 3) := by decide +kernel
theorem dX4_badLine_7 : decode cX4_badLine 7 = .ok (.iconst 1, 1) := by decide +kernel
theorem dX4_badLine_8 : decode cX4_badLine 8 = .ok (.goto 29, 3) := by decide +kernel
theorem dX4_badLine_11 : decode cX4_badLine 11 = .ok (.iload_n 2, 1) := by decide +kernel
theorem dX4_badLine_12 : decode cX4_badLine 12 = .ok (.iload_n 1, 1) := by decide +kernel
theorem dX4_badLine_13 : decode cX4_badLine 13 = .ok (.if_icmp .lt 7, 3) := by decide +kernel
theorem dX4_badLine_16 : decode cX4_badLine 16 = .ok (.iconst 2, 1) := by decide +kernel
theorem dX4_badLine_17 : decode cX4_badLine 17 = .ok (.goto 20, 3) := by decide +kernel
theorem dX4_badLine_20 : decode cX4_badLine 20 = .ok (.iload_n 3, 1) := by decide +kernel
theorem dX4_badLine_21 : decode cX4_badLine 21 = .ok (.ifCond .eq 15, 3) := by decide +kernel
theorem dX4_badLine_24 : decode cX4_badLine 24 = .ok (.aload_n 0, 1) := by decide +kernel
theorem dX4_badLine_25 : decode cX4_badLine 25 = .ok (.iload_n 2, 1) := by decide +kernel
theorem dX4_badLine_26 : decode cX4_badLine 26 = .ok (.invokevirtual 91, 3) := by decide +kernel
theorem dX4_badLine_29 : decode cX4_badLine 29 = .ok (.ifCond .ne 7, 3) := by decide +kernel
theorem dX4_badLine_32 : decode cX4_badLine 32 = .ok (.iconst 3, 1) := by decide +kernel
theorem dX4_badLine_33 : decode cX4_badLine 33 = .ok (.goto 4, 3) := by decide +kernel
theorem dX4_badLine_36 : decode cX4_badLine 36 = .ok (.iconst 0, 1) := by decide +kernel
theorem dX4_badLine_37 : decode cX4_badLine 37 = .ok (.ireturn, 1) := by decide +kernel
set_option maxRecDepth 20000 in
theorem ggX4_badBox_X4_allOpen : GoodIn wsX4_badBox wsX4_allOpen := goodIn_r _ [9, 2, 3, 10, 11, 12, 13, 14, 15, 16, 17, 18, 19, 20, 21, 22, 23, 24, 25, 26, 27, 28, 29, 30, 31, 32, 33, 34] (by decide +kernel) (by decide +kernel)
set_option maxRecDepth 20000 in
theorem gX4_badBox_X4_allOpen : GoodIn wsX4_badBox (wsV RX4 88 RX4 yX4_allOpen wsX4_allOpen) := goodIn_app (goodIn_of _ (by decide +kernel)) ggX4_badBox_X4_allOpen
theorem dX4_badBox_0 : decode cX4_badBox 0 = .ok (.aload_n 0, 1) := by decide +kernel
theorem dX4_badBox_1 : decode cX4_badBox 1 = .ok (.getfield 41, 3) := by decide +kernel
theorem dX4_badBox_4 : decode cX4_badBox 4 = .ok (.iload_n 1, 1) := by decide +kernel
theorem dX4_badBox_5 : decode cX4_badBox 5 = .ok (.iaload, 1) := by decide +kernel
theorem dX4_badBox_6 : decode cX4_badBox 6 = .ok (.iconst 1, 1) := by decide +kernel
theorem dX4_badBox_7 : decode cX4_badBox 7 = .ok (.if_icmp .ne 47, 3) := by decide +kernel
theorem dX4_badBox_10 : decode cX4_badBox 10 = .ok (.aload_n 0, 1) := by decide +kernel
theorem dX4_badBox_11 : decode cX4_badBox 11 = .ok (.getfield 50, 3) := by decide +kernel
theorem dX4_badBox_14 : decode cX4_badBox 14 = .ok (.iload_n 1, 1) := by decide +kernel
theorem dX4_badBox_15 : decode cX4_badBox 15 = .ok (.iaload, 1) := by decide +kernel
theorem dX4_badBox_16 : decode cX4_badBox 16 = .ok (.iconst (-1), 1) := by decide +kernel
theorem dX4_badBox_17 : decode cX4_badBox 17 = .ok (.if_icmp .eq 37, 3) := by decide +kernel
theorem dX4_badBox_20 : decode cX4_badBox 20 = .ok (.aload_n 0, 1) := by decide +kernel
theorem dX4_badBox_21 : decode cX4_badBox 21 = .ok (.aload_n 0, 1) := by decide +kernel
theorem dX4_badBox_22 : decode cX4_badBox 22 = .ok (.getfield 53, 3) := by decide +kernel
theorem dX4_badBox_25 : decode cX4_badBox 25 = .ok (.iload_n 1, 1) := by decide +kernel
theorem dX4_badBox_26 : decode cX4_badBox 26 = .ok (.iaload, 1) := by decide +kernel
theorem dX4_badBox_27 : decode cX4_badBox 27 = .ok (.invokevirtual 88, 3) := by decide +kernel
theorem dX4_badBox_30 : decode cX4_badBox 30 = .ok (.ifCond .eq 24, 3) := by decide +kernel
theorem dX4_badBox_33 : decode cX4_badBox 33 = .ok (.aload_n 0, 1) := by decide +kernel
theorem dX4_badBox_34 : decode cX4_badBox 34 = .ok (.getfield 44, 3) := by decide +kernel
theorem dX4_badBox_37 : decode cX4_badBox 37 = .ok (.aload_n 0, 1) := by decide +kernel
theorem dX4_badBox_38 : decode cX4_badBox 38 = .ok (.getfield 50, 3) := by decide +kernel
theorem dX4_badBox_41 : decode cX4_badBox 41 = .ok (.iload_n 1, 1) := by decide +kernel
theorem dX4_badBox_42 : decode cX4_badBox 42 = .ok (.iaload, 1) := by decide +kernel
theorem dX4_badBox_43 : decode cX4_badBox 43 = .ok (.iconst 1, 1) := by decide +kernel
theorem dX4_badBox_44 : decode cX4_badBox 44 = .ok (.isub, 1) := by decide +kernel
theorem dX4_badBox_45 : decode cX4_badBox 45 = .ok (.iaload, 1) := by decide +kernel
theorem dX4_badBox_46 : decode cX4_badBox 46 = .ok (.iconst (-1), 1) := by decide +kernel
theorem dX4_badBox_47 : decode cX4_badBox 47 = .ok (.if_icmp .eq 7, 3) := by decide +kernel
theorem dX4_badBox_50 : decode cX4_badBox 50 = .ok (.iconst 1, 1) := by decide +kernel
theorem dX4_badBox_51 : decode cX4_badBox 51 = .ok (.goto 4, 3) := by decide +kernel
theorem dX4_badBox_54 : decode cX4_badBox 54 = .ok (.iconst 0, 1) := by decide +kernel
theorem dX4_badBox_55 : decode cX4_badBox 55 = .ok (.istore_n 2, 1) := by decide +kernel
theorem dX4_badBox_56 : decode cX4_badBox 56 = .ok (.iload_n 2, 1) := by decide +kernel
theorem dX4_badBox_57 : decode cX4_badBox 57 = .ok (.ifCond .eq 7, 3) := by decide +kernel
theorem dX4_badBox_60 : decode cX4_badBox 60 = .ok (.iconst 0, 1) := by decide +kernel
theorem dX4_badBox_61 : decode cX4_badBox 61 = .ok (.goto 4, 3) := by decide +kernel
theorem dX4_badBox_64 : decode cX4_badBox 64 = .ok (.iconst 5, 1) := by decide +kernel
theorem dX4_badBox_65 : decode cX4_badBox 65 = .ok (.ireturn, 1) := by decide +kernel
theorem dX4_endOf_0 : decode cX4_endOf 0 = .ok (.aload_n 0, 1) := by decide +kernel
theorem dX4_endOf_1 : decode cX4_endOf 1 = .ok (.getfield 44, 3) := by decide +kernel
theorem dX4_endOf_4 : decode cX4_endOf 4 = .ok (.aload_n 0, 1) := by decide +kernel
theorem dX4_endOf_5 : decode cX4_endOf 5 = .ok (.getfield 50, 3) := by decide +kernel
theorem dX4_endOf_8 : decode cX4_endOf 8 = .ok (.iload_n 1, 1) := by decide +kernel
theorem dX4_endOf_9 : decode cX4_endOf 9 = .ok (.iaload, 1) := by decide +kernel
theorem dX4_endOf_10 : decode cX4_endOf 10 = .ok (.iconst 1, 1) := by decide +kernel
theorem dX4_endOf_11 : decode cX4_endOf 11 = .ok (.isub, 1) := by decide +kernel
theorem dX4_endOf_12 : decode cX4_endOf 12 = .ok (.iaload, 1) := by decide +kernel
theorem dX4_endOf_13 : decode cX4_endOf 13 = .ok (.ireturn, 1) := by decide +kernel
theorem dX4_isKind_0 : decode cX4_isKind 0 = .ok (.aload_n 0, 1) := by decide +kernel
theorem dX4_isKind_1 : decode cX4_isKind 1 = .ok (.getfield 7, 3) := by decide +kernel
theorem dX4_isKind_4 : decode cX4_isKind 4 = .ok (.iload_n 1, 1) := by decide +kernel
theorem dX4_isKind_5 : decode cX4_isKind 5 = .ok (.iaload, 1) := by decide +kernel
theorem dX4_isKind_6 : decode cX4_isKind 6 = .ok (.iload_n 2, 1) := by decide +kernel
theorem dX4_isKind_7 : decode cX4_isKind 7 = .ok (.if_icmp .ne 7, 3) := by decide +kernel
theorem dX4_isKind_10 : decode cX4_isKind 10 = .ok (.iconst 1, 1) := by decide +kernel
theorem dX4_isKind_11 : decode cX4_isKind 11 = .ok (.goto 4, 3) := by decide +kernel
theorem dX4_isKind_14 : decode cX4_isKind 14 = .ok (.iconst 0, 1) := by decide +kernel
theorem dX4_isKind_15 : decode cX4_isKind 15 = .ok (.ireturn, 1) := by decide +kernel
set_option maxRecDepth 20000 in
theorem ggX4_badNumbers_X4_badLine : GoodIn wsX4_badNumbers wsX4_badLine := goodIn_r _ [9, 10, 11, 8, 12, 13, 14, 15, 16, 17, 18, 19, 20, 21, 22, 23, 24, 25, 26, 27, 33, 34, 35, 36, 37, 38, 39, 40, 41, 42, 43, 44, 45, 46, 47, 48, 49, 50, 51, 52, 53, 54, 55, 56, 57] (by decide +kernel) (by decide +kernel)
set_option maxRecDepth 20000 in
theorem gX4_badNumbers_X4_badLine : GoodIn wsX4_badNumbers (wsV RX4 94 RX4 yX4_badLine wsX4_badLine) := goodIn_app (goodIn_of _ (by decide +kernel)) ggX4_badNumbers_X4_badLine
set_option maxRecDepth 20000 in
theorem ggX4_badNumbers_X4_isFormula : GoodIn wsX4_badNumbers wsX4_isFormula := goodIn_r _ [31, 32, 13, 14, 8, 15, 33, 34, 35, 36, 37, 38, 39, 40, 41, 42, 43, 44, 45, 46, 47, 48, 49, 50, 51, 52, 53, 54, 55, 56, 57] (by decide +kernel) (by decide +kernel)
set_option maxRecDepth 20000 in
theorem gX4_badNumbers_X4_isFormula : GoodIn wsX4_badNumbers (wsV RX4 73 RX4 yX4_isFormula wsX4_isFormula) := goodIn_app (goodIn_of _ (by decide +kernel)) ggX4_badNumbers_X4_isFormula
theorem dX4_badNumbers_0 : decode cX4_badNumbers 0 = .ok (.iconst 0, 1) := by decide +kernel
theorem dX4_badNumbers_1 : decode cX4_badNumbers 1 = .ok (.istore_n 3, 1) := by decide +kernel
theorem dX4_badNumbers_2 : decode cX4_badNumbers 2 = .ok (.iload_n 2, 1) := by decide +kernel
theorem dX4_badNumbers_3 : decode cX4_badNumbers 3 = .ok (.iconst 2, 1) := by decide +kernel
theorem dX4_badNumbers_4 : decode cX4_badNumbers 4 = .ok (.if_icmp .le 26, 3) := by decide +kernel
theorem dX4_badNumbers_7 : decode cX4_badNumbers 7 = .ok (.aload_n 0, 1) := by decide +kernel
theorem dX4_badNumbers_8 : decode cX4_badNumbers 8 = .ok (.iload_n 1, 1) := by decide +kernel
theorem dX4_badNumbers_9 : decode cX4_badNumbers 9 = .ok (.aload_n 0, 1) := by decide +kernel
theorem dX4_badNumbers_10 : decode cX4_badNumbers 10 = .ok (.getfield 29, 3) := by decide +kernel
theorem dX4_badNumbers_13 : decode cX4_badNumbers 13 = .ok (.iload_n 1, 1) := by decide +kernel
theorem dX4_badNumbers_14 : decode cX4_badNumbers 14 = .ok (.iaload, 1) := by decide +kernel
theorem dX4_badNumbers_15 : decode cX4_badNumbers 15 = .ok (.iload_n 2, 1) := by decide +kernel
theorem dX4_badNumbers_16 : decode cX4_badNumbers 16 = .ok (.bipush 10, 2) := by decide +kernel
theorem dX4_badNumbers_18 : decode cX4_badNumbers 18 = .ok (.if_icmp .eq 7, 3) := by decide +kernel
theorem dX4_badNumbers_21 : decode cX4_badNumbers 21 = .ok (.iconst 1, 1) := by decide +kernel
theorem dX4_badNumbers_22 : decode cX4_badNumbers 22 = .ok (.goto 4, 3) := by decide +kernel
theorem dX4_badNumbers_25 : decode cX4_badNumbers 25 = .ok (.iconst 0, 1) := by decide +kernel
theorem dX4_badNumbers_26 : decode cX4_badNumbers 26 = .ok (.invokevirtual 94, 3) := by decide +kernel
theorem dX4_badNumbers_29 : decode cX4_badNumbers 29 = .ok (.istore_n 3, 1) := by decide +kernel
theorem dX4_badNumbers_30 : decode cX4_badNumbers 30 = .ok (.iload_n 3, 1) := by decide +kernel
theorem dX4_badNumbers_31 : decode cX4_badNumbers 31 = .ok (.ifCond .ne 43, 3) := by decide +kernel
theorem dX4_badNumbers_34 : decode cX4_badNumbers 34 = .ok (.iload_n 2, 1) := by decide +kernel
theorem dX4_badNumbers_35 : decode cX4_badNumbers 35 = .ok (.iconst 4, 1) := by decide +kernel
theorem dX4_badNumbers_36 : decode cX4_badNumbers 36 = .ok (.if_icmp .eq 15, 3) := by decide +kernel
theorem dX4_badNumbers_39 : decode cX4_badNumbers 39 = .ok (.iload_n 2, 1) := by decide +kernel
theorem dX4_badNumbers_40 : decode cX4_badNumbers 40 = .ok (.bipush 9, 2) := by decide +kernel
theorem dX4_badNumbers_42 : decode cX4_badNumbers 42 = .ok (.if_icmp .eq 9, 3) := by decide +kernel
theorem dX4_badNumbers_45 : decode cX4_badNumbers 45 = .ok (.iload_n 2, 1) := by decide +kernel
theorem dX4_badNumbers_46 : decode cX4_badNumbers 46 = .ok (.bipush 11, 2) := by decide +kernel
theorem dX4_badNumbers_48 : decode cX4_badNumbers 48 = .ok (.if_icmp .ne 26, 3) := by decide +kernel
theorem dX4_badNumbers_51 : decode cX4_badNumbers 51 = .ok (.aload_n 0, 1) := by decide +kernel
theorem dX4_badNumbers_52 : decode cX4_badNumbers 52 = .ok (.iload_n 1, 1) := by decide +kernel
theorem dX4_badNumbers_53 : decode cX4_badNumbers 53 = .ok (.aload_n 0, 1) := by decide +kernel
theorem dX4_badNumbers_54 : decode cX4_badNumbers 54 = .ok (.getfield 32, 3) := by decide +kernel
theorem dX4_badNumbers_57 : decode cX4_badNumbers 57 = .ok (.iload_n 1, 1) := by decide +kernel
theorem dX4_badNumbers_58 : decode cX4_badNumbers 58 = .ok (.iaload, 1) := by decide +kernel
theorem dX4_badNumbers_59 : decode cX4_badNumbers 59 = .ok (.iload_n 2, 1) := by decide +kernel
theorem dX4_badNumbers_60 : decode cX4_badNumbers 60 = .ok (.bipush 9, 2) := by decide +kernel
theorem dX4_badNumbers_62 : decode cX4_badNumbers 62 = .ok (.if_icmp .eq 7, 3) := by decide +kernel
theorem dX4_badNumbers_65 : decode cX4_badNumbers 65 = .ok (.iconst 1, 1) := by decide +kernel
theorem dX4_badNumbers_66 : decode cX4_badNumbers 66 = .ok (.goto 4, 3) := by decide +kernel
theorem dX4_badNumbers_69 : decode cX4_badNumbers 69 = .ok (.iconst 0, 1) := by decide +kernel
theorem dX4_badNumbers_70 : decode cX4_badNumbers 70 = .ok (.invokevirtual 94, 3) := by decide +kernel
theorem dX4_badNumbers_73 : decode cX4_badNumbers 73 = .ok (.istore_n 3, 1) := by decide +kernel
theorem dX4_badNumbers_74 : decode cX4_badNumbers 74 = .ok (.iload_n 3, 1) := by decide +kernel
theorem dX4_badNumbers_75 : decode cX4_badNumbers 75 = .ok (.ifCond .ne 22, 3) := by decide +kernel
theorem dX4_badNumbers_78 : decode cX4_badNumbers 78 = .ok (.iload_n 2, 1) := by decide +kernel
theorem dX4_badNumbers_79 : decode cX4_badNumbers 79 = .ok (.bipush 9, 2) := by decide +kernel
theorem dX4_badNumbers_81 : decode cX4_badNumbers 81 = .ok (.if_icmp .ne 16, 3) := by decide +kernel
theorem dX4_badNumbers_84 : decode cX4_badNumbers 84 = .ok (.aload_n 0, 1) := by decide +kernel
theorem dX4_badNumbers_85 : decode cX4_badNumbers 85 = .ok (.iload_n 1, 1) := by decide +kernel
theorem dX4_badNumbers_86 : decode cX4_badNumbers 86 = .ok (.aload_n 0, 1) := by decide +kernel
theorem dX4_badNumbers_87 : decode cX4_badNumbers 87 = .ok (.getfield 35, 3) := by decide +kernel
theorem dX4_badNumbers_90 : decode cX4_badNumbers 90 = .ok (.iload_n 1, 1) := by decide +kernel
theorem dX4_badNumbers_91 : decode cX4_badNumbers 91 = .ok (.iaload, 1) := by decide +kernel
theorem dX4_badNumbers_92 : decode cX4_badNumbers 92 = .ok (.iconst 0, 1) := by decide +kernel
theorem dX4_badNumbers_93 : decode cX4_badNumbers 93 = .ok (.invokevirtual 94, 3) := by decide +kernel
theorem dX4_badNumbers_96 : decode cX4_badNumbers 96 = .ok (.istore_n 3, 1) := by decide +kernel
theorem dX4_badNumbers_97 : decode cX4_badNumbers 97 = .ok (.iload_n 2, 1) := by decide +kernel
theorem dX4_badNumbers_98 : decode cX4_badNumbers 98 = .ok (.iconst 2, 1) := by decide +kernel
theorem dX4_badNumbers_99 : decode cX4_badNumbers 99 = .ok (.if_icmp .lt 21, 3) := by decide +kernel
theorem dX4_badNumbers_102 : decode cX4_badNumbers 102 = .ok (.iload_n 2, 1) := by decide +kernel
theorem dX4_badNumbers_103 : decode cX4_badNumbers 103 = .ok (.bipush 7, 2) := by decide +kernel
theorem dX4_badNumbers_105 : decode cX4_badNumbers 105 = .ok (.if_icmp .eq 15, 3) := by decide +kernel
theorem dX4_badNumbers_108 : decode cX4_badNumbers 108 = .ok (.iload_n 2, 1) := by decide +kernel
theorem dX4_badNumbers_109 : decode cX4_badNumbers 109 = .ok (.bipush 8, 2) := by decide +kernel
theorem dX4_badNumbers_111 : decode cX4_badNumbers 111 = .ok (.if_icmp .eq 9, 3) := by decide +kernel
theorem dX4_badNumbers_114 : decode cX4_badNumbers 114 = .ok (.iload_n 2, 1) := by decide +kernel
theorem dX4_badNumbers_115 : decode cX4_badNumbers 115 = .ok (.bipush 12, 2) := by decide +kernel
theorem dX4_badNumbers_117 : decode cX4_badNumbers 117 = .ok (.if_icmp .ne 7, 3) := by decide +kernel
theorem dX4_badNumbers_120 : decode cX4_badNumbers 120 = .ok (.iconst 1, 1) := by decide +kernel
theorem dX4_badNumbers_121 : decode cX4_badNumbers 121 = .ok (.goto 4, 3) := by decide +kernel
theorem dX4_badNumbers_124 : decode cX4_badNumbers 124 = .ok (.iconst 0, 1) := by decide +kernel
theorem dX4_badNumbers_125 : decode cX4_badNumbers 125 = .ok (.istore 4, 2) := by decide +kernel
theorem dX4_badNumbers_127 : decode cX4_badNumbers 127 = .ok (.iload_n 3, 1) := by decide +kernel
theorem dX4_badNumbers_128 : decode cX4_badNumbers 128 = .ok (.ifCond .ne 25, 3) := by decide +kernel
theorem dX4_badNumbers_131 : decode cX4_badNumbers 131 = .ok (.iload 4, 2) := by decide +kernel
theorem dX4_badNumbers_133 : decode cX4_badNumbers 133 = .ok (.ifCond .eq 20, 3) := by decide +kernel
theorem dX4_badNumbers_136 : decode cX4_badNumbers 136 = .ok (.aload_n 0, 1) := by decide +kernel
theorem dX4_badNumbers_137 : decode cX4_badNumbers 137 = .ok (.aload_n 0, 1) := by decide +kernel
theorem dX4_badNumbers_138 : decode cX4_badNumbers 138 = .ok (.getfield 38, 3) := by decide +kernel
theorem dX4_badNumbers_141 : decode cX4_badNumbers 141 = .ok (.iload_n 1, 1) := by decide +kernel
theorem dX4_badNumbers_142 : decode cX4_badNumbers 142 = .ok (.iaload, 1) := by decide +kernel
theorem dX4_badNumbers_143 : decode cX4_badNumbers 143 = .ok (.invokevirtual 73, 3) := by decide +kernel
theorem dX4_badNumbers_146 : decode cX4_badNumbers 146 = .ok (.ifCond .ne 7, 3) := by decide +kernel
theorem dX4_badNumbers_149 : decode cX4_badNumbers 149 = .ok (.iconst 1, 1) := by decide +kernel
theorem dX4_badNumbers_150 : decode cX4_badNumbers 150 = .ok (.goto 4, 3) := by decide +kernel
theorem dX4_badNumbers_153 : decode cX4_badNumbers 153 = .ok (.iload_n 3, 1) := by decide +kernel
theorem dX4_badNumbers_154 : decode cX4_badNumbers 154 = .ok (.ireturn, 1) := by decide +kernel
set_option maxRecDepth 20000 in
theorem ggX4_badForm_X4_isKind : GoodIn wsX4_badForm wsX4_isKind := goodIn_r _ [7, 8, 9, 10, 11, 12, 13, 14, 15, 16, 17, 18, 19, 20, 21, 22, 23, 24, 25, 26, 27, 28, 29, 30, 31, 32, 33] (by decide +kernel) (by decide +kernel)
set_option maxRecDepth 20000 in
theorem gX4_badForm_X4_isKind : GoodIn wsX4_badForm (wsV RX4 98 RX4 yX4_isKind wsX4_isKind) := goodIn_app (goodIn_of _ (by decide +kernel)) ggX4_badForm_X4_isKind
theorem dX4_badForm_0 : decode cX4_badForm 0 = .ok (.iload_n 1, 1) := by decide +kernel
theorem dX4_badForm_1 : decode cX4_badForm 1 = .ok (.tableswitch 173 5 13 #[51, 51, 173, 173, 66, 173, 81, 96, 111], 51) := by decide +kernel
theorem dX4_badForm_52 : decode cX4_badForm 52 = .ok (.aload_n 0, 1) := by decide +kernel
theorem dX4_badForm_53 : decode cX4_badForm 53 = .ok (.iload_n 2, 1) := by decide +kernel
theorem dX4_badForm_54 : decode cX4_badForm 54 = .ok (.iconst 2, 1) := by decide +kernel
theorem dX4_badForm_55 : decode cX4_badForm 55 = .ok (.invokevirtual 98, 3) := by decide +kernel
theorem dX4_badForm_58 : decode cX4_badForm 58 = .ok (.ifCond .eq 7, 3) := by decide +kernel
theorem dX4_badForm_61 : decode cX4_badForm 61 = .ok (.iconst 0, 1) := by decide +kernel
theorem dX4_badForm_62 : decode cX4_badForm 62 = .ok (.goto 4, 3) := by decide +kernel
theorem dX4_badForm_65 : decode cX4_badForm 65 = .ok (.iconst 4, 1) := by decide +kernel
theorem dX4_badForm_66 : decode cX4_badForm 66 = .ok (.ireturn, 1) := by decide +kernel
theorem dX4_badForm_67 : decode cX4_badForm 67 = .ok (.aload_n 0, 1) := by decide +kernel
theorem dX4_badForm_68 : decode cX4_badForm 68 = .ok (.iload_n 2, 1) := by decide +kernel
theorem dX4_badForm_69 : decode cX4_badForm 69 = .ok (.iconst 3, 1) := by decide +kernel
theorem dX4_badForm_70 : decode cX4_badForm 70 = .ok (.invokevirtual 98, 3) := by decide +kernel
theorem dX4_badForm_73 : decode cX4_badForm 73 = .ok (.ifCond .eq 7, 3) := by decide +kernel
theorem dX4_badForm_76 : decode cX4_badForm 76 = .ok (.iconst 0, 1) := by decide +kernel
theorem dX4_badForm_77 : decode cX4_badForm 77 = .ok (.goto 4, 3) := by decide +kernel
theorem dX4_badForm_80 : decode cX4_badForm 80 = .ok (.iconst 4, 1) := by decide +kernel
theorem dX4_badForm_81 : decode cX4_badForm 81 = .ok (.ireturn, 1) := by decide +kernel
theorem dX4_badForm_82 : decode cX4_badForm 82 = .ok (.aload_n 0, 1) := by decide +kernel
theorem dX4_badForm_83 : decode cX4_badForm 83 = .ok (.iload_n 2, 1) := by decide +kernel
theorem dX4_badForm_84 : decode cX4_badForm 84 = .ok (.iconst 4, 1) := by decide +kernel
theorem dX4_badForm_85 : decode cX4_badForm 85 = .ok (.invokevirtual 98, 3) := by decide +kernel
theorem dX4_badForm_88 : decode cX4_badForm 88 = .ok (.ifCond .eq 7, 3) := by decide +kernel
theorem dX4_badForm_91 : decode cX4_badForm 91 = .ok (.iconst 0, 1) := by decide +kernel
theorem dX4_badForm_92 : decode cX4_badForm 92 = .ok (.goto 4, 3) := by decide +kernel
theorem dX4_badForm_95 : decode cX4_badForm 95 = .ok (.iconst 4, 1) := by decide +kernel
theorem dX4_badForm_96 : decode cX4_badForm 96 = .ok (.ireturn, 1) := by decide +kernel
theorem dX4_badForm_97 : decode cX4_badForm 97 = .ok (.aload_n 0, 1) := by decide +kernel
theorem dX4_badForm_98 : decode cX4_badForm 98 = .ok (.iload_n 2, 1) := by decide +kernel
theorem dX4_badForm_99 : decode cX4_badForm 99 = .ok (.iconst 0, 1) := by decide +kernel
theorem dX4_badForm_100 : decode cX4_badForm 100 = .ok (.invokevirtual 98, 3) := by decide +kernel
theorem dX4_badForm_103 : decode cX4_badForm 103 = .ok (.ifCond .eq 7, 3) := by decide +kernel
theorem dX4_badForm_106 : decode cX4_badForm 106 = .ok (.iconst 0, 1) := by decide +kernel
theorem dX4_badForm_107 : decode cX4_badForm 107 = .ok (.goto 4, 3) := by decide +kernel
theorem dX4_badForm_110 : decode cX4_badForm 110 = .ok (.iconst 4, 1) := by decide +kernel
theorem dX4_badForm_111 : decode cX4_badForm 111 = .ok (.ireturn, 1) := by decide +kernel
theorem dX4_badForm_112 : decode cX4_badForm 112 = .ok (.aload_n 0, 1) := by decide +kernel
theorem dX4_badForm_113 : decode cX4_badForm 113 = .ok (.iload_n 2, 1) := by decide +kernel
theorem dX4_badForm_114 : decode cX4_badForm 114 = .ok (.iconst 4, 1) := by decide +kernel
theorem dX4_badForm_115 : decode cX4_badForm 115 = .ok (.invokevirtual 98, 3) := by decide +kernel
theorem dX4_badForm_118 : decode cX4_badForm 118 = .ok (.ifCond .eq 54, 3) := by decide +kernel
theorem dX4_badForm_121 : decode cX4_badForm 121 = .ok (.aload_n 0, 1) := by decide +kernel
theorem dX4_badForm_122 : decode cX4_badForm 122 = .ok (.aload_n 0, 1) := by decide +kernel
theorem dX4_badForm_123 : decode cX4_badForm 123 = .ok (.getfield 16, 3) := by decide +kernel
theorem dX4_badForm_126 : decode cX4_badForm 126 = .ok (.iload_n 2, 1) := by decide +kernel
theorem dX4_badForm_127 : decode cX4_badForm 127 = .ok (.iaload, 1) := by decide +kernel
theorem dX4_badForm_128 : decode cX4_badForm 128 = .ok (.iconst 0, 1) := by decide +kernel
theorem dX4_badForm_129 : decode cX4_badForm 129 = .ok (.invokevirtual 98, 3) := by decide +kernel
theorem dX4_badForm_132 : decode cX4_badForm 132 = .ok (.ifCond .eq 40, 3) := by decide +kernel
theorem dX4_badForm_135 : decode cX4_badForm 135 = .ok (.aload_n 0, 1) := by decide +kernel
theorem dX4_badForm_136 : decode cX4_badForm 136 = .ok (.aload_n 0, 1) := by decide +kernel
theorem dX4_badForm_137 : decode cX4_badForm 137 = .ok (.getfield 13, 3) := by decide +kernel
theorem dX4_badForm_140 : decode cX4_badForm 140 = .ok (.iload_n 2, 1) := by decide +kernel
theorem dX4_badForm_141 : decode cX4_badForm 141 = .ok (.iaload, 1) := by decide +kernel
theorem dX4_badForm_142 : decode cX4_badForm 142 = .ok (.iconst 4, 1) := by decide +kernel
theorem dX4_badForm_143 : decode cX4_badForm 143 = .ok (.invokevirtual 98, 3) := by decide +kernel
theorem dX4_badForm_146 : decode cX4_badForm 146 = .ok (.ifCond .eq 26, 3) := by decide +kernel
theorem dX4_badForm_149 : decode cX4_badForm 149 = .ok (.aload_n 0, 1) := by decide +kernel
theorem dX4_badForm_150 : decode cX4_badForm 150 = .ok (.aload_n 0, 1) := by decide +kernel
theorem dX4_badForm_151 : decode cX4_badForm 151 = .ok (.getfield 16, 3) := by decide +kernel
theorem dX4_badForm_154 : decode cX4_badForm 154 = .ok (.aload_n 0, 1) := by decide +kernel
theorem dX4_badForm_155 : decode cX4_badForm 155 = .ok (.getfield 13, 3) := by decide +kernel
theorem dX4_badForm_158 : decode cX4_badForm 158 = .ok (.iload_n 2, 1) := by decide +kernel
theorem dX4_badForm_159 : decode cX4_badForm 159 = .ok (.iaload, 1) := by decide +kernel
theorem dX4_badForm_160 : decode cX4_badForm 160 = .ok (.iaload, 1) := by decide +kernel
theorem dX4_badForm_161 : decode cX4_badForm 161 = .ok (.iconst 0, 1) := by decide +kernel
theorem dX4_badForm_162 : decode cX4_badForm 162 = .ok (.invokevirtual 98, 3) := by decide +kernel
theorem dX4_badForm_165 : decode cX4_badForm 165 = .ok (.ifCond .eq 7, 3) := by decide +kernel
theorem dX4_badForm_168 : decode cX4_badForm 168 = .ok (.iconst 0, 1) := by decide +kernel
theorem dX4_badForm_169 : decode cX4_badForm 169 = .ok (.goto 4, 3) := by decide +kernel
theorem dX4_badForm_172 : decode cX4_badForm 172 = .ok (.iconst 4, 1) := by decide +kernel
theorem dX4_badForm_173 : decode cX4_badForm 173 = .ok (.ireturn, 1) := by decide +kernel
theorem dX4_badForm_174 : decode cX4_badForm 174 = .ok (.iconst 0, 1) := by decide +kernel
theorem dX4_badForm_175 : decode cX4_badForm 175 = .ok (.ireturn, 1) := by decide +kernel
set_option maxRecDepth 20000 in
theorem ggX4_badBoxes_X4_badBox : GoodIn wsX4_badBoxes wsX4_badBox := goodIn_r _ [12, 13, 14, 15, 3, 16, 17, 18, 11, 19, 24, 25, 26, 27, 28, 29, 30, 31, 32, 33, 34, 35, 36, 37, 38, 39, 40, 41, 42, 43, 44, 45, 46, 47, 48] (by decide +kernel) (by decide +kernel)
set_option maxRecDepth 20000 in
theorem gX4_badBoxes_X4_badBox : GoodIn wsX4_badBoxes (wsV RX4 105 RX4 yX4_badBox wsX4_badBox) := goodIn_app (goodIn_of _ (by decide +kernel)) ggX4_badBoxes_X4_badBox
set_option maxRecDepth 20000 in
theorem ggX4_badBoxes_X4_endOf : GoodIn wsX4_badBoxes wsX4_endOf := goodIn_r _ [23, 3, 14, 24, 25, 26, 27, 28, 29, 30, 31, 32, 33, 34, 35, 36, 37, 38, 39, 40, 41, 42, 43, 44, 45, 46, 47, 48] (by decide +kernel) (by decide +kernel)
set_option maxRecDepth 20000 in
theorem gX4_badBoxes_X4_endOf : GoodIn wsX4_badBoxes (wsV RX4 109 RX4 yX4_endOf wsX4_endOf) := goodIn_app (goodIn_of _ (by decide +kernel)) ggX4_badBoxes_X4_endOf
theorem dX4_badBoxes_0 : decode cX4_badBoxes 0 = .ok (.iload_n 2, 1) := by decide +kernel
theorem dX4_badBoxes_1 : decode cX4_badBoxes 1 = .ok (.iconst 2, 1) := by decide +kernel
theorem dX4_badBoxes_2 : decode cX4_badBoxes 2 = .ok (.if_icmp .ne 17, 3) := by decide +kernel
theorem dX4_badBoxes_5 : decode cX4_badBoxes 5 = .ok (.aload_n 0, 1) := by decide +kernel
theorem dX4_badBoxes_6 : decode cX4_badBoxes 6 = .ok (.getfield 102, 3) := by decide +kernel
theorem dX4_badBoxes_9 : decode cX4_badBoxes 9 = .ok (.iconst (-1), 1) := by decide +kernel
theorem dX4_badBoxes_10 : decode cX4_badBoxes 10 = .ok (.if_icmp .ne 7, 3) := by decide +kernel
theorem dX4_badBoxes_13 : decode cX4_badBoxes 13 = .ok (.iconst 5, 1) := by decide +kernel
theorem dX4_badBoxes_14 : decode cX4_badBoxes 14 = .ok (.goto 4, 3) := by decide +kernel
theorem dX4_badBoxes_17 : decode cX4_badBoxes 17 = .ok (.iconst 0, 1) := by decide +kernel
theorem dX4_badBoxes_18 : decode cX4_badBoxes 18 = .ok (.ireturn, 1) := by decide +kernel
theorem dX4_badBoxes_19 : decode cX4_badBoxes 19 = .ok (.iload_n 2, 1) := by decide +kernel
theorem dX4_badBoxes_20 : decode cX4_badBoxes 20 = .ok (.bipush 10, 2) := by decide +kernel
theorem dX4_badBoxes_22 : decode cX4_badBoxes 22 = .ok (.if_icmp .ne 14, 3) := by decide +kernel
theorem dX4_badBoxes_25 : decode cX4_badBoxes 25 = .ok (.aload_n 0, 1) := by decide +kernel
theorem dX4_badBoxes_26 : decode cX4_badBoxes 26 = .ok (.aload_n 0, 1) := by decide +kernel
theorem dX4_badBoxes_27 : decode cX4_badBoxes 27 = .ok (.getfield 29, 3) := by decide +kernel
theorem dX4_badBoxes_30 : decode cX4_badBoxes 30 = .ok (.iload_n 1, 1) := by decide +kernel
theorem dX4_badBoxes_31 : decode cX4_badBoxes 31 = .ok (.iaload, 1) := by decide +kernel
theorem dX4_badBoxes_32 : decode cX4_badBoxes 32 = .ok (.invokevirtual 105, 3) := by decide +kernel
theorem dX4_badBoxes_35 : decode cX4_badBoxes 35 = .ok (.ireturn, 1) := by decide +kernel
theorem dX4_badBoxes_36 : decode cX4_badBoxes 36 = .ok (.iload_n 2, 1) := by decide +kernel
theorem dX4_badBoxes_37 : decode cX4_badBoxes 37 = .ok (.bipush 11, 2) := by decide +kernel
theorem dX4_badBoxes_39 : decode cX4_badBoxes 39 = .ok (.if_icmp .ne 30, 3) := by decide +kernel
theorem dX4_badBoxes_42 : decode cX4_badBoxes 42 = .ok (.aload_n 0, 1) := by decide +kernel
theorem dX4_badBoxes_43 : decode cX4_badBoxes 43 = .ok (.getfield 44, 3) := by decide +kernel
theorem dX4_badBoxes_46 : decode cX4_badBoxes 46 = .ok (.aload_n 0, 1) := by decide +kernel
theorem dX4_badBoxes_47 : decode cX4_badBoxes 47 = .ok (.getfield 32, 3) := by decide +kernel
theorem dX4_badBoxes_50 : decode cX4_badBoxes 50 = .ok (.iload_n 1, 1) := by decide +kernel
theorem dX4_badBoxes_51 : decode cX4_badBoxes 51 = .ok (.iaload, 1) := by decide +kernel
theorem dX4_badBoxes_52 : decode cX4_badBoxes 52 = .ok (.iaload, 1) := by decide +kernel
theorem dX4_badBoxes_53 : decode cX4_badBoxes 53 = .ok (.aload_n 0, 1) := by decide +kernel
theorem dX4_badBoxes_54 : decode cX4_badBoxes 54 = .ok (.getfield 13, 3) := by decide +kernel
theorem dX4_badBoxes_57 : decode cX4_badBoxes 57 = .ok (.iload_n 3, 1) := by decide +kernel
theorem dX4_badBoxes_58 : decode cX4_badBoxes 58 = .ok (.iaload, 1) := by decide +kernel
theorem dX4_badBoxes_59 : decode cX4_badBoxes 59 = .ok (.if_icmp .ne 7, 3) := by decide +kernel
theorem dX4_badBoxes_62 : decode cX4_badBoxes 62 = .ok (.iconst 0, 1) := by decide +kernel
theorem dX4_badBoxes_63 : decode cX4_badBoxes 63 = .ok (.goto 5, 3) := by decide +kernel
theorem dX4_badBoxes_66 : decode cX4_badBoxes 66 = .ok (.bipush 6, 2) := by decide +kernel
theorem dX4_badBoxes_68 : decode cX4_badBoxes 68 = .ok (.ireturn, 1) := by decide +kernel
theorem dX4_badBoxes_69 : decode cX4_badBoxes 69 = .ok (.iload_n 2, 1) := by decide +kernel
theorem dX4_badBoxes_70 : decode cX4_badBoxes 70 = .ok (.bipush 9, 2) := by decide +kernel
theorem dX4_badBoxes_72 : decode cX4_badBoxes 72 = .ok (.if_icmp .eq 5, 3) := by decide +kernel
theorem dX4_badBoxes_75 : decode cX4_badBoxes 75 = .ok (.iconst 0, 1) := by decide +kernel
theorem dX4_badBoxes_76 : decode cX4_badBoxes 76 = .ok (.ireturn, 1) := by decide +kernel
theorem dX4_badBoxes_77 : decode cX4_badBoxes 77 = .ok (.aload_n 0, 1) := by decide +kernel
theorem dX4_badBoxes_78 : decode cX4_badBoxes 78 = .ok (.getfield 32, 3) := by decide +kernel
theorem dX4_badBoxes_81 : decode cX4_badBoxes 81 = .ok (.iload_n 1, 1) := by decide +kernel
theorem dX4_badBoxes_82 : decode cX4_badBoxes 82 = .ok (.iaload, 1) := by decide +kernel
theorem dX4_badBoxes_83 : decode cX4_badBoxes 83 = .ok (.istore 4, 2) := by decide +kernel
theorem dX4_badBoxes_85 : decode cX4_badBoxes 85 = .ok (.aload_n 0, 1) := by decide +kernel
theorem dX4_badBoxes_86 : decode cX4_badBoxes 86 = .ok (.getfield 35, 3) := by decide +kernel
theorem dX4_badBoxes_89 : decode cX4_badBoxes 89 = .ok (.iload_n 1, 1) := by decide +kernel
theorem dX4_badBoxes_90 : decode cX4_badBoxes 90 = .ok (.iaload, 1) := by decide +kernel
theorem dX4_badBoxes_91 : decode cX4_badBoxes 91 = .ok (.istore 5, 2) := by decide +kernel
theorem dX4_badBoxes_93 : decode cX4_badBoxes 93 = .ok (.aload_n 0, 1) := by decide +kernel
theorem dX4_badBoxes_94 : decode cX4_badBoxes 94 = .ok (.iload 4, 2) := by decide +kernel
theorem dX4_badBoxes_96 : decode cX4_badBoxes 96 = .ok (.invokevirtual 105, 3) := by decide +kernel
theorem dX4_badBoxes_99 : decode cX4_badBoxes 99 = .ok (.istore 6, 2) := by decide +kernel
theorem dX4_badBoxes_101 : decode cX4_badBoxes 101 = .ok (.iload 6, 2) := by decide +kernel
theorem dX4_badBoxes_103 : decode cX4_badBoxes 103 = .ok (.ifCond .ne 12, 3) := by decide +kernel
theorem dX4_badBoxes_106 : decode cX4_badBoxes 106 = .ok (.aload_n 0, 1) := by decide +kernel
theorem dX4_badBoxes_107 : decode cX4_badBoxes 107 = .ok (.iload 5, 2) := by decide +kernel
theorem dX4_badBoxes_109 : decode cX4_badBoxes 109 = .ok (.invokevirtual 105, 3) := by decide +kernel
theorem dX4_badBoxes_112 : decode cX4_badBoxes 112 = .ok (.goto 5, 3) := by decide +kernel
theorem dX4_badBoxes_115 : decode cX4_badBoxes 115 = .ok (.iload 6, 2) := by decide +kernel
theorem dX4_badBoxes_117 : decode cX4_badBoxes 117 = .ok (.istore 6, 2) := by decide +kernel
theorem dX4_badBoxes_119 : decode cX4_badBoxes 119 = .ok (.iload 6, 2) := by decide +kernel
theorem dX4_badBoxes_121 : decode cX4_badBoxes 121 = .ok (.ifCond .eq 6, 3) := by decide +kernel
theorem dX4_badBoxes_124 : decode cX4_badBoxes 124 = .ok (.iload 6, 2) := by decide +kernel
theorem dX4_badBoxes_126 : decode cX4_badBoxes 126 = .ok (.ireturn, 1) := by decide +kernel
theorem dX4_badBoxes_127 : decode cX4_badBoxes 127 = .ok (.aload_n 0, 1) := by decide +kernel
theorem dX4_badBoxes_128 : decode cX4_badBoxes 128 = .ok (.getfield 44, 3) := by decide +kernel
theorem dX4_badBoxes_131 : decode cX4_badBoxes 131 = .ok (.iload 4, 2) := by decide +kernel
theorem dX4_badBoxes_133 : decode cX4_badBoxes 133 = .ok (.iaload, 1) := by decide +kernel
theorem dX4_badBoxes_134 : decode cX4_badBoxes 134 = .ok (.aload_n 0, 1) := by decide +kernel
theorem dX4_badBoxes_135 : decode cX4_badBoxes 135 = .ok (.getfield 13, 3) := by decide +kernel
theorem dX4_badBoxes_138 : decode cX4_badBoxes 138 = .ok (.iload_n 3, 1) := by decide +kernel
theorem dX4_badBoxes_139 : decode cX4_badBoxes 139 = .ok (.iaload, 1) := by decide +kernel
theorem dX4_badBoxes_140 : decode cX4_badBoxes 140 = .ok (.if_icmp .ne 38, 3) := by decide +kernel
theorem dX4_badBoxes_143 : decode cX4_badBoxes 143 = .ok (.aload_n 0, 1) := by decide +kernel
theorem dX4_badBoxes_144 : decode cX4_badBoxes 144 = .ok (.getfield 44, 3) := by decide +kernel
theorem dX4_badBoxes_147 : decode cX4_badBoxes 147 = .ok (.iload 5, 2) := by decide +kernel
theorem dX4_badBoxes_149 : decode cX4_badBoxes 149 = .ok (.iaload, 1) := by decide +kernel
theorem dX4_badBoxes_150 : decode cX4_badBoxes 150 = .ok (.aload_n 0, 1) := by decide +kernel
theorem dX4_badBoxes_151 : decode cX4_badBoxes 151 = .ok (.getfield 16, 3) := by decide +kernel
theorem dX4_badBoxes_154 : decode cX4_badBoxes 154 = .ok (.iload_n 3, 1) := by decide +kernel
theorem dX4_badBoxes_155 : decode cX4_badBoxes 155 = .ok (.iaload, 1) := by decide +kernel
theorem dX4_badBoxes_156 : decode cX4_badBoxes 156 = .ok (.if_icmp .ne 22, 3) := by decide +kernel
theorem dX4_badBoxes_159 : decode cX4_badBoxes 159 = .ok (.aload_n 0, 1) := by decide +kernel
theorem dX4_badBoxes_160 : decode cX4_badBoxes 160 = .ok (.iload 4, 2) := by decide +kernel
theorem dX4_badBoxes_162 : decode cX4_badBoxes 162 = .ok (.invokevirtual 109, 3) := by decide +kernel
theorem dX4_badBoxes_165 : decode cX4_badBoxes 165 = .ok (.aload_n 0, 1) := by decide +kernel
theorem dX4_badBoxes_166 : decode cX4_badBoxes 166 = .ok (.iload 5, 2) := by decide +kernel
theorem dX4_badBoxes_168 : decode cX4_badBoxes 168 = .ok (.invokevirtual 109, 3) := by decide +kernel
theorem dX4_badBoxes_171 : decode cX4_badBoxes 171 = .ok (.if_icmp .ne 7, 3) := by decide +kernel
theorem dX4_badBoxes_174 : decode cX4_badBoxes 174 = .ok (.iconst 0, 1) := by decide +kernel
theorem dX4_badBoxes_175 : decode cX4_badBoxes 175 = .ok (.goto 5, 3) := by decide +kernel
theorem dX4_badBoxes_178 : decode cX4_badBoxes 178 = .ok (.bipush 6, 2) := by decide +kernel
theorem dX4_badBoxes_180 : decode cX4_badBoxes 180 = .ok (.ireturn, 1) := by decide +kernel
set_option maxRecDepth 20000 in
theorem ggX4_headOf_X4_make : GoodIn wsX4_headOf wsX4_make := goodIn_r _ [11, 12, 13, 3, 4, 14, 20, 21, 22, 23, 24, 25, 26, 27, 28, 29, 30, 31, 32, 33, 34, 35, 36, 37, 38, 39, 40, 41, 42, 43, 44] (by decide +kernel) (by decide +kernel)
set_option maxRecDepth 20000 in
theorem gX4_headOf_X4_make : GoodIn wsX4_headOf (wsV RX4 77 RX4 yX4_make wsX4_make) := goodIn_app (goodIn_of _ (by decide +kernel)) ggX4_headOf_X4_make
set_option maxRecDepth 20000 in
theorem ggX4_headOf_X4_endOf : GoodIn wsX4_headOf wsX4_endOf := goodIn_r _ [18, 1, 19, 20, 21, 22, 23, 24, 25, 26, 27, 28, 29, 30, 31, 32, 33, 34, 35, 36, 37, 38, 39, 40, 41, 42, 43, 44] (by decide +kernel) (by decide +kernel)
set_option maxRecDepth 20000 in
theorem gX4_headOf_X4_endOf : GoodIn wsX4_headOf (wsV RX4 109 RX4 yX4_endOf wsX4_endOf) := goodIn_app (goodIn_of _ (by decide +kernel)) ggX4_headOf_X4_endOf
theorem dX4_headOf_0 : decode cX4_headOf 0 = .ok (.iload_n 2, 1) := by decide +kernel
theorem dX4_headOf_1 : decode cX4_headOf 1 = .ok (.tableswitch 169 3 13 #[59, 61, 79, 86, 93, 106, 119, 130, 86, 169, 157], 59) := by decide +kernel
theorem dX4_headOf_60 : decode cX4_headOf 60 = .ok (.iload_n 3, 1) := by decide +kernel
theorem dX4_headOf_61 : decode cX4_headOf 61 = .ok (.ireturn, 1) := by decide +kernel
theorem dX4_headOf_62 : decode cX4_headOf 62 = .ok (.aload_n 0, 1) := by decide +kernel
theorem dX4_headOf_63 : decode cX4_headOf 63 = .ok (.iconst 2, 1) := by decide +kernel
theorem dX4_headOf_64 : decode cX4_headOf 64 = .ok (.iload_n 3, 1) := by decide +kernel
theorem dX4_headOf_65 : decode cX4_headOf 65 = .ok (.aload_n 0, 1) := by decide +kernel
theorem dX4_headOf_66 : decode cX4_headOf 66 = .ok (.getfield 44, 3) := by decide +kernel
theorem dX4_headOf_69 : decode cX4_headOf 69 = .ok (.aload_n 0, 1) := by decide +kernel
theorem dX4_headOf_70 : decode cX4_headOf 70 = .ok (.getfield 32, 3) := by decide +kernel
theorem dX4_headOf_73 : decode cX4_headOf 73 = .ok (.iload_n 1, 1) := by decide +kernel
theorem dX4_headOf_74 : decode cX4_headOf 74 = .ok (.iaload, 1) := by decide +kernel
theorem dX4_headOf_75 : decode cX4_headOf 75 = .ok (.iaload, 1) := by decide +kernel
theorem dX4_headOf_76 : decode cX4_headOf 76 = .ok (.invokevirtual 77, 3) := by decide +kernel
theorem dX4_headOf_79 : decode cX4_headOf 79 = .ok (.ireturn, 1) := by decide +kernel
theorem dX4_headOf_80 : decode cX4_headOf 80 = .ok (.aload_n 0, 1) := by decide +kernel
theorem dX4_headOf_81 : decode cX4_headOf 81 = .ok (.getfield 13, 3) := by decide +kernel
theorem dX4_headOf_84 : decode cX4_headOf 84 = .ok (.iload_n 3, 1) := by decide +kernel
theorem dX4_headOf_85 : decode cX4_headOf 85 = .ok (.iaload, 1) := by decide +kernel
theorem dX4_headOf_86 : decode cX4_headOf 86 = .ok (.ireturn, 1) := by decide +kernel
theorem dX4_headOf_87 : decode cX4_headOf 87 = .ok (.aload_n 0, 1) := by decide +kernel
theorem dX4_headOf_88 : decode cX4_headOf 88 = .ok (.getfield 16, 3) := by decide +kernel
theorem dX4_headOf_91 : decode cX4_headOf 91 = .ok (.iload_n 3, 1) := by decide +kernel
theorem dX4_headOf_92 : decode cX4_headOf 92 = .ok (.iaload, 1) := by decide +kernel
theorem dX4_headOf_93 : decode cX4_headOf 93 = .ok (.ireturn, 1) := by decide +kernel
theorem dX4_headOf_94 : decode cX4_headOf 94 = .ok (.aload_n 0, 1) := by decide +kernel
theorem dX4_headOf_95 : decode cX4_headOf 95 = .ok (.iconst 3, 1) := by decide +kernel
theorem dX4_headOf_96 : decode cX4_headOf 96 = .ok (.iload_n 3, 1) := by decide +kernel
theorem dX4_headOf_97 : decode cX4_headOf 97 = .ok (.aload_n 0, 1) := by decide +kernel
theorem dX4_headOf_98 : decode cX4_headOf 98 = .ok (.getfield 38, 3) := by decide +kernel
theorem dX4_headOf_101 : decode cX4_headOf 101 = .ok (.iload_n 1, 1) := by decide +kernel
theorem dX4_headOf_102 : decode cX4_headOf 102 = .ok (.iaload, 1) := by decide +kernel
theorem dX4_headOf_103 : decode cX4_headOf 103 = .ok (.invokevirtual 77, 3) := by decide +kernel
theorem dX4_headOf_106 : decode cX4_headOf 106 = .ok (.ireturn, 1) := by decide +kernel
theorem dX4_headOf_107 : decode cX4_headOf 107 = .ok (.aload_n 0, 1) := by decide +kernel
theorem dX4_headOf_108 : decode cX4_headOf 108 = .ok (.iconst 3, 1) := by decide +kernel
theorem dX4_headOf_109 : decode cX4_headOf 109 = .ok (.aload_n 0, 1) := by decide +kernel
theorem dX4_headOf_110 : decode cX4_headOf 110 = .ok (.getfield 38, 3) := by decide +kernel
theorem dX4_headOf_113 : decode cX4_headOf 113 = .ok (.iload_n 1, 1) := by decide +kernel
theorem dX4_headOf_114 : decode cX4_headOf 114 = .ok (.iaload, 1) := by decide +kernel
theorem dX4_headOf_115 : decode cX4_headOf 115 = .ok (.iload_n 3, 1) := by decide +kernel
theorem dX4_headOf_116 : decode cX4_headOf 116 = .ok (.invokevirtual 77, 3) := by decide +kernel
theorem dX4_headOf_119 : decode cX4_headOf 119 = .ok (.ireturn, 1) := by decide +kernel
theorem dX4_headOf_120 : decode cX4_headOf 120 = .ok (.aload_n 0, 1) := by decide +kernel
theorem dX4_headOf_121 : decode cX4_headOf 121 = .ok (.aload_n 0, 1) := by decide +kernel
theorem dX4_headOf_122 : decode cX4_headOf 122 = .ok (.getfield 32, 3) := by decide +kernel
theorem dX4_headOf_125 : decode cX4_headOf 125 = .ok (.iload_n 1, 1) := by decide +kernel
theorem dX4_headOf_126 : decode cX4_headOf 126 = .ok (.iaload, 1) := by decide +kernel
theorem dX4_headOf_127 : decode cX4_headOf 127 = .ok (.invokevirtual 109, 3) := by decide +kernel
theorem dX4_headOf_130 : decode cX4_headOf 130 = .ok (.ireturn, 1) := by decide +kernel
theorem dX4_headOf_131 : decode cX4_headOf 131 = .ok (.aload_n 0, 1) := by decide +kernel
theorem dX4_headOf_132 : decode cX4_headOf 132 = .ok (.iconst 4, 1) := by decide +kernel
theorem dX4_headOf_133 : decode cX4_headOf 133 = .ok (.aload_n 0, 1) := by decide +kernel
theorem dX4_headOf_134 : decode cX4_headOf 134 = .ok (.getfield 44, 3) := by decide +kernel
theorem dX4_headOf_137 : decode cX4_headOf 137 = .ok (.aload_n 0, 1) := by decide +kernel
theorem dX4_headOf_138 : decode cX4_headOf 138 = .ok (.getfield 29, 3) := by decide +kernel
theorem dX4_headOf_141 : decode cX4_headOf 141 = .ok (.iload_n 1, 1) := by decide +kernel
theorem dX4_headOf_142 : decode cX4_headOf 142 = .ok (.iaload, 1) := by decide +kernel
theorem dX4_headOf_143 : decode cX4_headOf 143 = .ok (.iaload, 1) := by decide +kernel
theorem dX4_headOf_144 : decode cX4_headOf 144 = .ok (.aload_n 0, 1) := by decide +kernel
theorem dX4_headOf_145 : decode cX4_headOf 145 = .ok (.aload_n 0, 1) := by decide +kernel
theorem dX4_headOf_146 : decode cX4_headOf 146 = .ok (.getfield 29, 3) := by decide +kernel
theorem dX4_headOf_149 : decode cX4_headOf 149 = .ok (.iload_n 1, 1) := by decide +kernel
theorem dX4_headOf_150 : decode cX4_headOf 150 = .ok (.iaload, 1) := by decide +kernel
theorem dX4_headOf_151 : decode cX4_headOf 151 = .ok (.invokevirtual 109, 3) := by decide +kernel
theorem dX4_headOf_154 : decode cX4_headOf 154 = .ok (.invokevirtual 77, 3) := by decide +kernel
theorem dX4_headOf_157 : decode cX4_headOf 157 = .ok (.ireturn, 1) := by decide +kernel
theorem dX4_headOf_158 : decode cX4_headOf 158 = .ok (.aload_n 0, 1) := by decide +kernel
theorem dX4_headOf_159 : decode cX4_headOf 159 = .ok (.getfield 13, 3) := by decide +kernel
theorem dX4_headOf_162 : decode cX4_headOf 162 = .ok (.aload_n 0, 1) := by decide +kernel
theorem dX4_headOf_163 : decode cX4_headOf 163 = .ok (.getfield 13, 3) := by decide +kernel
theorem dX4_headOf_166 : decode cX4_headOf 166 = .ok (.iload_n 3, 1) := by decide +kernel
theorem dX4_headOf_167 : decode cX4_headOf 167 = .ok (.iaload, 1) := by decide +kernel
theorem dX4_headOf_168 : decode cX4_headOf 168 = .ok (.iaload, 1) := by decide +kernel
theorem dX4_headOf_169 : decode cX4_headOf 169 = .ok (.ireturn, 1) := by decide +kernel
theorem dX4_headOf_170 : decode cX4_headOf 170 = .ok (.aload_n 0, 1) := by decide +kernel
theorem dX4_headOf_171 : decode cX4_headOf 171 = .ok (.getfield 38, 3) := by decide +kernel
theorem dX4_headOf_174 : decode cX4_headOf 174 = .ok (.iload_n 1, 1) := by decide +kernel
theorem dX4_headOf_175 : decode cX4_headOf 175 = .ok (.iaload, 1) := by decide +kernel
theorem dX4_headOf_176 : decode cX4_headOf 176 = .ok (.ireturn, 1) := by decide +kernel
set_option maxRecDepth 20000 in
theorem ggX4_look_X4_within : GoodIn wsX4_look wsX4_within := goodIn_r _ [13] (by decide +kernel) (by decide +kernel)
set_option maxRecDepth 20000 in
theorem gX4_look_X4_within : GoodIn wsX4_look (va_wsS RX4 69 yX4_within wsX4_within) := goodIn_app (goodIn_of _ (by decide +kernel)) ggX4_look_X4_within
set_option maxRecDepth 20000 in
theorem ggX4_look_X4_badNumbers : GoodIn wsX4_look wsX4_badNumbers := goodIn_r _ [17, 3, 18, 19, 20, 21, 22, 23, 12, 24, 25, 26, 27, 10, 11, 13, 28, 29, 30, 31, 2, 8, 32, 33, 34, 35, 5, 7, 36, 37, 38, 39, 40, 73, 74, 75, 76, 77, 78, 79, 80, 81, 82, 83, 84, 85, 86, 87, 88, 89, 90, 91, 92, 93, 94, 95, 96, 97] (by decide +kernel) (by decide +kernel)
set_option maxRecDepth 20000 in
theorem gX4_look_X4_badNumbers : GoodIn wsX4_look (wsV RX4 112 RX4 yX4_badNumbers wsX4_badNumbers) := goodIn_app (goodIn_of _ (by decide +kernel)) ggX4_look_X4_badNumbers
set_option maxRecDepth 20000 in
theorem ggX4_look_X4_badForm : GoodIn wsX4_look wsX4_badForm := goodIn_r _ [44, 45, 46, 47, 48, 49, 12, 50, 51, 73, 74, 75, 76, 77, 78, 79, 80, 81, 82, 83, 84, 85, 86, 87, 88, 89, 90, 91, 92, 93, 94, 95, 96, 97] (by decide +kernel) (by decide +kernel)
set_option maxRecDepth 20000 in
theorem gX4_look_X4_badForm : GoodIn wsX4_look (wsV RX4 116 RX4 yX4_badForm wsX4_badForm) := goodIn_app (goodIn_of _ (by decide +kernel)) ggX4_look_X4_badForm
set_option maxRecDepth 20000 in
theorem ggX4_look_X4_badBoxes : GoodIn wsX4_look wsX4_badBoxes := goodIn_r _ [55, 6, 3, 2, 18, 46, 19, 45, 56, 57, 58, 12, 59, 4, 5, 7, 32, 33, 34, 35, 60, 61, 62, 63, 73, 74, 75, 76, 77, 78, 79, 80, 81, 82, 83, 84, 85, 86, 87, 88, 89, 90, 91, 92, 93, 94, 95, 96, 97] (by decide +kernel) (by decide +kernel)
set_option maxRecDepth 20000 in
theorem gX4_look_X4_badBoxes : GoodIn wsX4_look (wsV RX4 119 RX4 yX4_badBoxes wsX4_badBoxes) := goodIn_app (goodIn_of _ (by decide +kernel)) ggX4_look_X4_badBoxes
set_option maxRecDepth 20000 in
theorem ggX4_look_X4_headOf : GoodIn wsX4_look wsX4_headOf := goodIn_r _ [67, 2, 18, 46, 45, 20, 3, 68, 69, 70, 12, 71, 40, 51, 72, 60, 61, 62, 63, 5, 73, 74, 75, 76, 77, 78, 79, 80, 81, 82, 83, 84, 85, 86, 87, 88, 89, 90, 91, 92, 93, 94, 95, 96, 97] (by decide +kernel) (by decide +kernel)
set_option maxRecDepth 20000 in
theorem gX4_look_X4_headOf : GoodIn wsX4_look (wsV RX4 125 RX4 yX4_headOf wsX4_headOf) := goodIn_app (goodIn_of _ (by decide +kernel)) ggX4_look_X4_headOf
theorem dX4_look_0 : decode cX4_look 0 = .ok (.aload_n 0, 1) := by decide +kernel
theorem dX4_look_1 : decode cX4_look 1 = .ok (.getfield 26, 3) := by decide +kernel
theorem dX4_look_4 : decode cX4_look 4 = .ok (.iload_n 1, 1) := by decide +kernel
theorem dX4_look_5 : decode cX4_look 5 = .ok (.iaload, 1) := by decide +kernel
theorem dX4_look_6 : decode cX4_look 6 = .ok (.istore_n 2, 1) := by decide +kernel
theorem dX4_look_7 : decode cX4_look 7 = .ok (.iload_n 2, 1) := by decide +kernel
theorem dX4_look_8 : decode cX4_look 8 = .ok (.iconst 0, 1) := by decide +kernel
theorem dX4_look_9 : decode cX4_look 9 = .ok (.bipush 13, 2) := by decide +kernel
theorem dX4_look_11 : decode cX4_look 11 = .ok (.invokestatic 69, 3) := by decide +kernel
theorem dX4_look_14 : decode cX4_look 14 = .ok (.ifCond .ne 6, 3) := by decide +kernel
theorem dX4_look_17 : decode cX4_look 17 = .ok (.bipush 8, 2) := by decide +kernel
theorem dX4_look_19 : decode cX4_look 19 = .ok (.ireturn, 1) := by decide +kernel
theorem dX4_look_20 : decode cX4_look 20 = .ok (.aload_n 0, 1) := by decide +kernel
theorem dX4_look_21 : decode cX4_look 21 = .ok (.iload_n 1, 1) := by decide +kernel
theorem dX4_look_22 : decode cX4_look 22 = .ok (.iload_n 2, 1) := by decide +kernel
theorem dX4_look_23 : decode cX4_look 23 = .ok (.invokevirtual 112, 3) := by decide +kernel
theorem dX4_look_26 : decode cX4_look 26 = .ok (.istore_n 3, 1) := by decide +kernel
theorem dX4_look_27 : decode cX4_look 27 = .ok (.iload_n 3, 1) := by decide +kernel
theorem dX4_look_28 : decode cX4_look 28 = .ok (.ifCond .eq 5, 3) := by decide +kernel
theorem dX4_look_31 : decode cX4_look 31 = .ok (.iload_n 3, 1) := by decide +kernel
theorem dX4_look_32 : decode cX4_look 32 = .ok (.ireturn, 1) := by decide +kernel
theorem dX4_look_33 : decode cX4_look 33 = .ok (.iload_n 2, 1) := by decide +kernel
theorem dX4_look_34 : decode cX4_look 34 = .ok (.iconst 2, 1) := by decide +kernel
theorem dX4_look_35 : decode cX4_look 35 = .ok (.if_icmp .le 17, 3) := by decide +kernel
theorem dX4_look_38 : decode cX4_look 38 = .ok (.aload_n 0, 1) := by decide +kernel
theorem dX4_look_39 : decode cX4_look 39 = .ok (.getfield 44, 3) := by decide +kernel
theorem dX4_look_42 : decode cX4_look 42 = .ok (.aload_n 0, 1) := by decide +kernel
theorem dX4_look_43 : decode cX4_look 43 = .ok (.getfield 29, 3) := by decide +kernel
theorem dX4_look_46 : decode cX4_look 46 = .ok (.iload_n 1, 1) := by decide +kernel
theorem dX4_look_47 : decode cX4_look 47 = .ok (.iaload, 1) := by decide +kernel
theorem dX4_look_48 : decode cX4_look 48 = .ok (.iaload, 1) := by decide +kernel
theorem dX4_look_49 : decode cX4_look 49 = .ok (.goto 4, 3) := by decide +kernel
theorem dX4_look_52 : decode cX4_look 52 = .ok (.iconst (-1), 1) := by decide +kernel
theorem dX4_look_53 : decode cX4_look 53 = .ok (.istore 4, 2) := by decide +kernel
theorem dX4_look_55 : decode cX4_look 55 = .ok (.aload_n 0, 1) := by decide +kernel
theorem dX4_look_56 : decode cX4_look 56 = .ok (.iload_n 2, 1) := by decide +kernel
theorem dX4_look_57 : decode cX4_look 57 = .ok (.iload 4, 2) := by decide +kernel
theorem dX4_look_59 : decode cX4_look 59 = .ok (.invokevirtual 116, 3) := by decide +kernel
theorem dX4_look_62 : decode cX4_look 62 = .ok (.istore_n 3, 1) := by decide +kernel
theorem dX4_look_63 : decode cX4_look 63 = .ok (.iload_n 3, 1) := by decide +kernel
theorem dX4_look_64 : decode cX4_look 64 = .ok (.ifCond .ne 14, 3) := by decide +kernel
theorem dX4_look_67 : decode cX4_look 67 = .ok (.aload_n 0, 1) := by decide +kernel
theorem dX4_look_68 : decode cX4_look 68 = .ok (.iload_n 1, 1) := by decide +kernel
theorem dX4_look_69 : decode cX4_look 69 = .ok (.iload_n 2, 1) := by decide +kernel
theorem dX4_look_70 : decode cX4_look 70 = .ok (.iload 4, 2) := by decide +kernel
theorem dX4_look_72 : decode cX4_look 72 = .ok (.invokevirtual 119, 3) := by decide +kernel
theorem dX4_look_75 : decode cX4_look 75 = .ok (.goto 4, 3) := by decide +kernel
theorem dX4_look_78 : decode cX4_look 78 = .ok (.iload_n 3, 1) := by decide +kernel
theorem dX4_look_79 : decode cX4_look 79 = .ok (.istore_n 3, 1) := by decide +kernel
theorem dX4_look_80 : decode cX4_look 80 = .ok (.iload_n 3, 1) := by decide +kernel
theorem dX4_look_81 : decode cX4_look 81 = .ok (.ifCond .eq 5, 3) := by decide +kernel
theorem dX4_look_84 : decode cX4_look 84 = .ok (.iload_n 3, 1) := by decide +kernel
theorem dX4_look_85 : decode cX4_look 85 = .ok (.ireturn, 1) := by decide +kernel
theorem dX4_look_86 : decode cX4_look 86 = .ok (.aload_n 0, 1) := by decide +kernel
theorem dX4_look_87 : decode cX4_look 87 = .ok (.getfield 41, 3) := by decide +kernel
theorem dX4_look_90 : decode cX4_look 90 = .ok (.iload_n 1, 1) := by decide +kernel
theorem dX4_look_91 : decode cX4_look 91 = .ok (.iload_n 2, 1) := by decide +kernel
theorem dX4_look_92 : decode cX4_look 92 = .ok (.iastore, 1) := by decide +kernel
theorem dX4_look_93 : decode cX4_look 93 = .ok (.iload_n 2, 1) := by decide +kernel
theorem dX4_look_94 : decode cX4_look 94 = .ok (.iconst 2, 1) := by decide +kernel
theorem dX4_look_95 : decode cX4_look 95 = .ok (.if_icmp .ne 48, 3) := by decide +kernel
theorem dX4_look_98 : decode cX4_look 98 = .ok (.aload_n 0, 1) := by decide +kernel
theorem dX4_look_99 : decode cX4_look 99 = .ok (.getfield 50, 3) := by decide +kernel
theorem dX4_look_102 : decode cX4_look 102 = .ok (.aload_n 0, 1) := by decide +kernel
theorem dX4_look_103 : decode cX4_look 103 = .ok (.getfield 102, 3) := by decide +kernel
theorem dX4_look_106 : decode cX4_look 106 = .ok (.iload_n 1, 1) := by decide +kernel
theorem dX4_look_107 : decode cX4_look 107 = .ok (.iastore, 1) := by decide +kernel
theorem dX4_look_108 : decode cX4_look 108 = .ok (.aload_n 0, 1) := by decide +kernel
theorem dX4_look_109 : decode cX4_look 109 = .ok (.aload_n 0, 1) := by decide +kernel
theorem dX4_look_110 : decode cX4_look 110 = .ok (.getfield 53, 3) := by decide +kernel
theorem dX4_look_113 : decode cX4_look 113 = .ok (.aload_n 0, 1) := by decide +kernel
theorem dX4_look_114 : decode cX4_look 114 = .ok (.getfield 102, 3) := by decide +kernel
theorem dX4_look_117 : decode cX4_look 117 = .ok (.iaload, 1) := by decide +kernel
theorem dX4_look_118 : decode cX4_look 118 = .ok (.putfield 102, 3) := by decide +kernel
theorem dX4_look_121 : decode cX4_look 121 = .ok (.aload_n 0, 1) := by decide +kernel
theorem dX4_look_122 : decode cX4_look 122 = .ok (.getfield 47, 3) := by decide +kernel
theorem dX4_look_125 : decode cX4_look 125 = .ok (.iload_n 1, 1) := by decide +kernel
theorem dX4_look_126 : decode cX4_look 126 = .ok (.aload_n 0, 1) := by decide +kernel
theorem dX4_look_127 : decode cX4_look 127 = .ok (.getfield 102, 3) := by decide +kernel
theorem dX4_look_130 : decode cX4_look 130 = .ok (.iastore, 1) := by decide +kernel
theorem dX4_look_131 : decode cX4_look 131 = .ok (.aload_n 0, 1) := by decide +kernel
theorem dX4_look_132 : decode cX4_look 132 = .ok (.dup, 1) := by decide +kernel
theorem dX4_look_133 : decode cX4_look 133 = .ok (.getfield 122, 3) := by decide +kernel
theorem dX4_look_136 : decode cX4_look 136 = .ok (.iconst 1, 1) := by decide +kernel
theorem dX4_look_137 : decode cX4_look 137 = .ok (.isub, 1) := by decide +kernel
theorem dX4_look_138 : decode cX4_look 138 = .ok (.putfield 122, 3) := by decide +kernel
theorem dX4_look_141 : decode cX4_look 141 = .ok (.iconst 0, 1) := by decide +kernel
theorem dX4_look_142 : decode cX4_look 142 = .ok (.ireturn, 1) := by decide +kernel
theorem dX4_look_143 : decode cX4_look 143 = .ok (.aload_n 0, 1) := by decide +kernel
theorem dX4_look_144 : decode cX4_look 144 = .ok (.iload_n 1, 1) := by decide +kernel
theorem dX4_look_145 : decode cX4_look 145 = .ok (.iload_n 2, 1) := by decide +kernel
theorem dX4_look_146 : decode cX4_look 146 = .ok (.iload 4, 2) := by decide +kernel
theorem dX4_look_148 : decode cX4_look 148 = .ok (.invokevirtual 125, 3) := by decide +kernel
theorem dX4_look_151 : decode cX4_look 151 = .ok (.istore 5, 2) := by decide +kernel
theorem dX4_look_153 : decode cX4_look 153 = .ok (.iload 5, 2) := by decide +kernel
theorem dX4_look_155 : decode cX4_look 155 = .ok (.bipush (-4), 2) := by decide +kernel
theorem dX4_look_157 : decode cX4_look 157 = .ok (.if_icmp .ne 6, 3) := by decide +kernel
theorem dX4_look_160 : decode cX4_look 160 = .ok (.bipush 7, 2) := by decide +kernel
theorem dX4_look_162 : decode cX4_look 162 = .ok (.ireturn, 1) := by decide +kernel
theorem dX4_look_163 : decode cX4_look 163 = .ok (.iload_n 2, 1) := by decide +kernel
theorem dX4_look_164 : decode cX4_look 164 = .ok (.iconst 1, 1) := by decide +kernel
theorem dX4_look_165 : decode cX4_look 165 = .ok (.if_icmp .ne 35, 3) := by decide +kernel
theorem dX4_look_168 : decode cX4_look 168 = .ok (.aload_n 0, 1) := by decide +kernel
theorem dX4_look_169 : decode cX4_look 169 = .ok (.getfield 53, 3) := by decide +kernel
theorem dX4_look_172 : decode cX4_look 172 = .ok (.iload_n 1, 1) := by decide +kernel
theorem dX4_look_173 : decode cX4_look 173 = .ok (.aload_n 0, 1) := by decide +kernel
theorem dX4_look_174 : decode cX4_look 174 = .ok (.getfield 102, 3) := by decide +kernel
theorem dX4_look_177 : decode cX4_look 177 = .ok (.iastore, 1) := by decide +kernel
theorem dX4_look_178 : decode cX4_look 178 = .ok (.aload_n 0, 1) := by decide +kernel
theorem dX4_look_179 : decode cX4_look 179 = .ok (.getfield 50, 3) := by decide +kernel
theorem dX4_look_182 : decode cX4_look 182 = .ok (.iload_n 1, 1) := by decide +kernel
theorem dX4_look_183 : decode cX4_look 183 = .ok (.iconst (-1), 1) := by decide +kernel
theorem dX4_look_184 : decode cX4_look 184 = .ok (.iastore, 1) := by decide +kernel
theorem dX4_look_185 : decode cX4_look 185 = .ok (.aload_n 0, 1) := by decide +kernel
theorem dX4_look_186 : decode cX4_look 186 = .ok (.iload_n 1, 1) := by decide +kernel
theorem dX4_look_187 : decode cX4_look 187 = .ok (.putfield 102, 3) := by decide +kernel
theorem dX4_look_190 : decode cX4_look 190 = .ok (.aload_n 0, 1) := by decide +kernel
theorem dX4_look_191 : decode cX4_look 191 = .ok (.dup, 1) := by decide +kernel
theorem dX4_look_192 : decode cX4_look 192 = .ok (.getfield 122, 3) := by decide +kernel
theorem dX4_look_195 : decode cX4_look 195 = .ok (.iconst 1, 1) := by decide +kernel
theorem dX4_look_196 : decode cX4_look 196 = .ok (.iadd, 1) := by decide +kernel
theorem dX4_look_197 : decode cX4_look 197 = .ok (.putfield 122, 3) := by decide +kernel
theorem dX4_look_200 : decode cX4_look 200 = .ok (.aload_n 0, 1) := by decide +kernel
theorem dX4_look_201 : decode cX4_look 201 = .ok (.getfield 44, 3) := by decide +kernel
theorem dX4_look_204 : decode cX4_look 204 = .ok (.iload_n 1, 1) := by decide +kernel
theorem dX4_look_205 : decode cX4_look 205 = .ok (.iload 5, 2) := by decide +kernel
theorem dX4_look_207 : decode cX4_look 207 = .ok (.iastore, 1) := by decide +kernel
theorem dX4_look_208 : decode cX4_look 208 = .ok (.aload_n 0, 1) := by decide +kernel
theorem dX4_look_209 : decode cX4_look 209 = .ok (.getfield 47, 3) := by decide +kernel
theorem dX4_look_212 : decode cX4_look 212 = .ok (.iload_n 1, 1) := by decide +kernel
theorem dX4_look_213 : decode cX4_look 213 = .ok (.aload_n 0, 1) := by decide +kernel
theorem dX4_look_214 : decode cX4_look 214 = .ok (.getfield 102, 3) := by decide +kernel
theorem dX4_look_217 : decode cX4_look 217 = .ok (.iastore, 1) := by decide +kernel
theorem dX4_look_218 : decode cX4_look 218 = .ok (.iconst 0, 1) := by decide +kernel
theorem dX4_look_219 : decode cX4_look 219 = .ok (.ireturn, 1) := by decide +kernel
set_option maxRecDepth 20000 in
theorem ggX4_check_X4_look : GoodIn wsX4_check wsX4_look := goodIn_r _ [15, 16, 3, 17, 4, 18, 5, 19, 20, 6, 21, 22, 14, 23, 24, 25, 26, 27, 28, 29, 30, 31, 32, 33, 34, 35, 36, 37, 38, 39, 40, 41, 42, 43, 44, 45, 46, 47, 48, 49, 2, 50, 51, 52, 53, 54, 55, 56, 57, 58, 59, 60, 61, 62, 63, 64, 65, 66, 67, 68, 69, 70, 71, 72, 73, 74, 75, 76, 77, 78, 79, 80, 81, 82, 83, 84, 85, 86, 87, 88, 89, 90, 91, 92, 93, 94, 95, 96, 97, 98, 99, 100, 101, 102, 103, 104, 105, 106] (by decide +kernel) (by decide +kernel)
set_option maxRecDepth 20000 in
theorem gX4_check_X4_look : GoodIn wsX4_check (wsV RX4 138 RX4 yX4_look wsX4_look) := goodIn_app (goodIn_of _ (by decide +kernel)) ggX4_check_X4_look
theorem dX4_check_0 : decode cX4_check 0 = .ok (.aload_n 0, 1) := by decide +kernel
theorem dX4_check_1 : decode cX4_check 1 = .ok (.iconst 1, 1) := by decide +kernel
theorem dX4_check_2 : decode cX4_check 2 = .ok (.putfield 128, 3) := by decide +kernel
theorem dX4_check_5 : decode cX4_check 5 = .ok (.aload_n 0, 1) := by decide +kernel
theorem dX4_check_6 : decode cX4_check 6 = .ok (.getfield 65, 3) := by decide +kernel
theorem dX4_check_9 : decode cX4_check 9 = .ok (.istore_n 1, 1) := by decide +kernel
theorem dX4_check_10 : decode cX4_check 10 = .ok (.iconst 0, 1) := by decide +kernel
theorem dX4_check_11 : decode cX4_check 11 = .ok (.istore_n 2, 1) := by decide +kernel
theorem dX4_check_12 : decode cX4_check 12 = .ok (.iload_n 2, 1) := by decide +kernel
theorem dX4_check_13 : decode cX4_check 13 = .ok (.bipush 60, 2) := by decide +kernel
theorem dX4_check_15 : decode cX4_check 15 = .ok (.if_icmp .ge 23, 3) := by decide +kernel
theorem dX4_check_18 : decode cX4_check 18 = .ok (.aload_n 0, 1) := by decide +kernel
theorem dX4_check_19 : decode cX4_check 19 = .ok (.getfield 44, 3) := by decide +kernel
theorem dX4_check_22 : decode cX4_check 22 = .ok (.iload_n 2, 1) := by decide +kernel
theorem dX4_check_23 : decode cX4_check 23 = .ok (.iconst (-1), 1) := by decide +kernel
theorem dX4_check_24 : decode cX4_check 24 = .ok (.iastore, 1) := by decide +kernel
theorem dX4_check_25 : decode cX4_check 25 = .ok (.aload_n 0, 1) := by decide +kernel
theorem dX4_check_26 : decode cX4_check 26 = .ok (.getfield 41, 3) := by decide +kernel
theorem dX4_check_29 : decode cX4_check 29 = .ok (.iload_n 2, 1) := by decide +kernel
theorem dX4_check_30 : decode cX4_check 30 = .ok (.iconst (-1), 1) := by decide +kernel
theorem dX4_check_31 : decode cX4_check 31 = .ok (.iastore, 1) := by decide +kernel
theorem dX4_check_32 : decode cX4_check 32 = .ok (.iinc 2 1, 3) := by decide +kernel
theorem dX4_check_35 : decode cX4_check 35 = .ok (.goto (-23), 3) := by decide +kernel
theorem dX4_check_38 : decode cX4_check 38 = .ok (.aload_n 0, 1) := by decide +kernel
theorem dX4_check_39 : decode cX4_check 39 = .ok (.iconst (-1), 1) := by decide +kernel
theorem dX4_check_40 : decode cX4_check 40 = .ok (.putfield 102, 3) := by decide +kernel
theorem dX4_check_43 : decode cX4_check 43 = .ok (.aload_n 0, 1) := by decide +kernel
theorem dX4_check_44 : decode cX4_check 44 = .ok (.iconst 0, 1) := by decide +kernel
theorem dX4_check_45 : decode cX4_check 45 = .ok (.putfield 122, 3) := by decide +kernel
theorem dX4_check_48 : decode cX4_check 48 = .ok (.aload_n 0, 1) := by decide +kernel
theorem dX4_check_49 : decode cX4_check 49 = .ok (.iconst 0, 1) := by decide +kernel
theorem dX4_check_50 : decode cX4_check 50 = .ok (.putfield 132, 3) := by decide +kernel
theorem dX4_check_53 : decode cX4_check 53 = .ok (.aload_n 0, 1) := by decide +kernel
theorem dX4_check_54 : decode cX4_check 54 = .ok (.iconst 0, 1) := by decide +kernel
theorem dX4_check_55 : decode cX4_check 55 = .ok (.putfield 135, 3) := by decide +kernel
theorem dX4_check_58 : decode cX4_check 58 = .ok (.aload_n 0, 1) := by decide +kernel
theorem dX4_check_59 : decode cX4_check 59 = .ok (.getfield 135, 3) := by decide +kernel
theorem dX4_check_62 : decode cX4_check 62 = .ok (.bipush 60, 2) := by decide +kernel
theorem dX4_check_64 : decode cX4_check 64 = .ok (.if_icmp .ge 58, 3) := by decide +kernel
theorem dX4_check_67 : decode cX4_check 67 = .ok (.aload_n 0, 1) := by decide +kernel
theorem dX4_check_68 : decode cX4_check 68 = .ok (.getfield 22, 3) := by decide +kernel
theorem dX4_check_71 : decode cX4_check 71 = .ok (.aload_n 0, 1) := by decide +kernel
theorem dX4_check_72 : decode cX4_check 72 = .ok (.getfield 135, 3) := by decide +kernel
theorem dX4_check_75 : decode cX4_check 75 = .ok (.baload, 1) := by decide +kernel
theorem dX4_check_76 : decode cX4_check 76 = .ok (.ifCond .eq 46, 3) := by decide +kernel
theorem dX4_check_79 : decode cX4_check 79 = .ok (.aload_n 0, 1) := by decide +kernel
theorem dX4_check_80 : decode cX4_check 80 = .ok (.getfield 132, 3) := by decide +kernel
theorem dX4_check_83 : decode cX4_check 83 = .ok (.ifCond .ne 39, 3) := by decide +kernel
theorem dX4_check_86 : decode cX4_check 86 = .ok (.aload_n 0, 1) := by decide +kernel
theorem dX4_check_87 : decode cX4_check 87 = .ok (.aload_n 0, 1) := by decide +kernel
theorem dX4_check_88 : decode cX4_check 88 = .ok (.aload_n 0, 1) := by decide +kernel
theorem dX4_check_89 : decode cX4_check 89 = .ok (.getfield 135, 3) := by decide +kernel
theorem dX4_check_92 : decode cX4_check 92 = .ok (.invokevirtual 138, 3) := by decide +kernel
theorem dX4_check_95 : decode cX4_check 95 = .ok (.putfield 132, 3) := by decide +kernel
theorem dX4_check_98 : decode cX4_check 98 = .ok (.aload_n 0, 1) := by decide +kernel
theorem dX4_check_99 : decode cX4_check 99 = .ok (.dup, 1) := by decide +kernel
theorem dX4_check_100 : decode cX4_check 100 = .ok (.getfield 135, 3) := by decide +kernel
theorem dX4_check_103 : decode cX4_check 103 = .ok (.aload_n 0, 1) := by decide +kernel
theorem dX4_check_104 : decode cX4_check 104 = .ok (.getfield 132, 3) := by decide +kernel
theorem dX4_check_107 : decode cX4_check 107 = .ok (.ifCond .ne 7, 3) := by decide +kernel
theorem dX4_check_110 : decode cX4_check 110 = .ok (.iconst 1, 1) := by decide +kernel
theorem dX4_check_111 : decode cX4_check 111 = .ok (.goto 4, 3) := by decide +kernel
theorem dX4_check_114 : decode cX4_check 114 = .ok (.iconst 0, 1) := by decide +kernel
theorem dX4_check_115 : decode cX4_check 115 = .ok (.iadd, 1) := by decide +kernel
theorem dX4_check_116 : decode cX4_check 116 = .ok (.putfield 135, 3) := by decide +kernel
theorem dX4_check_119 : decode cX4_check 119 = .ok (.goto (-61), 3) := by decide +kernel
theorem dX4_check_122 : decode cX4_check 122 = .ok (.aload_n 0, 1) := by decide +kernel
theorem dX4_check_123 : decode cX4_check 123 = .ok (.aload_n 0, 1) := by decide +kernel
theorem dX4_check_124 : decode cX4_check 124 = .ok (.getfield 65, 3) := by decide +kernel
theorem dX4_check_127 : decode cX4_check 127 = .ok (.iload_n 1, 1) := by decide +kernel
theorem dX4_check_128 : decode cX4_check 128 = .ok (.isub, 1) := by decide +kernel
theorem dX4_check_129 : decode cX4_check 129 = .ok (.putfield 141, 3) := by decide +kernel
theorem dX4_check_132 : decode cX4_check 132 = .ok (.aload_n 0, 1) := by decide +kernel
theorem dX4_check_133 : decode cX4_check 133 = .ok (.getfield 135, 3) := by decide +kernel
theorem dX4_check_136 : decode cX4_check 136 = .ok (.ireturn, 1) := by decide +kernel
set_option maxRecDepth 20000 in
theorem ggX4_told_X4_within : GoodIn wsX4_told wsX4_within := goodIn_r _ [9] (by decide +kernel) (by decide +kernel)
set_option maxRecDepth 20000 in
theorem gX4_told_X4_within : GoodIn wsX4_told (va_wsS RX4 69 yX4_within wsX4_within) := goodIn_app (goodIn_of _ (by decide +kernel)) ggX4_told_X4_within
theorem dX4_told_0 : decode cX4_told 0 = .ok (.iload_n 1, 1) := by decide +kernel
theorem dX4_told_1 : decode cX4_told 1 = .ok (.iconst 0, 1) := by decide +kernel
theorem dX4_told_2 : decode cX4_told 2 = .ok (.iconst 3, 1) := by decide +kernel
theorem dX4_told_3 : decode cX4_told 3 = .ok (.invokestatic 69, 3) := by decide +kernel
theorem dX4_told_6 : decode cX4_told 6 = .ok (.ifCond .ne 6, 3) := by decide +kernel
theorem dX4_told_9 : decode cX4_told 9 = .ok (.bipush (-3), 2) := by decide +kernel
theorem dX4_told_11 : decode cX4_told 11 = .ok (.ireturn, 1) := by decide +kernel
theorem dX4_told_12 : decode cX4_told 12 = .ok (.aload_n 0, 1) := by decide +kernel
theorem dX4_told_13 : decode cX4_told 13 = .ok (.getfield 128, 3) := by decide +kernel
theorem dX4_told_16 : decode cX4_told 16 = .ok (.ifCond .ne 7, 3) := by decide +kernel
theorem dX4_told_19 : decode cX4_told 19 = .ok (.iconst (-1), 1) := by decide +kernel
theorem dX4_told_20 : decode cX4_told 20 = .ok (.goto 42, 3) := by decide +kernel
theorem dX4_told_23 : decode cX4_told 23 = .ok (.iload_n 1, 1) := by decide +kernel
theorem dX4_told_24 : decode cX4_told 24 = .ok (.ifCond .ne 10, 3) := by decide +kernel
theorem dX4_told_27 : decode cX4_told 27 = .ok (.aload_n 0, 1) := by decide +kernel
theorem dX4_told_28 : decode cX4_told 28 = .ok (.getfield 132, 3) := by decide +kernel
theorem dX4_told_31 : decode cX4_told 31 = .ok (.goto 31, 3) := by decide +kernel
theorem dX4_told_34 : decode cX4_told 34 = .ok (.iload_n 1, 1) := by decide +kernel
theorem dX4_told_35 : decode cX4_told 35 = .ok (.iconst 1, 1) := by decide +kernel
theorem dX4_told_36 : decode cX4_told 36 = .ok (.if_icmp .ne 10, 3) := by decide +kernel
theorem dX4_told_39 : decode cX4_told 39 = .ok (.aload_n 0, 1) := by decide +kernel
theorem dX4_told_40 : decode cX4_told 40 = .ok (.getfield 135, 3) := by decide +kernel
theorem dX4_told_43 : decode cX4_told 43 = .ok (.goto 19, 3) := by decide +kernel
theorem dX4_told_46 : decode cX4_told 46 = .ok (.iload_n 1, 1) := by decide +kernel
theorem dX4_told_47 : decode cX4_told 47 = .ok (.iconst 2, 1) := by decide +kernel
theorem dX4_told_48 : decode cX4_told 48 = .ok (.if_icmp .ne 10, 3) := by decide +kernel
theorem dX4_told_51 : decode cX4_told 51 = .ok (.aload_n 0, 1) := by decide +kernel
theorem dX4_told_52 : decode cX4_told 52 = .ok (.getfield 122, 3) := by decide +kernel
theorem dX4_told_55 : decode cX4_told 55 = .ok (.goto 7, 3) := by decide +kernel
theorem dX4_told_58 : decode cX4_told 58 = .ok (.aload_n 0, 1) := by decide +kernel
theorem dX4_told_59 : decode cX4_told 59 = .ok (.getfield 141, 3) := by decide +kernel
theorem dX4_told_62 : decode cX4_told 62 = .ok (.ireturn, 1) := by decide +kernel
set_option maxRecDepth 20000 in
theorem ggX4_head_X4_isLine : GoodIn wsX4_head wsX4_isLine := goodIn_r _ [5, 6, 7, 4, 8] (by decide +kernel) (by decide +kernel)
set_option maxRecDepth 20000 in
theorem gX4_head_X4_isLine : GoodIn wsX4_head (va_wsS RX4 85 yX4_isLine wsX4_isLine) := goodIn_app (goodIn_of _ (by decide +kernel)) ggX4_head_X4_isLine
theorem dX4_head_0 : decode cX4_head 0 = .ok (.iload_n 1, 1) := by decide +kernel
theorem dX4_head_1 : decode cX4_head 1 = .ok (.invokestatic 85, 3) := by decide +kernel
theorem dX4_head_4 : decode cX4_head 4 = .ok (.ifCond .eq 12, 3) := by decide +kernel
theorem dX4_head_7 : decode cX4_head 7 = .ok (.aload_n 0, 1) := by decide +kernel
theorem dX4_head_8 : decode cX4_head 8 = .ok (.getfield 44, 3) := by decide +kernel
theorem dX4_head_11 : decode cX4_head 11 = .ok (.iload_n 1, 1) := by decide +kernel
theorem dX4_head_12 : decode cX4_head 12 = .ok (.iaload, 1) := by decide +kernel
theorem dX4_head_13 : decode cX4_head 13 = .ok (.goto 5, 3) := by decide +kernel
theorem dX4_head_16 : decode cX4_head 16 = .ok (.bipush (-3), 2) := by decide +kernel
theorem dX4_head_18 : decode cX4_head 18 = .ok (.ireturn, 1) := by decide +kernel
set_option maxRecDepth 20000 in
theorem ggX4_force_X4_isLine : GoodIn wsX4_force wsX4_isLine := goodIn_r _ [4, 5, 6, 3, 7] (by decide +kernel) (by decide +kernel)
set_option maxRecDepth 20000 in
theorem gX4_force_X4_isLine : GoodIn wsX4_force (va_wsS RX4 85 yX4_isLine wsX4_isLine) := goodIn_app (goodIn_of _ (by decide +kernel)) ggX4_force_X4_isLine
set_option maxRecDepth 20000 in
theorem ggX4_force_X4_inForce : GoodIn wsX4_force wsX4_inForce := goodIn_r _ [11, 12, 13, 14, 15, 16, 3, 17, 18, 19, 20, 21, 22, 23, 24, 25, 26, 27, 28, 29, 30, 31, 32, 33, 34, 35, 36, 37, 38, 39, 40, 41, 42, 43, 44] (by decide +kernel) (by decide +kernel)
set_option maxRecDepth 20000 in
theorem gX4_force_X4_inForce : GoodIn wsX4_force (wsV RX4 91 RX4 yX4_inForce wsX4_inForce) := goodIn_app (goodIn_of _ (by decide +kernel)) ggX4_force_X4_inForce
theorem dX4_force_0 : decode cX4_force 0 = .ok (.iload_n 1, 1) := by decide +kernel
theorem dX4_force_1 : decode cX4_force 1 = .ok (.invokestatic 85, 3) := by decide +kernel
theorem dX4_force_4 : decode cX4_force 4 = .ok (.ifCond .ne 8, 3) := by decide +kernel
theorem dX4_force_7 : decode cX4_force 7 = .ok (.bipush (-3), 2) := by decide +kernel
theorem dX4_force_9 : decode cX4_force 9 = .ok (.goto 16, 3) := by decide +kernel
theorem dX4_force_12 : decode cX4_force 12 = .ok (.aload_n 0, 1) := by decide +kernel
theorem dX4_force_13 : decode cX4_force 13 = .ok (.iload_n 1, 1) := by decide +kernel
theorem dX4_force_14 : decode cX4_force 14 = .ok (.invokevirtual 91, 3) := by decide +kernel
theorem dX4_force_17 : decode cX4_force 17 = .ok (.ifCond .eq 7, 3) := by decide +kernel
theorem dX4_force_20 : decode cX4_force 20 = .ok (.iconst 1, 1) := by decide +kernel
theorem dX4_force_21 : decode cX4_force 21 = .ok (.goto 4, 3) := by decide +kernel
theorem dX4_force_24 : decode cX4_force 24 = .ok (.iconst 0, 1) := by decide +kernel
theorem dX4_force_25 : decode cX4_force 25 = .ok (.ireturn, 1) := by decide +kernel
theorem dX4_liesIn_0 : decode cX4_liesIn 0 = .ok (.aload_n 0, 1) := by decide +kernel
theorem dX4_liesIn_1 : decode cX4_liesIn 1 = .ok (.getfield 47, 3) := by decide +kernel
theorem dX4_liesIn_4 : decode cX4_liesIn 4 = .ok (.iload_n 1, 1) := by decide +kernel
theorem dX4_liesIn_5 : decode cX4_liesIn 5 = .ok (.iaload, 1) := by decide +kernel
theorem dX4_liesIn_6 : decode cX4_liesIn 6 = .ok (.istore_n 3, 1) := by decide +kernel
theorem dX4_liesIn_7 : decode cX4_liesIn 7 = .ok (.iload_n 3, 1) := by decide +kernel
theorem dX4_liesIn_8 : decode cX4_liesIn 8 = .ok (.iconst (-1), 1) := by decide +kernel
theorem dX4_liesIn_9 : decode cX4_liesIn 9 = .ok (.if_icmp .eq 18, 3) := by decide +kernel
theorem dX4_liesIn_12 : decode cX4_liesIn 12 = .ok (.iload_n 3, 1) := by decide +kernel
theorem dX4_liesIn_13 : decode cX4_liesIn 13 = .ok (.iload_n 2, 1) := by decide +kernel
theorem dX4_liesIn_14 : decode cX4_liesIn 14 = .ok (.if_icmp .eq 13, 3) := by decide +kernel
theorem dX4_liesIn_17 : decode cX4_liesIn 17 = .ok (.aload_n 0, 1) := by decide +kernel
theorem dX4_liesIn_18 : decode cX4_liesIn 18 = .ok (.getfield 53, 3) := by decide +kernel
theorem dX4_liesIn_21 : decode cX4_liesIn 21 = .ok (.iload_n 3, 1) := by decide +kernel
theorem dX4_liesIn_22 : decode cX4_liesIn 22 = .ok (.iaload, 1) := by decide +kernel
theorem dX4_liesIn_23 : decode cX4_liesIn 23 = .ok (.istore_n 3, 1) := by decide +kernel
theorem dX4_liesIn_24 : decode cX4_liesIn 24 = .ok (.goto (-17), 3) := by decide +kernel
theorem dX4_liesIn_27 : decode cX4_liesIn 27 = .ok (.iload_n 3, 1) := by decide +kernel
theorem dX4_liesIn_28 : decode cX4_liesIn 28 = .ok (.iconst (-1), 1) := by decide +kernel
theorem dX4_liesIn_29 : decode cX4_liesIn 29 = .ok (.if_icmp .eq 7, 3) := by decide +kernel
theorem dX4_liesIn_32 : decode cX4_liesIn 32 = .ok (.iconst 1, 1) := by decide +kernel
theorem dX4_liesIn_33 : decode cX4_liesIn 33 = .ok (.goto 4, 3) := by decide +kernel
theorem dX4_liesIn_36 : decode cX4_liesIn 36 = .ok (.iconst 0, 1) := by decide +kernel
theorem dX4_liesIn_37 : decode cX4_liesIn 37 = .ok (.ireturn, 1) := by decide +kernel
set_option maxRecDepth 20000 in
theorem ggX4_hangsOn_X4_liesIn : GoodIn wsX4_hangsOn wsX4_liesIn := goodIn_r _ [6, 7, 8, 9, 10, 11, 12, 13, 14, 15, 16, 17, 18, 19, 20, 21, 22, 23, 24, 25, 26, 27, 28, 29, 30, 31, 32, 33] (by decide +kernel) (by decide +kernel)
set_option maxRecDepth 20000 in
theorem gX4_hangsOn_X4_liesIn : GoodIn wsX4_hangsOn (wsV RX4 144 RX4 yX4_liesIn wsX4_liesIn) := goodIn_app (goodIn_of _ (by decide +kernel)) ggX4_hangsOn_X4_liesIn
theorem dX4_hangsOn_0 : decode cX4_hangsOn 0 = .ok (.aload_n 0, 1) := by decide +kernel
theorem dX4_hangsOn_1 : decode cX4_hangsOn 1 = .ok (.getfield 41, 3) := by decide +kernel
theorem dX4_hangsOn_4 : decode cX4_hangsOn 4 = .ok (.iload_n 2, 1) := by decide +kernel
theorem dX4_hangsOn_5 : decode cX4_hangsOn 5 = .ok (.iaload, 1) := by decide +kernel
theorem dX4_hangsOn_6 : decode cX4_hangsOn 6 = .ok (.ifCond .ne 8, 3) := by decide +kernel
theorem dX4_hangsOn_9 : decode cX4_hangsOn 9 = .ok (.iload_n 2, 1) := by decide +kernel
theorem dX4_hangsOn_10 : decode cX4_hangsOn 10 = .ok (.iload_n 1, 1) := by decide +kernel
theorem dX4_hangsOn_11 : decode cX4_hangsOn 11 = .ok (.if_icmp .le 22, 3) := by decide +kernel
theorem dX4_hangsOn_14 : decode cX4_hangsOn 14 = .ok (.aload_n 0, 1) := by decide +kernel
theorem dX4_hangsOn_15 : decode cX4_hangsOn 15 = .ok (.getfield 41, 3) := by decide +kernel
theorem dX4_hangsOn_18 : decode cX4_hangsOn 18 = .ok (.iload_n 2, 1) := by decide +kernel
theorem dX4_hangsOn_19 : decode cX4_hangsOn 19 = .ok (.iaload, 1) := by decide +kernel
theorem dX4_hangsOn_20 : decode cX4_hangsOn 20 = .ok (.iconst 1, 1) := by decide +kernel
theorem dX4_hangsOn_21 : decode cX4_hangsOn 21 = .ok (.if_icmp .ne 16, 3) := by decide +kernel
theorem dX4_hangsOn_24 : decode cX4_hangsOn 24 = .ok (.aload_n 0, 1) := by decide +kernel
theorem dX4_hangsOn_25 : decode cX4_hangsOn 25 = .ok (.iload_n 1, 1) := by decide +kernel
theorem dX4_hangsOn_26 : decode cX4_hangsOn 26 = .ok (.iload_n 2, 1) := by decide +kernel
theorem dX4_hangsOn_27 : decode cX4_hangsOn 27 = .ok (.invokevirtual 144, 3) := by decide +kernel
theorem dX4_hangsOn_30 : decode cX4_hangsOn 30 = .ok (.ifCond .eq 7, 3) := by decide +kernel
theorem dX4_hangsOn_33 : decode cX4_hangsOn 33 = .ok (.iconst 1, 1) := by decide +kernel
theorem dX4_hangsOn_34 : decode cX4_hangsOn 34 = .ok (.goto 4, 3) := by decide +kernel
theorem dX4_hangsOn_37 : decode cX4_hangsOn 37 = .ok (.iconst 0, 1) := by decide +kernel
theorem dX4_hangsOn_38 : decode cX4_hangsOn 38 = .ok (.ireturn, 1) := by decide +kernel
set_option maxRecDepth 20000 in
theorem ggX4_hangs_X4_isLine : GoodIn wsX4_hangs wsX4_isLine := goodIn_r _ [5, 6, 7, 4, 8] (by decide +kernel) (by decide +kernel)
set_option maxRecDepth 20000 in
theorem gX4_hangs_X4_isLine : GoodIn wsX4_hangs (va_wsS RX4 85 yX4_isLine wsX4_isLine) := goodIn_app (goodIn_of _ (by decide +kernel)) ggX4_hangs_X4_isLine
set_option maxRecDepth 20000 in
theorem ggX4_hangs_X4_hangsOn : GoodIn wsX4_hangs wsX4_hangsOn := goodIn_r _ [12, 13, 14, 15, 16, 4, 17, 18, 19, 20, 21, 22, 23, 24, 25, 26, 27, 28, 29, 30, 31, 32, 33, 34, 35, 36, 37, 38, 39, 40, 41, 42, 43, 44] (by decide +kernel) (by decide +kernel)
set_option maxRecDepth 20000 in
theorem gX4_hangs_X4_hangsOn : GoodIn wsX4_hangs (wsV RX4 147 RX4 yX4_hangsOn wsX4_hangsOn) := goodIn_app (goodIn_of _ (by decide +kernel)) ggX4_hangs_X4_hangsOn
theorem dX4_hangs_0 : decode cX4_hangs 0 = .ok (.iload_n 1, 1) := by decide +kernel
theorem dX4_hangs_1 : decode cX4_hangs 1 = .ok (.invokestatic 85, 3) := by decide +kernel
theorem dX4_hangs_4 : decode cX4_hangs 4 = .ok (.ifCond .ne 6, 3) := by decide +kernel
theorem dX4_hangs_7 : decode cX4_hangs 7 = .ok (.bipush (-3), 2) := by decide +kernel
theorem dX4_hangs_9 : decode cX4_hangs 9 = .ok (.ireturn, 1) := by decide +kernel
theorem dX4_hangs_10 : decode cX4_hangs 10 = .ok (.iconst 0, 1) := by decide +kernel
theorem dX4_hangs_11 : decode cX4_hangs 11 = .ok (.istore_n 3, 1) := by decide +kernel
theorem dX4_hangs_12 : decode cX4_hangs 12 = .ok (.iconst 0, 1) := by decide +kernel
theorem dX4_hangs_13 : decode cX4_hangs 13 = .ok (.istore 4, 2) := by decide +kernel
theorem dX4_hangs_15 : decode cX4_hangs 15 = .ok (.iload 4, 2) := by decide +kernel
theorem dX4_hangs_17 : decode cX4_hangs 17 = .ok (.iload_n 1, 1) := by decide +kernel
theorem dX4_hangs_18 : decode cX4_hangs 18 = .ok (.if_icmp .gt 40, 3) := by decide +kernel
theorem dX4_hangs_21 : decode cX4_hangs 21 = .ok (.aload_n 0, 1) := by decide +kernel
theorem dX4_hangs_22 : decode cX4_hangs 22 = .ok (.getfield 44, 3) := by decide +kernel
theorem dX4_hangs_25 : decode cX4_hangs 25 = .ok (.iload_n 1, 1) := by decide +kernel
theorem dX4_hangs_26 : decode cX4_hangs 26 = .ok (.iaload, 1) := by decide +kernel
theorem dX4_hangs_27 : decode cX4_hangs 27 = .ok (.iconst (-1), 1) := by decide +kernel
theorem dX4_hangs_28 : decode cX4_hangs 28 = .ok (.if_icmp .eq 30, 3) := by decide +kernel
theorem dX4_hangs_31 : decode cX4_hangs 31 = .ok (.aload_n 0, 1) := by decide +kernel
theorem dX4_hangs_32 : decode cX4_hangs 32 = .ok (.iload_n 1, 1) := by decide +kernel
theorem dX4_hangs_33 : decode cX4_hangs 33 = .ok (.iload 4, 2) := by decide +kernel
theorem dX4_hangs_35 : decode cX4_hangs 35 = .ok (.invokevirtual 147, 3) := by decide +kernel
theorem dX4_hangs_38 : decode cX4_hangs 38 = .ok (.ifCond .eq 14, 3) := by decide +kernel
theorem dX4_hangs_41 : decode cX4_hangs 41 = .ok (.iload_n 3, 1) := by decide +kernel
theorem dX4_hangs_42 : decode cX4_hangs 42 = .ok (.iload_n 2, 1) := by decide +kernel
theorem dX4_hangs_43 : decode cX4_hangs 43 = .ok (.if_icmp .ne 6, 3) := by decide +kernel
theorem dX4_hangs_46 : decode cX4_hangs 46 = .ok (.iload 4, 2) := by decide +kernel
theorem dX4_hangs_48 : decode cX4_hangs 48 = .ok (.ireturn, 1) := by decide +kernel
theorem dX4_hangs_49 : decode cX4_hangs 49 = .ok (.iinc 3 1, 3) := by decide +kernel
theorem dX4_hangs_52 : decode cX4_hangs 52 = .ok (.iinc 4 1, 3) := by decide +kernel
theorem dX4_hangs_55 : decode cX4_hangs 55 = .ok (.goto (-40), 3) := by decide +kernel
theorem dX4_hangs_58 : decode cX4_hangs 58 = .ok (.iconst (-1), 1) := by decide +kernel
theorem dX4_hangs_59 : decode cX4_hangs 59 = .ok (.ireturn, 1) := by decide +kernel
set_option maxRecDepth 20000 in
theorem ggX4_sound_X4_isLine : GoodIn wsX4_sound wsX4_isLine := goodIn_r _ [6, 7, 8, 5, 9] (by decide +kernel) (by decide +kernel)
set_option maxRecDepth 20000 in
theorem gX4_sound_X4_isLine : GoodIn wsX4_sound (va_wsS RX4 85 yX4_isLine wsX4_isLine) := goodIn_app (goodIn_of _ (by decide +kernel)) ggX4_sound_X4_isLine
set_option maxRecDepth 20000 in
theorem ggX4_sound_X4_evaluate : GoodIn wsX4_sound wsX4_evaluate := goodIn_r _ [13, 14, 15, 2, 16, 17, 29, 30, 31, 32, 33, 34, 35, 36, 37, 38, 39, 40, 41, 42, 43, 44, 45, 46, 47, 48, 49, 50, 51, 52, 53] (by decide +kernel) (by decide +kernel)
set_option maxRecDepth 20000 in
theorem gX4_sound_X4_evaluate : GoodIn wsX4_sound (wsV RX4 81 RX4 yX4_evaluate wsX4_evaluate) := goodIn_app (goodIn_of _ (by decide +kernel)) ggX4_sound_X4_evaluate
set_option maxRecDepth 20000 in
theorem ggX4_sound_X4_hangsOn : GoodIn wsX4_sound wsX4_hangsOn := goodIn_r _ [21, 22, 23, 24, 25, 5, 26, 27, 28, 29, 30, 31, 32, 33, 34, 35, 36, 37, 38, 39, 40, 41, 42, 43, 44, 45, 46, 47, 48, 49, 50, 51, 52, 53] (by decide +kernel) (by decide +kernel)
set_option maxRecDepth 20000 in
theorem gX4_sound_X4_hangsOn : GoodIn wsX4_sound (wsV RX4 147 RX4 yX4_hangsOn wsX4_hangsOn) := goodIn_app (goodIn_of _ (by decide +kernel)) ggX4_sound_X4_hangsOn
theorem dX4_sound_0 : decode cX4_sound 0 = .ok (.iload_n 1, 1) := by decide +kernel
theorem dX4_sound_1 : decode cX4_sound 1 = .ok (.invokestatic 85, 3) := by decide +kernel
theorem dX4_sound_4 : decode cX4_sound 4 = .ok (.ifCond .ne 6, 3) := by decide +kernel
theorem dX4_sound_7 : decode cX4_sound 7 = .ok (.bipush (-3), 2) := by decide +kernel
theorem dX4_sound_9 : decode cX4_sound 9 = .ok (.ireturn, 1) := by decide +kernel
theorem dX4_sound_10 : decode cX4_sound 10 = .ok (.aload_n 0, 1) := by decide +kernel
theorem dX4_sound_11 : decode cX4_sound 11 = .ok (.getfield 44, 3) := by decide +kernel
theorem dX4_sound_14 : decode cX4_sound 14 = .ok (.iload_n 1, 1) := by decide +kernel
theorem dX4_sound_15 : decode cX4_sound 15 = .ok (.iaload, 1) := by decide +kernel
theorem dX4_sound_16 : decode cX4_sound 16 = .ok (.iconst (-1), 1) := by decide +kernel
theorem dX4_sound_17 : decode cX4_sound 17 = .ok (.if_icmp .ne 5, 3) := by decide +kernel
theorem dX4_sound_20 : decode cX4_sound 20 = .ok (.iconst (-1), 1) := by decide +kernel
theorem dX4_sound_21 : decode cX4_sound 21 = .ok (.ireturn, 1) := by decide +kernel
theorem dX4_sound_22 : decode cX4_sound 22 = .ok (.iconst 1, 1) := by decide +kernel
theorem dX4_sound_23 : decode cX4_sound 23 = .ok (.istore_n 2, 1) := by decide +kernel
theorem dX4_sound_24 : decode cX4_sound 24 = .ok (.iconst 0, 1) := by decide +kernel
theorem dX4_sound_25 : decode cX4_sound 25 = .ok (.istore_n 3, 1) := by decide +kernel
theorem dX4_sound_26 : decode cX4_sound 26 = .ok (.iload_n 3, 1) := by decide +kernel
theorem dX4_sound_27 : decode cX4_sound 27 = .ok (.bipush 64, 2) := by decide +kernel
theorem dX4_sound_29 : decode cX4_sound 29 = .ok (.if_icmp .ge 98, 3) := by decide +kernel
theorem dX4_sound_32 : decode cX4_sound 32 = .ok (.aload_n 0, 1) := by decide +kernel
theorem dX4_sound_33 : decode cX4_sound 33 = .ok (.iload_n 3, 1) := by decide +kernel
theorem dX4_sound_34 : decode cX4_sound 34 = .ok (.invokevirtual 81, 3) := by decide +kernel
theorem dX4_sound_37 : decode cX4_sound 37 = .ok (.iconst 1, 1) := by decide +kernel
theorem dX4_sound_38 : decode cX4_sound 38 = .ok (.istore 4, 2) := by decide +kernel
theorem dX4_sound_40 : decode cX4_sound 40 = .ok (.iconst 0, 1) := by decide +kernel
theorem dX4_sound_41 : decode cX4_sound 41 = .ok (.istore 5, 2) := by decide +kernel
theorem dX4_sound_43 : decode cX4_sound 43 = .ok (.iload 5, 2) := by decide +kernel
theorem dX4_sound_45 : decode cX4_sound 45 = .ok (.iload_n 1, 1) := by decide +kernel
theorem dX4_sound_46 : decode cX4_sound 46 = .ok (.if_icmp .gt 46, 3) := by decide +kernel
theorem dX4_sound_49 : decode cX4_sound 49 = .ok (.iload 4, 2) := by decide +kernel
theorem dX4_sound_51 : decode cX4_sound 51 = .ok (.ifCond .eq 32, 3) := by decide +kernel
theorem dX4_sound_54 : decode cX4_sound 54 = .ok (.aload_n 0, 1) := by decide +kernel
theorem dX4_sound_55 : decode cX4_sound 55 = .ok (.iload_n 1, 1) := by decide +kernel
theorem dX4_sound_56 : decode cX4_sound 56 = .ok (.iload 5, 2) := by decide +kernel
theorem dX4_sound_58 : decode cX4_sound 58 = .ok (.invokevirtual 147, 3) := by decide +kernel
theorem dX4_sound_61 : decode cX4_sound 61 = .ok (.ifCond .eq 18, 3) := by decide +kernel
theorem dX4_sound_64 : decode cX4_sound 64 = .ok (.aload_n 0, 1) := by decide +kernel
theorem dX4_sound_65 : decode cX4_sound 65 = .ok (.getfield 56, 3) := by decide +kernel
theorem dX4_sound_68 : decode cX4_sound 68 = .ok (.aload_n 0, 1) := by decide +kernel
theorem dX4_sound_69 : decode cX4_sound 69 = .ok (.getfield 44, 3) := by decide +kernel
theorem dX4_sound_72 : decode cX4_sound 72 = .ok (.iload 5, 2) := by decide +kernel
theorem dX4_sound_74 : decode cX4_sound 74 = .ok (.iaload, 1) := by decide +kernel
theorem dX4_sound_75 : decode cX4_sound 75 = .ok (.baload, 1) := by decide +kernel
theorem dX4_sound_76 : decode cX4_sound 76 = .ok (.ifCond .eq 7, 3) := by decide +kernel
theorem dX4_sound_79 : decode cX4_sound 79 = .ok (.iconst 1, 1) := by decide +kernel
theorem dX4_sound_80 : decode cX4_sound 80 = .ok (.goto 4, 3) := by decide +kernel
theorem dX4_sound_83 : decode cX4_sound 83 = .ok (.iconst 0, 1) := by decide +kernel
theorem dX4_sound_84 : decode cX4_sound 84 = .ok (.istore 4, 2) := by decide +kernel
theorem dX4_sound_86 : decode cX4_sound 86 = .ok (.iinc 5 1, 3) := by decide +kernel
theorem dX4_sound_89 : decode cX4_sound 89 = .ok (.goto (-46), 3) := by decide +kernel
theorem dX4_sound_92 : decode cX4_sound 92 = .ok (.iload_n 2, 1) := by decide +kernel
theorem dX4_sound_93 : decode cX4_sound 93 = .ok (.ifCond .eq 26, 3) := by decide +kernel
theorem dX4_sound_96 : decode cX4_sound 96 = .ok (.iload 4, 2) := by decide +kernel
theorem dX4_sound_98 : decode cX4_sound 98 = .ok (.ifCond .eq 17, 3) := by decide +kernel
theorem dX4_sound_101 : decode cX4_sound 101 = .ok (.aload_n 0, 1) := by decide +kernel
theorem dX4_sound_102 : decode cX4_sound 102 = .ok (.getfield 56, 3) := by decide +kernel
theorem dX4_sound_105 : decode cX4_sound 105 = .ok (.aload_n 0, 1) := by decide +kernel
theorem dX4_sound_106 : decode cX4_sound 106 = .ok (.getfield 44, 3) := by decide +kernel
theorem dX4_sound_109 : decode cX4_sound 109 = .ok (.iload_n 1, 1) := by decide +kernel
theorem dX4_sound_110 : decode cX4_sound 110 = .ok (.iaload, 1) := by decide +kernel
theorem dX4_sound_111 : decode cX4_sound 111 = .ok (.baload, 1) := by decide +kernel
theorem dX4_sound_112 : decode cX4_sound 112 = .ok (.ifCond .eq 7, 3) := by decide +kernel
theorem dX4_sound_115 : decode cX4_sound 115 = .ok (.iconst 1, 1) := by decide +kernel
theorem dX4_sound_116 : decode cX4_sound 116 = .ok (.goto 4, 3) := by decide +kernel
theorem dX4_sound_119 : decode cX4_sound 119 = .ok (.iconst 0, 1) := by decide +kernel
theorem dX4_sound_120 : decode cX4_sound 120 = .ok (.istore_n 2, 1) := by decide +kernel
theorem dX4_sound_121 : decode cX4_sound 121 = .ok (.iinc 3 1, 3) := by decide +kernel
theorem dX4_sound_124 : decode cX4_sound 124 = .ok (.goto (-98), 3) := by decide +kernel
theorem dX4_sound_127 : decode cX4_sound 127 = .ok (.iload_n 2, 1) := by decide +kernel
theorem dX4_sound_128 : decode cX4_sound 128 = .ok (.ifCond .eq 7, 3) := by decide +kernel
theorem dX4_sound_131 : decode cX4_sound 131 = .ok (.iconst 1, 1) := by decide +kernel
theorem dX4_sound_132 : decode cX4_sound 132 = .ok (.goto 4, 3) := by decide +kernel
theorem dX4_sound_135 : decode cX4_sound 135 = .ok (.iconst 0, 1) := by decide +kernel
theorem dX4_sound_136 : decode cX4_sound 136 = .ok (.ireturn, 1) := by decide +kernel
