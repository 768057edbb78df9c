abbrev b_Md_work : ByteArray := prog_12_method_36_code
def y_Md_work : MethodName := ⟨"LeasedBuildsModel", "work", "(I)V"⟩
def w_Md_work : List Cond := .code y_Md_work b_Md_work 6 none :: WS
abbrev b_Md_lend : ByteArray := prog_12_method_40_code
def y_Md_lend : MethodName := ⟨"LeasedBuildsModel", "lend", "()V"⟩
def w_Md_lend : List Cond := .code y_Md_lend b_Md_lend 5 none :: WS
abbrev b_Md_takeLack : ByteArray := prog_12_method_29_code
def y_Md_takeLack : MethodName := ⟨"LeasedBuildsModel", "takeLack", "(III)V"⟩
def w_Md_takeLack : List Cond := .code y_Md_takeLack b_Md_takeLack 6 none :: WS
theorem d_Md_work_0 : decode b_Md_work 0 = .ok (.aload_n 0, 1) := by decide +kernel
theorem d_Md_work_1 : decode b_Md_work 1 = .ok (.getfield 66, 3) := by decide +kernel
theorem d_Md_work_4 : decode b_Md_work 4 = .ok (.iload_n 1, 1) := by decide +kernel
theorem d_Md_work_5 : decode b_Md_work 5 = .ok (.iaload, 1) := by decide +kernel
theorem d_Md_work_6 : decode b_Md_work 6 = .ok (.iconst 1, 1) := by decide +kernel
theorem d_Md_work_7 : decode b_Md_work 7 = .ok (.isub, 1) := by decide +kernel
theorem d_Md_work_8 : decode b_Md_work 8 = .ok (.istore_n 2, 1) := by decide +kernel
theorem d_Md_work_9 : decode b_Md_work 9 = .ok (.aload_n 0, 1) := by decide +kernel
theorem d_Md_work_10 : decode b_Md_work 10 = .ok (.getfield 39, 3) := by decide +kernel
theorem d_Md_work_13 : decode b_Md_work 13 = .ok (.iload_n 2, 1) := by decide +kernel
theorem d_Md_work_14 : decode b_Md_work 14 = .ok (.laload, 1) := by decide +kernel
theorem d_Md_work_15 : decode b_Md_work 15 = .ok (.lstore_n 3, 1) := by decide +kernel
theorem d_Md_work_16 : decode b_Md_work 16 = .ok (.aload_n 0, 1) := by decide +kernel
theorem d_Md_work_17 : decode b_Md_work 17 = .ok (.aload_n 0, 1) := by decide +kernel
theorem d_Md_work_18 : decode b_Md_work 18 = .ok (.getfield 69, 3) := by decide +kernel
theorem d_Md_work_21 : decode b_Md_work 21 = .ok (.iload_n 1, 1) := by decide +kernel
theorem d_Md_work_22 : decode b_Md_work 22 = .ok (.iaload, 1) := by decide +kernel
theorem d_Md_work_23 : decode b_Md_work 23 = .ok (.putfield 226, 3) := by decide +kernel
theorem d_Md_work_26 : decode b_Md_work 26 = .ok (.aload_n 0, 1) := by decide +kernel
theorem d_Md_work_27 : decode b_Md_work 27 = .ok (.aload_n 0, 1) := by decide +kernel
theorem d_Md_work_28 : decode b_Md_work 28 = .ok (.getfield 72, 3) := by decide +kernel
theorem d_Md_work_31 : decode b_Md_work 31 = .ok (.iload_n 1, 1) := by decide +kernel
theorem d_Md_work_32 : decode b_Md_work 32 = .ok (.iaload, 1) := by decide +kernel
theorem d_Md_work_33 : decode b_Md_work 33 = .ok (.putfield 229, 3) := by decide +kernel
theorem d_Md_work_36 : decode b_Md_work 36 = .ok (.aload_n 0, 1) := by decide +kernel
theorem d_Md_work_37 : decode b_Md_work 37 = .ok (.iconst 0, 1) := by decide +kernel
theorem d_Md_work_38 : decode b_Md_work 38 = .ok (.putfield 232, 3) := by decide +kernel
theorem d_Md_work_41 : decode b_Md_work 41 = .ok (.iconst 0, 1) := by decide +kernel
theorem d_Md_work_42 : decode b_Md_work 42 = .ok (.istore 5, 2) := by decide +kernel
theorem d_Md_work_44 : decode b_Md_work 44 = .ok (.iload 5, 2) := by decide +kernel
theorem d_Md_work_46 : decode b_Md_work 46 = .ok (.aload_n 0, 1) := by decide +kernel
theorem d_Md_work_47 : decode b_Md_work 47 = .ok (.getfield 75, 3) := by decide +kernel
theorem d_Md_work_50 : decode b_Md_work 50 = .ok (.iload_n 1, 1) := by decide +kernel
theorem d_Md_work_51 : decode b_Md_work 51 = .ok (.iaload, 1) := by decide +kernel
theorem d_Md_work_52 : decode b_Md_work 52 = .ok (.if_icmp .ge 21, 3) := by decide +kernel
theorem d_Md_work_55 : decode b_Md_work 55 = .ok (.aload_n 0, 1) := by decide +kernel
theorem d_Md_work_56 : decode b_Md_work 56 = .ok (.lload_n 3, 1) := by decide +kernel
theorem d_Md_work_57 : decode b_Md_work 57 = .ok (.aload_n 0, 1) := by decide +kernel
theorem d_Md_work_58 : decode b_Md_work 58 = .ok (.getfield 232, 3) := by decide +kernel
theorem d_Md_work_61 : decode b_Md_work 61 = .ok (.invokestatic 235, 3) := by decide +kernel
theorem d_Md_work_64 : decode b_Md_work 64 = .ok (.invokevirtual 239, 3) := by decide +kernel
theorem d_Md_work_67 : decode b_Md_work 67 = .ok (.iinc 5 1, 3) := by decide +kernel
theorem d_Md_work_70 : decode b_Md_work 70 = .ok (.goto (-26), 3) := by decide +kernel
theorem d_Md_work_73 : decode b_Md_work 73 = .ok (.lload_n 3, 1) := by decide +kernel
theorem d_Md_work_74 : decode b_Md_work 74 = .ok (.aload_n 0, 1) := by decide +kernel
theorem d_Md_work_75 : decode b_Md_work 75 = .ok (.getfield 232, 3) := by decide +kernel
theorem d_Md_work_78 : decode b_Md_work 78 = .ok (.invokestatic 235, 3) := by decide +kernel
theorem d_Md_work_81 : decode b_Md_work 81 = .ok (.ifCond .le 14, 3) := by decide +kernel
theorem d_Md_work_84 : decode b_Md_work 84 = .ok (.aload_n 0, 1) := by decide +kernel
theorem d_Md_work_85 : decode b_Md_work 85 = .ok (.getfield 75, 3) := by decide +kernel
theorem d_Md_work_88 : decode b_Md_work 88 = .ok (.iload_n 1, 1) := by decide +kernel
theorem d_Md_work_89 : decode b_Md_work 89 = .ok (.dup2, 1) := by decide +kernel
theorem d_Md_work_90 : decode b_Md_work 90 = .ok (.iaload, 1) := by decide +kernel
theorem d_Md_work_91 : decode b_Md_work 91 = .ok (.iconst 1, 1) := by decide +kernel
theorem d_Md_work_92 : decode b_Md_work 92 = .ok (.iadd, 1) := by decide +kernel
theorem d_Md_work_93 : decode b_Md_work 93 = .ok (.iastore, 1) := by decide +kernel
theorem d_Md_work_94 : decode b_Md_work 94 = .ok (.return_, 1) := by decide +kernel
theorem d_Md_work_95 : decode b_Md_work 95 = .ok (.aload_n 0, 1) := by decide +kernel
theorem d_Md_work_96 : decode b_Md_work 96 = .ok (.iconst 5, 1) := by decide +kernel
theorem d_Md_work_97 : decode b_Md_work 97 = .ok (.iconst 0, 1) := by decide +kernel
theorem d_Md_work_98 : decode b_Md_work 98 = .ok (.iload_n 2, 1) := by decide +kernel
theorem d_Md_work_99 : decode b_Md_work 99 = .ok (.iconst 0, 1) := by decide +kernel
theorem d_Md_work_100 : decode b_Md_work 100 = .ok (.aload_n 0, 1) := by decide +kernel
theorem d_Md_work_101 : decode b_Md_work 101 = .ok (.getfield 226, 3) := by decide +kernel
theorem d_Md_work_104 : decode b_Md_work 104 = .ok (.iconst 0, 1) := by decide +kernel
theorem d_Md_work_105 : decode b_Md_work 105 = .ok (.aload_n 0, 1) := by decide +kernel
theorem d_Md_work_106 : decode b_Md_work 106 = .ok (.aload_n 0, 1) := by decide +kernel
theorem d_Md_work_107 : decode b_Md_work 107 = .ok (.getfield 226, 3) := by decide +kernel
theorem d_Md_work_110 : decode b_Md_work 110 = .ok (.invokevirtual 118, 3) := by decide +kernel
theorem d_Md_work_113 : decode b_Md_work 113 = .ok (.invokevirtual 134, 3) := by decide +kernel
theorem d_Md_work_116 : decode b_Md_work 116 = .ok (.aload_n 0, 1) := by decide +kernel
theorem d_Md_work_117 : decode b_Md_work 117 = .ok (.getfield 66, 3) := by decide +kernel
theorem d_Md_work_120 : decode b_Md_work 120 = .ok (.iload_n 1, 1) := by decide +kernel
theorem d_Md_work_121 : decode b_Md_work 121 = .ok (.iconst 0, 1) := by decide +kernel
theorem d_Md_work_122 : decode b_Md_work 122 = .ok (.iastore, 1) := by decide +kernel
theorem d_Md_work_123 : decode b_Md_work 123 = .ok (.return_, 1) := by decide +kernel
theorem d_Md_lend_0 : decode b_Md_lend 0 = .ok (.iconst (-1), 1) := by decide +kernel
theorem d_Md_lend_1 : decode b_Md_lend 1 = .ok (.istore_n 1, 1) := by decide +kernel
theorem d_Md_lend_2 : decode b_Md_lend 2 = .ok (.iconst 0, 1) := by decide +kernel
theorem d_Md_lend_3 : decode b_Md_lend 3 = .ok (.istore_n 2, 1) := by decide +kernel
theorem d_Md_lend_4 : decode b_Md_lend 4 = .ok (.iload_n 2, 1) := by decide +kernel
theorem d_Md_lend_5 : decode b_Md_lend 5 = .ok (.aload_n 0, 1) := by decide +kernel
theorem d_Md_lend_6 : decode b_Md_lend 6 = .ok (.getfield 122, 3) := by decide +kernel
theorem d_Md_lend_9 : decode b_Md_lend 9 = .ok (.if_icmp .ge 39, 3) := by decide +kernel
theorem d_Md_lend_12 : decode b_Md_lend 12 = .ok (.aload_n 0, 1) := by decide +kernel
theorem d_Md_lend_13 : decode b_Md_lend 13 = .ok (.getfield 54, 3) := by decide +kernel
theorem d_Md_lend_16 : decode b_Md_lend 16 = .ok (.iload_n 2, 1) := by decide +kernel
theorem d_Md_lend_17 : decode b_Md_lend 17 = .ok (.iaload, 1) := by decide +kernel
theorem d_Md_lend_18 : decode b_Md_lend 18 = .ok (.ifCond .le 24, 3) := by decide +kernel
theorem d_Md_lend_21 : decode b_Md_lend 21 = .ok (.iload_n 1, 1) := by decide +kernel
theorem d_Md_lend_22 : decode b_Md_lend 22 = .ok (.ifCond .lt 18, 3) := by decide +kernel
theorem d_Md_lend_25 : decode b_Md_lend 25 = .ok (.aload_n 0, 1) := by decide +kernel
theorem d_Md_lend_26 : decode b_Md_lend 26 = .ok (.getfield 54, 3) := by decide +kernel
theorem d_Md_lend_29 : decode b_Md_lend 29 = .ok (.iload_n 2, 1) := by decide +kernel
theorem d_Md_lend_30 : decode b_Md_lend 30 = .ok (.iaload, 1) := by decide +kernel
theorem d_Md_lend_31 : decode b_Md_lend 31 = .ok (.aload_n 0, 1) := by decide +kernel
theorem d_Md_lend_32 : decode b_Md_lend 32 = .ok (.getfield 54, 3) := by decide +kernel
theorem d_Md_lend_35 : decode b_Md_lend 35 = .ok (.iload_n 1, 1) := by decide +kernel
theorem d_Md_lend_36 : decode b_Md_lend 36 = .ok (.iaload, 1) := by decide +kernel
theorem d_Md_lend_37 : decode b_Md_lend 37 = .ok (.if_icmp .ge 5, 3) := by decide +kernel
theorem d_Md_lend_40 : decode b_Md_lend 40 = .ok (.iload_n 2, 1) := by decide +kernel
theorem d_Md_lend_41 : decode b_Md_lend 41 = .ok (.istore_n 1, 1) := by decide +kernel
theorem d_Md_lend_42 : decode b_Md_lend 42 = .ok (.iinc 2 1, 3) := by decide +kernel
theorem d_Md_lend_45 : decode b_Md_lend 45 = .ok (.goto (-41), 3) := by decide +kernel
theorem d_Md_lend_48 : decode b_Md_lend 48 = .ok (.iconst 0, 1) := by decide +kernel
theorem d_Md_lend_49 : decode b_Md_lend 49 = .ok (.istore_n 2, 1) := by decide +kernel
theorem d_Md_lend_50 : decode b_Md_lend 50 = .ok (.aload_n 0, 1) := by decide +kernel
theorem d_Md_lend_51 : decode b_Md_lend 51 = .ok (.getfield 102, 3) := by decide +kernel
theorem d_Md_lend_54 : decode b_Md_lend 54 = .ok (.istore_n 3, 1) := by decide +kernel
theorem d_Md_lend_55 : decode b_Md_lend 55 = .ok (.iload_n 3, 1) := by decide +kernel
theorem d_Md_lend_56 : decode b_Md_lend 56 = .ok (.iconst 1, 1) := by decide +kernel
theorem d_Md_lend_57 : decode b_Md_lend 57 = .ok (.if_icmp .lt 38, 3) := by decide +kernel
theorem d_Md_lend_60 : decode b_Md_lend 60 = .ok (.aload_n 0, 1) := by decide +kernel
theorem d_Md_lend_61 : decode b_Md_lend 61 = .ok (.getfield 156, 3) := by decide +kernel
theorem d_Md_lend_64 : decode b_Md_lend 64 = .ok (.iconst 1, 1) := by decide +kernel
theorem d_Md_lend_65 : decode b_Md_lend 65 = .ok (.isub, 1) := by decide +kernel
theorem d_Md_lend_66 : decode b_Md_lend 66 = .ok (.iload_n 3, 1) := by decide +kernel
theorem d_Md_lend_67 : decode b_Md_lend 67 = .ok (.iadd, 1) := by decide +kernel
theorem d_Md_lend_68 : decode b_Md_lend 68 = .ok (.aload_n 0, 1) := by decide +kernel
theorem d_Md_lend_69 : decode b_Md_lend 69 = .ok (.getfield 102, 3) := by decide +kernel
theorem d_Md_lend_72 : decode b_Md_lend 72 = .ok (.irem, 1) := by decide +kernel
theorem d_Md_lend_73 : decode b_Md_lend 73 = .ok (.iconst 1, 1) := by decide +kernel
theorem d_Md_lend_74 : decode b_Md_lend 74 = .ok (.iadd, 1) := by decide +kernel
theorem d_Md_lend_75 : decode b_Md_lend 75 = .ok (.istore 4, 2) := by decide +kernel
theorem d_Md_lend_77 : decode b_Md_lend 77 = .ok (.aload_n 0, 1) := by decide +kernel
theorem d_Md_lend_78 : decode b_Md_lend 78 = .ok (.iload 4, 2) := by decide +kernel
theorem d_Md_lend_80 : decode b_Md_lend 80 = .ok (.invokevirtual 242, 3) := by decide +kernel
theorem d_Md_lend_83 : decode b_Md_lend 83 = .ok (.ifCond .ge 6, 3) := by decide +kernel
theorem d_Md_lend_86 : decode b_Md_lend 86 = .ok (.iload 4, 2) := by decide +kernel
theorem d_Md_lend_88 : decode b_Md_lend 88 = .ok (.istore_n 2, 1) := by decide +kernel
theorem d_Md_lend_89 : decode b_Md_lend 89 = .ok (.iinc 3 (-1), 3) := by decide +kernel
theorem d_Md_lend_92 : decode b_Md_lend 92 = .ok (.goto (-37), 3) := by decide +kernel
theorem d_Md_lend_95 : decode b_Md_lend 95 = .ok (.iload_n 1, 1) := by decide +kernel
theorem d_Md_lend_96 : decode b_Md_lend 96 = .ok (.ifCond .lt 7, 3) := by decide +kernel
theorem d_Md_lend_99 : decode b_Md_lend 99 = .ok (.iload_n 2, 1) := by decide +kernel
theorem d_Md_lend_100 : decode b_Md_lend 100 = .ok (.ifCond .ne 4, 3) := by decide +kernel
theorem d_Md_lend_103 : decode b_Md_lend 103 = .ok (.return_, 1) := by decide +kernel
theorem d_Md_lend_104 : decode b_Md_lend 104 = .ok (.aload_n 0, 1) := by decide +kernel
theorem d_Md_lend_105 : decode b_Md_lend 105 = .ok (.getfield 54, 3) := by decide +kernel
theorem d_Md_lend_108 : decode b_Md_lend 108 = .ok (.iload_n 1, 1) := by decide +kernel
theorem d_Md_lend_109 : decode b_Md_lend 109 = .ok (.iconst 0, 1) := by decide +kernel
theorem d_Md_lend_110 : decode b_Md_lend 110 = .ok (.iastore, 1) := by decide +kernel
theorem d_Md_lend_111 : decode b_Md_lend 111 = .ok (.aload_n 0, 1) := by decide +kernel
theorem d_Md_lend_112 : decode b_Md_lend 112 = .ok (.getfield 57, 3) := by decide +kernel
theorem d_Md_lend_115 : decode b_Md_lend 115 = .ok (.iload_n 1, 1) := by decide +kernel
theorem d_Md_lend_116 : decode b_Md_lend 116 = .ok (.iload_n 2, 1) := by decide +kernel
theorem d_Md_lend_117 : decode b_Md_lend 117 = .ok (.iastore, 1) := by decide +kernel
theorem d_Md_lend_118 : decode b_Md_lend 118 = .ok (.aload_n 0, 1) := by decide +kernel
theorem d_Md_lend_119 : decode b_Md_lend 119 = .ok (.getfield 60, 3) := by decide +kernel
theorem d_Md_lend_122 : decode b_Md_lend 122 = .ok (.iload_n 1, 1) := by decide +kernel
theorem d_Md_lend_123 : decode b_Md_lend 123 = .ok (.aload_n 0, 1) := by decide +kernel
theorem d_Md_lend_124 : decode b_Md_lend 124 = .ok (.getfield 138, 3) := by decide +kernel
theorem d_Md_lend_127 : decode b_Md_lend 127 = .ok (.aload_n 0, 1) := by decide +kernel
theorem d_Md_lend_128 : decode b_Md_lend 128 = .ok (.getfield 106, 3) := by decide +kernel
theorem d_Md_lend_131 : decode b_Md_lend 131 = .ok (.iadd, 1) := by decide +kernel
theorem d_Md_lend_132 : decode b_Md_lend 132 = .ok (.iastore, 1) := by decide +kernel
theorem d_Md_lend_133 : decode b_Md_lend 133 = .ok (.aload_n 0, 1) := by decide +kernel
theorem d_Md_lend_134 : decode b_Md_lend 134 = .ok (.iload_n 2, 1) := by decide +kernel
theorem d_Md_lend_135 : decode b_Md_lend 135 = .ok (.putfield 156, 3) := by decide +kernel
theorem d_Md_lend_138 : decode b_Md_lend 138 = .ok (.aload_n 0, 1) := by decide +kernel
theorem d_Md_lend_139 : decode b_Md_lend 139 = .ok (.dup, 1) := by decide +kernel
theorem d_Md_lend_140 : decode b_Md_lend 140 = .ok (.getfield 245, 3) := by decide +kernel
theorem d_Md_lend_143 : decode b_Md_lend 143 = .ok (.iconst 1, 1) := by decide +kernel
theorem d_Md_lend_144 : decode b_Md_lend 144 = .ok (.iadd, 1) := by decide +kernel
theorem d_Md_lend_145 : decode b_Md_lend 145 = .ok (.putfield 245, 3) := by decide +kernel
theorem d_Md_lend_148 : decode b_Md_lend 148 = .ok (.aload_n 0, 1) := by decide +kernel
theorem d_Md_lend_149 : decode b_Md_lend 149 = .ok (.aload_n 0, 1) := by decide +kernel
theorem d_Md_lend_150 : decode b_Md_lend 150 = .ok (.getfield 42, 3) := by decide +kernel
theorem d_Md_lend_153 : decode b_Md_lend 153 = .ok (.iload_n 1, 1) := by decide +kernel
theorem d_Md_lend_154 : decode b_Md_lend 154 = .ok (.iaload, 1) := by decide +kernel
theorem d_Md_lend_155 : decode b_Md_lend 155 = .ok (.invokevirtual 150, 3) := by decide +kernel
theorem d_Md_lend_158 : decode b_Md_lend 158 = .ok (.istore_n 3, 1) := by decide +kernel
theorem d_Md_lend_159 : decode b_Md_lend 159 = .ok (.aload_n 0, 1) := by decide +kernel
theorem d_Md_lend_160 : decode b_Md_lend 160 = .ok (.aload_n 0, 1) := by decide +kernel
theorem d_Md_lend_161 : decode b_Md_lend 161 = .ok (.getfield 45, 3) := by decide +kernel
theorem d_Md_lend_164 : decode b_Md_lend 164 = .ok (.iload_n 1, 1) := by decide +kernel
theorem d_Md_lend_165 : decode b_Md_lend 165 = .ok (.iaload, 1) := by decide +kernel
theorem d_Md_lend_166 : decode b_Md_lend 166 = .ok (.invokevirtual 150, 3) := by decide +kernel
theorem d_Md_lend_169 : decode b_Md_lend 169 = .ok (.istore 4, 2) := by decide +kernel
theorem d_Md_lend_171 : decode b_Md_lend 171 = .ok (.aload_n 0, 1) := by decide +kernel
theorem d_Md_lend_172 : decode b_Md_lend 172 = .ok (.iconst 4, 1) := by decide +kernel
theorem d_Md_lend_173 : decode b_Md_lend 173 = .ok (.iload_n 2, 1) := by decide +kernel
theorem d_Md_lend_174 : decode b_Md_lend 174 = .ok (.iload_n 1, 1) := by decide +kernel
theorem d_Md_lend_175 : decode b_Md_lend 175 = .ok (.iconst 0, 1) := by decide +kernel
theorem d_Md_lend_176 : decode b_Md_lend 176 = .ok (.iload_n 3, 1) := by decide +kernel
theorem d_Md_lend_177 : decode b_Md_lend 177 = .ok (.ifCond .ge 7, 3) := by decide +kernel
theorem d_Md_lend_180 : decode b_Md_lend 180 = .ok (.iconst 0, 1) := by decide +kernel
theorem d_Md_lend_181 : decode b_Md_lend 181 = .ok (.goto 9, 3) := by decide +kernel
theorem d_Md_lend_184 : decode b_Md_lend 184 = .ok (.aload_n 0, 1) := by decide +kernel
theorem d_Md_lend_185 : decode b_Md_lend 185 = .ok (.getfield 63, 3) := by decide +kernel
theorem d_Md_lend_188 : decode b_Md_lend 188 = .ok (.iload_n 3, 1) := by decide +kernel
theorem d_Md_lend_189 : decode b_Md_lend 189 = .ok (.iaload, 1) := by decide +kernel
theorem d_Md_lend_190 : decode b_Md_lend 190 = .ok (.iload 4, 2) := by decide +kernel
theorem d_Md_lend_192 : decode b_Md_lend 192 = .ok (.ifCond .ge 7, 3) := by decide +kernel
theorem d_Md_lend_195 : decode b_Md_lend 195 = .ok (.iconst 0, 1) := by decide +kernel
theorem d_Md_lend_196 : decode b_Md_lend 196 = .ok (.goto 10, 3) := by decide +kernel
theorem d_Md_lend_199 : decode b_Md_lend 199 = .ok (.aload_n 0, 1) := by decide +kernel
theorem d_Md_lend_200 : decode b_Md_lend 200 = .ok (.getfield 63, 3) := by decide +kernel
theorem d_Md_lend_203 : decode b_Md_lend 203 = .ok (.iload 4, 2) := by decide +kernel
theorem d_Md_lend_205 : decode b_Md_lend 205 = .ok (.iaload, 1) := by decide +kernel
theorem d_Md_lend_206 : decode b_Md_lend 206 = .ok (.iconst 0, 1) := by decide +kernel
theorem d_Md_lend_207 : decode b_Md_lend 207 = .ok (.invokevirtual 134, 3) := by decide +kernel
theorem d_Md_lend_210 : decode b_Md_lend 210 = .ok (.return_, 1) := by decide +kernel
theorem d_Md_takeLack_0 : decode b_Md_takeLack 0 = .ok (.aload_n 0, 1) := by decide +kernel
theorem d_Md_takeLack_1 : decode b_Md_takeLack 1 = .ok (.getfield 27, 3) := by decide +kernel
theorem d_Md_takeLack_4 : decode b_Md_takeLack 4 = .ok (.iload_n 1, 1) := by decide +kernel
theorem d_Md_takeLack_5 : decode b_Md_takeLack 5 = .ok (.baload, 1) := by decide +kernel
theorem d_Md_takeLack_6 : decode b_Md_takeLack 6 = .ok (.ifCond .eq 4, 3) := by decide +kernel
theorem d_Md_takeLack_9 : decode b_Md_takeLack 9 = .ok (.return_, 1) := by decide +kernel
theorem d_Md_takeLack_10 : decode b_Md_takeLack 10 = .ok (.aload_n 0, 1) := by decide +kernel
theorem d_Md_takeLack_11 : decode b_Md_takeLack 11 = .ok (.getfield 30, 3) := by decide +kernel
theorem d_Md_takeLack_14 : decode b_Md_takeLack 14 = .ok (.aload_n 0, 1) := by decide +kernel
theorem d_Md_takeLack_15 : decode b_Md_takeLack 15 = .ok (.getfield 20, 3) := by decide +kernel
theorem d_Md_takeLack_18 : decode b_Md_takeLack 18 = .ok (.iload_n 1, 1) := by decide +kernel
theorem d_Md_takeLack_19 : decode b_Md_takeLack 19 = .ok (.iaload, 1) := by decide +kernel
theorem d_Md_takeLack_20 : decode b_Md_takeLack 20 = .ok (.iaload, 1) := by decide +kernel
theorem d_Md_takeLack_21 : decode b_Md_takeLack 21 = .ok (.istore 4, 2) := by decide +kernel
theorem d_Md_takeLack_23 : decode b_Md_takeLack 23 = .ok (.aload_n 0, 1) := by decide +kernel
theorem d_Md_takeLack_24 : decode b_Md_takeLack 24 = .ok (.getfield 30, 3) := by decide +kernel
theorem d_Md_takeLack_27 : decode b_Md_takeLack 27 = .ok (.aload_n 0, 1) := by decide +kernel
theorem d_Md_takeLack_28 : decode b_Md_takeLack 28 = .ok (.getfield 24, 3) := by decide +kernel
theorem d_Md_takeLack_31 : decode b_Md_takeLack 31 = .ok (.iload_n 1, 1) := by decide +kernel
theorem d_Md_takeLack_32 : decode b_Md_takeLack 32 = .ok (.iaload, 1) := by decide +kernel
theorem d_Md_takeLack_33 : decode b_Md_takeLack 33 = .ok (.iaload, 1) := by decide +kernel
theorem d_Md_takeLack_34 : decode b_Md_takeLack 34 = .ok (.istore 5, 2) := by decide +kernel
theorem d_Md_takeLack_36 : decode b_Md_takeLack 36 = .ok (.iload_n 2, 1) := by decide +kernel
theorem d_Md_takeLack_37 : decode b_Md_takeLack 37 = .ok (.iconst 1, 1) := by decide +kernel
theorem d_Md_takeLack_38 : decode b_Md_takeLack 38 = .ok (.if_icmp .ne 20, 3) := by decide +kernel
theorem d_Md_takeLack_41 : decode b_Md_takeLack 41 = .ok (.aload_n 0, 1) := by decide +kernel
theorem d_Md_takeLack_42 : decode b_Md_takeLack 42 = .ok (.iconst 3, 1) := by decide +kernel
theorem d_Md_takeLack_43 : decode b_Md_takeLack 43 = .ok (.iconst 0, 1) := by decide +kernel
theorem d_Md_takeLack_44 : decode b_Md_takeLack 44 = .ok (.iconst 0, 1) := by decide +kernel
theorem d_Md_takeLack_45 : decode b_Md_takeLack 45 = .ok (.iconst 0, 1) := by decide +kernel
theorem d_Md_takeLack_46 : decode b_Md_takeLack 46 = .ok (.iload 4, 2) := by decide +kernel
theorem d_Md_takeLack_48 : decode b_Md_takeLack 48 = .ok (.iconst 0, 1) := by decide +kernel
theorem d_Md_takeLack_49 : decode b_Md_takeLack 49 = .ok (.aload_n 0, 1) := by decide +kernel
theorem d_Md_takeLack_50 : decode b_Md_takeLack 50 = .ok (.iload 4, 2) := by decide +kernel
theorem d_Md_takeLack_52 : decode b_Md_takeLack 52 = .ok (.invokevirtual 118, 3) := by decide +kernel
theorem d_Md_takeLack_55 : decode b_Md_takeLack 55 = .ok (.invokevirtual 134, 3) := by decide +kernel
theorem d_Md_takeLack_58 : decode b_Md_takeLack 58 = .ok (.iload_n 3, 1) := by decide +kernel
theorem d_Md_takeLack_59 : decode b_Md_takeLack 59 = .ok (.iconst 1, 1) := by decide +kernel
theorem d_Md_takeLack_60 : decode b_Md_takeLack 60 = .ok (.if_icmp .ne 20, 3) := by decide +kernel
theorem d_Md_takeLack_63 : decode b_Md_takeLack 63 = .ok (.aload_n 0, 1) := by decide +kernel
theorem d_Md_takeLack_64 : decode b_Md_takeLack 64 = .ok (.iconst 3, 1) := by decide +kernel
theorem d_Md_takeLack_65 : decode b_Md_takeLack 65 = .ok (.iconst 0, 1) := by decide +kernel
theorem d_Md_takeLack_66 : decode b_Md_takeLack 66 = .ok (.iconst 0, 1) := by decide +kernel
theorem d_Md_takeLack_67 : decode b_Md_takeLack 67 = .ok (.iconst 0, 1) := by decide +kernel
theorem d_Md_takeLack_68 : decode b_Md_takeLack 68 = .ok (.iload 5, 2) := by decide +kernel
theorem d_Md_takeLack_70 : decode b_Md_takeLack 70 = .ok (.iconst 0, 1) := by decide +kernel
theorem d_Md_takeLack_71 : decode b_Md_takeLack 71 = .ok (.aload_n 0, 1) := by decide +kernel
theorem d_Md_takeLack_72 : decode b_Md_takeLack 72 = .ok (.iload 5, 2) := by decide +kernel
theorem d_Md_takeLack_74 : decode b_Md_takeLack 74 = .ok (.invokevirtual 118, 3) := by decide +kernel
theorem d_Md_takeLack_77 : decode b_Md_takeLack 77 = .ok (.invokevirtual 134, 3) := by decide +kernel
theorem d_Md_takeLack_80 : decode b_Md_takeLack 80 = .ok (.aload_n 0, 1) := by decide +kernel
theorem d_Md_takeLack_81 : decode b_Md_takeLack 81 = .ok (.iload_n 1, 1) := by decide +kernel
theorem d_Md_takeLack_82 : decode b_Md_takeLack 82 = .ok (.invokevirtual 202, 3) := by decide +kernel
theorem d_Md_takeLack_85 : decode b_Md_takeLack 85 = .ok (.return_, 1) := by decide +kernel
theorem cs_Md_235 : CwS WS "LeasedBuildsModel" 235 y_Md_instruction b_Md_instruction 3 (some .int) 2 := ⟨⟨ms (i := 1014) (by decide +kernel) rfl, ms (i := 1012) (by decide +kernel) rfl, ms (i := 1013) (by decide +kernel) rfl, ms (i := 11) (by decide +kernel) rfl⟩, by decide +kernel⟩
theorem cs_Md_239 : CwV WS "LeasedBuildsModel" 239 "LeasedBuildsModel" y_Md_act b_Md_act 4 none 1 := ⟨⟨ms (i := 1018) (by decide +kernel) rfl, ms (i := 1015) (by decide +kernel) rfl, ms (i := 1017) (by decide +kernel) rfl, mp (i := 37) (by decide +kernel) rfl, ms (i := 11) (by decide +kernel) rfl⟩, by decide +kernel⟩
theorem fl_Md_106 : Cond.fieldLink "LeasedBuildsModel" 106 "LeasedBuildsModel" "length" "I" ∈ WS := ms (i := 722) (by decide +kernel) rfl
theorem cs_Md_202 : CwV WS "LeasedBuildsModel" 202 "LeasedBuildsModel" y_Md_ask b_Md_ask 3 none 1 := ⟨⟨ms (i := 975) (by decide +kernel) rfl, ms (i := 972) (by decide +kernel) rfl, ms (i := 974) (by decide +kernel) rfl, mp (i := 28) (by decide +kernel) rfl, ms (i := 11) (by decide +kernel) rfl⟩, by decide +kernel⟩
set_option maxHeartbeats 4000000 in
set_option maxRecDepth 100000 in
theorem c_Md_work (l : Launch) (D : va_G) (dA : Nat → ClassId) (ad : Nat → Nat) (hJ : Inj ad obM) (σ : Sg) (w : Nat) (B : Nat) (hWf : WfM B σ) (hB9 : B < 2 ^ 28) (hw5 : w < 5) (hk0 : 0 < gN σ 118 w) : CV l D clX (tyX dA) SM ad dA obM NL y_Md_work w_Md_work { frames := 1, cells := 0, slots := 0, locals := 29 } [.ref (ad 0), .int (nI w)] σ (mWork σ w) := by
  refine x_of (WS := WS) (cc := b_Md_work) (maxL := 6) (ret := none) (by decide) rfl (Nat.le_of_ble_eq_true rfl) ?_
  intro pp ee ss mm below meth cdd hx hb hml hr hlk ht hown hnm hN hK hP ls hl
  have hl : lv_has ls 6 [(0, .ref (ad 0)), (1, .int (nI w))] := hl
  have hS : va_S (Ad ad obM) ss.heap ss.heap [] := va_S.rf
  have hw := swfM
  have hW0 := hWf
  have hjk := hWf.jk w
  have hjd := hWf.jd w
  refine lv_aload_n hx hb d_Md_work_0 rfl (lv_at hl 0 rfl) ?_
  refine x_get (v := .ref (ad 19)) (k := 26) hx hb ht xc_Md hown hK hP (moM (by decide)) rfl (by decide) fl_Md_66 rfl rfl rfl d_Md_work_1 ?_
  refine lv_iload_n hx hb d_Md_work_4 rfl (lv_at hl 1 rfl) ?_
  refine x_nald (κ := 118) (n := 5) hx hb hK hP (moM (by decide)) rfl (by decide) rfl rfl (by omega) (by omega) d_Md_work_5 ?_
  refine lv_iconst (v := (nI 1)) hx hb d_Md_work_6 (by decide) ?_
  refine x_isubN hx hb d_Md_work_7 (by omega) ?_
  refine lv_istore_n (lv' := [(2, .int (nI ((gN σ 118 w) - 1))), (0, .ref (ad 0)), (1, .int (nI w))]) hx hb d_Md_work_8 rfl hl (by decide) rfl (fun ls hl => ?_)
  refine lv_aload_n hx hb d_Md_work_9 rfl (lv_at hl 1 rfl) ?_
  refine x_get (v := .ref (ad 10)) (k := 15) hx hb ht xc_Md hown hK hP (moM (by decide)) rfl (by decide) fl_Md_39 rfl rfl rfl d_Md_work_10 ?_
  refine lv_iload_n hx hb d_Md_work_13 rfl (lv_at hl 0 rfl) ?_
  refine x_lald (κ := 109) (n := 10) hx hb hK hP (moM (by decide)) rfl (by decide) rfl rfl (by omega) (by omega) d_Md_work_14 ?_
  refine lv_lstore_n (lv' := [(3, .long (gJ σ 109 ((gN σ 118 w) - 1))), (2, .int (nI ((gN σ 118 w) - 1))), (0, .ref (ad 0)), (1, .int (nI w))]) hx hb d_Md_work_15 rfl hl (by decide) rfl (fun ls hl => ?_)
  refine lv_aload_n hx hb d_Md_work_16 rfl (lv_at hl 2 rfl) ?_
  refine lv_aload_n hx hb d_Md_work_17 rfl (lv_at hl 2 rfl) ?_
  refine x_get (v := .ref (ad 20)) (k := 27) hx hb ht xc_Md hown hK hP (moM (by decide)) rfl (by decide) fl_Md_69 rfl rfl rfl d_Md_work_18 ?_
  refine lv_iload_n hx hb d_Md_work_21 rfl (lv_at hl 3 rfl) ?_
  refine x_iald (κ := 119) (n := 5) hx hb hK hP (moM (by decide)) rfl (by decide) rfl rfl (by omega) (by omega) d_Md_work_22 ?_
  refine x_put (σ' := sI σ 30 0 (gI σ 119 w)) (v := .int (gI σ 119 w)) (k := 30) hx hb ht xc_Md t_Md t_Md_ok n_Md hown hK hP hJ hw hS (moM (by decide)) rfl (by decide) fl_Md_226 rfl rfl rfl off_I rfl rfl rfl d_Md_work_23 (fun H locs hP hS => ?_)
  refine lv_aload_n hx hb d_Md_work_26 rfl (lv_at hl 2 rfl) ?_
  refine lv_aload_n hx hb d_Md_work_27 rfl (lv_at hl 2 rfl) ?_
  refine x_get (v := .ref (ad 21)) (k := 28) hx hb ht xc_Md hown hK hP (moM (by decide)) rfl (by decide) fl_Md_72 rfl rfl rfl d_Md_work_28 ?_
  refine lv_iload_n hx hb d_Md_work_31 rfl (lv_at hl 3 rfl) ?_
  refine x_iald (κ := 120) (n := 5) hx hb hK hP (moM (by decide)) rfl (by decide) rfl rfl (by omega) (by omega) d_Md_work_32 ?_
  rw [show gI (sI σ 30 0 (gI σ 119 w)) 120 w = gI σ 120 w from rfl]
  refine x_put (σ' := sI (sI σ 30 0 (gI σ 119 w)) 31 0 (gI σ 120 w)) (v := .int (gI σ 120 w)) (k := 31) hx hb ht xc_Md t_Md t_Md_ok n_Md hown hK hP hJ hw hS (moM (by decide)) rfl (by decide) fl_Md_229 rfl rfl rfl off_I rfl rfl rfl d_Md_work_33 (fun H locs hP hS => ?_)
  refine lv_aload_n hx hb d_Md_work_36 rfl (lv_at hl 2 rfl) ?_
  refine lv_iconst (v := (nI 0)) hx hb d_Md_work_37 (by decide) ?_
  refine x_put (σ' := sN (sI (sI σ 30 0 (gI σ 119 w)) 31 0 (gI σ 120 w)) 32 0 0) (v := .int (nI 0)) (k := 32) hx hb ht xc_Md t_Md t_Md_ok n_Md hown hK hP hJ hw hS (moM (by decide)) rfl (by decide) fl_Md_232 rfl rfl rfl off_N rfl rfl rfl d_Md_work_38 (fun H locs hP hS => ?_)
  refine lv_iconst (v := (nI 0)) hx hb d_Md_work_41 (by decide) ?_
  refine lv_istore (lv' := [(5, .int (nI 0)), (3, .long (gJ σ 109 ((gN σ 118 w) - 1))), (2, .int (nI ((gN σ 118 w) - 1))), (0, .ref (ad 0)), (1, .int (nI w))]) hx hb d_Md_work_42 hl (by decide) rfl (fun ls hl => ?_)
  refine x_loop (pc := 44) (α := Nat) (nL := 6) (fun n => gN σ 121 w - n) (fun n => mActN (sN (sI (sI σ 30 0 (gI σ 119 w)) 31 0 (gI σ 120 w)) 32 0 0) (gJ σ 109 ((gN σ 118 w) - 1)) n) (fun n => [(5, .int (nI n)), (3, .long (gJ σ 109 ((gN σ 118 w) - 1))), (2, .int (nI ((gN σ 118 w) - 1))), (1, .int (nI w)), (0, .ref (ad 0))]) (fun n => n ≤ gN σ 121 w) ?_ 0 (Nat.zero_le _) hP hS (lv_sub hl [0, 1, 2, 4, 3] rfl)
  clear hP hS hl
  intro n hn H locs ls hP hS hl ih
  have hn : n ≤ gN σ 121 w := hn
  have hpn := actN_p (sN (sI (sI σ 30 0 (gI σ 119 w)) 31 0 (gI σ 120 w)) 32 0 0) (gJ σ 109 ((gN σ 118 w) - 1)) n
  have hpn : gN (mActN (sN (sI (sI σ 30 0 (gI σ 119 w)) 31 0 (gI σ 120 w)) 32 0 0) (gJ σ 109 ((gN σ 118 w) - 1)) n) 32 0 ≤ 2 * n := Nat.le_trans hpn (by show 0 + 2 * n ≤ _; omega)
  have hl : lv_has ls 6 [(5, .int (nI n)), (3, .long (gJ σ 109 ((gN σ 118 w) - 1))), (2, .int (nI ((gN σ 118 w) - 1))), (1, .int (nI w)), (0, .ref (ad 0))] := hl
  have hP : va_P D clX (wd SM ad dA obM (mActN (sN (sI (sI σ 30 0 (gI σ 119 w)) 31 0 (gI σ 120 w)) 32 0 0) (gJ σ 109 ((gN σ 118 w) - 1)) n)) H := hP
  refine lv_iload hx hb d_Md_work_44 (lv_at hl 0 rfl) ?_
  refine lv_aload_n hx hb d_Md_work_46 rfl (lv_at hl 4 rfl) ?_
  refine x_get (v := .ref (ad 22)) (k := 29) hx hb ht xc_Md hown hK hP (moM (by decide)) rfl (by decide) fl_Md_75 rfl rfl rfl d_Md_work_47 ?_
  refine lv_iload_n hx hb d_Md_work_50 rfl (lv_at hl 3 rfl) ?_
  refine x_nald (κ := 121) (n := 5) hx hb hK hP (moM (by decide)) rfl (by decide) rfl rfl (by omega) (by omega) d_Md_work_51 ?_
  rw [show gN (mActN (sN (sI (sI σ 30 0 (gI σ 119 w)) 31 0 (gI σ 120 w)) 32 0 0) (gJ σ 109 ((gN σ 118 w) - 1)) n) 121 w = gN σ 121 w from (actN_N (sN (sI (sI σ 30 0 (gI σ 119 w)) 31 0 (gI σ 120 w)) 32 0 0) (gJ σ 109 ((gN σ 118 w) - 1)) (by decide) w n)]
  refine x_icmp_geN (tgt := 73) hx hb d_Md_work_52 (by decide) (by omega) (by omega) (fun h1 => ?_) (fun h1 => ?_)
  · obtain rfl : n = gN σ 121 w := by omega
    have hpn := actN_p (sN (sI (sI σ 30 0 (gI σ 119 w)) 31 0 (gI σ 120 w)) 32 0 0) (gJ σ 109 ((gN σ 118 w) - 1)) (gN σ 121 w)
    have hpn : gN (mWE σ w) 32 0 ≤ 2 * gN σ 121 w := Nat.le_trans hpn (by show 0 + 2 * gN σ 121 w ≤ _; omega)
    have hP : va_P D clX (wd SM ad dA obM (mWE σ w)) H := hP
    have hWf : WfM B (mWE σ w) := wfm_WE hW0
    refine lv_lload_n hx hb d_Md_work_73 rfl (lv_at hl 1 rfl) ?_
    refine lv_aload_n hx hb d_Md_work_74 rfl (lv_at hl 4 rfl) ?_
    refine x_get (v := .int (nI (gN (mWE σ w) 32 0))) (k := 32) hx hb ht xc_Md hown hK hP (moM (by decide)) rfl (by decide) fl_Md_232 rfl rfl rfl d_Md_work_75 ?_
    refine x_ci (x_rS (As := [.long (gJ σ 109 ((gN σ 118 w) - 1)), .int (nI (gN (mWE σ w) 32 0))]) (rest := []) hx hb hml hown ht gW cs_Md_235 (c_Md_instruction l D dA ad hJ (mWE σ w) (gJ σ 109 ((gN σ 118 w) - 1)) (gN (mWE σ w) 32 0) (by omega)) rfl rfl (by decide) hN hK hP rfl hl.1 rfl (Nat.le_of_ble_eq_true rfl) d_Md_work_78 (by decide)) hS (fun H locs hP hS => ?_)
    refine x_if_leN (tgt := 95) hx hb d_Md_work_81 (by decide) (Nat.lt_trans (insn_lt _ _) (by decide)) (fun h2 => ?_) (fun h2 => ?_)
    · refine lv_aload_n hx hb d_Md_work_95 rfl (lv_at hl 4 rfl) ?_
      refine lv_iconst (v := (nI 5)) hx hb d_Md_work_96 (by decide) ?_
      refine lv_iconst (v := (nI 0)) hx hb d_Md_work_97 (by decide) ?_
      refine lv_iload_n hx hb d_Md_work_98 rfl (lv_at hl 2 rfl) ?_
      refine lv_iconst (v := (nI 0)) hx hb d_Md_work_99 (by decide) ?_
      refine lv_aload_n hx hb d_Md_work_100 rfl (lv_at hl 4 rfl) ?_
      refine x_get (v := .int (gI (mWE σ w) 30 0)) (k := 30) hx hb ht xc_Md hown hK hP (moM (by decide)) rfl (by decide) fl_Md_226 rfl rfl rfl d_Md_work_101 ?_
      refine lv_iconst (v := (nI 0)) hx hb d_Md_work_104 (by decide) ?_
      refine lv_aload_n hx hb d_Md_work_105 rfl (lv_at hl 4 rfl) ?_
      refine lv_aload_n hx hb d_Md_work_106 rfl (lv_at hl 4 rfl) ?_
      refine x_get (v := .int (gI (mWE σ w) 30 0)) (k := 30) hx hb ht xc_Md hown hK hP (moM (by decide)) rfl (by decide) fl_Md_226 rfl rfl rfl d_Md_work_107 ?_
      refine x_ci (x_rV (As := [.int (gI (mWE σ w) 30 0)]) (rest := [.int (nI 0), .int (gI (mWE σ w) 30 0), .int (nI 0), .int (nI ((gN σ 118 w) - 1)), .int (nI 0), .int (nI 5), .ref (ad 0)]) hx hb hml hown ht gW cs_Md_118 (c_Md_digest l D dA ad hJ (mWE σ w) (gI (mWE σ w) 30 0)) rfl rfl (by decide) xc_Md hN hK hP (moM (by decide)) rfl rfl hl.1 rfl (Nat.le_of_ble_eq_true rfl) d_Md_work_110 (by decide)) hS (fun H locs hP hS => ?_)
      refine x_cv (x_rV (As := [.int (nI 5), .int (nI 0), .int (nI ((gN σ 118 w) - 1)), .int (nI 0), .int (gI (mWE σ w) 30 0), .int (nI 0), .int (dg (gI (mWE σ w) 30 0))]) (rest := []) hx hb hml hown ht gW cs_Md_134 (c_Md_send l D dA ad hJ (mWE σ w) 5 0 ((gN σ 118 w) - 1) 0 (gI (mWE σ w) 30 0) (nI 0) (dg (gI (mWE σ w) 30 0)) B hWf (by omega)) rfl rfl (by decide) xc_Md hN hK hP (moM (by decide)) rfl rfl hl.1 rfl (Nat.le_of_ble_eq_true rfl) d_Md_work_113 (by decide)) hS (fun H locs hP hS => ?_)
      refine lv_aload_n hx hb d_Md_work_116 rfl (lv_at hl 4 rfl) ?_
      refine x_get (v := .ref (ad 19)) (k := 26) hx hb ht xc_Md hown hK hP (moM (by decide)) rfl (by decide) fl_Md_66 rfl rfl rfl d_Md_work_117 ?_
      refine lv_iload_n hx hb d_Md_work_120 rfl (lv_at hl 3 rfl) ?_
      refine lv_iconst (v := (nI 0)) hx hb d_Md_work_121 (by decide) ?_
      refine x_nast (κ := 118) (n := 5) (x := 0) hx hb hK hP hJ hw hS (moM (by decide)) rfl (by decide) rfl rfl (by omega) (by omega) d_Md_work_122 (fun H locs hP hS => ?_)
      exact x_vret hx hb hr hlk hK hP hS d_Md_work_123 (by unfold mWork; rw [if_pos h2])
    · refine lv_aload_n hx hb d_Md_work_84 rfl (lv_at hl 4 rfl) ?_
      refine x_get (v := .ref (ad 22)) (k := 29) hx hb ht xc_Md hown hK hP (moM (by decide)) rfl (by decide) fl_Md_75 rfl rfl rfl d_Md_work_85 ?_
      refine lv_iload_n hx hb d_Md_work_88 rfl (lv_at hl 3 rfl) ?_
      refine lv_dup2_11 hx hb d_Md_work_89 rfl rfl ?_
      refine x_nald (κ := 121) (n := 5) hx hb hK hP (moM (by decide)) rfl (by decide) rfl rfl (by omega) (by omega) d_Md_work_90 ?_
      rw [show gN (mWE σ w) 121 w = gN σ 121 w from (WE_N σ w (by decide) w)]
      refine lv_iconst (v := (nI 1)) hx hb d_Md_work_91 (by decide) ?_
      refine x_iaddN hx hb d_Md_work_92 ?_
      refine x_nast (κ := 121) (n := 5) (x := (gN σ 121 w) + 1) hx hb hK hP hJ hw hS (moM (by decide)) rfl (by decide) rfl rfl (by omega) (by omega) d_Md_work_93 (fun H locs hP hS => ?_)
      exact x_vret hx hb hr hlk hK hP hS d_Md_work_94 (by unfold mWork; rw [if_neg (by omega)])
  · refine lv_aload_n hx hb d_Md_work_55 rfl (lv_at hl 4 rfl) ?_
    refine lv_lload_n hx hb d_Md_work_56 rfl (lv_at hl 1 rfl) ?_
    refine lv_aload_n hx hb d_Md_work_57 rfl (lv_at hl 4 rfl) ?_
    refine x_get (v := .int (nI (gN (mActN (sN (sI (sI σ 30 0 (gI σ 119 w)) 31 0 (gI σ 120 w)) 32 0 0) (gJ σ 109 ((gN σ 118 w) - 1)) n) 32 0))) (k := 32) hx hb ht xc_Md hown hK hP (moM (by decide)) rfl (by decide) fl_Md_232 rfl rfl rfl d_Md_work_58 ?_
    refine x_ci (x_rS (As := [.long (gJ σ 109 ((gN σ 118 w) - 1)), .int (nI (gN (mActN (sN (sI (sI σ 30 0 (gI σ 119 w)) 31 0 (gI σ 120 w)) 32 0 0) (gJ σ 109 ((gN σ 118 w) - 1)) n) 32 0))]) (rest := [.ref (ad 0)]) hx hb hml hown ht gW cs_Md_235 (c_Md_instruction l D dA ad hJ (mActN (sN (sI (sI σ 30 0 (gI σ 119 w)) 31 0 (gI σ 120 w)) 32 0 0) (gJ σ 109 ((gN σ 118 w) - 1)) n) (gJ σ 109 ((gN σ 118 w) - 1)) (gN (mActN (sN (sI (sI σ 30 0 (gI σ 119 w)) 31 0 (gI σ 120 w)) 32 0 0) (gJ σ 109 ((gN σ 118 w) - 1)) n) 32 0) (by omega)) rfl rfl (by decide) hN hK hP rfl hl.1 rfl (Nat.le_of_ble_eq_true rfl) d_Md_work_61 (by decide)) hS (fun H locs hP hS => ?_)
    refine x_cv (x_rV (As := [.int (nI (insn (gJ σ 109 ((gN σ 118 w) - 1)) (gN (mActN (sN (sI (sI σ 30 0 (gI σ 119 w)) 31 0 (gI σ 120 w)) 32 0 0) (gJ σ 109 ((gN σ 118 w) - 1)) n) 32 0)))]) (rest := []) hx hb hml hown ht gW cs_Md_239 (c_Md_act l D dA ad hJ (mActN (sN (sI (sI σ 30 0 (gI σ 119 w)) 31 0 (gI σ 120 w)) 32 0 0) (gJ σ 109 ((gN σ 118 w) - 1)) n) (insn (gJ σ 109 ((gN σ 118 w) - 1)) (gN (mActN (sN (sI (sI σ 30 0 (gI σ 119 w)) 31 0 (gI σ 120 w)) 32 0 0) (gJ σ 109 ((gN σ 118 w) - 1)) n) 32 0)) (insn_lt _ _)) rfl rfl (by decide) xc_Md hN hK hP (moM (by decide)) rfl rfl hl.1 rfl (Nat.le_of_ble_eq_true rfl) d_Md_work_64 (by decide)) hS (fun H locs hP hS => ?_)
    refine lv_iinc (lv' := [(5, .int (nI (n + 1))), (3, .long (gJ σ 109 ((gN σ 118 w) - 1))), (2, .int (nI ((gN σ 118 w) - 1))), (1, .int (nI w)), (0, .ref (ad 0))]) (v := (nI (n + 1))) hx hb d_Md_work_67 hl (k := 0) rfl (nI_add _ _) (by decide) rfl (fun ls hl => ?_)
    refine lv_goto (tgt := 44) hx hb d_Md_work_70 (by decide) ?_
    exact ih (n + 1) (by show n + 1 ≤ gN σ 121 w; omega) (by omega) H locs ls hP hS (lv_sub hl [0, 1, 2, 3, 4] rfl)
set_option maxHeartbeats 4000000 in
set_option maxRecDepth 100000 in
theorem c_Md_lend (l : Launch) (D : va_G) (dA : Nat → ClassId) (ad : Nat → Nat) (hJ : Inj ad obM) (σ : Sg)  (B : Nat) (hWf : WfM B σ) (hB : B < 2 ^ 30) : CV l D clX (tyX dA) SM ad dA obM NL y_Md_lend w_Md_lend { frames := 2, cells := 0, slots := 0, locals := 45 } [.ref (ad 0)] σ (mLend σ) := by
  refine x_of (WS := WS) (cc := b_Md_lend) (maxL := 5) (ret := none) (by decide) rfl (Nat.le_of_ble_eq_true rfl) ?_
  intro pp ee ss mm below meth cdd hx hb hml hr hlk ht hown hnm hN hK hP ls hl
  have hl : lv_has ls 5 [(0, .ref (ad 0))] := hl
  have hS : va_S (Ad ad obM) ss.heap ss.heap [] := va_S.rf
  have hw := swfM
  have hM0 := hWf.it
  have hM1 := hWf.ks
  have hM2 := hWf.bl
  have hM3 := hWf.wk
  have hM4 := hWf.bi
  have hM5 := hWf.qu
  have hM6 := hWf.tm
  have hM7 := hWf.la
  have hM8 := hWf.ln
  refine lv_iconst (v := ((-1))) hx hb d_Md_lend_0 (by decide) ?_
  refine lv_istore_n (lv' := [(1, .int ((-1))), (0, .ref (ad 0))]) hx hb d_Md_lend_1 rfl hl (by decide) rfl (fun ls hl => ?_)
  refine lv_iconst (v := (nI 0)) hx hb d_Md_lend_2 (by decide) ?_
  refine lv_istore_n (lv' := [(2, .int (nI 0)), (1, .int ((-1))), (0, .ref (ad 0))]) hx hb d_Md_lend_3 rfl hl (by decide) rfl (fun ls hl => ?_)
  refine x_loop (pc := 4) (α := Nat) (nL := 5) (fun k => gN σ 14 0 - k) (fun k => σ) (fun k => [(2, .int (nI k)), (1, .int (oI (mnq σ k))), (0, .ref (ad 0))]) (fun k => k ≤ gN σ 14 0) ?_ 0 (Nat.zero_le _) hP hS (lv_sub hl [0, 1, 2] rfl)
  clear hP hS hl
  intro k hk H locs ls hP hS hl ih
  have hk : k ≤ gN σ 14 0 := hk
  have hl : lv_has ls 5 [(2, .int (nI k)), (1, .int (oI (mnq σ k))), (0, .ref (ad 0))] := hl
  have hP : va_P D clX (wd SM ad dA obM σ) H := hP
  refine lv_iload_n hx hb d_Md_lend_4 rfl (lv_at hl 0 rfl) ?_
  refine lv_aload_n hx hb d_Md_lend_5 rfl (lv_at hl 2 rfl) ?_
  refine x_get (v := .int (nI (gN σ 14 0))) (k := 14) hx hb ht xc_Md hown hK hP (moM (by decide)) rfl (by decide) fl_Md_122 rfl rfl rfl d_Md_lend_6 ?_
  refine x_icmp_geN (tgt := 48) hx hb d_Md_lend_9 (by decide) (by omega) (by omega) (fun h1 => ?_) (fun h1 => ?_)
  · obtain rfl : k = gN σ 14 0 := by omega
    have hl : lv_has ls 5 [(1, .int (oI (mnq σ (gN σ 14 0)))), (0, .ref (ad 0))] := lv_sub hl [1, 2] rfl
    refine lv_iconst (v := (nI 0)) hx hb d_Md_lend_48 (by decide) ?_
    refine lv_istore_n (lv' := [(2, .int (nI 0)), (1, .int (oI (mnq σ (gN σ 14 0)))), (0, .ref (ad 0))]) hx hb d_Md_lend_49 rfl hl (by decide) rfl (fun ls hl => ?_)
    refine lv_aload_n hx hb d_Md_lend_50 rfl (lv_at hl 2 rfl) ?_
    refine x_get (v := .int (nI (gN σ 0 0))) (k := 0) hx hb ht xc_Md hown hK hP (moM (by decide)) rfl (by decide) fl_Md_102 rfl rfl rfl d_Md_lend_51 ?_
    refine lv_istore_n (lv' := [(3, .int (nI (gN σ 0 0))), (2, .int (nI 0)), (1, .int (oI (mnq σ (gN σ 14 0)))), (0, .ref (ad 0))]) hx hb d_Md_lend_54 rfl hl (by decide) rfl (fun ls hl => ?_)
    refine x_loop (pc := 55) (α := Nat) (nL := 5) (fun i => gN σ 0 0 - i) (fun i => σ) (fun i => [(3, .int (nI (gN σ 0 0 - i))), (2, .int (nI (lwN σ i))), (1, .int (oI (mnq σ (gN σ 14 0)))), (0, .ref (ad 0))]) (fun i => i ≤ gN σ 0 0) ?_ 0 (Nat.zero_le _) hP hS (lv_sub hl [0, 1, 2, 3] rfl)
    clear hP hS hl
    intro i hi H locs ls hP hS hl ih2
    have hi : i ≤ gN σ 0 0 := hi
    have hl : lv_has ls 5 [(3, .int (nI (gN σ 0 0 - i))), (2, .int (nI (lwN σ i))), (1, .int (oI (mnq σ (gN σ 14 0)))), (0, .ref (ad 0))] := hl
    have hP : va_P D clX (wd SM ad dA obM σ) H := hP
    refine lv_iload_n hx hb d_Md_lend_55 rfl (lv_at hl 0 rfl) ?_
    refine lv_iconst (v := (nI 1)) hx hb d_Md_lend_56 (by decide) ?_
    refine x_icmp_ltN (tgt := 95) hx hb d_Md_lend_57 (by decide) (by omega) (by decide) (fun h2 => ?_) (fun h2 => ?_)
    · obtain rfl : i = gN σ 0 0 := by omega
      have hl : lv_has ls 5 [(2, .int (nI (lwN σ (gN σ 0 0)))), (1, .int (oI (mnq σ (gN σ 14 0)))), (0, .ref (ad 0))] := lv_sub hl [1, 2, 3] rfl
      have hlw := lwN_le hM3.1 (gN σ 0 0)
      refine lv_iload_n hx hb d_Md_lend_95 rfl (lv_at hl 1 rfl) ?_
      refine x_if_ltO (n := 10) (tgt := 103) hx hb d_Md_lend_96 (by decide) ⟨fun i hi => Nat.lt_of_lt_of_le (mnq_lt hi) hM1, by decide⟩ (fun h3 => ?_) (fun j1 h3 hl1 => ?_)
      · exact x_vret hx hb hr hlk hK hP hS d_Md_lend_103 (by unfold mLend; rw [h3] <;> rfl)
      · rw [h3] at hl
        have hl : lv_has ls 5 [(2, .int (nI (lwN σ (gN σ 0 0)))), (1, .int (nI j1)), (0, .ref (ad 0))] := hl
        refine lv_iload_n hx hb d_Md_lend_99 rfl (lv_at hl 0 rfl) ?_
        refine x_if_neN (tgt := 104) hx hb d_Md_lend_100 (by decide) (by omega) (fun h4 => ?_) (fun h4 => ?_)
        · refine lv_aload_n hx hb d_Md_lend_104 rfl (lv_at hl 2 rfl) ?_
          refine x_get (v := .ref (ad 15)) (k := 20) hx hb ht xc_Md hown hK hP (moM (by decide)) rfl (by decide) fl_Md_54 rfl rfl rfl d_Md_lend_105 ?_
          refine lv_iload_n hx hb d_Md_lend_108 rfl (lv_at hl 1 rfl) ?_
          refine lv_iconst (v := (nI 0)) hx hb d_Md_lend_109 (by decide) ?_
          refine x_nast (κ := 114) (n := 10) (x := 0) hx hb hK hP hJ hw hS (moM (by decide)) rfl (by decide) rfl rfl (by omega) (by omega) d_Md_lend_110 (fun H locs hP hS => ?_)
          have hWf : WfM B (sN σ 114 j1 0) := wfm_114 hWf (Nat.zero_le _)
          refine lv_aload_n hx hb d_Md_lend_111 rfl (lv_at hl 2 rfl) ?_
          refine x_get (v := .ref (ad 16)) (k := 21) hx hb ht xc_Md hown hK hP (moM (by decide)) rfl (by decide) fl_Md_57 rfl rfl rfl d_Md_lend_112 ?_
          refine lv_iload_n hx hb d_Md_lend_115 rfl (lv_at hl 1 rfl) ?_
          refine lv_iload_n hx hb d_Md_lend_116 rfl (lv_at hl 0 rfl) ?_
          refine x_nast (κ := 115) (n := 10) (x := lwN σ (gN σ 0 0)) hx hb hK hP hJ hw hS (moM (by decide)) rfl (by decide) rfl rfl (by omega) (by omega) d_Md_lend_117 (fun H locs hP hS => ?_)
          have hWf : WfM B (sN (sN σ 114 j1 0) 115 j1 (lwN σ (gN σ 0 0))) := wfm_115 hWf (by omega)
          refine lv_aload_n hx hb d_Md_lend_118 rfl (lv_at hl 2 rfl) ?_
          refine x_get (v := .ref (ad 17)) (k := 22) hx hb ht xc_Md hown hK hP (moM (by decide)) rfl (by decide) fl_Md_60 rfl rfl rfl d_Md_lend_119 ?_
          refine lv_iload_n hx hb d_Md_lend_122 rfl (lv_at hl 1 rfl) ?_
          refine lv_aload_n hx hb d_Md_lend_123 rfl (lv_at hl 2 rfl) ?_
          refine x_get (v := .int (nI (gN σ 2 0))) (k := 2) hx hb ht xc_Md hown hK hP (moM (by decide)) rfl (by decide) fl_Md_138 rfl rfl rfl d_Md_lend_124 ?_
          refine lv_aload_n hx hb d_Md_lend_127 rfl (lv_at hl 2 rfl) ?_
          refine x_get (v := .int (nI (gN σ 1 0))) (k := 1) hx hb ht xc_Md hown hK hP (moM (by decide)) rfl (by decide) fl_Md_106 rfl rfl rfl d_Md_lend_128 ?_
          refine x_iaddN hx hb d_Md_lend_131 ?_
          refine x_nast (κ := 116) (n := 10) (x := (gN σ 2 0) + (gN σ 1 0)) hx hb hK hP hJ hw hS (moM (by decide)) rfl (by decide) rfl rfl (by omega) (by omega) d_Md_lend_132 (fun H locs hP hS => ?_)
          have hWf : WfM B (sN (sN (sN σ 114 j1 0) 115 j1 (lwN σ (gN σ 0 0))) 116 j1 ((gN σ 2 0) + (gN σ 1 0))) := wfm_116 hWf (by omega)
          refine lv_aload_n hx hb d_Md_lend_133 rfl (lv_at hl 2 rfl) ?_
          refine lv_iload_n hx hb d_Md_lend_134 rfl (lv_at hl 0 rfl) ?_
          refine x_put (σ' := sN (sN (sN (sN σ 114 j1 0) 115 j1 (lwN σ (gN σ 0 0))) 116 j1 ((gN σ 2 0) + (gN σ 1 0))) 3 0 (lwN σ (gN σ 0 0))) (v := .int (nI (lwN σ (gN σ 0 0)))) (k := 3) hx hb ht xc_Md t_Md t_Md_ok n_Md hown hK hP hJ hw hS (moM (by decide)) rfl (by decide) fl_Md_156 rfl rfl rfl off_N rfl rfl rfl d_Md_lend_135 (fun H locs hP hS => ?_)
          have hWf : WfM B (sN (sN (sN (sN σ 114 j1 0) 115 j1 (lwN σ (gN σ 0 0))) 116 j1 ((gN σ 2 0) + (gN σ 1 0))) 3 0 (lwN σ (gN σ 0 0))) := wfm_3 hWf (show _ ≤ gN σ 0 0 from by omega)
          refine lv_aload_n hx hb d_Md_lend_138 rfl (lv_at hl 2 rfl) ?_
          refine lv_dup hx hb d_Md_lend_139 rfl ?_
          refine x_get (v := .int (nI (gN σ 43 0))) (k := 43) hx hb ht xc_Md hown hK hP (moM (by decide)) rfl (by decide) fl_Md_245 rfl rfl rfl d_Md_lend_140 ?_
          refine lv_iconst (v := (nI 1)) hx hb d_Md_lend_143 (by decide) ?_
          refine x_iaddN hx hb d_Md_lend_144 ?_
          refine x_put (σ' := sN (sN (sN (sN (sN σ 114 j1 0) 115 j1 (lwN σ (gN σ 0 0))) 116 j1 ((gN σ 2 0) + (gN σ 1 0))) 3 0 (lwN σ (gN σ 0 0))) 43 0 ((gN σ 43 0) + 1)) (v := .int (nI ((gN σ 43 0) + 1))) (k := 43) hx hb ht xc_Md t_Md t_Md_ok n_Md hown hK hP hJ hw hS (moM (by decide)) rfl (by decide) fl_Md_245 rfl rfl rfl off_N rfl rfl rfl d_Md_lend_145 (fun H locs hP hS => ?_)
          have hWf : WfM B (sN (sN (sN (sN (sN σ 114 j1 0) 115 j1 (lwN σ (gN σ 0 0))) 116 j1 ((gN σ 2 0) + (gN σ 1 0))) 3 0 (lwN σ (gN σ 0 0))) 43 0 ((gN σ 43 0) + 1)) := wfm_N (by decide) hWf
          refine lv_aload_n hx hb d_Md_lend_148 rfl (lv_at hl 2 rfl) ?_
          refine lv_aload_n hx hb d_Md_lend_149 rfl (lv_at hl 2 rfl) ?_
          refine x_get (v := .ref (ad 11)) (k := 16) hx hb ht xc_Md hown hK hP (moM (by decide)) rfl (by decide) fl_Md_42 rfl rfl rfl d_Md_lend_150 ?_
          refine lv_iload_n hx hb d_Md_lend_153 rfl (lv_at hl 1 rfl) ?_
          refine x_iald (κ := 110) (n := 10) hx hb hK hP (moM (by decide)) rfl (by decide) rfl rfl (by omega) (by omega) d_Md_lend_154 ?_
          rw [show gI (sN (sN (sN (sN (sN σ 114 j1 0) 115 j1 (lwN σ (gN σ 0 0))) 116 j1 ((gN σ 2 0) + (gN σ 1 0))) 3 0 (lwN σ (gN σ 0 0))) 43 0 ((gN σ 43 0) + 1)) 110 j1 = gI σ 110 j1 from rfl]
          refine x_ci (x_rV (As := [.int (gI σ 110 j1)]) (rest := []) hx hb hml hown ht gW cs_Md_150 (c_Md_find l D dA ad hJ (sN (sN (sN (sN (sN σ 114 j1 0) 115 j1 (lwN σ (gN σ 0 0))) 116 j1 ((gN σ 2 0) + (gN σ 1 0))) 3 0 (lwN σ (gN σ 0 0))) 43 0 ((gN σ 43 0) + 1)) (gI σ 110 j1) B hWf) rfl rfl (by decide) xc_Md hN hK hP (moM (by decide)) rfl rfl hl.1 rfl (Nat.le_of_ble_eq_true rfl) d_Md_lend_155 (by decide)) hS (fun H locs hP hS => ?_)
          refine lv_istore_n (lv' := [(3, .int (oI (mFind (sN (sN (sN (sN (sN σ 114 j1 0) 115 j1 (lwN σ (gN σ 0 0))) 116 j1 ((gN σ 2 0) + (gN σ 1 0))) 3 0 (lwN σ (gN σ 0 0))) 43 0 ((gN σ 43 0) + 1)) (gI σ 110 j1)))), (2, .int (nI (lwN σ (gN σ 0 0)))), (1, .int (nI j1)), (0, .ref (ad 0))]) hx hb d_Md_lend_158 rfl hl (by decide) rfl (fun ls hl => ?_)
          refine lv_aload_n hx hb d_Md_lend_159 rfl (lv_at hl 3 rfl) ?_
          refine lv_aload_n hx hb d_Md_lend_160 rfl (lv_at hl 3 rfl) ?_
          refine x_get (v := .ref (ad 12)) (k := 17) hx hb ht xc_Md hown hK hP (moM (by decide)) rfl (by decide) fl_Md_45 rfl rfl rfl d_Md_lend_161 ?_
          refine lv_iload_n hx hb d_Md_lend_164 rfl (lv_at hl 2 rfl) ?_
          refine x_iald (κ := 111) (n := 10) hx hb hK hP (moM (by decide)) rfl (by decide) rfl rfl (by omega) (by omega) d_Md_lend_165 ?_
          rw [show gI (sN (sN (sN (sN (sN σ 114 j1 0) 115 j1 (lwN σ (gN σ 0 0))) 116 j1 ((gN σ 2 0) + (gN σ 1 0))) 3 0 (lwN σ (gN σ 0 0))) 43 0 ((gN σ 43 0) + 1)) 111 j1 = gI σ 111 j1 from rfl]
          refine x_ci (x_rV (As := [.int (gI σ 111 j1)]) (rest := []) hx hb hml hown ht gW cs_Md_150 (c_Md_find l D dA ad hJ (sN (sN (sN (sN (sN σ 114 j1 0) 115 j1 (lwN σ (gN σ 0 0))) 116 j1 ((gN σ 2 0) + (gN σ 1 0))) 3 0 (lwN σ (gN σ 0 0))) 43 0 ((gN σ 43 0) + 1)) (gI σ 111 j1) B hWf) rfl rfl (by decide) xc_Md hN hK hP (moM (by decide)) rfl rfl hl.1 rfl (Nat.le_of_ble_eq_true rfl) d_Md_lend_166 (by decide)) hS (fun H locs hP hS => ?_)
          refine lv_istore (lv' := [(4, .int (oI (mFind (sN (sN (sN (sN (sN σ 114 j1 0) 115 j1 (lwN σ (gN σ 0 0))) 116 j1 ((gN σ 2 0) + (gN σ 1 0))) 3 0 (lwN σ (gN σ 0 0))) 43 0 ((gN σ 43 0) + 1)) (gI σ 111 j1)))), (3, .int (oI (mFind (sN (sN (sN (sN (sN σ 114 j1 0) 115 j1 (lwN σ (gN σ 0 0))) 116 j1 ((gN σ 2 0) + (gN σ 1 0))) 3 0 (lwN σ (gN σ 0 0))) 43 0 ((gN σ 43 0) + 1)) (gI σ 110 j1)))), (2, .int (nI (lwN σ (gN σ 0 0)))), (1, .int (nI j1)), (0, .ref (ad 0))]) hx hb d_Md_lend_169 hl (by decide) rfl (fun ls hl => ?_)
          refine lv_aload_n hx hb d_Md_lend_171 rfl (lv_at hl 4 rfl) ?_
          refine lv_iconst (v := (nI 4)) hx hb d_Md_lend_172 (by decide) ?_
          refine lv_iload_n hx hb d_Md_lend_173 rfl (lv_at hl 2 rfl) ?_
          refine lv_iload_n hx hb d_Md_lend_174 rfl (lv_at hl 3 rfl) ?_
          refine lv_iconst (v := (nI 0)) hx hb d_Md_lend_175 (by decide) ?_
          refine lv_iload_n hx hb d_Md_lend_176 rfl (lv_at hl 1 rfl) ?_
          refine x_if_geO (n := 12) (tgt := 184) hx hb d_Md_lend_177 (by decide) ⟨mFind_lt hWf, by decide⟩ (fun j2 h5 hl2 => ?_) (fun h5 => ?_)
          · rw [h5] at hl
            have hl : lv_has ls 5 [(4, .int (oI (mFind (sN (sN (sN (sN (sN σ 114 j1 0) 115 j1 (lwN σ (gN σ 0 0))) 116 j1 ((gN σ 2 0) + (gN σ 1 0))) 3 0 (lwN σ (gN σ 0 0))) 43 0 ((gN σ 43 0) + 1)) (gI σ 111 j1)))), (3, .int (nI j2)), (2, .int (nI (lwN σ (gN σ 0 0)))), (1, .int (nI j1)), (0, .ref (ad 0))] := hl
            refine lv_aload_n hx hb d_Md_lend_184 rfl (lv_at hl 4 rfl) ?_
            refine x_get (v := .ref (ad 18)) (k := 25) hx hb ht xc_Md hown hK hP (moM (by decide)) rfl (by decide) fl_Md_63 rfl rfl rfl d_Md_lend_185 ?_
            refine lv_iload_n hx hb d_Md_lend_188 rfl (lv_at hl 1 rfl) ?_
            refine x_iald (κ := 117) (n := 12) hx hb hK hP (moM (by decide)) rfl (by decide) rfl rfl (by omega) (by omega) d_Md_lend_189 ?_
            rw [show gI (sN (sN (sN (sN (sN σ 114 j1 0) 115 j1 (lwN σ (gN σ 0 0))) 116 j1 ((gN σ 2 0) + (gN σ 1 0))) 3 0 (lwN σ (gN σ 0 0))) 43 0 ((gN σ 43 0) + 1)) 117 j2 = gI σ 117 j2 from rfl]
            refine lv_iload hx hb d_Md_lend_190 (lv_at hl 0 rfl) ?_
            refine x_if_geO (n := 12) (tgt := 199) hx hb d_Md_lend_192 (by decide) ⟨mFind_lt hWf, by decide⟩ (fun j3 h6 hl3 => ?_) (fun h6 => ?_)
            · rw [h6] at hl
              have hl : lv_has ls 5 [(4, .int (nI j3)), (3, .int (nI j2)), (2, .int (nI (lwN σ (gN σ 0 0)))), (1, .int (nI j1)), (0, .ref (ad 0))] := hl
              refine lv_aload_n hx hb d_Md_lend_199 rfl (lv_at hl 4 rfl) ?_
              refine x_get (v := .ref (ad 18)) (k := 25) hx hb ht xc_Md hown hK hP (moM (by decide)) rfl (by decide) fl_Md_63 rfl rfl rfl d_Md_lend_200 ?_
              refine lv_iload hx hb d_Md_lend_203 (lv_at hl 0 rfl) ?_
              refine x_iald (κ := 117) (n := 12) hx hb hK hP (moM (by decide)) rfl (by decide) rfl rfl (by omega) (by omega) d_Md_lend_205 ?_
              rw [show gI (sN (sN (sN (sN (sN σ 114 j1 0) 115 j1 (lwN σ (gN σ 0 0))) 116 j1 ((gN σ 2 0) + (gN σ 1 0))) 3 0 (lwN σ (gN σ 0 0))) 43 0 ((gN σ 43 0) + 1)) 117 j3 = gI σ 117 j3 from rfl]
              refine lv_iconst (v := (nI 0)) hx hb d_Md_lend_206 (by decide) ?_
              refine x_cv (x_rV (As := [.int (nI 4), .int (nI (lwN σ (gN σ 0 0))), .int (nI j1), .int (nI 0), .int (gI σ 117 j2), .int (gI σ 117 j3), .int (nI 0)]) (rest := []) hx hb hml hown ht gW cs_Md_134 (c_Md_send l D dA ad hJ (sN (sN (sN (sN (sN σ 114 j1 0) 115 j1 (lwN σ (gN σ 0 0))) 116 j1 ((gN σ 2 0) + (gN σ 1 0))) 3 0 (lwN σ (gN σ 0 0))) 43 0 ((gN σ 43 0) + 1)) 4 (lwN σ (gN σ 0 0)) j1 0 (gI σ 117 j2) (gI σ 117 j3) (nI 0) B hWf (by omega)) rfl rfl (by decide) xc_Md hN hK hP (moM (by decide)) rfl rfl hl.1 rfl (Nat.le_of_ble_eq_true rfl) d_Md_lend_207 (by decide)) hS (fun H locs hP hS => ?_)
              have hWf : WfM (B + 1) (mSend (sN (sN (sN (sN (sN σ 114 j1 0) 115 j1 (lwN σ (gN σ 0 0))) 116 j1 ((gN σ 2 0) + (gN σ 1 0))) 3 0 (lwN σ (gN σ 0 0))) 43 0 ((gN σ 43 0) + 1)) 4 (lwN σ (gN σ 0 0)) j1 0 (gI σ 117 j2) (gI σ 117 j3) (nI 0)) := wfm_send hWf (by omega) (by omega) (by omega) (by omega)
              exact x_vret hx hb hr hlk hK hP hS d_Md_lend_210 (by unfold mLend; rw [h3]; refine Eq.trans ?_ (if_neg (by omega)).symm; unfold mLen2; rw [show mFind (mLen1 σ _ _) (gI σ 110 _) = _ from h5, show mFind (mLen1 σ _ _) (gI σ 111 _) = _ from h6] <;> rfl)
            · refine lv_iconst (v := (nI 0)) hx hb d_Md_lend_195 (by decide) ?_
              refine lv_goto (tgt := 206) hx hb d_Md_lend_196 (by decide) ?_
              refine lv_iconst (v := (nI 0)) hx hb d_Md_lend_206 (by decide) ?_
              refine x_cv (x_rV (As := [.int (nI 4), .int (nI (lwN σ (gN σ 0 0))), .int (nI j1), .int (nI 0), .int (gI σ 117 j2), .int (nI 0), .int (nI 0)]) (rest := []) hx hb hml hown ht gW cs_Md_134 (c_Md_send l D dA ad hJ (sN (sN (sN (sN (sN σ 114 j1 0) 115 j1 (lwN σ (gN σ 0 0))) 116 j1 ((gN σ 2 0) + (gN σ 1 0))) 3 0 (lwN σ (gN σ 0 0))) 43 0 ((gN σ 43 0) + 1)) 4 (lwN σ (gN σ 0 0)) j1 0 (gI σ 117 j2) (nI 0) (nI 0) B hWf (by omega)) rfl rfl (by decide) xc_Md hN hK hP (moM (by decide)) rfl rfl hl.1 rfl (Nat.le_of_ble_eq_true rfl) d_Md_lend_207 (by decide)) hS (fun H locs hP hS => ?_)
              have hWf : WfM (B + 1) (mSend (sN (sN (sN (sN (sN σ 114 j1 0) 115 j1 (lwN σ (gN σ 0 0))) 116 j1 ((gN σ 2 0) + (gN σ 1 0))) 3 0 (lwN σ (gN σ 0 0))) 43 0 ((gN σ 43 0) + 1)) 4 (lwN σ (gN σ 0 0)) j1 0 (gI σ 117 j2) (nI 0) (nI 0)) := wfm_send hWf (by omega) (by omega) (by omega) (by omega)
              exact x_vret hx hb hr hlk hK hP hS d_Md_lend_210 (by unfold mLend; rw [h3]; refine Eq.trans ?_ (if_neg (by omega)).symm; unfold mLen2; rw [show mFind (mLen1 σ _ _) (gI σ 110 _) = _ from h5, show mFind (mLen1 σ _ _) (gI σ 111 _) = _ from h6] <;> rfl)
          · refine lv_iconst (v := (nI 0)) hx hb d_Md_lend_180 (by decide) ?_
            refine lv_goto (tgt := 190) hx hb d_Md_lend_181 (by decide) ?_
            refine lv_iload hx hb d_Md_lend_190 (lv_at hl 0 rfl) ?_
            refine x_if_geO (n := 12) (tgt := 199) hx hb d_Md_lend_192 (by decide) ⟨mFind_lt hWf, by decide⟩ (fun j4 h7 hl4 => ?_) (fun h7 => ?_)
            · rw [h7] at hl
              have hl : lv_has ls 5 [(4, .int (nI j4)), (3, .int (oI (mFind (sN (sN (sN (sN (sN σ 114 j1 0) 115 j1 (lwN σ (gN σ 0 0))) 116 j1 ((gN σ 2 0) + (gN σ 1 0))) 3 0 (lwN σ (gN σ 0 0))) 43 0 ((gN σ 43 0) + 1)) (gI σ 110 j1)))), (2, .int (nI (lwN σ (gN σ 0 0)))), (1, .int (nI j1)), (0, .ref (ad 0))] := hl
              refine lv_aload_n hx hb d_Md_lend_199 rfl (lv_at hl 4 rfl) ?_
              refine x_get (v := .ref (ad 18)) (k := 25) hx hb ht xc_Md hown hK hP (moM (by decide)) rfl (by decide) fl_Md_63 rfl rfl rfl d_Md_lend_200 ?_
              refine lv_iload hx hb d_Md_lend_203 (lv_at hl 0 rfl) ?_
              refine x_iald (κ := 117) (n := 12) hx hb hK hP (moM (by decide)) rfl (by decide) rfl rfl (by omega) (by omega) d_Md_lend_205 ?_
              rw [show gI (sN (sN (sN (sN (sN σ 114 j1 0) 115 j1 (lwN σ (gN σ 0 0))) 116 j1 ((gN σ 2 0) + (gN σ 1 0))) 3 0 (lwN σ (gN σ 0 0))) 43 0 ((gN σ 43 0) + 1)) 117 j4 = gI σ 117 j4 from rfl]
              refine lv_iconst (v := (nI 0)) hx hb d_Md_lend_206 (by decide) ?_
              refine x_cv (x_rV (As := [.int (nI 4), .int (nI (lwN σ (gN σ 0 0))), .int (nI j1), .int (nI 0), .int (nI 0), .int (gI σ 117 j4), .int (nI 0)]) (rest := []) hx hb hml hown ht gW cs_Md_134 (c_Md_send l D dA ad hJ (sN (sN (sN (sN (sN σ 114 j1 0) 115 j1 (lwN σ (gN σ 0 0))) 116 j1 ((gN σ 2 0) + (gN σ 1 0))) 3 0 (lwN σ (gN σ 0 0))) 43 0 ((gN σ 43 0) + 1)) 4 (lwN σ (gN σ 0 0)) j1 0 (nI 0) (gI σ 117 j4) (nI 0) B hWf (by omega)) rfl rfl (by decide) xc_Md hN hK hP (moM (by decide)) rfl rfl hl.1 rfl (Nat.le_of_ble_eq_true rfl) d_Md_lend_207 (by decide)) hS (fun H locs hP hS => ?_)
              have hWf : WfM (B + 1) (mSend (sN (sN (sN (sN (sN σ 114 j1 0) 115 j1 (lwN σ (gN σ 0 0))) 116 j1 ((gN σ 2 0) + (gN σ 1 0))) 3 0 (lwN σ (gN σ 0 0))) 43 0 ((gN σ 43 0) + 1)) 4 (lwN σ (gN σ 0 0)) j1 0 (nI 0) (gI σ 117 j4) (nI 0)) := wfm_send hWf (by omega) (by omega) (by omega) (by omega)
              exact x_vret hx hb hr hlk hK hP hS d_Md_lend_210 (by unfold mLend; rw [h3]; refine Eq.trans ?_ (if_neg (by omega)).symm; unfold mLen2; rw [show mFind (mLen1 σ _ _) (gI σ 110 _) = _ from h5, show mFind (mLen1 σ _ _) (gI σ 111 _) = _ from h7] <;> rfl)
            · refine lv_iconst (v := (nI 0)) hx hb d_Md_lend_195 (by decide) ?_
              refine lv_goto (tgt := 206) hx hb d_Md_lend_196 (by decide) ?_
              refine lv_iconst (v := (nI 0)) hx hb d_Md_lend_206 (by decide) ?_
              refine x_cv (x_rV (As := [.int (nI 4), .int (nI (lwN σ (gN σ 0 0))), .int (nI j1), .int (nI 0), .int (nI 0), .int (nI 0), .int (nI 0)]) (rest := []) hx hb hml hown ht gW cs_Md_134 (c_Md_send l D dA ad hJ (sN (sN (sN (sN (sN σ 114 j1 0) 115 j1 (lwN σ (gN σ 0 0))) 116 j1 ((gN σ 2 0) + (gN σ 1 0))) 3 0 (lwN σ (gN σ 0 0))) 43 0 ((gN σ 43 0) + 1)) 4 (lwN σ (gN σ 0 0)) j1 0 (nI 0) (nI 0) (nI 0) B hWf (by omega)) rfl rfl (by decide) xc_Md hN hK hP (moM (by decide)) rfl rfl hl.1 rfl (Nat.le_of_ble_eq_true rfl) d_Md_lend_207 (by decide)) hS (fun H locs hP hS => ?_)
              have hWf : WfM (B + 1) (mSend (sN (sN (sN (sN (sN σ 114 j1 0) 115 j1 (lwN σ (gN σ 0 0))) 116 j1 ((gN σ 2 0) + (gN σ 1 0))) 3 0 (lwN σ (gN σ 0 0))) 43 0 ((gN σ 43 0) + 1)) 4 (lwN σ (gN σ 0 0)) j1 0 (nI 0) (nI 0) (nI 0)) := wfm_send hWf (by omega) (by omega) (by omega) (by omega)
              exact x_vret hx hb hr hlk hK hP hS d_Md_lend_210 (by unfold mLend; rw [h3]; refine Eq.trans ?_ (if_neg (by omega)).symm; unfold mLen2; rw [show mFind (mLen1 σ _ _) (gI σ 110 _) = _ from h5, show mFind (mLen1 σ _ _) (gI σ 111 _) = _ from h7] <;> rfl)
        · exact x_vret hx hb hr hlk hK hP hS d_Md_lend_103 (by unfold mLend; rw [h3]; exact (if_pos h4).symm)
    · refine lv_aload_n hx hb d_Md_lend_60 rfl (lv_at hl 3 rfl) ?_
      refine x_get (v := .int (nI (gN σ 3 0))) (k := 3) hx hb ht xc_Md hown hK hP (moM (by decide)) rfl (by decide) fl_Md_156 rfl rfl rfl d_Md_lend_61 ?_
      refine lv_iconst (v := (nI 1)) hx hb d_Md_lend_64 (by decide) ?_
      refine lv_isub hx hb d_Md_lend_65 ?_
      refine lv_iload_n hx hb d_Md_lend_66 rfl (lv_at hl 0 rfl) ?_
      refine lv_iadd hx hb d_Md_lend_67 ?_
      rw [show nI (gN σ 3 0) - nI 1 + nI (gN σ 0 0 - i) = nI ((gN σ 3 0) + (gN σ 0 0 - i) - 1) from lend_e (by omega)]
      have hla9 := hWf.la
      refine lv_aload_n hx hb d_Md_lend_68 rfl (lv_at hl 3 rfl) ?_
      refine x_get (v := .int (nI (gN σ 0 0))) (k := 0) hx hb ht xc_Md hown hK hP (moM (by decide)) rfl (by decide) fl_Md_102 rfl rfl rfl d_Md_lend_69 ?_
      refine lv_irem hx hb d_Md_lend_72 (nI_ne0 (by omega) (by omega)) ?_
      rw [pk_rem (by omega) (by omega) (by omega)]
      refine lv_iconst (v := (nI 1)) hx hb d_Md_lend_73 (by decide) ?_
      refine x_iaddN hx hb d_Md_lend_74 ?_
      refine W.eq (g2 := F0 mm 75 ls [.int (nI (cD σ (gN σ 0 0 - i)))]) rfl ?_
      have hcd := cD_le (d := gN σ 0 0 - i) hM3.1
      refine lv_istore (lv' := [(4, .int (nI (cD σ (gN σ 0 0 - i)))), (3, .int (nI (gN σ 0 0 - i))), (2, .int (nI (lwN σ i))), (1, .int (oI (mnq σ (gN σ 14 0)))), (0, .ref (ad 0))]) hx hb d_Md_lend_75 hl (by decide) rfl (fun ls hl => ?_)
      refine lv_aload_n hx hb d_Md_lend_77 rfl (lv_at hl 4 rfl) ?_
      refine lv_iload hx hb d_Md_lend_78 (lv_at hl 0 rfl) ?_
      refine x_ci (x_rV (As := [.int (nI (cD σ (gN σ 0 0 - i)))]) (rest := []) hx hb hml hown ht gW cs_Md_242 (c_Md_leased l D dA ad hJ σ (cD σ (gN σ 0 0 - i)) B hWf (by omega)) rfl rfl (by decide) xc_Md hN hK hP (moM (by decide)) rfl rfl hl.1 rfl (Nat.le_of_ble_eq_true rfl) d_Md_lend_80 (by decide)) hS (fun H locs hP hS => ?_)
      refine x_if_geO (n := 10) (tgt := 89) hx hb d_Md_lend_83 (by decide) ⟨lsd_lt hWf, by decide⟩ (fun j5 h8 hl5 => ?_) (fun h8 => ?_)
      · refine lv_iinc (lv' := [(3, .int (nI ((gN σ 0 0 - i) - 1))), (4, .int (nI (cD σ (gN σ 0 0 - i)))), (2, .int (nI (lwN σ i))), (1, .int (oI (mnq σ (gN σ 14 0)))), (0, .ref (ad 0))]) (v := (nI ((gN σ 0 0 - i) - 1))) hx hb d_Md_lend_89 hl (k := 1) rfl (x_dec (by omega)) (by decide) rfl (fun ls hl => ?_)
        refine lv_goto (tgt := 55) hx hb d_Md_lend_92 (by decide) ?_
        exact ih2 (i + 1) (by show i + 1 ≤ gN σ 0 0; omega) (by omega) H locs ls hP hS (lv_sub hl [0, 2, 3, 4] (by simp [lv_pick, lwN, Nat.sub_sub, h8]))
      · refine lv_iload hx hb d_Md_lend_86 (lv_at hl 0 rfl) ?_
        refine lv_istore_n (lv' := [(2, .int (nI (cD σ (gN σ 0 0 - i)))), (4, .int (nI (cD σ (gN σ 0 0 - i)))), (3, .int (nI (gN σ 0 0 - i))), (1, .int (oI (mnq σ (gN σ 14 0)))), (0, .ref (ad 0))]) hx hb d_Md_lend_88 rfl hl (by decide) rfl (fun ls hl => ?_)
        refine lv_iinc (lv' := [(3, .int (nI ((gN σ 0 0 - i) - 1))), (2, .int (nI (cD σ (gN σ 0 0 - i)))), (4, .int (nI (cD σ (gN σ 0 0 - i)))), (1, .int (oI (mnq σ (gN σ 14 0)))), (0, .ref (ad 0))]) (v := (nI ((gN σ 0 0 - i) - 1))) hx hb d_Md_lend_89 hl (k := 2) rfl (x_dec (by omega)) (by decide) rfl (fun ls hl => ?_)
        refine lv_goto (tgt := 55) hx hb d_Md_lend_92 (by decide) ?_
        exact ih2 (i + 1) (by show i + 1 ≤ gN σ 0 0; omega) (by omega) H locs ls hP hS (lv_sub hl [0, 1, 3, 4] (by simp [lv_pick, lwN, Nat.sub_sub, h8]))
  · refine lv_aload_n hx hb d_Md_lend_12 rfl (lv_at hl 2 rfl) ?_
    refine x_get (v := .ref (ad 15)) (k := 20) hx hb ht xc_Md hown hK hP (moM (by decide)) rfl (by decide) fl_Md_54 rfl rfl rfl d_Md_lend_13 ?_
    refine lv_iload_n hx hb d_Md_lend_16 rfl (lv_at hl 0 rfl) ?_
    refine x_nald (κ := 114) (n := 10) hx hb hK hP (moM (by decide)) rfl (by decide) rfl rfl (by omega) (by omega) d_Md_lend_17 ?_
    refine x_if_leN (tgt := 42) hx hb d_Md_lend_18 (by decide) (Nat.lt_of_le_of_lt (hWf.qd _) (by omega)) (fun h9 => ?_) (fun h9 => ?_)
    · refine lv_iinc (lv' := [(2, .int (nI (k + 1))), (1, .int (oI (mnq σ k))), (0, .ref (ad 0))]) (v := (nI (k + 1))) hx hb d_Md_lend_42 hl (k := 0) rfl (nI_add _ _) (by decide) rfl (fun ls hl => ?_)
      refine lv_goto (tgt := 4) hx hb d_Md_lend_45 (by decide) ?_
      exact ih (k + 1) (by show k + 1 ≤ gN σ 14 0; omega) (by omega) H locs ls hP hS (lv_sub hl [0, 1, 2] (by simp [lv_pick, mnq, h9]))
    · refine lv_iload_n hx hb d_Md_lend_21 rfl (lv_at hl 1 rfl) ?_
      refine x_if_ltO (n := 10) (tgt := 40) hx hb d_Md_lend_22 (by decide) ⟨fun i hi => Nat.lt_trans (mnq_lt hi) (show k < 10 by omega), by decide⟩ (fun h10 => ?_) (fun j6 h10 hl6 => ?_)
      · refine lv_iload_n hx hb d_Md_lend_40 rfl (lv_at hl 0 rfl) ?_
        refine lv_istore_n (lv' := [(1, .int (nI k)), (2, .int (nI k)), (0, .ref (ad 0))]) hx hb d_Md_lend_41 rfl hl (by decide) rfl (fun ls hl => ?_)
        refine lv_iinc (lv' := [(2, .int (nI (k + 1))), (1, .int (nI k)), (0, .ref (ad 0))]) (v := (nI (k + 1))) hx hb d_Md_lend_42 hl (k := 1) rfl (nI_add _ _) (by decide) rfl (fun ls hl => ?_)
        refine lv_goto (tgt := 4) hx hb d_Md_lend_45 (by decide) ?_
        exact ih (k + 1) (by show k + 1 ≤ gN σ 14 0; omega) (by omega) H locs ls hP hS (lv_sub hl [0, 1, 2] (by simp [lv_pick, mnq, oI, Nat.ne_of_gt h9, h10]))
      · rw [h10] at hl
        have hl : lv_has ls 5 [(2, .int (nI k)), (1, .int (nI j6)), (0, .ref (ad 0))] := hl
        refine lv_aload_n hx hb d_Md_lend_25 rfl (lv_at hl 2 rfl) ?_
        refine x_get (v := .ref (ad 15)) (k := 20) hx hb ht xc_Md hown hK hP (moM (by decide)) rfl (by decide) fl_Md_54 rfl rfl rfl d_Md_lend_26 ?_
        refine lv_iload_n hx hb d_Md_lend_29 rfl (lv_at hl 0 rfl) ?_
        refine x_nald (κ := 114) (n := 10) hx hb hK hP (moM (by decide)) rfl (by decide) rfl rfl (by omega) (by omega) d_Md_lend_30 ?_
        refine lv_aload_n hx hb d_Md_lend_31 rfl (lv_at hl 2 rfl) ?_
        refine x_get (v := .ref (ad 15)) (k := 20) hx hb ht xc_Md hown hK hP (moM (by decide)) rfl (by decide) fl_Md_54 rfl rfl rfl d_Md_lend_32 ?_
        refine lv_iload_n hx hb d_Md_lend_35 rfl (lv_at hl 1 rfl) ?_
        refine x_nald (κ := 114) (n := 10) hx hb hK hP (moM (by decide)) rfl (by decide) rfl rfl (by omega) (by omega) d_Md_lend_36 ?_
        refine x_icmp_geN (tgt := 42) hx hb d_Md_lend_37 (by decide) (Nat.lt_of_le_of_lt (hWf.qd _) (by omega)) (Nat.lt_of_le_of_lt (hWf.qd _) (by omega)) (fun h11 => ?_) (fun h11 => ?_)
        · refine lv_iinc (lv' := [(2, .int (nI (k + 1))), (1, .int (nI j6)), (0, .ref (ad 0))]) (v := (nI (k + 1))) hx hb d_Md_lend_42 hl (k := 0) rfl (nI_add _ _) (by decide) rfl (fun ls hl => ?_)
          refine lv_goto (tgt := 4) hx hb d_Md_lend_45 (by decide) ?_
          exact ih (k + 1) (by show k + 1 ≤ gN σ 14 0; omega) (by omega) H locs ls hP hS (lv_sub hl [0, 1, 2] (by simp [lv_pick, mnq, oI, Nat.ne_of_gt h9, h10, Nat.not_lt.mpr h11]))
        · refine lv_iload_n hx hb d_Md_lend_40 rfl (lv_at hl 0 rfl) ?_
          refine lv_istore_n (lv' := [(1, .int (nI k)), (2, .int (nI k)), (0, .ref (ad 0))]) hx hb d_Md_lend_41 rfl hl (by decide) rfl (fun ls hl => ?_)
          refine lv_iinc (lv' := [(2, .int (nI (k + 1))), (1, .int (nI k)), (0, .ref (ad 0))]) (v := (nI (k + 1))) hx hb d_Md_lend_42 hl (k := 1) rfl (nI_add _ _) (by decide) rfl (fun ls hl => ?_)
          refine lv_goto (tgt := 4) hx hb d_Md_lend_45 (by decide) ?_
          exact ih (k + 1) (by show k + 1 ≤ gN σ 14 0; omega) (by omega) H locs ls hP hS (lv_sub hl [0, 1, 2] (by simp [lv_pick, mnq, oI, Nat.ne_of_gt h9, h10, h11]))
set_option maxHeartbeats 4000000 in
set_option maxRecDepth 100000 in
theorem c_Md_takeLack (l : Launch) (D : va_G) (dA : Nat → ClassId) (ad : Nat → Nat) (hJ : Inj ad obM) (σ : Sg) (i : Nat) (a : Int32) (b : Int32) (B : Nat) (hWf : WfM B σ) (hB : B + 4 < 2 ^ 30) (hi : i < 10) (hc : fKey σ i = none → gN σ 14 0 < 10) : CV l D clX (tyX dA) SM ad dA obM NL y_Md_takeLack w_Md_takeLack { frames := 3, cells := 0, slots := 0, locals := 69 } [.ref (ad 0), .int (nI i), .int a, .int b] σ (mLk σ i a b) := by
  refine x_of (WS := WS) (cc := b_Md_takeLack) (maxL := 6) (ret := none) (by decide) rfl (Nat.le_of_ble_eq_true rfl) ?_
  intro pp ee ss mm below meth cdd hx hb hml hr hlk ht hown hnm hN hK hP ls hl
  have hl : lv_has ls 6 [(0, .ref (ad 0)), (1, .int (nI i)), (2, .int a), (3, .int b)] := hl
  have hS : va_S (Ad ad obM) ss.heap ss.heap [] := va_S.rf
  have hw := swfM
  have hM0 := hWf.it
  have hM1 := hWf.ks
  have hM2 := hWf.bl
  have hM3 := hWf.wk
  have hM4 := hWf.bi
  have hM5 := hWf.qu
  have hM6 := hWf.tm
  have hM7 := hWf.la
  have hlf := hWf.lf i
  have hrg := hWf.rg i
  refine lv_aload_n hx hb d_Md_takeLack_0 rfl (lv_at hl 0 rfl) ?_
  refine x_get (v := .ref (ad 6)) (k := 10) hx hb ht xc_Md hown hK hP (moM (by decide)) rfl (by decide) fl_Md_27 rfl rfl rfl d_Md_takeLack_1 ?_
  refine lv_iload_n hx hb d_Md_takeLack_4 rfl (lv_at hl 1 rfl) ?_
  refine x_zald (κ := 105) (n := 10) hx hb hK hP (moM (by decide)) rfl (by decide) rfl rfl (by omega) (by omega) d_Md_takeLack_5 ?_
  refine x_ifeqB (tgt := 10) hx hb d_Md_takeLack_6 (by decide) (fun h1 => ?_) (fun h1 => ?_)
  · refine lv_aload_n hx hb d_Md_takeLack_10 rfl (lv_at hl 0 rfl) ?_
    refine x_get (v := .ref (ad 7)) (k := 11) hx hb ht xc_Md hown hK hP (moM (by decide)) rfl (by decide) fl_Md_30 rfl rfl rfl d_Md_takeLack_11 ?_
    refine lv_aload_n hx hb d_Md_takeLack_14 rfl (lv_at hl 0 rfl) ?_
    refine x_get (v := .ref (ad 4)) (k := 8) hx hb ht xc_Md hown hK hP (moM (by decide)) rfl (by decide) fl_Md_20 rfl rfl rfl d_Md_takeLack_15 ?_
    refine lv_iload_n hx hb d_Md_takeLack_18 rfl (lv_at hl 1 rfl) ?_
    refine x_nald (κ := 103) (n := 10) hx hb hK hP (moM (by decide)) rfl (by decide) rfl rfl (by omega) (by omega) d_Md_takeLack_19 ?_
    refine x_iald (κ := 106) (n := 10) hx hb hK hP (moM (by decide)) rfl (by decide) rfl rfl (by omega) (by omega) d_Md_takeLack_20 ?_
    refine lv_istore (lv' := [(4, .int (gI σ 106 (gN σ 103 i))), (0, .ref (ad 0)), (1, .int (nI i)), (2, .int a), (3, .int b)]) hx hb d_Md_takeLack_21 hl (by decide) rfl (fun ls hl => ?_)
    refine lv_aload_n hx hb d_Md_takeLack_23 rfl (lv_at hl 1 rfl) ?_
    refine x_get (v := .ref (ad 7)) (k := 11) hx hb ht xc_Md hown hK hP (moM (by decide)) rfl (by decide) fl_Md_30 rfl rfl rfl d_Md_takeLack_24 ?_
    refine lv_aload_n hx hb d_Md_takeLack_27 rfl (lv_at hl 1 rfl) ?_
    refine x_get (v := .ref (ad 5)) (k := 9) hx hb ht xc_Md hown hK hP (moM (by decide)) rfl (by decide) fl_Md_24 rfl rfl rfl d_Md_takeLack_28 ?_
    refine lv_iload_n hx hb d_Md_takeLack_31 rfl (lv_at hl 2 rfl) ?_
    refine x_nald (κ := 104) (n := 10) hx hb hK hP (moM (by decide)) rfl (by decide) rfl rfl (by omega) (by omega) d_Md_takeLack_32 ?_
    refine x_iald (κ := 106) (n := 10) hx hb hK hP (moM (by decide)) rfl (by decide) rfl rfl (by omega) (by omega) d_Md_takeLack_33 ?_
    refine lv_istore (lv' := [(5, .int (gI σ 106 (gN σ 104 i))), (4, .int (gI σ 106 (gN σ 103 i))), (0, .ref (ad 0)), (1, .int (nI i)), (2, .int a), (3, .int b)]) hx hb d_Md_takeLack_34 hl (by decide) rfl (fun ls hl => ?_)
    refine lv_iload_n hx hb d_Md_takeLack_36 rfl (lv_at hl 4 rfl) ?_
    refine lv_iconst (v := (nI 1)) hx hb d_Md_takeLack_37 (by decide) ?_
    refine lv_icmp_ne (tgt := 58) hx hb d_Md_takeLack_38 (by decide) (fun h2 => ?_) (fun h2 => ?_)
    · refine lv_iload_n hx hb d_Md_takeLack_58 rfl (lv_at hl 5 rfl) ?_
      refine lv_iconst (v := (nI 1)) hx hb d_Md_takeLack_59 (by decide) ?_
      refine lv_icmp_ne (tgt := 80) hx hb d_Md_takeLack_60 (by decide) (fun h3 => ?_) (fun h3 => ?_)
      · refine lv_aload_n hx hb d_Md_takeLack_80 rfl (lv_at hl 2 rfl) ?_
        refine lv_iload_n hx hb d_Md_takeLack_81 rfl (lv_at hl 3 rfl) ?_
        refine x_cv (x_rV (As := [.int (nI i)]) (rest := []) hx hb hml hown ht gW cs_Md_202 (c_Md_ask l D dA ad hJ σ i B hWf (by omega) (by omega) (by assumption)) rfl rfl (by decide) xc_Md hN hK hP (moM (by decide)) rfl rfl hl.1 rfl (Nat.le_of_ble_eq_true rfl) d_Md_takeLack_82 (by decide)) hS (fun H locs hP hS => ?_)
        have hWf : WfM (B + 1) (mAsk σ i) := wfm_ask hWf (by omega) (by assumption)
        exact x_vret hx hb hr hlk hK hP hS d_Md_takeLack_85 (by unfold mLk mLk2 mLk1; simp only [h1, h2, h3, if_true, if_false, Bool.false_eq_true, reduceCtorEq])
      · refine lv_aload_n hx hb d_Md_takeLack_63 rfl (lv_at hl 2 rfl) ?_
        refine lv_iconst (v := (nI 3)) hx hb d_Md_takeLack_64 (by decide) ?_
        refine lv_iconst (v := (nI 0)) hx hb d_Md_takeLack_65 (by decide) ?_
        refine lv_iconst (v := (nI 0)) hx hb d_Md_takeLack_66 (by decide) ?_
        refine lv_iconst (v := (nI 0)) hx hb d_Md_takeLack_67 (by decide) ?_
        refine lv_iload hx hb d_Md_takeLack_68 (lv_at hl 0 rfl) ?_
        refine lv_iconst (v := (nI 0)) hx hb d_Md_takeLack_70 (by decide) ?_
        refine lv_aload_n hx hb d_Md_takeLack_71 rfl (lv_at hl 2 rfl) ?_
        refine lv_iload hx hb d_Md_takeLack_72 (lv_at hl 0 rfl) ?_
        refine x_ci (x_rV (As := [.int (gI σ 106 (gN σ 104 i))]) (rest := [.int (nI 0), .int (gI σ 106 (gN σ 104 i)), .int (nI 0), .int (nI 0), .int (nI 0), .int (nI 3), .ref (ad 0)]) hx hb hml hown ht gW cs_Md_118 (c_Md_digest l D dA ad hJ σ (gI σ 106 (gN σ 104 i))) rfl rfl (by decide) xc_Md hN hK hP (moM (by decide)) rfl rfl hl.1 rfl (Nat.le_of_ble_eq_true rfl) d_Md_takeLack_74 (by decide)) hS (fun H locs hP hS => ?_)
        refine x_cv (x_rV (As := [.int (nI 3), .int (nI 0), .int (nI 0), .int (nI 0), .int (gI σ 106 (gN σ 104 i)), .int (nI 0), .int (dg (gI σ 106 (gN σ 104 i)))]) (rest := []) hx hb hml hown ht gW cs_Md_134 (c_Md_send l D dA ad hJ σ 3 0 0 0 (gI σ 106 (gN σ 104 i)) (nI 0) (dg (gI σ 106 (gN σ 104 i))) B hWf (by omega)) rfl rfl (by decide) xc_Md hN hK hP (moM (by decide)) rfl rfl hl.1 rfl (Nat.le_of_ble_eq_true rfl) d_Md_takeLack_77 (by decide)) hS (fun H locs hP hS => ?_)
        have hWf : WfM (B + 1) (mSend σ 3 0 0 0 (gI σ 106 (gN σ 104 i)) (nI 0) (dg (gI σ 106 (gN σ 104 i)))) := wfm_send hWf (by omega) (by omega) (by omega) (by omega)
        have hc : fKey (mSend σ 3 0 0 0 (gI σ 106 (gN σ 104 i)) (nI 0) (dg (gI σ 106 (gN σ 104 i)))) i = none → gN (mSend σ 3 0 0 0 (gI σ 106 (gN σ 104 i)) (nI 0) (dg (gI σ 106 (gN σ 104 i)))) 14 0 < 10 := hc_send hc
        refine lv_aload_n hx hb d_Md_takeLack_80 rfl (lv_at hl 2 rfl) ?_
        refine lv_iload_n hx hb d_Md_takeLack_81 rfl (lv_at hl 3 rfl) ?_
        refine x_cv (x_rV (As := [.int (nI i)]) (rest := []) hx hb hml hown ht gW cs_Md_202 (c_Md_ask l D dA ad hJ (mSend σ 3 0 0 0 (gI σ 106 (gN σ 104 i)) (nI 0) (dg (gI σ 106 (gN σ 104 i)))) i (B + 1) hWf (by omega) (by omega) (by assumption)) rfl rfl (by decide) xc_Md hN hK hP (moM (by decide)) rfl rfl hl.1 rfl (Nat.le_of_ble_eq_true rfl) d_Md_takeLack_82 (by decide)) hS (fun H locs hP hS => ?_)
        have hWf : WfM (B + 2) (mAsk (mSend σ 3 0 0 0 (gI σ 106 (gN σ 104 i)) (nI 0) (dg (gI σ 106 (gN σ 104 i)))) i) := wfm_ask hWf (by omega) (by assumption)
        exact x_vret hx hb hr hlk hK hP hS d_Md_takeLack_85 (by unfold mLk mLk2 mLk1; simp only [h1, h2, h3, if_true, if_false, Bool.false_eq_true, reduceCtorEq])
    · refine lv_aload_n hx hb d_Md_takeLack_41 rfl (lv_at hl 2 rfl) ?_
      refine lv_iconst (v := (nI 3)) hx hb d_Md_takeLack_42 (by decide) ?_
      refine lv_iconst (v := (nI 0)) hx hb d_Md_takeLack_43 (by decide) ?_
      refine lv_iconst (v := (nI 0)) hx hb d_Md_takeLack_44 (by decide) ?_
      refine lv_iconst (v := (nI 0)) hx hb d_Md_takeLack_45 (by decide) ?_
      refine lv_iload hx hb d_Md_takeLack_46 (lv_at hl 1 rfl) ?_
      refine lv_iconst (v := (nI 0)) hx hb d_Md_takeLack_48 (by decide) ?_
      refine lv_aload_n hx hb d_Md_takeLack_49 rfl (lv_at hl 2 rfl) ?_
      refine lv_iload hx hb d_Md_takeLack_50 (lv_at hl 1 rfl) ?_
      refine x_ci (x_rV (As := [.int (gI σ 106 (gN σ 103 i))]) (rest := [.int (nI 0), .int (gI σ 106 (gN σ 103 i)), .int (nI 0), .int (nI 0), .int (nI 0), .int (nI 3), .ref (ad 0)]) hx hb hml hown ht gW cs_Md_118 (c_Md_digest l D dA ad hJ σ (gI σ 106 (gN σ 103 i))) rfl rfl (by decide) xc_Md hN hK hP (moM (by decide)) rfl rfl hl.1 rfl (Nat.le_of_ble_eq_true rfl) d_Md_takeLack_52 (by decide)) hS (fun H locs hP hS => ?_)
      refine x_cv (x_rV (As := [.int (nI 3), .int (nI 0), .int (nI 0), .int (nI 0), .int (gI σ 106 (gN σ 103 i)), .int (nI 0), .int (dg (gI σ 106 (gN σ 103 i)))]) (rest := []) hx hb hml hown ht gW cs_Md_134 (c_Md_send l D dA ad hJ σ 3 0 0 0 (gI σ 106 (gN σ 103 i)) (nI 0) (dg (gI σ 106 (gN σ 103 i))) B hWf (by omega)) rfl rfl (by decide) xc_Md hN hK hP (moM (by decide)) rfl rfl hl.1 rfl (Nat.le_of_ble_eq_true rfl) d_Md_takeLack_55 (by decide)) hS (fun H locs hP hS => ?_)
      have hWf : WfM (B + 1) (mSend σ 3 0 0 0 (gI σ 106 (gN σ 103 i)) (nI 0) (dg (gI σ 106 (gN σ 103 i)))) := wfm_send hWf (by omega) (by omega) (by omega) (by omega)
      have hc : fKey (mSend σ 3 0 0 0 (gI σ 106 (gN σ 103 i)) (nI 0) (dg (gI σ 106 (gN σ 103 i)))) i = none → gN (mSend σ 3 0 0 0 (gI σ 106 (gN σ 103 i)) (nI 0) (dg (gI σ 106 (gN σ 103 i)))) 14 0 < 10 := hc_send hc
      refine lv_iload_n hx hb d_Md_takeLack_58 rfl (lv_at hl 5 rfl) ?_
      refine lv_iconst (v := (nI 1)) hx hb d_Md_takeLack_59 (by decide) ?_
      refine lv_icmp_ne (tgt := 80) hx hb d_Md_takeLack_60 (by decide) (fun h4 => ?_) (fun h4 => ?_)
      · refine lv_aload_n hx hb d_Md_takeLack_80 rfl (lv_at hl 2 rfl) ?_
        refine lv_iload_n hx hb d_Md_takeLack_81 rfl (lv_at hl 3 rfl) ?_
        refine x_cv (x_rV (As := [.int (nI i)]) (rest := []) hx hb hml hown ht gW cs_Md_202 (c_Md_ask l D dA ad hJ (mSend σ 3 0 0 0 (gI σ 106 (gN σ 103 i)) (nI 0) (dg (gI σ 106 (gN σ 103 i)))) i (B + 1) hWf (by omega) (by omega) (by assumption)) rfl rfl (by decide) xc_Md hN hK hP (moM (by decide)) rfl rfl hl.1 rfl (Nat.le_of_ble_eq_true rfl) d_Md_takeLack_82 (by decide)) hS (fun H locs hP hS => ?_)
        have hWf : WfM (B + 2) (mAsk (mSend σ 3 0 0 0 (gI σ 106 (gN σ 103 i)) (nI 0) (dg (gI σ 106 (gN σ 103 i)))) i) := wfm_ask hWf (by omega) (by assumption)
        exact x_vret hx hb hr hlk hK hP hS d_Md_takeLack_85 (by unfold mLk mLk2 mLk1; simp only [h1, h2, h4, if_true, if_false, Bool.false_eq_true, reduceCtorEq])
      · refine lv_aload_n hx hb d_Md_takeLack_63 rfl (lv_at hl 2 rfl) ?_
        refine lv_iconst (v := (nI 3)) hx hb d_Md_takeLack_64 (by decide) ?_
        refine lv_iconst (v := (nI 0)) hx hb d_Md_takeLack_65 (by decide) ?_
        refine lv_iconst (v := (nI 0)) hx hb d_Md_takeLack_66 (by decide) ?_
        refine lv_iconst (v := (nI 0)) hx hb d_Md_takeLack_67 (by decide) ?_
        refine lv_iload hx hb d_Md_takeLack_68 (lv_at hl 0 rfl) ?_
        refine lv_iconst (v := (nI 0)) hx hb d_Md_takeLack_70 (by decide) ?_
        refine lv_aload_n hx hb d_Md_takeLack_71 rfl (lv_at hl 2 rfl) ?_
        refine lv_iload hx hb d_Md_takeLack_72 (lv_at hl 0 rfl) ?_
        refine x_ci (x_rV (As := [.int (gI σ 106 (gN σ 104 i))]) (rest := [.int (nI 0), .int (gI σ 106 (gN σ 104 i)), .int (nI 0), .int (nI 0), .int (nI 0), .int (nI 3), .ref (ad 0)]) hx hb hml hown ht gW cs_Md_118 (c_Md_digest l D dA ad hJ (mSend σ 3 0 0 0 (gI σ 106 (gN σ 103 i)) (nI 0) (dg (gI σ 106 (gN σ 103 i)))) (gI σ 106 (gN σ 104 i))) rfl rfl (by decide) xc_Md hN hK hP (moM (by decide)) rfl rfl hl.1 rfl (Nat.le_of_ble_eq_true rfl) d_Md_takeLack_74 (by decide)) hS (fun H locs hP hS => ?_)
        refine x_cv (x_rV (As := [.int (nI 3), .int (nI 0), .int (nI 0), .int (nI 0), .int (gI σ 106 (gN σ 104 i)), .int (nI 0), .int (dg (gI σ 106 (gN σ 104 i)))]) (rest := []) hx hb hml hown ht gW cs_Md_134 (c_Md_send l D dA ad hJ (mSend σ 3 0 0 0 (gI σ 106 (gN σ 103 i)) (nI 0) (dg (gI σ 106 (gN σ 103 i)))) 3 0 0 0 (gI σ 106 (gN σ 104 i)) (nI 0) (dg (gI σ 106 (gN σ 104 i))) (B + 1) hWf (by omega)) rfl rfl (by decide) xc_Md hN hK hP (moM (by decide)) rfl rfl hl.1 rfl (Nat.le_of_ble_eq_true rfl) d_Md_takeLack_77 (by decide)) hS (fun H locs hP hS => ?_)
        have hWf : WfM (B + 2) (mSend (mSend σ 3 0 0 0 (gI σ 106 (gN σ 103 i)) (nI 0) (dg (gI σ 106 (gN σ 103 i)))) 3 0 0 0 (gI σ 106 (gN σ 104 i)) (nI 0) (dg (gI σ 106 (gN σ 104 i)))) := wfm_send hWf (by omega) (by omega) (by omega) (by omega)
        have hc : fKey (mSend (mSend σ 3 0 0 0 (gI σ 106 (gN σ 103 i)) (nI 0) (dg (gI σ 106 (gN σ 103 i)))) 3 0 0 0 (gI σ 106 (gN σ 104 i)) (nI 0) (dg (gI σ 106 (gN σ 104 i)))) i = none → gN (mSend (mSend σ 3 0 0 0 (gI σ 106 (gN σ 103 i)) (nI 0) (dg (gI σ 106 (gN σ 103 i)))) 3 0 0 0 (gI σ 106 (gN σ 104 i)) (nI 0) (dg (gI σ 106 (gN σ 104 i)))) 14 0 < 10 := hc_send hc
        refine lv_aload_n hx hb d_Md_takeLack_80 rfl (lv_at hl 2 rfl) ?_
        refine lv_iload_n hx hb d_Md_takeLack_81 rfl (lv_at hl 3 rfl) ?_
        refine x_cv (x_rV (As := [.int (nI i)]) (rest := []) hx hb hml hown ht gW cs_Md_202 (c_Md_ask l D dA ad hJ (mSend (mSend σ 3 0 0 0 (gI σ 106 (gN σ 103 i)) (nI 0) (dg (gI σ 106 (gN σ 103 i)))) 3 0 0 0 (gI σ 106 (gN σ 104 i)) (nI 0) (dg (gI σ 106 (gN σ 104 i)))) i (B + 2) hWf (by omega) (by omega) (by assumption)) rfl rfl (by decide) xc_Md hN hK hP (moM (by decide)) rfl rfl hl.1 rfl (Nat.le_of_ble_eq_true rfl) d_Md_takeLack_82 (by decide)) hS (fun H locs hP hS => ?_)
        have hWf : WfM (B + 3) (mAsk (mSend (mSend σ 3 0 0 0 (gI σ 106 (gN σ 103 i)) (nI 0) (dg (gI σ 106 (gN σ 103 i)))) 3 0 0 0 (gI σ 106 (gN σ 104 i)) (nI 0) (dg (gI σ 106 (gN σ 104 i)))) i) := wfm_ask hWf (by omega) (by assumption)
        exact x_vret hx hb hr hlk hK hP hS d_Md_takeLack_85 (by unfold mLk mLk2 mLk1; simp only [h1, h2, h4, if_true, if_false, Bool.false_eq_true, reduceCtorEq])
  · exact x_vret hx hb hr hlk hK hP hS d_Md_takeLack_9 (by unfold mLk; rw [if_pos h1])
