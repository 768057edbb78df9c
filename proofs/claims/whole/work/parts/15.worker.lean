abbrev b_Worker_goDown : ByteArray := prog_10_method_2_code
def y_Worker_goDown : MethodName := ⟨"LeasedBuilds$Worker", "goDown", "()V"⟩
def w_Worker_goDown : List Cond := .code y_Worker_goDown b_Worker_goDown 1 none :: WS
abbrev b_Worker_begin : ByteArray := prog_10_method_3_code
def y_Worker_begin : MethodName := ⟨"LeasedBuilds$Worker", "begin", "(LLeasedBuilds$Message;)V"⟩
def w_Worker_begin : List Cond := .code y_Worker_begin b_Worker_begin 2 none :: WS
abbrev b_Worker_next : ByteArray := prog_10_method_5_code
def y_Worker_next : MethodName := ⟨"LeasedBuilds$Worker", "next", "()I"⟩
def w_Worker_next : List Cond := .code y_Worker_next b_Worker_next 1 (some .int) :: WS
abbrev b_Worker_run : ByteArray := prog_10_method_6_code
def y_Worker_run : MethodName := ⟨"LeasedBuilds$Worker", "run", "(I)V"⟩
def w_Worker_run : List Cond := .code y_Worker_run b_Worker_run 3 none :: WS
abbrev b_Worker_work : ByteArray := prog_10_method_4_code
def y_Worker_work : MethodName := ⟨"LeasedBuilds$Worker", "work", "(LLeasedBuilds$Flight;)V"⟩
def w_Worker_work : List Cond := .code y_Worker_work b_Worker_work 3 none :: WS
theorem d_Worker_goDown_0 : decode b_Worker_goDown 0 = .ok (.aload_n 0, 1) := by decide +kernel
theorem d_Worker_goDown_1 : decode b_Worker_goDown 1 = .ok (.iconst 0, 1) := by decide +kernel
theorem d_Worker_goDown_2 : decode b_Worker_goDown 2 = .ok (.putfield 18, 3) := by decide +kernel
theorem d_Worker_goDown_5 : decode b_Worker_goDown 5 = .ok (.aload_n 0, 1) := by decide +kernel
theorem d_Worker_goDown_6 : decode b_Worker_goDown 6 = .ok (.iconst 0, 1) := by decide +kernel
theorem d_Worker_goDown_7 : decode b_Worker_goDown 7 = .ok (.putfield 22, 3) := by decide +kernel
theorem d_Worker_goDown_10 : decode b_Worker_goDown 10 = .ok (.return_, 1) := by decide +kernel
theorem d_Worker_begin_0 : decode b_Worker_begin 0 = .ok (.aload_n 0, 1) := by decide +kernel
theorem d_Worker_begin_1 : decode b_Worker_begin 1 = .ok (.getfield 12, 3) := by decide +kernel
theorem d_Worker_begin_4 : decode b_Worker_begin 4 = .ok (.aload_n 1, 1) := by decide +kernel
theorem d_Worker_begin_5 : decode b_Worker_begin 5 = .ok (.getfield 29, 3) := by decide +kernel
theorem d_Worker_begin_8 : decode b_Worker_begin 8 = .ok (.invokevirtual 32, 3) := by decide +kernel
theorem d_Worker_begin_11 : decode b_Worker_begin 11 = .ok (.aload_n 0, 1) := by decide +kernel
theorem d_Worker_begin_12 : decode b_Worker_begin 12 = .ok (.aload_n 1, 1) := by decide +kernel
theorem d_Worker_begin_13 : decode b_Worker_begin 13 = .ok (.getfield 36, 3) := by decide +kernel
theorem d_Worker_begin_16 : decode b_Worker_begin 16 = .ok (.putfield 39, 3) := by decide +kernel
theorem d_Worker_begin_19 : decode b_Worker_begin 19 = .ok (.aload_n 0, 1) := by decide +kernel
theorem d_Worker_begin_20 : decode b_Worker_begin 20 = .ok (.aload_n 1, 1) := by decide +kernel
theorem d_Worker_begin_21 : decode b_Worker_begin 21 = .ok (.getfield 42, 3) := by decide +kernel
theorem d_Worker_begin_24 : decode b_Worker_begin 24 = .ok (.putfield 45, 3) := by decide +kernel
theorem d_Worker_begin_27 : decode b_Worker_begin 27 = .ok (.aload_n 0, 1) := by decide +kernel
theorem d_Worker_begin_28 : decode b_Worker_begin 28 = .ok (.iconst 0, 1) := by decide +kernel
theorem d_Worker_begin_29 : decode b_Worker_begin 29 = .ok (.putfield 48, 3) := by decide +kernel
theorem d_Worker_begin_32 : decode b_Worker_begin 32 = .ok (.aload_n 0, 1) := by decide +kernel
theorem d_Worker_begin_33 : decode b_Worker_begin 33 = .ok (.iconst 0, 1) := by decide +kernel
theorem d_Worker_begin_34 : decode b_Worker_begin 34 = .ok (.putfield 25, 3) := by decide +kernel
theorem d_Worker_begin_37 : decode b_Worker_begin 37 = .ok (.aload_n 0, 1) := by decide +kernel
theorem d_Worker_begin_38 : decode b_Worker_begin 38 = .ok (.iconst 1, 1) := by decide +kernel
theorem d_Worker_begin_39 : decode b_Worker_begin 39 = .ok (.putfield 22, 3) := by decide +kernel
theorem d_Worker_begin_42 : decode b_Worker_begin 42 = .ok (.return_, 1) := by decide +kernel
theorem d_Worker_next_0 : decode b_Worker_next 0 = .ok (.aload_n 0, 1) := by decide +kernel
theorem d_Worker_next_1 : decode b_Worker_next 1 = .ok (.getfield 48, 3) := by decide +kernel
theorem d_Worker_next_4 : decode b_Worker_next 4 = .ok (.bipush 15, 2) := by decide +kernel
theorem d_Worker_next_6 : decode b_Worker_next 6 = .ok (.if_icmp .le 7, 3) := by decide +kernel
theorem d_Worker_next_9 : decode b_Worker_next 9 = .ok (.iconst 0, 1) := by decide +kernel
theorem d_Worker_next_10 : decode b_Worker_next 10 = .ok (.goto 21, 3) := by decide +kernel
theorem d_Worker_next_13 : decode b_Worker_next 13 = .ok (.aload_n 0, 1) := by decide +kernel
theorem d_Worker_next_14 : decode b_Worker_next 14 = .ok (.getfield 12, 3) := by decide +kernel
theorem d_Worker_next_17 : decode b_Worker_next 17 = .ok (.getfield 73, 3) := by decide +kernel
theorem d_Worker_next_20 : decode b_Worker_next 20 = .ok (.iconst 4, 1) := by decide +kernel
theorem d_Worker_next_21 : decode b_Worker_next 21 = .ok (.aload_n 0, 1) := by decide +kernel
theorem d_Worker_next_22 : decode b_Worker_next 22 = .ok (.getfield 48, 3) := by decide +kernel
theorem d_Worker_next_25 : decode b_Worker_next 25 = .ok (.imul, 1) := by decide +kernel
theorem d_Worker_next_26 : decode b_Worker_next 26 = .ok (.lushr, 1) := by decide +kernel
theorem d_Worker_next_27 : decode b_Worker_next 27 = .ok (.l2i, 1) := by decide +kernel
theorem d_Worker_next_28 : decode b_Worker_next 28 = .ok (.bipush 15, 2) := by decide +kernel
theorem d_Worker_next_30 : decode b_Worker_next 30 = .ok (.iand, 1) := by decide +kernel
theorem d_Worker_next_31 : decode b_Worker_next 31 = .ok (.ireturn, 1) := by decide +kernel
theorem d_Worker_run_0 : decode b_Worker_run 0 = .ok (.aload_n 0, 1) := by decide +kernel
theorem d_Worker_run_1 : decode b_Worker_run 1 = .ok (.dup, 1) := by decide +kernel
theorem d_Worker_run_2 : decode b_Worker_run 2 = .ok (.getfield 48, 3) := by decide +kernel
theorem d_Worker_run_5 : decode b_Worker_run 5 = .ok (.iconst 1, 1) := by decide +kernel
theorem d_Worker_run_6 : decode b_Worker_run 6 = .ok (.iadd, 1) := by decide +kernel
theorem d_Worker_run_7 : decode b_Worker_run 7 = .ok (.putfield 48, 3) := by decide +kernel
theorem d_Worker_run_10 : decode b_Worker_run 10 = .ok (.iload_n 1, 1) := by decide +kernel
theorem d_Worker_run_11 : decode b_Worker_run 11 = .ok (.tableswitch 226 1 10 #[53, 69, 85, 101, 114, 129, 150, 175, 197, 208], 53) := by decide +kernel
theorem d_Worker_run_64 : decode b_Worker_run 64 = .ok (.aload_n 0, 1) := by decide +kernel
theorem d_Worker_run_65 : decode b_Worker_run 65 = .ok (.aload_n 0, 1) := by decide +kernel
theorem d_Worker_run_66 : decode b_Worker_run 66 = .ok (.getfield 39, 3) := by decide +kernel
theorem d_Worker_run_69 : decode b_Worker_run 69 = .ok (.aload_n 0, 1) := by decide +kernel
theorem d_Worker_run_70 : decode b_Worker_run 70 = .ok (.getfield 45, 3) := by decide +kernel
theorem d_Worker_run_73 : decode b_Worker_run 73 = .ok (.iadd, 1) := by decide +kernel
theorem d_Worker_run_74 : decode b_Worker_run 74 = .ok (.putfield 39, 3) := by decide +kernel
theorem d_Worker_run_77 : decode b_Worker_run 77 = .ok (.goto 160, 3) := by decide +kernel
theorem d_Worker_run_80 : decode b_Worker_run 80 = .ok (.aload_n 0, 1) := by decide +kernel
theorem d_Worker_run_81 : decode b_Worker_run 81 = .ok (.aload_n 0, 1) := by decide +kernel
theorem d_Worker_run_82 : decode b_Worker_run 82 = .ok (.getfield 39, 3) := by decide +kernel
theorem d_Worker_run_85 : decode b_Worker_run 85 = .ok (.aload_n 0, 1) := by decide +kernel
theorem d_Worker_run_86 : decode b_Worker_run 86 = .ok (.getfield 45, 3) := by decide +kernel
theorem d_Worker_run_89 : decode b_Worker_run 89 = .ok (.isub, 1) := by decide +kernel
theorem d_Worker_run_90 : decode b_Worker_run 90 = .ok (.putfield 39, 3) := by decide +kernel
theorem d_Worker_run_93 : decode b_Worker_run 93 = .ok (.goto 144, 3) := by decide +kernel
theorem d_Worker_run_96 : decode b_Worker_run 96 = .ok (.aload_n 0, 1) := by decide +kernel
theorem d_Worker_run_97 : decode b_Worker_run 97 = .ok (.aload_n 0, 1) := by decide +kernel
theorem d_Worker_run_98 : decode b_Worker_run 98 = .ok (.getfield 39, 3) := by decide +kernel
theorem d_Worker_run_101 : decode b_Worker_run 101 = .ok (.aload_n 0, 1) := by decide +kernel
theorem d_Worker_run_102 : decode b_Worker_run 102 = .ok (.getfield 45, 3) := by decide +kernel
theorem d_Worker_run_105 : decode b_Worker_run 105 = .ok (.ixor, 1) := by decide +kernel
theorem d_Worker_run_106 : decode b_Worker_run 106 = .ok (.putfield 39, 3) := by decide +kernel
theorem d_Worker_run_109 : decode b_Worker_run 109 = .ok (.goto 128, 3) := by decide +kernel
theorem d_Worker_run_112 : decode b_Worker_run 112 = .ok (.aload_n 0, 1) := by decide +kernel
theorem d_Worker_run_113 : decode b_Worker_run 113 = .ok (.aload_n 0, 1) := by decide +kernel
theorem d_Worker_run_114 : decode b_Worker_run 114 = .ok (.getfield 39, 3) := by decide +kernel
theorem d_Worker_run_117 : decode b_Worker_run 117 = .ok (.iconst 1, 1) := by decide +kernel
theorem d_Worker_run_118 : decode b_Worker_run 118 = .ok (.ishr, 1) := by decide +kernel
theorem d_Worker_run_119 : decode b_Worker_run 119 = .ok (.putfield 39, 3) := by decide +kernel
theorem d_Worker_run_122 : decode b_Worker_run 122 = .ok (.goto 115, 3) := by decide +kernel
theorem d_Worker_run_125 : decode b_Worker_run 125 = .ok (.aload_n 0, 1) := by decide +kernel
theorem d_Worker_run_126 : decode b_Worker_run 126 = .ok (.aload_n 0, 1) := by decide +kernel
theorem d_Worker_run_127 : decode b_Worker_run 127 = .ok (.getfield 39, 3) := by decide +kernel
theorem d_Worker_run_130 : decode b_Worker_run 130 = .ok (.iconst 3, 1) := by decide +kernel
theorem d_Worker_run_131 : decode b_Worker_run 131 = .ok (.imul, 1) := by decide +kernel
theorem d_Worker_run_132 : decode b_Worker_run 132 = .ok (.iconst 1, 1) := by decide +kernel
theorem d_Worker_run_133 : decode b_Worker_run 133 = .ok (.iadd, 1) := by decide +kernel
theorem d_Worker_run_134 : decode b_Worker_run 134 = .ok (.putfield 39, 3) := by decide +kernel
theorem d_Worker_run_137 : decode b_Worker_run 137 = .ok (.goto 100, 3) := by decide +kernel
theorem d_Worker_run_140 : decode b_Worker_run 140 = .ok (.aload_n 0, 1) := by decide +kernel
theorem d_Worker_run_141 : decode b_Worker_run 141 = .ok (.getfield 39, 3) := by decide +kernel
theorem d_Worker_run_144 : decode b_Worker_run 144 = .ok (.istore_n 2, 1) := by decide +kernel
theorem d_Worker_run_145 : decode b_Worker_run 145 = .ok (.aload_n 0, 1) := by decide +kernel
theorem d_Worker_run_146 : decode b_Worker_run 146 = .ok (.aload_n 0, 1) := by decide +kernel
theorem d_Worker_run_147 : decode b_Worker_run 147 = .ok (.getfield 45, 3) := by decide +kernel
theorem d_Worker_run_150 : decode b_Worker_run 150 = .ok (.putfield 39, 3) := by decide +kernel
theorem d_Worker_run_153 : decode b_Worker_run 153 = .ok (.aload_n 0, 1) := by decide +kernel
theorem d_Worker_run_154 : decode b_Worker_run 154 = .ok (.iload_n 2, 1) := by decide +kernel
theorem d_Worker_run_155 : decode b_Worker_run 155 = .ok (.putfield 45, 3) := by decide +kernel
theorem d_Worker_run_158 : decode b_Worker_run 158 = .ok (.goto 79, 3) := by decide +kernel
theorem d_Worker_run_161 : decode b_Worker_run 161 = .ok (.aload_n 0, 1) := by decide +kernel
theorem d_Worker_run_162 : decode b_Worker_run 162 = .ok (.getfield 45, 3) := by decide +kernel
theorem d_Worker_run_165 : decode b_Worker_run 165 = .ok (.ifCond .le 72, 3) := by decide +kernel
theorem d_Worker_run_168 : decode b_Worker_run 168 = .ok (.aload_n 0, 1) := by decide +kernel
theorem d_Worker_run_169 : decode b_Worker_run 169 = .ok (.dup, 1) := by decide +kernel
theorem d_Worker_run_170 : decode b_Worker_run 170 = .ok (.getfield 45, 3) := by decide +kernel
theorem d_Worker_run_173 : decode b_Worker_run 173 = .ok (.iconst 1, 1) := by decide +kernel
theorem d_Worker_run_174 : decode b_Worker_run 174 = .ok (.isub, 1) := by decide +kernel
theorem d_Worker_run_175 : decode b_Worker_run 175 = .ok (.putfield 45, 3) := by decide +kernel
theorem d_Worker_run_178 : decode b_Worker_run 178 = .ok (.aload_n 0, 1) := by decide +kernel
theorem d_Worker_run_179 : decode b_Worker_run 179 = .ok (.iconst 0, 1) := by decide +kernel
theorem d_Worker_run_180 : decode b_Worker_run 180 = .ok (.putfield 48, 3) := by decide +kernel
theorem d_Worker_run_183 : decode b_Worker_run 183 = .ok (.goto 54, 3) := by decide +kernel
theorem d_Worker_run_186 : decode b_Worker_run 186 = .ok (.aload_n 0, 1) := by decide +kernel
theorem d_Worker_run_187 : decode b_Worker_run 187 = .ok (.getfield 39, 3) := by decide +kernel
theorem d_Worker_run_190 : decode b_Worker_run 190 = .ok (.iconst 1, 1) := by decide +kernel
theorem d_Worker_run_191 : decode b_Worker_run 191 = .ok (.iand, 1) := by decide +kernel
theorem d_Worker_run_192 : decode b_Worker_run 192 = .ok (.ifCond .eq 45, 3) := by decide +kernel
theorem d_Worker_run_195 : decode b_Worker_run 195 = .ok (.aload_n 0, 1) := by decide +kernel
theorem d_Worker_run_196 : decode b_Worker_run 196 = .ok (.dup, 1) := by decide +kernel
theorem d_Worker_run_197 : decode b_Worker_run 197 = .ok (.getfield 48, 3) := by decide +kernel
theorem d_Worker_run_200 : decode b_Worker_run 200 = .ok (.iconst 1, 1) := by decide +kernel
theorem d_Worker_run_201 : decode b_Worker_run 201 = .ok (.iadd, 1) := by decide +kernel
theorem d_Worker_run_202 : decode b_Worker_run 202 = .ok (.putfield 48, 3) := by decide +kernel
theorem d_Worker_run_205 : decode b_Worker_run 205 = .ok (.goto 32, 3) := by decide +kernel
theorem d_Worker_run_208 : decode b_Worker_run 208 = .ok (.aload_n 0, 1) := by decide +kernel
theorem d_Worker_run_209 : decode b_Worker_run 209 = .ok (.aload_n 0, 1) := by decide +kernel
theorem d_Worker_run_210 : decode b_Worker_run 210 = .ok (.getfield 39, 3) := by decide +kernel
theorem d_Worker_run_213 : decode b_Worker_run 213 = .ok (.putfield 45, 3) := by decide +kernel
theorem d_Worker_run_216 : decode b_Worker_run 216 = .ok (.goto 21, 3) := by decide +kernel
theorem d_Worker_run_219 : decode b_Worker_run 219 = .ok (.aload_n 0, 1) := by decide +kernel
theorem d_Worker_run_220 : decode b_Worker_run 220 = .ok (.aload_n 0, 1) := by decide +kernel
theorem d_Worker_run_221 : decode b_Worker_run 221 = .ok (.getfield 39, 3) := by decide +kernel
theorem d_Worker_run_224 : decode b_Worker_run 224 = .ok (.aload_n 0, 1) := by decide +kernel
theorem d_Worker_run_225 : decode b_Worker_run 225 = .ok (.getfield 45, 3) := by decide +kernel
theorem d_Worker_run_228 : decode b_Worker_run 228 = .ok (.invokestatic 77, 3) := by decide +kernel
theorem d_Worker_run_231 : decode b_Worker_run 231 = .ok (.putfield 39, 3) := by decide +kernel
theorem d_Worker_run_234 : decode b_Worker_run 234 = .ok (.goto 3, 3) := by decide +kernel
theorem d_Worker_run_237 : decode b_Worker_run 237 = .ok (.return_, 1) := by decide +kernel
theorem d_Worker_work_0 : decode b_Worker_work 0 = .ok (.aload_n 0, 1) := by decide +kernel
theorem d_Worker_work_1 : decode b_Worker_work 1 = .ok (.getfield 18, 3) := by decide +kernel
theorem d_Worker_work_4 : decode b_Worker_work 4 = .ok (.ifCond .eq 10, 3) := by decide +kernel
theorem d_Worker_work_7 : decode b_Worker_work 7 = .ok (.aload_n 0, 1) := by decide +kernel
theorem d_Worker_work_8 : decode b_Worker_work 8 = .ok (.getfield 22, 3) := by decide +kernel
theorem d_Worker_work_11 : decode b_Worker_work 11 = .ok (.ifCond .ne 4, 3) := by decide +kernel
theorem d_Worker_work_14 : decode b_Worker_work 14 = .ok (.return_, 1) := by decide +kernel
theorem d_Worker_work_15 : decode b_Worker_work 15 = .ok (.aload_n 0, 1) := by decide +kernel
theorem d_Worker_work_16 : decode b_Worker_work 16 = .ok (.invokevirtual 51, 3) := by decide +kernel
theorem d_Worker_work_19 : decode b_Worker_work 19 = .ok (.istore_n 2, 1) := by decide +kernel
theorem d_Worker_work_20 : decode b_Worker_work 20 = .ok (.iload_n 2, 1) := by decide +kernel
theorem d_Worker_work_21 : decode b_Worker_work 21 = .ok (.ifCond .ne 35, 3) := by decide +kernel
theorem d_Worker_work_24 : decode b_Worker_work 24 = .ok (.aload_n 0, 1) := by decide +kernel
theorem d_Worker_work_25 : decode b_Worker_work 25 = .ok (.iconst 0, 1) := by decide +kernel
theorem d_Worker_work_26 : decode b_Worker_work 26 = .ok (.putfield 22, 3) := by decide +kernel
theorem d_Worker_work_29 : decode b_Worker_work 29 = .ok (.aload_n 1, 1) := by decide +kernel
theorem d_Worker_work_30 : decode b_Worker_work 30 = .ok (.iconst 5, 1) := by decide +kernel
theorem d_Worker_work_31 : decode b_Worker_work 31 = .ok (.iconst 0, 1) := by decide +kernel
theorem d_Worker_work_32 : decode b_Worker_work 32 = .ok (.invokevirtual 55, 3) := by decide +kernel
theorem d_Worker_work_35 : decode b_Worker_work 35 = .ok (.aload_n 0, 1) := by decide +kernel
theorem d_Worker_work_36 : decode b_Worker_work 36 = .ok (.getfield 12, 3) := by decide +kernel
theorem d_Worker_work_39 : decode b_Worker_work 39 = .ok (.aload_n 0, 1) := by decide +kernel
theorem d_Worker_work_40 : decode b_Worker_work 40 = .ok (.getfield 39, 3) := by decide +kernel
theorem d_Worker_work_43 : decode b_Worker_work 43 = .ok (.invokestatic 61, 3) := by decide +kernel
theorem d_Worker_work_46 : decode b_Worker_work 46 = .ok (.aload_n 0, 1) := by decide +kernel
theorem d_Worker_work_47 : decode b_Worker_work 47 = .ok (.getfield 39, 3) := by decide +kernel
theorem d_Worker_work_50 : decode b_Worker_work 50 = .ok (.invokevirtual 65, 3) := by decide +kernel
theorem d_Worker_work_53 : decode b_Worker_work 53 = .ok (.goto 18, 3) := by decide +kernel
theorem d_Worker_work_56 : decode b_Worker_work 56 = .ok (.aload_n 0, 1) := by decide +kernel
theorem d_Worker_work_57 : decode b_Worker_work 57 = .ok (.iload_n 2, 1) := by decide +kernel
theorem d_Worker_work_58 : decode b_Worker_work 58 = .ok (.invokevirtual 69, 3) := by decide +kernel
theorem d_Worker_work_61 : decode b_Worker_work 61 = .ok (.aload_n 0, 1) := by decide +kernel
theorem d_Worker_work_62 : decode b_Worker_work 62 = .ok (.dup, 1) := by decide +kernel
theorem d_Worker_work_63 : decode b_Worker_work 63 = .ok (.getfield 25, 3) := by decide +kernel
theorem d_Worker_work_66 : decode b_Worker_work 66 = .ok (.iconst 1, 1) := by decide +kernel
theorem d_Worker_work_67 : decode b_Worker_work 67 = .ok (.iadd, 1) := by decide +kernel
theorem d_Worker_work_68 : decode b_Worker_work 68 = .ok (.putfield 25, 3) := by decide +kernel
theorem d_Worker_work_71 : decode b_Worker_work 71 = .ok (.return_, 1) := by decide +kernel
theorem fl_Worker_18 : Cond.fieldLink "LeasedBuilds$Worker" 18 "LeasedBuilds$Worker" "up" "Z" ∈ WS := ms (i := 289) (by decide +kernel) rfl
theorem fl_Worker_22 : Cond.fieldLink "LeasedBuilds$Worker" 22 "LeasedBuilds$Worker" "busy" "Z" ∈ WS := ms (i := 291) (by decide +kernel) rfl
theorem fl_Worker_12 : Cond.fieldLink "LeasedBuilds$Worker" 12 "LeasedBuilds$Worker" "key" "LLeasedBuilds$Key;" ∈ WS := ms (i := 288) (by decide +kernel) rfl
theorem fl_Worker_29 : Cond.fieldLink "LeasedBuilds$Worker" 29 "LeasedBuilds$Message" "key" "LLeasedBuilds$Key;" ∈ WS := ms (i := 56) (by decide +kernel) rfl
theorem cs_Worker_32 : CwV WS "LeasedBuilds$Worker" 32 "LeasedBuilds$Key" y_Key_copy b_Key_copy 2 none 1 := ⟨⟨ms (i := 384) (by decide +kernel) rfl, ms (i := 576) (by decide +kernel) rfl, ms (i := 382) (by decide +kernel) rfl, ms (i := 383) (by decide +kernel) rfl, ms (i := 4) (by decide +kernel) rfl⟩, by decide +kernel⟩
theorem fl_Worker_36 : Cond.fieldLink "LeasedBuilds$Worker" 36 "LeasedBuilds$Message" "first" "I" ∈ WS := ms (i := 74) (by decide +kernel) rfl
theorem fl_Worker_39 : Cond.fieldLink "LeasedBuilds$Worker" 39 "LeasedBuilds$Worker" "x" "I" ∈ WS := ms (i := 295) (by decide +kernel) rfl
theorem fl_Worker_42 : Cond.fieldLink "LeasedBuilds$Worker" 42 "LeasedBuilds$Message" "second" "I" ∈ WS := ms (i := 78) (by decide +kernel) rfl
theorem fl_Worker_45 : Cond.fieldLink "LeasedBuilds$Worker" 45 "LeasedBuilds$Worker" "y" "I" ∈ WS := ms (i := 296) (by decide +kernel) rfl
theorem fl_Worker_48 : Cond.fieldLink "LeasedBuilds$Worker" 48 "LeasedBuilds$Worker" "p" "I" ∈ WS := ms (i := 297) (by decide +kernel) rfl
theorem fl_Worker_25 : Cond.fieldLink "LeasedBuilds$Worker" 25 "LeasedBuilds$Worker" "done" "I" ∈ WS := ms (i := 293) (by decide +kernel) rfl
theorem fl_Worker_73 : Cond.fieldLink "LeasedBuilds$Worker" 73 "LeasedBuilds$Key" "program" "J" ∈ WS := ms (i := 41) (by decide +kernel) rfl
theorem cs_Worker_51 : CwV WS "LeasedBuilds$Worker" 51 "LeasedBuilds$Worker" y_Worker_next b_Worker_next 1 (some .int) 0 := ⟨⟨ms (i := 367) (by decide +kernel) rfl, ms (i := 364) (by decide +kernel) rfl, ms (i := 366) (by decide +kernel) rfl, mp (i := 1) (by decide +kernel) rfl, ms (i := 10) (by decide +kernel) rfl⟩, by decide +kernel⟩
theorem cs_Worker_55 : CwV WS "LeasedBuilds$Worker" 55 "LeasedBuilds$Flight" y_Flight_send b_Flight_send 4 (some (.object "LeasedBuilds$Message")) 2 := ⟨⟨ms (i := 371) (by decide +kernel) rfl, ms (i := 368) (by decide +kernel) rfl, ms (i := 369) (by decide +kernel) rfl, ms (i := 370) (by decide +kernel) rfl, ms (i := 2) (by decide +kernel) rfl⟩, by decide +kernel⟩
theorem cs_Worker_61 : CwSN WS NL "LeasedBuilds$Worker" 61 y_LB_digestOf b_LB_digestOf 3 (some .int) 1 := ⟨⟨ms (i := 374) (by decide +kernel) rfl, List.mem_of_getElem? (i := 8) rfl, ms (i := 373) (by decide +kernel) rfl, ms (i := 1) (by decide +kernel) rfl⟩, by decide +kernel⟩
theorem cs_Worker_65 : CwV WS "LeasedBuilds$Worker" 65 "LeasedBuilds$Message" y_Message_fill b_Message_fill 4 none 3 := ⟨⟨ms (i := 380) (by decide +kernel) rfl, ms (i := 377) (by decide +kernel) rfl, ms (i := 378) (by decide +kernel) rfl, ms (i := 379) (by decide +kernel) rfl, ms (i := 3) (by decide +kernel) rfl⟩, by decide +kernel⟩
theorem cs_Worker_69 : CwV WS "LeasedBuilds$Worker" 69 "LeasedBuilds$Worker" y_Worker_run b_Worker_run 3 none 1 := ⟨⟨ms (i := 392) (by decide +kernel) rfl, ms (i := 389) (by decide +kernel) rfl, ms (i := 391) (by decide +kernel) rfl, mp (i := 2) (by decide +kernel) rfl, ms (i := 10) (by decide +kernel) rfl⟩, by decide +kernel⟩
set_option maxHeartbeats 4000000 in
set_option maxRecDepth 100000 in
theorem c_Worker_goDown (l : Launch) (D : va_G) (dA : Nat → ClassId) (ad : Nat → Nat) (nw : Nat) (hJ : Inj ad (obC nw)) (hnw : nw ≤ 4) (σ : Sg)  (i : Nat) (hi : i < nw) : CV l D clX (tyX dA) (SC nw) ad dA (obC nw) NL y_Worker_goDown w_Worker_goDown { frames := 0, cells := 0, slots := 0, locals := 0 } [.ref (ad (100 + 2 * i))] σ (wDown σ (100 + 2 * i)) := by
  refine x_of (WS := WS) (cc := b_Worker_goDown) (maxL := 1) (ret := none) (by decide) rfl (Nat.le_of_ble_eq_true rfl) ?_
  intro pp ee ss mm below meth cdd hx hb hml hr hlk ht hown hnm hN hK hP ls hl
  have hl : lv_has ls 1 [(0, .ref (ad (100 + 2 * i)))] := hl
  have hS : va_S (Ad ad (obC nw)) ss.heap ss.heap [] := va_S.rf
  have hw := swfC hnw
  refine lv_aload_n hx hb d_Worker_goDown_0 rfl (lv_at hl 0 rfl) ?_
  refine lv_iconst (v := (nI 0)) hx hb d_Worker_goDown_1 (by decide) ?_
  refine x_put (σ' := sB σ 56 (100 + 2 * i) false) (v := .int (nI 0)) (k := 1) hx hb ht xc_Worker t_Worker t_Worker_ok n_Worker hown hK hP hJ hw hS (mo_wk hi) (kd_wk (by omega)) (by decide) fl_Worker_18 rfl rfl rfl off_B (by simp [vl, gs]; rfl) rfl rfl d_Worker_goDown_2 (fun H locs hP hS => ?_)
  refine lv_aload_n hx hb d_Worker_goDown_5 rfl (lv_at hl 0 rfl) ?_
  refine lv_iconst (v := (nI 0)) hx hb d_Worker_goDown_6 (by decide) ?_
  refine x_put (σ' := sB (sB σ 56 (100 + 2 * i) false) 57 (100 + 2 * i) false) (v := .int (nI 0)) (k := 2) hx hb ht xc_Worker t_Worker t_Worker_ok n_Worker hown hK hP hJ hw hS (mo_wk hi) (kd_wk (by omega)) (by decide) fl_Worker_22 rfl rfl rfl off_B (by simp [vl, gs]; rfl) rfl rfl d_Worker_goDown_7 (fun H locs hP hS => ?_)
  exact x_vret hx hb hr hlk hK hP hS d_Worker_goDown_10 rfl
set_option maxHeartbeats 4000000 in
set_option maxRecDepth 100000 in
theorem c_Worker_begin (l : Launch) (D : va_G) (dA : Nat → ClassId) (ad : Nat → Nat) (nw : Nat) (hJ : Inj ad (obC nw)) (hnw : nw ≤ 4) (σ : Sg) (q : Nat) (i : Nat) (hi : i < nw) (hq : kdC q = 2) : CV l D clX (tyX dA) (SC nw) ad dA (obC nw) NL y_Worker_begin w_Worker_begin { frames := 2, cells := 0, slots := 0, locals := 45 } [.ref (ad (100 + 2 * i)), .ref (ad q)] σ (wBegin σ (100 + 2 * i) q) := by
  refine x_of (WS := WS) (cc := b_Worker_begin) (maxL := 2) (ret := none) (by decide) rfl (Nat.le_of_ble_eq_true rfl) ?_
  intro pp ee ss mm below meth cdd hx hb hml hr hlk ht hown hnm hN hK hP ls hl
  have hl : lv_has ls 2 [(0, .ref (ad (100 + 2 * i))), (1, .ref (ad q))] := hl
  have hS : va_S (Ad ad (obC nw)) ss.heap ss.heap [] := va_S.rf
  have hw := swfC hnw
  refine lv_aload_n hx hb d_Worker_begin_0 rfl (lv_at hl 0 rfl) ?_
  refine x_get (v := .ref (ad ((100 + 2 * i) + 1))) (k := 0) hx hb ht xc_Worker hown hK hP (mo_wk hi) (kd_wk (by omega)) (by decide) fl_Worker_12 rfl rfl rfl d_Worker_begin_1 ?_
  refine lv_aload_n hx hb d_Worker_begin_4 rfl (lv_at hl 1 rfl) ?_
  refine x_get (v := .ref (ad (q + 1))) (k := 0) hx hb ht xc_Message hown hK hP (mo_msg hq) hq (by decide) fl_Worker_29 rfl rfl rfl d_Worker_begin_5 ?_
  refine x_cv (x_rV (As := [.ref (ad (q + 1))]) (rest := []) hx hb hml hown ht gW cs_Worker_32 (c_Key_copy l D dA ad nw hJ hnw σ ((100 + 2 * i) + 1) (q + 1) (kd_wkk (by omega)) (mo_wkk hi) (kd_msgk hq) (mo_msgk hq)) rfl rfl (by decide) xc_Key hN hK hP (mo_wkk hi) (kd_wkk (by omega)) rfl hl.1 rfl (Nat.le_of_ble_eq_true rfl) d_Worker_begin_8 (by decide)) hS (fun H locs hP hS => ?_)
  refine lv_aload_n hx hb d_Worker_begin_11 rfl (lv_at hl 0 rfl) ?_
  refine lv_aload_n hx hb d_Worker_begin_12 rfl (lv_at hl 1 rfl) ?_
  refine x_get (v := .int (gI σ 16 q)) (k := 7) hx hb ht xc_Message hown hK hP (mo_msg hq) hq (by decide) fl_Worker_36 rfl rfl rfl d_Worker_begin_13 ?_
  refine x_put (σ' := sI (kcopy σ ((100 + 2 * i) + 1) (q + 1)) 59 (100 + 2 * i) (gI σ 16 q)) (v := .int (gI σ 16 q)) (k := 4) hx hb ht xc_Worker t_Worker t_Worker_ok n_Worker hown hK hP hJ hw hS (mo_wk hi) (kd_wk (by omega)) (by decide) fl_Worker_39 rfl rfl rfl off_I (by simp [vl, gs]) rfl rfl d_Worker_begin_16 (fun H locs hP hS => ?_)
  refine lv_aload_n hx hb d_Worker_begin_19 rfl (lv_at hl 0 rfl) ?_
  refine lv_aload_n hx hb d_Worker_begin_20 rfl (lv_at hl 1 rfl) ?_
  refine x_get (v := .int (gI σ 17 q)) (k := 8) hx hb ht xc_Message hown hK hP (mo_msg hq) hq (by decide) fl_Worker_42 rfl rfl rfl d_Worker_begin_21 ?_
  refine x_put (σ' := sI (sI (kcopy σ ((100 + 2 * i) + 1) (q + 1)) 59 (100 + 2 * i) (gI σ 16 q)) 60 (100 + 2 * i) (gI σ 17 q)) (v := .int (gI σ 17 q)) (k := 5) hx hb ht xc_Worker t_Worker t_Worker_ok n_Worker hown hK hP hJ hw hS (mo_wk hi) (kd_wk (by omega)) (by decide) fl_Worker_45 rfl rfl rfl off_I (by simp [vl, gs]) rfl rfl d_Worker_begin_24 (fun H locs hP hS => ?_)
  refine lv_aload_n hx hb d_Worker_begin_27 rfl (lv_at hl 0 rfl) ?_
  refine lv_iconst (v := (nI 0)) hx hb d_Worker_begin_28 (by decide) ?_
  refine x_put (σ' := sN (sI (sI (kcopy σ ((100 + 2 * i) + 1) (q + 1)) 59 (100 + 2 * i) (gI σ 16 q)) 60 (100 + 2 * i) (gI σ 17 q)) 61 (100 + 2 * i) 0) (v := .int (nI 0)) (k := 6) hx hb ht xc_Worker t_Worker t_Worker_ok n_Worker hown hK hP hJ hw hS (mo_wk hi) (kd_wk (by omega)) (by decide) fl_Worker_48 rfl rfl rfl off_N (by simp [vl, gs]) rfl rfl d_Worker_begin_29 (fun H locs hP hS => ?_)
  refine lv_aload_n hx hb d_Worker_begin_32 rfl (lv_at hl 0 rfl) ?_
  refine lv_iconst (v := (nI 0)) hx hb d_Worker_begin_33 (by decide) ?_
  refine x_put (σ' := sN (sN (sI (sI (kcopy σ ((100 + 2 * i) + 1) (q + 1)) 59 (100 + 2 * i) (gI σ 16 q)) 60 (100 + 2 * i) (gI σ 17 q)) 61 (100 + 2 * i) 0) 58 (100 + 2 * i) 0) (v := .int (nI 0)) (k := 3) hx hb ht xc_Worker t_Worker t_Worker_ok n_Worker hown hK hP hJ hw hS (mo_wk hi) (kd_wk (by omega)) (by decide) fl_Worker_25 rfl rfl rfl off_N (by simp [vl, gs]) rfl rfl d_Worker_begin_34 (fun H locs hP hS => ?_)
  refine lv_aload_n hx hb d_Worker_begin_37 rfl (lv_at hl 0 rfl) ?_
  refine lv_iconst (v := (nI 1)) hx hb d_Worker_begin_38 (by decide) ?_
  refine x_put (σ' := sB (sN (sN (sI (sI (kcopy σ ((100 + 2 * i) + 1) (q + 1)) 59 (100 + 2 * i) (gI σ 16 q)) 60 (100 + 2 * i) (gI σ 17 q)) 61 (100 + 2 * i) 0) 58 (100 + 2 * i) 0) 57 (100 + 2 * i) true) (v := .int (nI 1)) (k := 2) hx hb ht xc_Worker t_Worker t_Worker_ok n_Worker hown hK hP hJ hw hS (mo_wk hi) (kd_wk (by omega)) (by decide) fl_Worker_22 rfl rfl rfl off_B (by simp [vl, gs]; rfl) rfl rfl d_Worker_begin_39 (fun H locs hP hS => ?_)
  exact x_vret hx hb hr hlk hK hP hS d_Worker_begin_42 rfl
set_option maxHeartbeats 4000000 in
set_option maxRecDepth 100000 in
theorem c_Worker_next (l : Launch) (D : va_G) (dA : Nat → ClassId) (ad : Nat → Nat) (nw : Nat) (hJ : Inj ad (obC nw)) (hnw : nw ≤ 4) (σ : Sg)  (i : Nat) (hi : i < nw) (hp : gN σ 61 (100 + 2 * i) ≤ 17) : CI l D clX (tyX dA) (SC nw) ad dA (obC nw) NL y_Worker_next w_Worker_next { frames := 0, cells := 0, slots := 0, locals := 0 } [.ref (ad (100 + 2 * i))] σ ((nI (wNext σ (100 + 2 * i)))) σ := by
  refine x_of (WS := WS) (cc := b_Worker_next) (maxL := 1) (ret := (some .int)) (by decide) rfl (Nat.le_of_ble_eq_true rfl) ?_
  intro pp ee ss mm below meth cdd hx hb hml hr hlk ht hown hnm hN hK hP ls hl
  have hl : lv_has ls 1 [(0, .ref (ad (100 + 2 * i)))] := hl
  have hS : va_S (Ad ad (obC nw)) ss.heap ss.heap [] := va_S.rf
  have hw := swfC hnw
  refine lv_aload_n hx hb d_Worker_next_0 rfl (lv_at hl 0 rfl) ?_
  refine x_get (v := .int (nI (gN σ 61 (100 + 2 * i)))) (k := 6) hx hb ht xc_Worker hown hK hP (mo_wk hi) (kd_wk (by omega)) (by decide) fl_Worker_48 rfl rfl rfl d_Worker_next_1 ?_
  refine lv_bipush (v := (nI 15)) hx hb d_Worker_next_4 (by decide) ?_
  refine x_icmp_leN (tgt := 13) hx hb d_Worker_next_6 (by decide) (by omega) (by decide) (fun h1 => ?_) (fun h1 => ?_)
  · refine lv_aload_n hx hb d_Worker_next_13 rfl (lv_at hl 0 rfl) ?_
    refine x_get (v := .ref (ad ((100 + 2 * i) + 1))) (k := 0) hx hb ht xc_Worker hown hK hP (mo_wk hi) (kd_wk (by omega)) (by decide) fl_Worker_12 rfl rfl rfl d_Worker_next_14 ?_
    refine x_get (v := .long (gJ σ 6 ((100 + 2 * i) + 1))) (k := 0) hx hb ht xc_Key hown hK hP (mo_wkk hi) (kd_wkk (by omega)) (by decide) fl_Worker_73 rfl rfl rfl d_Worker_next_17 ?_
    refine lv_iconst (v := (nI 4)) hx hb d_Worker_next_20 (by decide) ?_
    refine lv_aload_n hx hb d_Worker_next_21 rfl (lv_at hl 0 rfl) ?_
    refine x_get (v := .int (nI (gN σ 61 (100 + 2 * i)))) (k := 6) hx hb ht xc_Worker hown hK hP (mo_wk hi) (kd_wk (by omega)) (by decide) fl_Worker_48 rfl rfl rfl d_Worker_next_22 ?_
    refine x_imulN hx hb d_Worker_next_25 ?_
    refine lv_lushr (v := ((gJ σ 6 ((100 + 2 * i) + 1)).toUInt64 >>> ((nI (4 * (gN σ 61 (100 + 2 * i)))).toInt64.toUInt64 &&& Int64.toUInt64 63)).toInt64) hx hb d_Worker_next_26 rfl ?_
    refine lv_l2i (v := (((gJ σ 6 ((100 + 2 * i) + 1)).toUInt64 >>> ((nI (4 * (gN σ 61 (100 + 2 * i)))).toInt64.toUInt64 &&& Int64.toUInt64 63)).toInt64).toInt32) hx hb d_Worker_next_27 rfl ?_
    refine lv_bipush (v := (nI 15)) hx hb d_Worker_next_28 (by decide) ?_
    refine lv_iand hx hb d_Worker_next_30 ?_
    exact x_iret hx hb hr hlk hK hP hS d_Worker_next_31 (by unfold wNext insn; rw [if_neg (by omega), pk_and _ 4 (by decide)]) rfl
  · refine lv_iconst (v := (nI 0)) hx hb d_Worker_next_9 (by decide) ?_
    refine lv_goto (tgt := 31) hx hb d_Worker_next_10 (by decide) ?_
    exact x_iret hx hb hr hlk hK hP hS d_Worker_next_31 (by unfold wNext insn; rw [if_pos h1]) rfl
set_option maxHeartbeats 4000000 in
set_option maxRecDepth 100000 in
theorem c_Worker_run (l : Launch) (D : va_G) (dA : Nat → ClassId) (ad : Nat → Nat) (nw : Nat) (hJ : Inj ad (obC nw)) (hnw : nw ≤ 4) (σ : Sg) (x : Nat) (i : Nat) (hi : i < nw) (hx16 : x < 16) (hp : gN σ 61 (100 + 2 * i) ≤ 15) : CV l D clX (tyX dA) (SC nw) ad dA (obC nw) NL y_Worker_run w_Worker_run { frames := 1, cells := 0, slots := 0, locals := 40 } [.ref (ad (100 + 2 * i)), .int (nI x)] σ (wRun σ (100 + 2 * i) x) := by
  refine x_of (WS := WS) (cc := b_Worker_run) (maxL := 3) (ret := none) (by decide) rfl (Nat.le_of_ble_eq_true rfl) ?_
  intro pp ee ss mm below meth cdd hx hb hml hr hlk ht hown hnm hN hK hP ls hl
  have hl : lv_has ls 3 [(0, .ref (ad (100 + 2 * i))), (1, .int (nI x))] := hl
  have hS : va_S (Ad ad (obC nw)) ss.heap ss.heap [] := va_S.rf
  have hw := swfC hnw
  refine lv_aload_n hx hb d_Worker_run_0 rfl (lv_at hl 0 rfl) ?_
  refine lv_dup hx hb d_Worker_run_1 rfl ?_
  refine x_get (v := .int (nI (gN σ 61 (100 + 2 * i)))) (k := 6) hx hb ht xc_Worker hown hK hP (mo_wk hi) (kd_wk (by omega)) (by decide) fl_Worker_48 rfl rfl rfl d_Worker_run_2 ?_
  refine lv_iconst (v := (nI 1)) hx hb d_Worker_run_5 (by decide) ?_
  refine x_iaddN hx hb d_Worker_run_6 ?_
  refine x_put (σ' := sN σ 61 (100 + 2 * i) ((gN σ 61 (100 + 2 * i)) + 1)) (v := .int (nI ((gN σ 61 (100 + 2 * i)) + 1))) (k := 6) hx hb ht xc_Worker t_Worker t_Worker_ok n_Worker hown hK hP hJ hw hS (mo_wk hi) (kd_wk (by omega)) (by decide) fl_Worker_48 rfl rfl rfl off_N (by simp [vl, gs]) rfl rfl d_Worker_run_7 (fun H locs hP hS => ?_)
  refine lv_iload_n hx hb d_Worker_run_10 rfl (lv_at hl 1 rfl) ?_
  have h1 : x = 1 ∨ x = 2 ∨ x = 3 ∨ x = 4 ∨ x = 5 ∨ x = 6 ∨ x = 7 ∨ x = 8 ∨ x = 9 ∨ x = 10 ∨ x < 1 ∨ 10 < x := by omega
  rcases h1 with h1 | h1 | h1 | h1 | h1 | h1 | h1 | h1 | h1 | h1 | h1
  · refine lv_tableIn (off := 53) (tgt := 64) hx hb d_Worker_run_11 (by rw [h1]; decide) (by rw [h1]; decide) (by rw [h1]; rfl) (by decide) ?_
    refine lv_aload_n hx hb d_Worker_run_64 rfl (lv_at hl 0 rfl) ?_
    refine lv_aload_n hx hb d_Worker_run_65 rfl (lv_at hl 0 rfl) ?_
    refine x_get (v := .int (gI σ 59 (100 + 2 * i))) (k := 4) hx hb ht xc_Worker hown hK hP (mo_wk hi) (kd_wk (by omega)) (by decide) fl_Worker_39 rfl rfl rfl d_Worker_run_66 ?_
    refine lv_aload_n hx hb d_Worker_run_69 rfl (lv_at hl 0 rfl) ?_
    refine x_get (v := .int (gI σ 60 (100 + 2 * i))) (k := 5) hx hb ht xc_Worker hown hK hP (mo_wk hi) (kd_wk (by omega)) (by decide) fl_Worker_45 rfl rfl rfl d_Worker_run_70 ?_
    refine lv_iadd hx hb d_Worker_run_73 ?_
    refine x_put (σ' := sI (sN σ 61 (100 + 2 * i) ((gN σ 61 (100 + 2 * i)) + 1)) 59 (100 + 2 * i) ((gI σ 59 (100 + 2 * i)) + (gI σ 60 (100 + 2 * i)))) (v := .int ((gI σ 59 (100 + 2 * i)) + (gI σ 60 (100 + 2 * i)))) (k := 4) hx hb ht xc_Worker t_Worker t_Worker_ok n_Worker hown hK hP hJ hw hS (mo_wk hi) (kd_wk (by omega)) (by decide) fl_Worker_39 rfl rfl rfl off_I (by simp [vl, gs]) rfl rfl d_Worker_run_74 (fun H locs hP hS => ?_)
    refine lv_goto (tgt := 237) hx hb d_Worker_run_77 (by decide) ?_
    exact x_vret hx hb hr hlk hK hP hS d_Worker_run_237 (by unfold wRun; rw [if_pos h1])
  · refine lv_tableIn (off := 69) (tgt := 80) hx hb d_Worker_run_11 (by rw [h1]; decide) (by rw [h1]; decide) (by rw [h1]; rfl) (by decide) ?_
    refine lv_aload_n hx hb d_Worker_run_80 rfl (lv_at hl 0 rfl) ?_
    refine lv_aload_n hx hb d_Worker_run_81 rfl (lv_at hl 0 rfl) ?_
    refine x_get (v := .int (gI σ 59 (100 + 2 * i))) (k := 4) hx hb ht xc_Worker hown hK hP (mo_wk hi) (kd_wk (by omega)) (by decide) fl_Worker_39 rfl rfl rfl d_Worker_run_82 ?_
    refine lv_aload_n hx hb d_Worker_run_85 rfl (lv_at hl 0 rfl) ?_
    refine x_get (v := .int (gI σ 60 (100 + 2 * i))) (k := 5) hx hb ht xc_Worker hown hK hP (mo_wk hi) (kd_wk (by omega)) (by decide) fl_Worker_45 rfl rfl rfl d_Worker_run_86 ?_
    refine lv_isub hx hb d_Worker_run_89 ?_
    refine x_put (σ' := sI (sN σ 61 (100 + 2 * i) ((gN σ 61 (100 + 2 * i)) + 1)) 59 (100 + 2 * i) ((gI σ 59 (100 + 2 * i)) - (gI σ 60 (100 + 2 * i)))) (v := .int ((gI σ 59 (100 + 2 * i)) - (gI σ 60 (100 + 2 * i)))) (k := 4) hx hb ht xc_Worker t_Worker t_Worker_ok n_Worker hown hK hP hJ hw hS (mo_wk hi) (kd_wk (by omega)) (by decide) fl_Worker_39 rfl rfl rfl off_I (by simp [vl, gs]) rfl rfl d_Worker_run_90 (fun H locs hP hS => ?_)
    refine lv_goto (tgt := 237) hx hb d_Worker_run_93 (by decide) ?_
    exact x_vret hx hb hr hlk hK hP hS d_Worker_run_237 (by unfold wRun; rw [if_neg (by omega), if_pos h1])
  · refine lv_tableIn (off := 85) (tgt := 96) hx hb d_Worker_run_11 (by rw [h1]; decide) (by rw [h1]; decide) (by rw [h1]; rfl) (by decide) ?_
    refine lv_aload_n hx hb d_Worker_run_96 rfl (lv_at hl 0 rfl) ?_
    refine lv_aload_n hx hb d_Worker_run_97 rfl (lv_at hl 0 rfl) ?_
    refine x_get (v := .int (gI σ 59 (100 + 2 * i))) (k := 4) hx hb ht xc_Worker hown hK hP (mo_wk hi) (kd_wk (by omega)) (by decide) fl_Worker_39 rfl rfl rfl d_Worker_run_98 ?_
    refine lv_aload_n hx hb d_Worker_run_101 rfl (lv_at hl 0 rfl) ?_
    refine x_get (v := .int (gI σ 60 (100 + 2 * i))) (k := 5) hx hb ht xc_Worker hown hK hP (mo_wk hi) (kd_wk (by omega)) (by decide) fl_Worker_45 rfl rfl rfl d_Worker_run_102 ?_
    refine lv_ixor hx hb d_Worker_run_105 ?_
    refine x_put (σ' := sI (sN σ 61 (100 + 2 * i) ((gN σ 61 (100 + 2 * i)) + 1)) 59 (100 + 2 * i) ((gI σ 59 (100 + 2 * i)) ^^^ (gI σ 60 (100 + 2 * i)))) (v := .int ((gI σ 59 (100 + 2 * i)) ^^^ (gI σ 60 (100 + 2 * i)))) (k := 4) hx hb ht xc_Worker t_Worker t_Worker_ok n_Worker hown hK hP hJ hw hS (mo_wk hi) (kd_wk (by omega)) (by decide) fl_Worker_39 rfl rfl rfl off_I (by simp [vl, gs]) rfl rfl d_Worker_run_106 (fun H locs hP hS => ?_)
    refine lv_goto (tgt := 237) hx hb d_Worker_run_109 (by decide) ?_
    exact x_vret hx hb hr hlk hK hP hS d_Worker_run_237 (by unfold wRun; rw [if_neg (by omega), if_neg (by omega), if_pos h1])
  · refine lv_tableIn (off := 101) (tgt := 112) hx hb d_Worker_run_11 (by rw [h1]; decide) (by rw [h1]; decide) (by rw [h1]; rfl) (by decide) ?_
    refine lv_aload_n hx hb d_Worker_run_112 rfl (lv_at hl 0 rfl) ?_
    refine lv_aload_n hx hb d_Worker_run_113 rfl (lv_at hl 0 rfl) ?_
    refine x_get (v := .int (gI σ 59 (100 + 2 * i))) (k := 4) hx hb ht xc_Worker hown hK hP (mo_wk hi) (kd_wk (by omega)) (by decide) fl_Worker_39 rfl rfl rfl d_Worker_run_114 ?_
    refine lv_iconst (v := (nI 1)) hx hb d_Worker_run_117 (by decide) ?_
    refine lv_ishr hx hb d_Worker_run_118 ?_
    refine x_put (σ' := sI (sN σ 61 (100 + 2 * i) ((gN σ 61 (100 + 2 * i)) + 1)) 59 (100 + 2 * i) ((gI σ 59 (100 + 2 * i)) >>> ((nI 1) &&& 31))) (v := .int ((gI σ 59 (100 + 2 * i)) >>> ((nI 1) &&& 31))) (k := 4) hx hb ht xc_Worker t_Worker t_Worker_ok n_Worker hown hK hP hJ hw hS (mo_wk hi) (kd_wk (by omega)) (by decide) fl_Worker_39 rfl rfl rfl off_I (by simp [vl, gs]) rfl rfl d_Worker_run_119 (fun H locs hP hS => ?_)
    refine lv_goto (tgt := 237) hx hb d_Worker_run_122 (by decide) ?_
    exact x_vret hx hb hr hlk hK hP hS d_Worker_run_237 (by unfold wRun; rw [if_neg (by omega), if_neg (by omega), if_neg (by omega), if_pos h1])
  · refine lv_tableIn (off := 114) (tgt := 125) hx hb d_Worker_run_11 (by rw [h1]; decide) (by rw [h1]; decide) (by rw [h1]; rfl) (by decide) ?_
    refine lv_aload_n hx hb d_Worker_run_125 rfl (lv_at hl 0 rfl) ?_
    refine lv_aload_n hx hb d_Worker_run_126 rfl (lv_at hl 0 rfl) ?_
    refine x_get (v := .int (gI σ 59 (100 + 2 * i))) (k := 4) hx hb ht xc_Worker hown hK hP (mo_wk hi) (kd_wk (by omega)) (by decide) fl_Worker_39 rfl rfl rfl d_Worker_run_127 ?_
    refine lv_iconst (v := (nI 3)) hx hb d_Worker_run_130 (by decide) ?_
    refine lv_imul hx hb d_Worker_run_131 ?_
    refine lv_iconst (v := (nI 1)) hx hb d_Worker_run_132 (by decide) ?_
    refine lv_iadd hx hb d_Worker_run_133 ?_
    refine x_put (σ' := sI (sN σ 61 (100 + 2 * i) ((gN σ 61 (100 + 2 * i)) + 1)) 59 (100 + 2 * i) (((gI σ 59 (100 + 2 * i)) * (nI 3)) + (nI 1))) (v := .int (((gI σ 59 (100 + 2 * i)) * (nI 3)) + (nI 1))) (k := 4) hx hb ht xc_Worker t_Worker t_Worker_ok n_Worker hown hK hP hJ hw hS (mo_wk hi) (kd_wk (by omega)) (by decide) fl_Worker_39 rfl rfl rfl off_I (by simp [vl, gs]) rfl rfl d_Worker_run_134 (fun H locs hP hS => ?_)
    refine lv_goto (tgt := 237) hx hb d_Worker_run_137 (by decide) ?_
    exact x_vret hx hb hr hlk hK hP hS d_Worker_run_237 (by unfold wRun; rw [if_neg (by omega), if_neg (by omega), if_neg (by omega), if_neg (by omega), if_pos h1])
  · refine lv_tableIn (off := 129) (tgt := 140) hx hb d_Worker_run_11 (by rw [h1]; decide) (by rw [h1]; decide) (by rw [h1]; rfl) (by decide) ?_
    refine lv_aload_n hx hb d_Worker_run_140 rfl (lv_at hl 0 rfl) ?_
    refine x_get (v := .int (gI σ 59 (100 + 2 * i))) (k := 4) hx hb ht xc_Worker hown hK hP (mo_wk hi) (kd_wk (by omega)) (by decide) fl_Worker_39 rfl rfl rfl d_Worker_run_141 ?_
    refine lv_istore_n (lv' := [(2, .int (gI σ 59 (100 + 2 * i))), (0, .ref (ad (100 + 2 * i))), (1, .int (nI x))]) hx hb d_Worker_run_144 rfl hl (by decide) rfl (fun ls hl => ?_)
    refine lv_aload_n hx hb d_Worker_run_145 rfl (lv_at hl 1 rfl) ?_
    refine lv_aload_n hx hb d_Worker_run_146 rfl (lv_at hl 1 rfl) ?_
    refine x_get (v := .int (gI σ 60 (100 + 2 * i))) (k := 5) hx hb ht xc_Worker hown hK hP (mo_wk hi) (kd_wk (by omega)) (by decide) fl_Worker_45 rfl rfl rfl d_Worker_run_147 ?_
    refine x_put (σ' := sI (sN σ 61 (100 + 2 * i) ((gN σ 61 (100 + 2 * i)) + 1)) 59 (100 + 2 * i) (gI σ 60 (100 + 2 * i))) (v := .int (gI σ 60 (100 + 2 * i))) (k := 4) hx hb ht xc_Worker t_Worker t_Worker_ok n_Worker hown hK hP hJ hw hS (mo_wk hi) (kd_wk (by omega)) (by decide) fl_Worker_39 rfl rfl rfl off_I (by simp [vl, gs]) rfl rfl d_Worker_run_150 (fun H locs hP hS => ?_)
    refine lv_aload_n hx hb d_Worker_run_153 rfl (lv_at hl 1 rfl) ?_
    refine lv_iload_n hx hb d_Worker_run_154 rfl (lv_at hl 0 rfl) ?_
    refine x_put (σ' := sI (sI (sN σ 61 (100 + 2 * i) ((gN σ 61 (100 + 2 * i)) + 1)) 59 (100 + 2 * i) (gI σ 60 (100 + 2 * i))) 60 (100 + 2 * i) (gI σ 59 (100 + 2 * i))) (v := .int (gI σ 59 (100 + 2 * i))) (k := 5) hx hb ht xc_Worker t_Worker t_Worker_ok n_Worker hown hK hP hJ hw hS (mo_wk hi) (kd_wk (by omega)) (by decide) fl_Worker_45 rfl rfl rfl off_I (by simp [vl, gs]) rfl rfl d_Worker_run_155 (fun H locs hP hS => ?_)
    refine lv_goto (tgt := 237) hx hb d_Worker_run_158 (by decide) ?_
    exact x_vret hx hb hr hlk hK hP hS d_Worker_run_237 (by unfold wRun; rw [if_neg (by omega), if_neg (by omega), if_neg (by omega), if_neg (by omega), if_neg (by omega), if_pos h1])
  · refine lv_tableIn (off := 150) (tgt := 161) hx hb d_Worker_run_11 (by rw [h1]; decide) (by rw [h1]; decide) (by rw [h1]; rfl) (by decide) ?_
    refine lv_aload_n hx hb d_Worker_run_161 rfl (lv_at hl 0 rfl) ?_
    refine x_get (v := .int (gI σ 60 (100 + 2 * i))) (k := 5) hx hb ht xc_Worker hown hK hP (mo_wk hi) (kd_wk (by omega)) (by decide) fl_Worker_45 rfl rfl rfl d_Worker_run_162 ?_
    refine lv_if_le (tgt := 237) hx hb d_Worker_run_165 (by decide) (fun h2 => ?_) (fun h2 => ?_)
    · exact x_vret hx hb hr hlk hK hP hS d_Worker_run_237 (by unfold wRun; rw [if_neg (by omega), if_neg (by omega), if_neg (by omega), if_neg (by omega), if_neg (by omega), if_neg (by omega), if_pos h1, if_pos h2])
    · refine lv_aload_n hx hb d_Worker_run_168 rfl (lv_at hl 0 rfl) ?_
      refine lv_dup hx hb d_Worker_run_169 rfl ?_
      refine x_get (v := .int (gI σ 60 (100 + 2 * i))) (k := 5) hx hb ht xc_Worker hown hK hP (mo_wk hi) (kd_wk (by omega)) (by decide) fl_Worker_45 rfl rfl rfl d_Worker_run_170 ?_
      refine lv_iconst (v := (nI 1)) hx hb d_Worker_run_173 (by decide) ?_
      refine lv_isub hx hb d_Worker_run_174 ?_
      refine x_put (σ' := sI (sN σ 61 (100 + 2 * i) ((gN σ 61 (100 + 2 * i)) + 1)) 60 (100 + 2 * i) ((gI σ 60 (100 + 2 * i)) - (nI 1))) (v := .int ((gI σ 60 (100 + 2 * i)) - (nI 1))) (k := 5) hx hb ht xc_Worker t_Worker t_Worker_ok n_Worker hown hK hP hJ hw hS (mo_wk hi) (kd_wk (by omega)) (by decide) fl_Worker_45 rfl rfl rfl off_I (by simp [vl, gs]) rfl rfl d_Worker_run_175 (fun H locs hP hS => ?_)
      refine lv_aload_n hx hb d_Worker_run_178 rfl (lv_at hl 0 rfl) ?_
      refine lv_iconst (v := (nI 0)) hx hb d_Worker_run_179 (by decide) ?_
      refine x_put (σ' := sN (sI (sN σ 61 (100 + 2 * i) ((gN σ 61 (100 + 2 * i)) + 1)) 60 (100 + 2 * i) ((gI σ 60 (100 + 2 * i)) - (nI 1))) 61 (100 + 2 * i) 0) (v := .int (nI 0)) (k := 6) hx hb ht xc_Worker t_Worker t_Worker_ok n_Worker hown hK hP hJ hw hS (mo_wk hi) (kd_wk (by omega)) (by decide) fl_Worker_48 rfl rfl rfl off_N (by simp [vl, gs]) rfl rfl d_Worker_run_180 (fun H locs hP hS => ?_)
      refine lv_goto (tgt := 237) hx hb d_Worker_run_183 (by decide) ?_
      exact x_vret hx hb hr hlk hK hP hS d_Worker_run_237 (by unfold wRun; rw [if_neg (by omega), if_neg (by omega), if_neg (by omega), if_neg (by omega), if_neg (by omega), if_neg (by omega), if_pos h1, if_neg h2])
  · refine lv_tableIn (off := 175) (tgt := 186) hx hb d_Worker_run_11 (by rw [h1]; decide) (by rw [h1]; decide) (by rw [h1]; rfl) (by decide) ?_
    refine lv_aload_n hx hb d_Worker_run_186 rfl (lv_at hl 0 rfl) ?_
    refine x_get (v := .int (gI σ 59 (100 + 2 * i))) (k := 4) hx hb ht xc_Worker hown hK hP (mo_wk hi) (kd_wk (by omega)) (by decide) fl_Worker_39 rfl rfl rfl d_Worker_run_187 ?_
    refine lv_iconst (v := (nI 1)) hx hb d_Worker_run_190 (by decide) ?_
    refine lv_iand hx hb d_Worker_run_191 ?_
    refine lv_if_eq (tgt := 237) hx hb d_Worker_run_192 (by decide) (fun h3 => ?_) (fun h3 => ?_)
    · exact x_vret hx hb hr hlk hK hP hS d_Worker_run_237 (by unfold wRun; rw [if_neg (by omega), if_neg (by omega), if_neg (by omega), if_neg (by omega), if_neg (by omega), if_neg (by omega), if_neg (by omega), if_pos h1, if_pos h3])
    · refine lv_aload_n hx hb d_Worker_run_195 rfl (lv_at hl 0 rfl) ?_
      refine lv_dup hx hb d_Worker_run_196 rfl ?_
      refine x_get (v := .int (nI ((gN σ 61 (100 + 2 * i)) + 1))) (k := 6) hx hb ht xc_Worker hown hK hP (mo_wk hi) (kd_wk (by omega)) (by decide) fl_Worker_48 rfl rfl (congrArg (fun z => Value.int (nI z)) (by simp [gs])) d_Worker_run_197 ?_
      refine lv_iconst (v := (nI 1)) hx hb d_Worker_run_200 (by decide) ?_
      refine x_iaddN hx hb d_Worker_run_201 ?_
      refine x_put (σ' := sN (sN σ 61 (100 + 2 * i) ((gN σ 61 (100 + 2 * i)) + 1)) 61 (100 + 2 * i) (((gN σ 61 (100 + 2 * i)) + 1) + 1)) (v := .int (nI (((gN σ 61 (100 + 2 * i)) + 1) + 1))) (k := 6) hx hb ht xc_Worker t_Worker t_Worker_ok n_Worker hown hK hP hJ hw hS (mo_wk hi) (kd_wk (by omega)) (by decide) fl_Worker_48 rfl rfl rfl off_N (by simp [vl, gs]) rfl rfl d_Worker_run_202 (fun H locs hP hS => ?_)
      refine lv_goto (tgt := 237) hx hb d_Worker_run_205 (by decide) ?_
      exact x_vret hx hb hr hlk hK hP hS d_Worker_run_237 (by unfold wRun; rw [if_neg (by omega), if_neg (by omega), if_neg (by omega), if_neg (by omega), if_neg (by omega), if_neg (by omega), if_neg (by omega), if_pos h1, if_neg h3])
  · refine lv_tableIn (off := 197) (tgt := 208) hx hb d_Worker_run_11 (by rw [h1]; decide) (by rw [h1]; decide) (by rw [h1]; rfl) (by decide) ?_
    refine lv_aload_n hx hb d_Worker_run_208 rfl (lv_at hl 0 rfl) ?_
    refine lv_aload_n hx hb d_Worker_run_209 rfl (lv_at hl 0 rfl) ?_
    refine x_get (v := .int (gI σ 59 (100 + 2 * i))) (k := 4) hx hb ht xc_Worker hown hK hP (mo_wk hi) (kd_wk (by omega)) (by decide) fl_Worker_39 rfl rfl rfl d_Worker_run_210 ?_
    refine x_put (σ' := sI (sN σ 61 (100 + 2 * i) ((gN σ 61 (100 + 2 * i)) + 1)) 60 (100 + 2 * i) (gI σ 59 (100 + 2 * i))) (v := .int (gI σ 59 (100 + 2 * i))) (k := 5) hx hb ht xc_Worker t_Worker t_Worker_ok n_Worker hown hK hP hJ hw hS (mo_wk hi) (kd_wk (by omega)) (by decide) fl_Worker_45 rfl rfl rfl off_I (by simp [vl, gs]) rfl rfl d_Worker_run_213 (fun H locs hP hS => ?_)
    refine lv_goto (tgt := 237) hx hb d_Worker_run_216 (by decide) ?_
    exact x_vret hx hb hr hlk hK hP hS d_Worker_run_237 (by unfold wRun; rw [if_neg (by omega), if_neg (by omega), if_neg (by omega), if_neg (by omega), if_neg (by omega), if_neg (by omega), if_neg (by omega), if_neg (by omega), if_pos h1])
  · refine lv_tableIn (off := 208) (tgt := 219) hx hb d_Worker_run_11 (by rw [h1]; decide) (by rw [h1]; decide) (by rw [h1]; rfl) (by decide) ?_
    refine lv_aload_n hx hb d_Worker_run_219 rfl (lv_at hl 0 rfl) ?_
    refine lv_aload_n hx hb d_Worker_run_220 rfl (lv_at hl 0 rfl) ?_
    refine x_get (v := .int (gI σ 59 (100 + 2 * i))) (k := 4) hx hb ht xc_Worker hown hK hP (mo_wk hi) (kd_wk (by omega)) (by decide) fl_Worker_39 rfl rfl rfl d_Worker_run_221 ?_
    refine lv_aload_n hx hb d_Worker_run_224 rfl (lv_at hl 0 rfl) ?_
    refine x_get (v := .int (gI σ 60 (100 + 2 * i))) (k := 5) hx hb ht xc_Worker hown hK hP (mo_wk hi) (kd_wk (by omega)) (by decide) fl_Worker_45 rfl rfl rfl d_Worker_run_225 ?_
    refine va_mmax hx hb (hml.trans hl.1.symm) hown (ht _ mx_1) (ht _ mx_2) (ht _ mx_3) (ht _ mx_4) (Nat.le_of_ble_eq_true rfl) (Nat.le_of_ble_eq_true rfl) (Nat.zero_le _) (Nat.zero_le _) d_Worker_run_228 ?_
    refine W.eq (g2 := F0 mm 231 ls [.int (imax (gI σ 59 (100 + 2 * i)) (gI σ 60 (100 + 2 * i))), .ref (ad (100 + 2 * i))]) rfl ?_
    refine x_put (σ' := sI (sN σ 61 (100 + 2 * i) ((gN σ 61 (100 + 2 * i)) + 1)) 59 (100 + 2 * i) (imax (gI σ 59 (100 + 2 * i)) (gI σ 60 (100 + 2 * i)))) (v := .int (imax (gI σ 59 (100 + 2 * i)) (gI σ 60 (100 + 2 * i)))) (k := 4) hx hb ht xc_Worker t_Worker t_Worker_ok n_Worker hown hK hP hJ hw hS (mo_wk hi) (kd_wk (by omega)) (by decide) fl_Worker_39 rfl rfl rfl off_I (by simp [vl, gs]) rfl rfl d_Worker_run_231 (fun H locs hP hS => ?_)
    refine lv_goto (tgt := 237) hx hb d_Worker_run_234 (by decide) ?_
    exact x_vret hx hb hr hlk hK hP hS d_Worker_run_237 (by unfold wRun; rw [if_neg (by omega), if_neg (by omega), if_neg (by omega), if_neg (by omega), if_neg (by omega), if_neg (by omega), if_neg (by omega), if_neg (by omega), if_neg (by omega), if_pos h1])
  · refine lv_tableOut (tgt := 237) hx hb d_Worker_run_11 (by rw [nI_toInt (by omega)]; omega) (by decide) ?_
    exact x_vret hx hb hr hlk hK hP hS d_Worker_run_237 (by unfold wRun; rw [if_neg (by omega), if_neg (by omega), if_neg (by omega), if_neg (by omega), if_neg (by omega), if_neg (by omega), if_neg (by omega), if_neg (by omega), if_neg (by omega), if_neg (by omega)])
set_option maxHeartbeats 4000000 in
set_option maxRecDepth 100000 in
theorem c_Worker_work (l : Launch) (D : va_G) (dA : Nat → ClassId) (ad : Nat → Nat) (nw : Nat) (hJ : Inj ad (obC nw)) (hnw : nw ≤ 4) (σ : Sg)  (hWf : Wf nw σ) (i : Nat) (hi : i < nw) : CV l D clX (tyX dA) (SC nw) ad dA (obC nw) NL y_Worker_work w_Worker_work { frames := 3, cells := 0, slots := 0, locals := 68 } [.ref (ad (100 + 2 * i)), .ref (ad 1)] σ (wWork σ (100 + 2 * i)) := by
  refine x_of (WS := WS) (cc := b_Worker_work) (maxL := 3) (ret := none) (by decide) rfl (Nat.le_of_ble_eq_true rfl) ?_
  intro pp ee ss mm below meth cdd hx hb hml hr hlk ht hown hnm hN hK hP ls hl
  have hl : lv_has ls 3 [(0, .ref (ad (100 + 2 * i))), (1, .ref (ad 1))] := hl
  have hS : va_S (Ad ad (obC nw)) ss.heap ss.heap [] := va_S.rf
  have hw := swfC hnw
  have hWn := hWf.n
  have hWq := hWf.q
  have hWit := hWf.it
  have hWbl := hWf.bl
  have hWrs := hWf.rs
  have hWlt := hWf.lt
  have hWln := hWf.ln
  refine lv_aload_n hx hb d_Worker_work_0 rfl (lv_at hl 0 rfl) ?_
  refine x_get (v := .int (bI (gB σ 56 (100 + 2 * i)))) (k := 1) hx hb ht xc_Worker hown hK hP (mo_wk hi) (kd_wk (by omega)) (by decide) fl_Worker_18 rfl rfl rfl d_Worker_work_1 ?_
  refine x_ifeqB (tgt := 14) hx hb d_Worker_work_4 (by decide) (fun h1 => ?_) (fun h1 => ?_)
  · exact x_vret hx hb hr hlk hK hP hS d_Worker_work_14 (by unfold wWork; rw [if_neg (by rw [h1]; decide)])
  · refine lv_aload_n hx hb d_Worker_work_7 rfl (lv_at hl 0 rfl) ?_
    refine x_get (v := .int (bI (gB σ 57 (100 + 2 * i)))) (k := 2) hx hb ht xc_Worker hown hK hP (mo_wk hi) (kd_wk (by omega)) (by decide) fl_Worker_22 rfl rfl rfl d_Worker_work_8 ?_
    refine x_ifneB (tgt := 15) hx hb d_Worker_work_11 (by decide) (fun h2 => ?_) (fun h2 => ?_)
    · refine lv_aload_n hx hb d_Worker_work_15 rfl (lv_at hl 0 rfl) ?_
      refine x_ci (x_rV (As := []) (rest := []) hx hb hml hown ht gW cs_Worker_51 (c_Worker_next l D dA ad nw hJ hnw σ i (by omega) (hWf.pp _)) rfl rfl (by decide) xc_Worker hN hK hP (mo_wk hi) (kd_wk (by omega)) rfl hl.1 rfl (Nat.le_of_ble_eq_true rfl) d_Worker_work_16 (by decide)) hS (fun H locs hP hS => ?_)
      refine lv_istore_n (lv' := [(2, .int (nI (wNext σ (100 + 2 * i)))), (0, .ref (ad (100 + 2 * i))), (1, .ref (ad 1))]) hx hb d_Worker_work_19 rfl hl (by decide) rfl (fun ls hl => ?_)
      refine lv_iload_n hx hb d_Worker_work_20 rfl (lv_at hl 0 rfl) ?_
      refine x_if_neN (tgt := 56) hx hb d_Worker_work_21 (by decide) (Nat.lt_trans (insn_lt _ _) (by decide)) (fun h3 => ?_) (fun h3 => ?_)
      · have hp15 := p15 h3
        refine lv_aload_n hx hb d_Worker_work_56 rfl (lv_at hl 1 rfl) ?_
        refine lv_iload_n hx hb d_Worker_work_57 rfl (lv_at hl 0 rfl) ?_
        refine x_cv (x_rV (As := [.int (nI (wNext σ (100 + 2 * i)))]) (rest := []) hx hb hml hown ht gW cs_Worker_69 (c_Worker_run l D dA ad nw hJ hnw σ (wNext σ (100 + 2 * i)) i (by omega) (insn_lt _ _) (by omega)) rfl rfl (by decide) xc_Worker hN hK hP (mo_wk hi) (kd_wk (by omega)) rfl hl.1 rfl (Nat.le_of_ble_eq_true rfl) d_Worker_work_58 (by decide)) hS (fun H locs hP hS => ?_)
        have hWf : Wf nw (wRun σ (100 + 2 * i) (wNext σ (100 + 2 * i))) := wf_run hWf (by omega)
        refine lv_aload_n hx hb d_Worker_work_61 rfl (lv_at hl 1 rfl) ?_
        refine lv_dup hx hb d_Worker_work_62 rfl ?_
        refine x_get (v := .int (nI (gN σ 58 (100 + 2 * i)))) (k := 3) hx hb ht xc_Worker hown hK hP (mo_wk hi) (kd_wk (by omega)) (by decide) fl_Worker_25 rfl rfl (congrArg (fun z => Value.int (nI z)) (wRun_done σ (100 + 2 * i) (wNext σ (100 + 2 * i)) (by decide) (100 + 2 * i))) d_Worker_work_63 ?_
        refine lv_iconst (v := (nI 1)) hx hb d_Worker_work_66 (by decide) ?_
        refine x_iaddN hx hb d_Worker_work_67 ?_
        refine x_put (σ' := sN (wRun σ (100 + 2 * i) (wNext σ (100 + 2 * i))) 58 (100 + 2 * i) ((gN σ 58 (100 + 2 * i)) + 1)) (v := .int (nI ((gN σ 58 (100 + 2 * i)) + 1))) (k := 3) hx hb ht xc_Worker t_Worker t_Worker_ok n_Worker hown hK hP hJ hw hS (mo_wk hi) (kd_wk (by omega)) (by decide) fl_Worker_25 rfl rfl rfl off_N (by simp [vl, gs]) rfl rfl d_Worker_work_68 (fun H locs hP hS => ?_)
        have hWf : Wf nw (sN (wRun σ (100 + 2 * i) (wNext σ (100 + 2 * i))) 58 (100 + 2 * i) ((gN σ 58 (100 + 2 * i)) + 1)) := wf_N (by decide) hWf
        exact x_vret hx hb hr hlk hK hP hS d_Worker_work_71 (by unfold wWork; rw [if_pos h1, if_pos h2, if_neg (by omega)])
      · refine lv_aload_n hx hb d_Worker_work_24 rfl (lv_at hl 1 rfl) ?_
        refine lv_iconst (v := (nI 0)) hx hb d_Worker_work_25 (by decide) ?_
        refine x_put (σ' := sB σ 57 (100 + 2 * i) false) (v := .int (nI 0)) (k := 2) hx hb ht xc_Worker t_Worker t_Worker_ok n_Worker hown hK hP hJ hw hS (mo_wk hi) (kd_wk (by omega)) (by decide) fl_Worker_22 rfl rfl rfl off_B (by simp [vl, gs]; rfl) rfl rfl d_Worker_work_26 (fun H locs hP hS => ?_)
        have hWf : Wf nw (sB σ 57 (100 + 2 * i) false) := wf_B hWf
        refine lv_aload_n hx hb d_Worker_work_29 rfl (lv_at hl 2 rfl) ?_
        refine lv_iconst (v := (nI 5)) hx hb d_Worker_work_30 (by decide) ?_
        refine lv_iconst (v := (nI 0)) hx hb d_Worker_work_31 (by decide) ?_
        have hto : kdC (sendTo (sB σ 57 (100 + 2 * i) false)) = 2 := kd_to hWf
        refine x_cr (x_rV (As := [.int (nI 5), .int (nI 0)]) (rest := []) hx hb hml hown ht gW cs_Worker_55 (c_Flight_send l D dA ad nw hJ hnw (sB σ 57 (100 + 2 * i) false) 5 0 hWf.R hWf.n) rfl rfl (by decide) xc_Flight hN hK hP (mo (by decide)) rfl rfl hl.1 rfl (Nat.le_of_ble_eq_true rfl) d_Worker_work_32 (by decide)) hS (fun H locs hP hS => ?_)
        have hWf : Wf nw (fSend (sB σ 57 (100 + 2 * i) false) 5 0) := wf_send hWf (by omega) (by omega)
        refine lv_aload_n hx hb d_Worker_work_35 rfl (lv_at hl 1 rfl) ?_
        refine x_get (v := .ref (ad ((100 + 2 * i) + 1))) (k := 0) hx hb ht xc_Worker hown hK hP (mo_wk hi) (kd_wk (by omega)) (by decide) fl_Worker_12 rfl rfl rfl d_Worker_work_36 ?_
        refine lv_aload_n hx hb d_Worker_work_39 rfl (lv_at hl 1 rfl) ?_
        refine x_get (v := .int (gI σ 59 (100 + 2 * i))) (k := 4) hx hb ht xc_Worker hown hK hP (mo_wk hi) (kd_wk (by omega)) (by decide) fl_Worker_39 rfl rfl (congrArg (fun z => Value.int z) (send_I (sB σ 57 (100 + 2 * i) false) 5 0 59 (100 + 2 * i))) d_Worker_work_40 ?_
        refine x_ci (x_rSN (As := [.int (gI σ 59 (100 + 2 * i))]) (rest := [.ref (ad ((100 + 2 * i) + 1)), .ref (ad (sendTo (sB σ 57 (100 + 2 * i) false)))]) hx hb hml hown ht gW cs_Worker_61 (c_LB_digestOf l D dA ad nw hJ hnw (fSend (sB σ 57 (100 + 2 * i) false) 5 0) (gI σ 59 (100 + 2 * i))) rfl rfl (by decide) hN hK hP rfl hl.1 rfl (Nat.le_of_ble_eq_true rfl) d_Worker_work_43 (by decide)) hS (fun H locs hP hS => ?_)
        refine lv_aload_n hx hb d_Worker_work_46 rfl (lv_at hl 1 rfl) ?_
        refine x_get (v := .int (gI σ 59 (100 + 2 * i))) (k := 4) hx hb ht xc_Worker hown hK hP (mo_wk hi) (kd_wk (by omega)) (by decide) fl_Worker_39 rfl rfl (congrArg (fun z => Value.int z) (send_I (sB σ 57 (100 + 2 * i) false) 5 0 59 (100 + 2 * i))) d_Worker_work_47 ?_
        refine x_cv (x_rV (As := [.ref (ad ((100 + 2 * i) + 1)), .int (dg (gI σ 59 (100 + 2 * i))), .int (gI σ 59 (100 + 2 * i))]) (rest := []) hx hb hml hown ht gW cs_Worker_65 (c_Message_fill l D dA ad nw hJ hnw (fSend (sB σ 57 (100 + 2 * i) false) 5 0) (sendTo (sB σ 57 (100 + 2 * i) false)) ((100 + 2 * i) + 1) (dg (gI σ 59 (100 + 2 * i))) (gI σ 59 (100 + 2 * i)) hto (kd_wkk (by omega)) (mo_wkk hi)) rfl rfl (by decide) xc_Message hN hK hP (mo_msg hto) hto rfl hl.1 rfl (Nat.le_of_ble_eq_true rfl) d_Worker_work_50 (by decide)) hS (fun H locs hP hS => ?_)
        have hWf : Wf nw (mFill (fSend (sB σ 57 (100 + 2 * i) false) 5 0) (sendTo (sB σ 57 (100 + 2 * i) false)) ((100 + 2 * i) + 1) (dg (gI σ 59 (100 + 2 * i))) (gI σ 59 (100 + 2 * i))) := wf_fill hWf
        refine lv_goto (tgt := 71) hx hb d_Worker_work_53 (by decide) ?_
        exact x_vret hx hb hr hlk hK hP hS d_Worker_work_71 (by unfold wWork; rw [if_pos h1, if_pos h2, if_pos h3])
    · exact x_vret hx hb hr hlk hK hP hS d_Worker_work_14 (by unfold wWork; rw [if_pos h1, if_neg (by rw [h2]; decide)])
