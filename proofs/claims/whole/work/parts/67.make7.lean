/-! the constructor of the reference -/
theorem fo_Md : ∀ j, j < 50 → defaultValue (t_Md j) = vp_V fr_Md j := fun j hj => by
  rcases (show j = 0 ∨ j = 1 ∨ j = 2 ∨ j = 3 ∨ j = 4 ∨ j = 5 ∨ j = 6 ∨ j = 7 ∨ j = 8 ∨ j = 9 ∨ j = 10 ∨ j = 11 ∨ j = 12 ∨ j = 13 ∨ j = 14 ∨ j = 15 ∨ j = 16 ∨ j = 17 ∨ j = 18 ∨ j = 19 ∨ j = 20 ∨ j = 21 ∨ j = 22 ∨ j = 23 ∨ j = 24 ∨ j = 25 ∨ j = 26 ∨ j = 27 ∨ j = 28 ∨ j = 29 ∨ j = 30 ∨ j = 31 ∨ j = 32 ∨ j = 33 ∨ j = 34 ∨ j = 35 ∨ j = 36 ∨ j = 37 ∨ j = 38 ∨ j = 39 ∨ j = 40 ∨ j = 41 ∨ j = 42 ∨ j = 43 ∨ j = 44 ∨ j = 45 ∨ j = 46 ∨ j = 47 ∨ j = 48 ∨ j = 49 by omega) with rfl | rfl | rfl | rfl | rfl | rfl | rfl | rfl | rfl | rfl | rfl | rfl | rfl | rfl | rfl | rfl | rfl | rfl | rfl | rfl | rfl | rfl | rfl | rfl | rfl | rfl | rfl | rfl | rfl | rfl | rfl | rfl | rfl | rfl | rfl | rfl | rfl | rfl | rfl | rfl | rfl | rfl | rfl | rfl | rfl | rfl | rfl | rfl | rfl | rfl <;> rfl
theorem c_retA {p : Program} {l : Launch} {e : Env} {R : Room} {s : State} {m : MethodId} {args : Array Value} {below : List Frame} {meth : Method} {c : Code} {H : Heap} {locs : List Loc} {cells slots : Nat} {cc : ByteArray} {pc : Nat} {ls : Array Slot} {D : va_G} {ws w9 : va_W} {A : Nat → Prop} {mc mz : Nat} {T : Type} {post : T → Prop} {w1 : T → va_W} (u : T) (hx : p.tables.exec = Jvm.exec) (hb : c.code = cc) (hr : meth.sig.returnType = none) (hlocks : meth.locks = false) (hpost : post u) (hAe : va_A ws s.heap.size = A) (hw : w9 = w1 u) (hP : va_P D clX w9 H) (hD : va_D A w9) (hS : va_S A s.heap H locs) (hc : cells ≤ mc) (hz : slots ≤ mz) (hdg : decode cc pc = .ok (.return_, 1)) :
    W p l e R s m args below meth c H locs cells slots (MQ below (cQ D ws s.heap.size post w1) args s mc mz A) (F0 m pc ls []) := by
  subst hAe
  exact c_ret u hx hb hr hlocks hpost hw hP hD hS hc hz hdg
abbrev md_ap (R : va_W) (e : Nat × va_E) : va_W := R ++ [e]
abbrev b_Md_init : ByteArray := prog_12_method_1_code
def y_Md_init : MethodName := ⟨"LeasedBuildsModel", "<init>", "(II)V"⟩
def w_Md_init : List Cond := .code y_Md_init b_Md_init 3 none :: WS
theorem d_Md_init_0 : decode b_Md_init 0 = .ok (.aload_n 0, 1) := by decide +kernel
theorem d_Md_init_1 : decode b_Md_init 1 = .ok (.invokespecial 1, 3) := by decide +kernel
theorem d_Md_init_4 : decode b_Md_init 4 = .ok (.aload_n 0, 1) := by decide +kernel
theorem d_Md_init_5 : decode b_Md_init 5 = .ok (.iconst 5, 1) := by decide +kernel
theorem d_Md_init_6 : decode b_Md_init 6 = .ok (.newarray .boolean, 2) := by decide +kernel
theorem d_Md_init_8 : decode b_Md_init 8 = .ok (.putfield 7, 3) := by decide +kernel
theorem d_Md_init_11 : decode b_Md_init 11 = .ok (.aload_n 0, 1) := by decide +kernel
theorem d_Md_init_12 : decode b_Md_init 12 = .ok (.bipush 10, 2) := by decide +kernel
theorem d_Md_init_14 : decode b_Md_init 14 = .ok (.newarray .boolean, 2) := by decide +kernel
theorem d_Md_init_16 : decode b_Md_init 16 = .ok (.putfield 13, 3) := by decide +kernel
theorem d_Md_init_19 : decode b_Md_init 19 = .ok (.aload_n 0, 1) := by decide +kernel
theorem d_Md_init_20 : decode b_Md_init 20 = .ok (.bipush 10, 2) := by decide +kernel
theorem d_Md_init_22 : decode b_Md_init 22 = .ok (.newarray .long, 2) := by decide +kernel
theorem d_Md_init_24 : decode b_Md_init 24 = .ok (.putfield 16, 3) := by decide +kernel
theorem d_Md_init_27 : decode b_Md_init 27 = .ok (.aload_n 0, 1) := by decide +kernel
theorem d_Md_init_28 : decode b_Md_init 28 = .ok (.bipush 10, 2) := by decide +kernel
theorem d_Md_init_30 : decode b_Md_init 30 = .ok (.newarray .int, 2) := by decide +kernel
theorem d_Md_init_32 : decode b_Md_init 32 = .ok (.putfield 20, 3) := by decide +kernel
theorem d_Md_init_35 : decode b_Md_init 35 = .ok (.aload_n 0, 1) := by decide +kernel
theorem d_Md_init_36 : decode b_Md_init 36 = .ok (.bipush 10, 2) := by decide +kernel
theorem d_Md_init_38 : decode b_Md_init 38 = .ok (.newarray .int, 2) := by decide +kernel
theorem d_Md_init_40 : decode b_Md_init 40 = .ok (.putfield 24, 3) := by decide +kernel
theorem d_Md_init_43 : decode b_Md_init 43 = .ok (.aload_n 0, 1) := by decide +kernel
theorem d_Md_init_44 : decode b_Md_init 44 = .ok (.bipush 10, 2) := by decide +kernel
theorem d_Md_init_46 : decode b_Md_init 46 = .ok (.newarray .boolean, 2) := by decide +kernel
theorem d_Md_init_48 : decode b_Md_init 48 = .ok (.putfield 27, 3) := by decide +kernel
theorem d_Md_init_51 : decode b_Md_init 51 = .ok (.aload_n 0, 1) := by decide +kernel
theorem d_Md_init_52 : decode b_Md_init 52 = .ok (.bipush 10, 2) := by decide +kernel
theorem d_Md_init_54 : decode b_Md_init 54 = .ok (.newarray .int, 2) := by decide +kernel
theorem d_Md_init_56 : decode b_Md_init 56 = .ok (.putfield 30, 3) := by decide +kernel
theorem d_Md_init_59 : decode b_Md_init 59 = .ok (.aload_n 0, 1) := by decide +kernel
theorem d_Md_init_60 : decode b_Md_init 60 = .ok (.bipush 10, 2) := by decide +kernel
theorem d_Md_init_62 : decode b_Md_init 62 = .ok (.newarray .boolean, 2) := by decide +kernel
theorem d_Md_init_64 : decode b_Md_init 64 = .ok (.putfield 33, 3) := by decide +kernel
theorem d_Md_init_67 : decode b_Md_init 67 = .ok (.aload_n 0, 1) := by decide +kernel
theorem d_Md_init_68 : decode b_Md_init 68 = .ok (.bipush 10, 2) := by decide +kernel
theorem d_Md_init_70 : decode b_Md_init 70 = .ok (.newarray .int, 2) := by decide +kernel
theorem d_Md_init_72 : decode b_Md_init 72 = .ok (.putfield 36, 3) := by decide +kernel
theorem d_Md_init_75 : decode b_Md_init 75 = .ok (.aload_n 0, 1) := by decide +kernel
theorem d_Md_init_76 : decode b_Md_init 76 = .ok (.bipush 10, 2) := by decide +kernel
theorem d_Md_init_78 : decode b_Md_init 78 = .ok (.newarray .long, 2) := by decide +kernel
theorem d_Md_init_80 : decode b_Md_init 80 = .ok (.putfield 39, 3) := by decide +kernel
theorem d_Md_init_83 : decode b_Md_init 83 = .ok (.aload_n 0, 1) := by decide +kernel
theorem d_Md_init_84 : decode b_Md_init 84 = .ok (.bipush 10, 2) := by decide +kernel
theorem d_Md_init_86 : decode b_Md_init 86 = .ok (.newarray .int, 2) := by decide +kernel
theorem d_Md_init_88 : decode b_Md_init 88 = .ok (.putfield 42, 3) := by decide +kernel
theorem d_Md_init_91 : decode b_Md_init 91 = .ok (.aload_n 0, 1) := by decide +kernel
theorem d_Md_init_92 : decode b_Md_init 92 = .ok (.bipush 10, 2) := by decide +kernel
theorem d_Md_init_94 : decode b_Md_init 94 = .ok (.newarray .int, 2) := by decide +kernel
theorem d_Md_init_96 : decode b_Md_init 96 = .ok (.putfield 45, 3) := by decide +kernel
theorem d_Md_init_99 : decode b_Md_init 99 = .ok (.aload_n 0, 1) := by decide +kernel
theorem d_Md_init_100 : decode b_Md_init 100 = .ok (.bipush 10, 2) := by decide +kernel
theorem d_Md_init_102 : decode b_Md_init 102 = .ok (.newarray .boolean, 2) := by decide +kernel
theorem d_Md_init_104 : decode b_Md_init 104 = .ok (.putfield 48, 3) := by decide +kernel
theorem d_Md_init_107 : decode b_Md_init 107 = .ok (.aload_n 0, 1) := by decide +kernel
theorem d_Md_init_108 : decode b_Md_init 108 = .ok (.bipush 10, 2) := by decide +kernel
theorem d_Md_init_110 : decode b_Md_init 110 = .ok (.newarray .int, 2) := by decide +kernel
theorem d_Md_init_112 : decode b_Md_init 112 = .ok (.putfield 51, 3) := by decide +kernel
theorem d_Md_init_115 : decode b_Md_init 115 = .ok (.aload_n 0, 1) := by decide +kernel
theorem d_Md_init_116 : decode b_Md_init 116 = .ok (.bipush 10, 2) := by decide +kernel
theorem d_Md_init_118 : decode b_Md_init 118 = .ok (.newarray .int, 2) := by decide +kernel
theorem d_Md_init_120 : decode b_Md_init 120 = .ok (.putfield 54, 3) := by decide +kernel
theorem d_Md_init_123 : decode b_Md_init 123 = .ok (.aload_n 0, 1) := by decide +kernel
theorem d_Md_init_124 : decode b_Md_init 124 = .ok (.bipush 10, 2) := by decide +kernel
theorem d_Md_init_126 : decode b_Md_init 126 = .ok (.newarray .int, 2) := by decide +kernel
theorem d_Md_init_128 : decode b_Md_init 128 = .ok (.putfield 57, 3) := by decide +kernel
theorem d_Md_init_131 : decode b_Md_init 131 = .ok (.aload_n 0, 1) := by decide +kernel
theorem d_Md_init_132 : decode b_Md_init 132 = .ok (.bipush 10, 2) := by decide +kernel
theorem d_Md_init_134 : decode b_Md_init 134 = .ok (.newarray .int, 2) := by decide +kernel
theorem d_Md_init_136 : decode b_Md_init 136 = .ok (.putfield 60, 3) := by decide +kernel
theorem d_Md_init_139 : decode b_Md_init 139 = .ok (.aload_n 0, 1) := by decide +kernel
theorem d_Md_init_140 : decode b_Md_init 140 = .ok (.bipush 12, 2) := by decide +kernel
theorem d_Md_init_142 : decode b_Md_init 142 = .ok (.newarray .int, 2) := by decide +kernel
theorem d_Md_init_144 : decode b_Md_init 144 = .ok (.putfield 63, 3) := by decide +kernel
theorem d_Md_init_147 : decode b_Md_init 147 = .ok (.aload_n 0, 1) := by decide +kernel
theorem d_Md_init_148 : decode b_Md_init 148 = .ok (.iconst 5, 1) := by decide +kernel
theorem d_Md_init_149 : decode b_Md_init 149 = .ok (.newarray .int, 2) := by decide +kernel
theorem d_Md_init_151 : decode b_Md_init 151 = .ok (.putfield 66, 3) := by decide +kernel
theorem d_Md_init_154 : decode b_Md_init 154 = .ok (.aload_n 0, 1) := by decide +kernel
theorem d_Md_init_155 : decode b_Md_init 155 = .ok (.iconst 5, 1) := by decide +kernel
theorem d_Md_init_156 : decode b_Md_init 156 = .ok (.newarray .int, 2) := by decide +kernel
theorem d_Md_init_158 : decode b_Md_init 158 = .ok (.putfield 69, 3) := by decide +kernel
theorem d_Md_init_161 : decode b_Md_init 161 = .ok (.aload_n 0, 1) := by decide +kernel
theorem d_Md_init_162 : decode b_Md_init 162 = .ok (.iconst 5, 1) := by decide +kernel
theorem d_Md_init_163 : decode b_Md_init 163 = .ok (.newarray .int, 2) := by decide +kernel
theorem d_Md_init_165 : decode b_Md_init 165 = .ok (.putfield 72, 3) := by decide +kernel
theorem d_Md_init_168 : decode b_Md_init 168 = .ok (.aload_n 0, 1) := by decide +kernel
theorem d_Md_init_169 : decode b_Md_init 169 = .ok (.iconst 5, 1) := by decide +kernel
theorem d_Md_init_170 : decode b_Md_init 170 = .ok (.newarray .int, 2) := by decide +kernel
theorem d_Md_init_172 : decode b_Md_init 172 = .ok (.putfield 75, 3) := by decide +kernel
theorem d_Md_init_175 : decode b_Md_init 175 = .ok (.aload_n 0, 1) := by decide +kernel
theorem d_Md_init_176 : decode b_Md_init 176 = .ok (.bipush 24, 2) := by decide +kernel
theorem d_Md_init_178 : decode b_Md_init 178 = .ok (.newarray .int, 2) := by decide +kernel
theorem d_Md_init_180 : decode b_Md_init 180 = .ok (.putfield 78, 3) := by decide +kernel
theorem d_Md_init_183 : decode b_Md_init 183 = .ok (.aload_n 0, 1) := by decide +kernel
theorem d_Md_init_184 : decode b_Md_init 184 = .ok (.bipush 24, 2) := by decide +kernel
theorem d_Md_init_186 : decode b_Md_init 186 = .ok (.newarray .int, 2) := by decide +kernel
theorem d_Md_init_188 : decode b_Md_init 188 = .ok (.putfield 81, 3) := by decide +kernel
theorem d_Md_init_191 : decode b_Md_init 191 = .ok (.aload_n 0, 1) := by decide +kernel
theorem d_Md_init_192 : decode b_Md_init 192 = .ok (.bipush 24, 2) := by decide +kernel
theorem d_Md_init_194 : decode b_Md_init 194 = .ok (.newarray .int, 2) := by decide +kernel
theorem d_Md_init_196 : decode b_Md_init 196 = .ok (.putfield 84, 3) := by decide +kernel
theorem d_Md_init_199 : decode b_Md_init 199 = .ok (.aload_n 0, 1) := by decide +kernel
theorem d_Md_init_200 : decode b_Md_init 200 = .ok (.bipush 24, 2) := by decide +kernel
theorem d_Md_init_202 : decode b_Md_init 202 = .ok (.newarray .int, 2) := by decide +kernel
theorem d_Md_init_204 : decode b_Md_init 204 = .ok (.putfield 87, 3) := by decide +kernel
theorem d_Md_init_207 : decode b_Md_init 207 = .ok (.aload_n 0, 1) := by decide +kernel
theorem d_Md_init_208 : decode b_Md_init 208 = .ok (.bipush 24, 2) := by decide +kernel
theorem d_Md_init_210 : decode b_Md_init 210 = .ok (.newarray .int, 2) := by decide +kernel
theorem d_Md_init_212 : decode b_Md_init 212 = .ok (.putfield 90, 3) := by decide +kernel
theorem d_Md_init_215 : decode b_Md_init 215 = .ok (.aload_n 0, 1) := by decide +kernel
theorem d_Md_init_216 : decode b_Md_init 216 = .ok (.bipush 24, 2) := by decide +kernel
theorem d_Md_init_218 : decode b_Md_init 218 = .ok (.newarray .int, 2) := by decide +kernel
theorem d_Md_init_220 : decode b_Md_init 220 = .ok (.putfield 93, 3) := by decide +kernel
theorem d_Md_init_223 : decode b_Md_init 223 = .ok (.aload_n 0, 1) := by decide +kernel
theorem d_Md_init_224 : decode b_Md_init 224 = .ok (.bipush 24, 2) := by decide +kernel
theorem d_Md_init_226 : decode b_Md_init 226 = .ok (.newarray .int, 2) := by decide +kernel
theorem d_Md_init_228 : decode b_Md_init 228 = .ok (.putfield 96, 3) := by decide +kernel
theorem d_Md_init_231 : decode b_Md_init 231 = .ok (.aload_n 0, 1) := by decide +kernel
theorem d_Md_init_232 : decode b_Md_init 232 = .ok (.bipush 24, 2) := by decide +kernel
theorem d_Md_init_234 : decode b_Md_init 234 = .ok (.newarray .int, 2) := by decide +kernel
theorem d_Md_init_236 : decode b_Md_init 236 = .ok (.putfield 99, 3) := by decide +kernel
theorem d_Md_init_239 : decode b_Md_init 239 = .ok (.aload_n 0, 1) := by decide +kernel
theorem d_Md_init_240 : decode b_Md_init 240 = .ok (.iload_n 1, 1) := by decide +kernel
theorem d_Md_init_241 : decode b_Md_init 241 = .ok (.iconst 1, 1) := by decide +kernel
theorem d_Md_init_242 : decode b_Md_init 242 = .ok (.if_icmp .lt 8, 3) := by decide +kernel
theorem d_Md_init_245 : decode b_Md_init 245 = .ok (.iload_n 1, 1) := by decide +kernel
theorem d_Md_init_246 : decode b_Md_init 246 = .ok (.iconst 4, 1) := by decide +kernel
theorem d_Md_init_247 : decode b_Md_init 247 = .ok (.if_icmp .le 7, 3) := by decide +kernel
theorem d_Md_init_250 : decode b_Md_init 250 = .ok (.iconst 2, 1) := by decide +kernel
theorem d_Md_init_251 : decode b_Md_init 251 = .ok (.goto 4, 3) := by decide +kernel
theorem d_Md_init_254 : decode b_Md_init 254 = .ok (.iload_n 1, 1) := by decide +kernel
theorem d_Md_init_255 : decode b_Md_init 255 = .ok (.putfield 102, 3) := by decide +kernel
theorem d_Md_init_258 : decode b_Md_init 258 = .ok (.aload_n 0, 1) := by decide +kernel
theorem d_Md_init_259 : decode b_Md_init 259 = .ok (.iload_n 2, 1) := by decide +kernel
theorem d_Md_init_260 : decode b_Md_init 260 = .ok (.iconst 1, 1) := by decide +kernel
theorem d_Md_init_261 : decode b_Md_init 261 = .ok (.if_icmp .lt 9, 3) := by decide +kernel
theorem d_Md_init_264 : decode b_Md_init 264 = .ok (.iload_n 2, 1) := by decide +kernel
theorem d_Md_init_265 : decode b_Md_init 265 = .ok (.bipush 40, 2) := by decide +kernel
theorem d_Md_init_267 : decode b_Md_init 267 = .ok (.if_icmp .le 8, 3) := by decide +kernel
theorem d_Md_init_270 : decode b_Md_init 270 = .ok (.bipush 8, 2) := by decide +kernel
theorem d_Md_init_272 : decode b_Md_init 272 = .ok (.goto 4, 3) := by decide +kernel
theorem d_Md_init_275 : decode b_Md_init 275 = .ok (.iload_n 2, 1) := by decide +kernel
theorem d_Md_init_276 : decode b_Md_init 276 = .ok (.putfield 106, 3) := by decide +kernel
theorem d_Md_init_279 : decode b_Md_init 279 = .ok (.return_, 1) := by decide +kernel
theorem ol_Md : Cond.methodLink "LeasedBuildsModel" 1 Lib.objectInit ∈ WS := ms (i := 720) (by decide +kernel) rfl
def bMd (dA : Nat → ClassId) (nw ln h0 : Nat) (u : Nat → Nat) : va_W := (h0, .inr (10, [.int (nI nw), .int (nI ln), .int 0, .int 0, .ref (u 0), .int 0, .ref (u 1), .ref (u 2), .ref (u 3), .ref (u 4), .ref (u 5), .ref (u 6), .ref (u 7), .ref (u 8), .int 0, .ref (u 9), .ref (u 10), .ref (u 11), .ref (u 12), .ref (u 13), .ref (u 14), .ref (u 15), .ref (u 16), .int 0, .int 0, .ref (u 17), .ref (u 18), .ref (u 19), .ref (u 20), .ref (u 21), .int 0, .int 0, .int 0, .int 0, .int 0, .ref (u 22), .ref (u 23), .ref (u 24), .ref (u 25), .ref (u 26), .ref (u 27), .ref (u 28), .ref (u 29), .int 0, .int 0, .int 0, .int 0, .int 0, .int 0, .int 0])) :: (md_ap (md_ap (md_ap (md_ap (md_ap (md_ap (md_ap (md_ap (md_ap (md_ap (md_ap (md_ap (md_ap (md_ap (md_ap (md_ap (md_ap (md_ap (md_ap (md_ap (md_ap (md_ap (md_ap (md_ap (md_ap (md_ap (md_ap (md_ap (md_ap (md_ap [] (u 0, .inl (dA 1, (5, .inl (fun _ => 0))))) (u 1, .inl (dA 1, (10, .inl (fun _ => 0))))) (u 2, .inl (dA 2, (10, .inr (.inl (fun _ => 0)))))) (u 3, .inl (dA 0, (10, .inl (fun _ => 0))))) (u 4, .inl (dA 0, (10, .inl (fun _ => 0))))) (u 5, .inl (dA 1, (10, .inl (fun _ => 0))))) (u 6, .inl (dA 0, (10, .inl (fun _ => 0))))) (u 7, .inl (dA 1, (10, .inl (fun _ => 0))))) (u 8, .inl (dA 0, (10, .inl (fun _ => 0))))) (u 9, .inl (dA 2, (10, .inr (.inl (fun _ => 0)))))) (u 10, .inl (dA 0, (10, .inl (fun _ => 0))))) (u 11, .inl (dA 0, (10, .inl (fun _ => 0))))) (u 12, .inl (dA 1, (10, .inl (fun _ => 0))))) (u 13, .inl (dA 0, (10, .inl (fun _ => 0))))) (u 14, .inl (dA 0, (10, .inl (fun _ => 0))))) (u 15, .inl (dA 0, (10, .inl (fun _ => 0))))) (u 16, .inl (dA 0, (10, .inl (fun _ => 0))))) (u 17, .inl (dA 0, (12, .inl (fun _ => 0))))) (u 18, .inl (dA 0, (5, .inl (fun _ => 0))))) (u 19, .inl (dA 0, (5, .inl (fun _ => 0))))) (u 20, .inl (dA 0, (5, .inl (fun _ => 0))))) (u 21, .inl (dA 0, (5, .inl (fun _ => 0))))) (u 22, .inl (dA 0, (24, .inl (fun _ => 0))))) (u 23, .inl (dA 0, (24, .inl (fun _ => 0))))) (u 24, .inl (dA 0, (24, .inl (fun _ => 0))))) (u 25, .inl (dA 0, (24, .inl (fun _ => 0))))) (u 26, .inl (dA 0, (24, .inl (fun _ => 0))))) (u 27, .inl (dA 0, (24, .inl (fun _ => 0))))) (u 28, .inl (dA 0, (24, .inl (fun _ => 0))))) (u 29, .inl (dA 0, (24, .inl (fun _ => 0)))))
theorem bMd_of (dA : Nat → ClassId) (nw ln h0 q1 q2 q3 q4 q5 q6 q7 q8 q9 q10 q11 q12 q13 q14 q15 q16 q17 q18 q19 q20 q21 q22 q23 q24 q25 q26 q27 q28 q29 q30 : Nat) : (h0, .inr (10, [.int (nI nw), .int (nI ln), .int 0, .int 0, .ref q1, .int 0, .ref q2, .ref q3, .ref q4, .ref q5, .ref q6, .ref q7, .ref q8, .ref q9, .int 0, .ref q10, .ref q11, .ref q12, .ref q13, .ref q14, .ref q15, .ref q16, .ref q17, .int 0, .int 0, .ref q18, .ref q19, .ref q20, .ref q21, .ref q22, .int 0, .int 0, .int 0, .int 0, .int 0, .ref q23, .ref q24, .ref q25, .ref q26, .ref q27, .ref q28, .ref q29, .ref q30, .int 0, .int 0, .int 0, .int 0, .int 0, .int 0, .int 0])) :: (md_ap (md_ap (md_ap (md_ap (md_ap (md_ap (md_ap (md_ap (md_ap (md_ap (md_ap (md_ap (md_ap (md_ap (md_ap (md_ap (md_ap (md_ap (md_ap (md_ap (md_ap (md_ap (md_ap (md_ap (md_ap (md_ap (md_ap (md_ap (md_ap (md_ap [] (q1, .inl (dA 1, (5, .inl (fun _ => 0))))) (q2, .inl (dA 1, (10, .inl (fun _ => 0))))) (q3, .inl (dA 2, (10, .inr (.inl (fun _ => 0)))))) (q4, .inl (dA 0, (10, .inl (fun _ => 0))))) (q5, .inl (dA 0, (10, .inl (fun _ => 0))))) (q6, .inl (dA 1, (10, .inl (fun _ => 0))))) (q7, .inl (dA 0, (10, .inl (fun _ => 0))))) (q8, .inl (dA 1, (10, .inl (fun _ => 0))))) (q9, .inl (dA 0, (10, .inl (fun _ => 0))))) (q10, .inl (dA 2, (10, .inr (.inl (fun _ => 0)))))) (q11, .inl (dA 0, (10, .inl (fun _ => 0))))) (q12, .inl (dA 0, (10, .inl (fun _ => 0))))) (q13, .inl (dA 1, (10, .inl (fun _ => 0))))) (q14, .inl (dA 0, (10, .inl (fun _ => 0))))) (q15, .inl (dA 0, (10, .inl (fun _ => 0))))) (q16, .inl (dA 0, (10, .inl (fun _ => 0))))) (q17, .inl (dA 0, (10, .inl (fun _ => 0))))) (q18, .inl (dA 0, (12, .inl (fun _ => 0))))) (q19, .inl (dA 0, (5, .inl (fun _ => 0))))) (q20, .inl (dA 0, (5, .inl (fun _ => 0))))) (q21, .inl (dA 0, (5, .inl (fun _ => 0))))) (q22, .inl (dA 0, (5, .inl (fun _ => 0))))) (q23, .inl (dA 0, (24, .inl (fun _ => 0))))) (q24, .inl (dA 0, (24, .inl (fun _ => 0))))) (q25, .inl (dA 0, (24, .inl (fun _ => 0))))) (q26, .inl (dA 0, (24, .inl (fun _ => 0))))) (q27, .inl (dA 0, (24, .inl (fun _ => 0))))) (q28, .inl (dA 0, (24, .inl (fun _ => 0))))) (q29, .inl (dA 0, (24, .inl (fun _ => 0))))) (q30, .inl (dA 0, (24, .inl (fun _ => 0))))) = bMd dA nw ln h0 (fun k => [q1, q2, q3, q4, q5, q6, q7, q8, q9, q10, q11, q12, q13, q14, q15, q16, q17, q18, q19, q20, q21, q22, q23, q24, q25, q26, q27, q28, q29, q30].getD k 0) := rfl
