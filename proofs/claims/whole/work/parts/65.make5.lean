/-! constructors: leases and server -/
abbrev b_Leases_init : ByteArray := prog_6_method_1_code
def y_Leases_init : MethodName := ⟨"LeasedBuilds$Leases", "<init>", "(I)V"⟩
def w_Leases_init : List Cond := .code y_Leases_init b_Leases_init 3 none :: WS
theorem d_Leases_init_0 : decode b_Leases_init 0 = .ok (.aload_n 0, 1) := by decide +kernel
theorem d_Leases_init_1 : decode b_Leases_init 1 = .ok (.invokespecial 3, 3) := by decide +kernel
theorem d_Leases_init_4 : decode b_Leases_init 4 = .ok (.aload_n 0, 1) := by decide +kernel
theorem d_Leases_init_5 : decode b_Leases_init 5 = .ok (.iconst 0, 1) := by decide +kernel
theorem d_Leases_init_6 : decode b_Leases_init 6 = .ok (.putfield 9, 3) := by decide +kernel
theorem d_Leases_init_9 : decode b_Leases_init 9 = .ok (.aload_n 0, 1) := by decide +kernel
theorem d_Leases_init_10 : decode b_Leases_init 10 = .ok (.iload_n 1, 1) := by decide +kernel
theorem d_Leases_init_11 : decode b_Leases_init 11 = .ok (.newarray .boolean, 2) := by decide +kernel
theorem d_Leases_init_13 : decode b_Leases_init 13 = .ok (.putfield 15, 3) := by decide +kernel
theorem d_Leases_init_16 : decode b_Leases_init 16 = .ok (.aload_n 0, 1) := by decide +kernel
theorem d_Leases_init_17 : decode b_Leases_init 17 = .ok (.iload_n 1, 1) := by decide +kernel
theorem d_Leases_init_18 : decode b_Leases_init 18 = .ok (.anewarray 19, 3) := by decide +kernel
theorem d_Leases_init_21 : decode b_Leases_init 21 = .ok (.putfield 21, 3) := by decide +kernel
theorem d_Leases_init_24 : decode b_Leases_init 24 = .ok (.aload_n 0, 1) := by decide +kernel
theorem d_Leases_init_25 : decode b_Leases_init 25 = .ok (.iload_n 1, 1) := by decide +kernel
theorem d_Leases_init_26 : decode b_Leases_init 26 = .ok (.newarray .int, 2) := by decide +kernel
theorem d_Leases_init_28 : decode b_Leases_init 28 = .ok (.putfield 25, 3) := by decide +kernel
theorem d_Leases_init_31 : decode b_Leases_init 31 = .ok (.iconst 0, 1) := by decide +kernel
theorem d_Leases_init_32 : decode b_Leases_init 32 = .ok (.istore_n 2, 1) := by decide +kernel
theorem d_Leases_init_33 : decode b_Leases_init 33 = .ok (.iload_n 2, 1) := by decide +kernel
theorem d_Leases_init_34 : decode b_Leases_init 34 = .ok (.iload_n 1, 1) := by decide +kernel
theorem d_Leases_init_35 : decode b_Leases_init 35 = .ok (.if_icmp .ge 22, 3) := by decide +kernel
theorem d_Leases_init_38 : decode b_Leases_init 38 = .ok (.aload_n 0, 1) := by decide +kernel
theorem d_Leases_init_39 : decode b_Leases_init 39 = .ok (.getfield 21, 3) := by decide +kernel
theorem d_Leases_init_42 : decode b_Leases_init 42 = .ok (.iload_n 2, 1) := by decide +kernel
theorem d_Leases_init_43 : decode b_Leases_init 43 = .ok (.new 19, 3) := by decide +kernel
theorem d_Leases_init_46 : decode b_Leases_init 46 = .ok (.dup, 1) := by decide +kernel
theorem d_Leases_init_47 : decode b_Leases_init 47 = .ok (.invokespecial 29, 3) := by decide +kernel
theorem d_Leases_init_50 : decode b_Leases_init 50 = .ok (.aastore, 1) := by decide +kernel
theorem d_Leases_init_51 : decode b_Leases_init 51 = .ok (.iinc 2 1, 3) := by decide +kernel
theorem d_Leases_init_54 : decode b_Leases_init 54 = .ok (.goto (-21), 3) := by decide +kernel
theorem d_Leases_init_57 : decode b_Leases_init 57 = .ok (.return_, 1) := by decide +kernel
theorem ol_Leases : Cond.methodLink "LeasedBuilds$Leases" 3 Lib.objectInit ∈ WS := ms (i := 219) (by decide +kernel) rfl
theorem cl_Leases_19 : Cond.classLink "LeasedBuilds$Leases" 19 "LeasedBuilds$Key" ∈ WS := ms (i := 220) (by decide +kernel) rfl
theorem ci_Leases_29 : CwIN "LeasedBuilds$Leases" 29 y_Key_init b_Key_init 1 0 := ⟨⟨ms (i := 38) (by decide +kernel) rfl, List.mem_of_getElem? (i := 5) rfl, ms (i := 37) (by decide +kernel) rfl, ms (i := 4) (by decide +kernel) rfl⟩, by decide +kernel⟩
set_option maxHeartbeats 4000000 in
set_option maxRecDepth 100000 in
theorem lp_Leases {p : Program} {l : Launch} {e : Env} {R : Room} {s : State} {m : MethodId} {args : Array Value} {below : List Frame} {meth : Method} {c : Code} {Q : State → Prop} {D : va_G} {dA : Nat → ClassId} {H0 : Heap} {W0 X Y : va_W} {A : Nat → Prop} {h0 r N c0 s0 : Nat} {fs : List Value} (hx : p.tables.exec = Jvm.exec) (hb : c.code = b_Leases_init) (hml : c.maxLocals = 3) (hown : s.vm.findClass "LeasedBuilds$Leases" = some m.cls) (ht : ∀ w ∈ WS, w.before args s = true) (hN : nst NL s) (hO : aos s) (hK : va_K D clX (tyX dA) s) (hA : ∀ q, H0.size ≤ q → A q) (hfs : fs[1]? = some (.ref r)) (hNm : N ≤ 1000) (hRf : 2 ≤ R.frames) (hRl : 32 ≤ R.locals) (hRc : c0 + 1 * N ≤ R.cells) (hRs : s0 + 3 * N ≤ R.slots)
    (hend : ∀ (L : List Nat) (H : Heap) (locs : List Loc) (ls : Array Slot), L.length = N → va_P D clX (W0 ++ (h0, .inr (8, fs)) :: (X ++ (r, .inl (dA 4, (N, .inr (.inr (.inr (.inr (fun j => L[j]?))))))) :: (Y ++ kL L))) H → va_D A (W0 ++ (h0, .inr (8, fs)) :: (X ++ (r, .inl (dA 4, (N, .inr (.inr (.inr (.inr (fun j => L[j]?))))))) :: (Y ++ kL L))) → va_S A H0 H locs → lv_has ls 3 [(2, .int (nI L.length)), (0, .ref h0), (1, .int (nI N))] → W p l e R s m args below meth c H locs (c0 + 1 * N) (s0 + 3 * N) Q (F0 m 57 ls [])) :
    ∀ (n : Nat) (L : List Nat) (H : Heap) (locs : List Loc) (ls : Array Slot), L.length + n = N → va_P D clX (W0 ++ (h0, .inr (8, fs)) :: (X ++ (r, .inl (dA 4, (N, .inr (.inr (.inr (.inr (fun j => L[j]?))))))) :: (Y ++ kL L))) H → va_D A (W0 ++ (h0, .inr (8, fs)) :: (X ++ (r, .inl (dA 4, (N, .inr (.inr (.inr (.inr (fun j => L[j]?))))))) :: (Y ++ kL L))) → va_S A H0 H locs → lv_has ls 3 [(2, .int (nI L.length)), (0, .ref h0), (1, .int (nI N))] → W p l e R s m args below meth c H locs (c0 + 1 * L.length) (s0 + 3 * L.length) Q (F0 m 33 ls []) := by
  intro n
  induction n with
  | zero =>
    intro L H locs ls hn hP hD hS hl
    refine lv_iload_n hx hb d_Leases_init_33 rfl (lv_at hl 0 rfl) ?_
    refine lv_iload_n hx hb d_Leases_init_34 rfl (lv_at hl 2 rfl) ?_
    refine x_icmp_geN (tgt := 57) hx hb d_Leases_init_35 (by decide) (by omega) (by omega) (fun h1 => ?_) (fun h1 => ?_)
    · have hz : L.length = N := by omega
      rw [hz]
      exact hend L H locs ls hz hP hD hS hl
    · exact absurd h1 (by omega)
  | succ n ih =>
    intro L H locs ls hn hP hD hS hl
    refine lv_iload_n hx hb d_Leases_init_33 rfl (lv_at hl 0 rfl) ?_
    refine lv_iload_n hx hb d_Leases_init_34 rfl (lv_at hl 2 rfl) ?_
    refine x_icmp_geN (tgt := 57) hx hb d_Leases_init_35 (by decide) (by omega) (by omega) (fun h1 => ?_) (fun h1 => ?_)
    · exact absurd h1 (by omega)
    · refine lv_aload_n hx hb d_Leases_init_38 rfl (lv_at hl 1 rfl) ?_
      refine c_get (k := 1) (v := .ref r) hx hb ht xc_Leases hown hK hP (by decide) fl_Leases_21 rfl hfs d_Leases_init_39 ?_
      refine lv_iload_n hx hb d_Leases_init_42 rfl (lv_at hl 0 rfl) ?_
      refine c_new (fs := fr_Key) hx hb hown ht xc_Key t_Key_ok cl_Leases_19 in_Key it_Key fo_Key hK hP hD hS hA (by omega) (by omega) d_Leases_init_43 (fun q H hP hD hS => ?_)
      refine lv_dup hx hb d_Leases_init_46 rfl ?_
      refine c_mkN (As := []) (rest := [.ref q, .int (nI L.length), .ref r]) hx hb hml hown ht ci_Leases_29 (n_Key_init l D dA _ q H.size) rfl rfl ⟨(by dsimp only; omega), (by dsimp only; omega)⟩ hN hO hK hP hD hS hA rfl hl.1 rfl (Nat.le_of_ble_eq_true rfl) d_Leases_init_47 ⟨(by omega), (by omega)⟩ (fun k H locs hk hP hD hS => ?_)
      rw [re3] at hP hD
      refine c_store (i := L.length) (q := q) (κ := 1) hx hb rfl rfl (by omega) hNm hK hP hD hS d_Leases_init_50 (fun H locs hP hD hS => ?_)
      rw [fL_push, kL_push] at hP hD
      refine lv_iinc (lv' := [(2, .int (nI (L.length + 1))), (0, .ref h0), (1, .int (nI N))]) (v := nI (L.length + 1)) hx hb d_Leases_init_51 hl (k := 0) rfl (nI_add _ _) (by decide) rfl (fun ls hl => ?_)
      refine lv_goto (tgt := 33) hx hb d_Leases_init_54 (by decide) ?_
      have hl2 : lv_has ls 3 [(2, .int (nI (L.length + 1))), (0, .ref h0), (1, .int (nI N))] := hl
      have z := ih (L ++ [q]) H locs ls (by rw [List.length_append]; show L.length + 1 + n = N; omega) hP hD hS (by rw [List.length_append]; exact hl2)
      rw [List.length_append] at z
      exact W.widen (by show _ ≤ c0 + 1 * (L.length + 1); omega) (by show _ ≤ s0 + 3 * (L.length + 1); omega) z
def bLeases (dA : Nat → ClassId) (nw h0 : Nat) (u : (Nat × Nat × Nat) × List Nat) : va_W := (h0, .inr (8, [.ref u.1.1, .ref u.1.2.1, .ref u.1.2.2, .int (nI 0)])) :: (([] ++ [(u.1.1, .inl (dA 1, (nw, .inl (fun _ => 0))))]) ++ (u.1.2.1, .inl (dA 4, (nw, .inr (.inr (.inr (.inr (fun j => u.2[j]?))))))) :: ([(u.1.2.2, .inl (dA 0, (nw, .inl (fun _ => 0))))] ++ kL u.2))
set_option maxHeartbeats 4000000 in
set_option maxRecDepth 100000 in
theorem n_Leases_init (l : Launch) (D : va_G) (dA : Nat → ClassId) (W0 : va_W) (h0 sz : Nat) (nw : Nat) (hnw : nw ≤ 4) : CN l D dA y_Leases_init w_Leases_init { frames := 2, cells := 7, slots := 24, locals := 32 } [.ref h0, .int (nI nw)] (W0 ++ [(h0, .inr (8, fr_Leases))]) sz (fun u : (Nat × Nat × Nat) × List Nat => u.2.length = nw) (fun u => W0 ++ bLeases dA nw h0 u) 7 24 := by
  refine c_of (cc := b_Leases_init) (maxL := 3) (by decide) rfl (Nat.le_of_ble_eq_true rfl) ?_
  intro pp ee ss mm below meth cdd hx hb hml hr hlk ht hown hin hN hO hK hP hD hA hS ls hl
  have hl : lv_has ls 3 [(0, .ref h0), (1, .int (nI nw))] := hl
  generalize hAe : va_A (W0 ++ [(h0, .inr (8, fr_Leases))]) ss.heap.size = A at hD hA hS
  have hP : va_P D clX (W0 ++ (h0, .inr (8, [.null, .null, .null, .int 0])) :: []) ss.heap := hP
  have hD : va_D A (W0 ++ (h0, .inr (8, [.null, .null, .null, .int 0])) :: []) := hD
  have hin : meth.name = "<init>" := hin
  have hown : ss.vm.findClass "LeasedBuilds$Leases" = some mm.cls := hown
  refine lv_aload_n hx hb d_Leases_init_0 rfl (lv_at hl 0 rfl) ?_
  refine c_obj hx hb hml hown ht ol_Leases oj_1 oj_2 hl.1 d_Leases_init_1 (by decide) (by decide) ?_
  refine lv_aload_n hx hb d_Leases_init_4 rfl (lv_at hl 0 rfl) ?_
  refine lv_iconst (v := nI 0) hx hb d_Leases_init_5 (by decide) ?_
  refine c_put (k := 3) (v := .int (nI 0)) (fs' := [.null, .null, .null, .int (nI 0)]) hx hb ht xc_Leases t_Leases_ok n_Leases hown hK hP hD hS (by decide) fl_Leases_9 rfl rfl rfl rfl (Nat.le_of_ble_eq_true rfl) rfl d_Leases_init_6 (fun H locs hP hD hS => ?_)
  refine lv_aload_n hx hb d_Leases_init_9 rfl (lv_at hl 0 rfl) ?_
  refine lv_iload_n hx hb d_Leases_init_10 rfl (lv_at hl 1 rfl) ?_
  refine c_newa (atype := .boolean) (ty := .boolean) (yy := 1) (N := nw) (a0 := (nw, .inl (fun _ => 0))) hx hb ht ac_boolean rfl rfl (za_boolean nw) (by omega) (by decide) hK hP hD hS hA (by first | (dsimp only; omega) | omega) (by first | (dsimp only; omega) | omega) d_Leases_init_11 (fun q1 H hP hD hS => ?_)
  refine c_putF (k := 0) (v := .ref q1) (fs' := [.ref q1, .null, .null, .int (nI 0)]) hx hb ht xc_Leases t_Leases_ok n_Leases hown hin hK hP hD hS (by decide) fl_Leases_15 rfl rfl rfl rfl (Nat.le_of_ble_eq_true rfl) rfl d_Leases_init_13 (fun H locs hP hD hS => ?_)
  refine lv_aload_n hx hb d_Leases_init_16 rfl (lv_at hl 0 rfl) ?_
  refine lv_iload_n hx hb d_Leases_init_17 rfl (lv_at hl 1 rfl) ?_
  refine c_newq (yy := 4) (N := nw) hx hb hown ht cl_Leases_19 hO.1 rfl (by omega) hK hP hD hS hA (by first | (dsimp only; omega) | omega) (by first | (dsimp only; omega) | omega) d_Leases_init_18 (fun q2 H hP hD hS => ?_)
  refine c_putF (k := 1) (v := .ref q2) (fs' := [.ref q1, .ref q2, .null, .int (nI 0)]) hx hb ht xc_Leases t_Leases_ok n_Leases hown hin hK hP hD hS (by decide) fl_Leases_21 rfl rfl rfl rfl (Nat.le_of_ble_eq_true rfl) rfl d_Leases_init_21 (fun H locs hP hD hS => ?_)
  refine lv_aload_n hx hb d_Leases_init_24 rfl (lv_at hl 0 rfl) ?_
  refine lv_iload_n hx hb d_Leases_init_25 rfl (lv_at hl 1 rfl) ?_
  refine c_newa (atype := .int) (ty := .int) (yy := 0) (N := nw) (a0 := (nw, .inl (fun _ => 0))) hx hb ht ac_int rfl rfl (za_int nw) (by omega) (by decide) hK hP hD hS hA (by first | (dsimp only; omega) | omega) (by first | (dsimp only; omega) | omega) d_Leases_init_26 (fun q3 H hP hD hS => ?_)
  refine c_putF (k := 2) (v := .ref q3) (fs' := [.ref q1, .ref q2, .ref q3, .int (nI 0)]) hx hb ht xc_Leases t_Leases_ok n_Leases hown hin hK hP hD hS (by decide) fl_Leases_25 rfl rfl rfl rfl (Nat.le_of_ble_eq_true rfl) rfl d_Leases_init_28 (fun H locs hP hD hS => ?_)
  refine lv_iconst (v := nI 0) hx hb d_Leases_init_31 (by decide) ?_
  refine lv_istore_n (lv' := [(2, .int (nI 0)), (0, .ref h0), (1, .int (nI nw))]) hx hb d_Leases_init_32 rfl hl (by decide) rfl (fun ls hl => ?_)
  rw [re1] at hP hD
  refine W.widen (k := 3) (n := 12) (by omega) (by omega) ?_
  refine lp_Leases (N := nw) (c0 := 3) (s0 := 12) hx hb hml hown ht hN hO hK hA rfl (by omega) (Nat.le_of_ble_eq_true rfl) (Nat.le_of_ble_eq_true rfl) (by dsimp only; omega) (by dsimp only; omega) (fun L H locs ls hLn hP hD hS hl => ?_) nw [] _ _ _ (by show 0 + nw = nw; omega) hP hD hS hl
  subst hAe
  exact c_ret ((q1, q2, q3), L) hx hb hr hlk hLn rfl hP hD hS (by omega) (by omega) d_Leases_init_57
abbrev b_Server_init : ByteArray := prog_9_method_1_code
def y_Server_init : MethodName := ⟨"LeasedBuilds$Server", "<init>", "(IILLeasedBuilds$Flight;)V"⟩
def w_Server_init : List Cond := .code y_Server_init b_Server_init 4 none :: WS
theorem d_Server_init_0 : decode b_Server_init 0 = .ok (.aload_n 0, 1) := by decide +kernel
theorem d_Server_init_1 : decode b_Server_init 1 = .ok (.invokespecial 3, 3) := by decide +kernel
theorem d_Server_init_4 : decode b_Server_init 4 = .ok (.aload_n 0, 1) := by decide +kernel
theorem d_Server_init_5 : decode b_Server_init 5 = .ok (.new 9, 3) := by decide +kernel
theorem d_Server_init_8 : decode b_Server_init 8 = .ok (.dup, 1) := by decide +kernel
theorem d_Server_init_9 : decode b_Server_init 9 = .ok (.invokespecial 11, 3) := by decide +kernel
theorem d_Server_init_12 : decode b_Server_init 12 = .ok (.putfield 12, 3) := by decide +kernel
theorem d_Server_init_15 : decode b_Server_init 15 = .ok (.aload_n 0, 1) := by decide +kernel
theorem d_Server_init_16 : decode b_Server_init 16 = .ok (.new 18, 3) := by decide +kernel
theorem d_Server_init_19 : decode b_Server_init 19 = .ok (.dup, 1) := by decide +kernel
theorem d_Server_init_20 : decode b_Server_init 20 = .ok (.invokespecial 20, 3) := by decide +kernel
theorem d_Server_init_23 : decode b_Server_init 23 = .ok (.putfield 21, 3) := by decide +kernel
theorem d_Server_init_26 : decode b_Server_init 26 = .ok (.aload_n 0, 1) := by decide +kernel
theorem d_Server_init_27 : decode b_Server_init 27 = .ok (.iconst 1, 1) := by decide +kernel
theorem d_Server_init_28 : decode b_Server_init 28 = .ok (.putfield 25, 3) := by decide +kernel
theorem d_Server_init_31 : decode b_Server_init 31 = .ok (.aload_n 0, 1) := by decide +kernel
theorem d_Server_init_32 : decode b_Server_init 32 = .ok (.iconst 0, 1) := by decide +kernel
theorem d_Server_init_33 : decode b_Server_init 33 = .ok (.putfield 29, 3) := by decide +kernel
theorem d_Server_init_36 : decode b_Server_init 36 = .ok (.aload_n 0, 1) := by decide +kernel
theorem d_Server_init_37 : decode b_Server_init 37 = .ok (.iconst 0, 1) := by decide +kernel
theorem d_Server_init_38 : decode b_Server_init 38 = .ok (.putfield 33, 3) := by decide +kernel
theorem d_Server_init_41 : decode b_Server_init 41 = .ok (.aload_n 0, 1) := by decide +kernel
theorem d_Server_init_42 : decode b_Server_init 42 = .ok (.iconst 0, 1) := by decide +kernel
theorem d_Server_init_43 : decode b_Server_init 43 = .ok (.putfield 36, 3) := by decide +kernel
theorem d_Server_init_46 : decode b_Server_init 46 = .ok (.aload_n 0, 1) := by decide +kernel
theorem d_Server_init_47 : decode b_Server_init 47 = .ok (.iconst 0, 1) := by decide +kernel
theorem d_Server_init_48 : decode b_Server_init 48 = .ok (.putfield 39, 3) := by decide +kernel
theorem d_Server_init_51 : decode b_Server_init 51 = .ok (.aload_n 0, 1) := by decide +kernel
theorem d_Server_init_52 : decode b_Server_init 52 = .ok (.iconst 0, 1) := by decide +kernel
theorem d_Server_init_53 : decode b_Server_init 53 = .ok (.putfield 42, 3) := by decide +kernel
theorem d_Server_init_56 : decode b_Server_init 56 = .ok (.aload_n 0, 1) := by decide +kernel
theorem d_Server_init_57 : decode b_Server_init 57 = .ok (.aload_n 3, 1) := by decide +kernel
theorem d_Server_init_58 : decode b_Server_init 58 = .ok (.putfield 45, 3) := by decide +kernel
theorem d_Server_init_61 : decode b_Server_init 61 = .ok (.aload_n 0, 1) := by decide +kernel
theorem d_Server_init_62 : decode b_Server_init 62 = .ok (.new 49, 3) := by decide +kernel
theorem d_Server_init_65 : decode b_Server_init 65 = .ok (.dup, 1) := by decide +kernel
theorem d_Server_init_66 : decode b_Server_init 66 = .ok (.iload_n 1, 1) := by decide +kernel
theorem d_Server_init_67 : decode b_Server_init 67 = .ok (.invokespecial 51, 3) := by decide +kernel
theorem d_Server_init_70 : decode b_Server_init 70 = .ok (.putfield 54, 3) := by decide +kernel
theorem d_Server_init_73 : decode b_Server_init 73 = .ok (.aload_n 0, 1) := by decide +kernel
theorem d_Server_init_74 : decode b_Server_init 74 = .ok (.iload_n 2, 1) := by decide +kernel
theorem d_Server_init_75 : decode b_Server_init 75 = .ok (.putfield 58, 3) := by decide +kernel
theorem d_Server_init_78 : decode b_Server_init 78 = .ok (.return_, 1) := by decide +kernel
theorem ol_Server : Cond.methodLink "LeasedBuilds$Server" 3 Lib.objectInit ∈ WS := ms (i := 163) (by decide +kernel) rfl
theorem cl_Server_9 : Cond.classLink "LeasedBuilds$Server" 9 "LeasedBuilds$Disk" ∈ WS := ms (i := 164) (by decide +kernel) rfl
theorem ci_Server_11 : CwI "LeasedBuilds$Server" 11 y_Disk_init b_Disk_init 2 0 := ⟨⟨ms (i := 168) (by decide +kernel) rfl, ms (i := 166) (by decide +kernel) rfl, ms (i := 167) (by decide +kernel) rfl, ms (i := 7) (by decide +kernel) rfl⟩, by decide +kernel⟩
theorem cl_Server_18 : Cond.classLink "LeasedBuilds$Server" 18 "LeasedBuilds$Queue" ∈ WS := ms (i := 197) (by decide +kernel) rfl
theorem ci_Server_20 : CwI "LeasedBuilds$Server" 20 y_Queue_init b_Queue_init 2 0 := ⟨⟨ms (i := 201) (by decide +kernel) rfl, ms (i := 199) (by decide +kernel) rfl, ms (i := 200) (by decide +kernel) rfl, ms (i := 8) (by decide +kernel) rfl⟩, by decide +kernel⟩
theorem cl_Server_49 : Cond.classLink "LeasedBuilds$Server" 49 "LeasedBuilds$Leases" ∈ WS := ms (i := 214) (by decide +kernel) rfl
theorem ci_Server_51 : CwI "LeasedBuilds$Server" 51 y_Leases_init b_Leases_init 3 1 := ⟨⟨ms (i := 218) (by decide +kernel) rfl, ms (i := 216) (by decide +kernel) rfl, ms (i := 217) (by decide +kernel) rfl, ms (i := 9) (by decide +kernel) rfl⟩, by decide +kernel⟩
def bServer (dA : Nat → ClassId) (nw ln h0 fl : Nat) (u : (Nat × (Nat × Nat × Nat × Nat) × List Nat) × (Nat × Nat × List Nat) × (Nat × (Nat × Nat × Nat) × List Nat)) : va_W := (h0, .inr (7, [.ref fl, .ref u.1.1, .ref u.2.1.1, .ref u.2.2.1, .int (nI ln), .int (nI 1), .int (nI 0), .int (nI 0), .int (nI 0), .int (nI 0), .int (nI 0)])) :: ((([] ++ bDisk dA u.1.1 u.1.2) ++ bQueue dA u.2.1.1 u.2.1.2) ++ bLeases dA nw u.2.2.1 u.2.2.2)
set_option maxHeartbeats 4000000 in
set_option maxRecDepth 100000 in
theorem n_Server_init (l : Launch) (D : va_G) (dA : Nat → ClassId) (W0 : va_W) (h0 sz : Nat) (nw ln fl : Nat) (hnw : nw ≤ 4) : CN l D dA y_Server_init w_Server_init { frames := 3, cells := 35, slots := 146, locals := 54 } [.ref h0, .int (nI nw), .int (nI ln), .ref fl] (W0 ++ [(h0, .inr (7, fr_Server))]) sz (fun u : (Nat × (Nat × Nat × Nat × Nat) × List Nat) × (Nat × Nat × List Nat) × (Nat × (Nat × Nat × Nat) × List Nat) => u.1.2.2.length = 10 ∧ u.2.1.2.2.length = 10 ∧ u.2.2.2.2.length = nw) (fun u => W0 ++ bServer dA nw ln h0 fl u) 35 146 := by
  refine c_of (cc := b_Server_init) (maxL := 4) (by decide) rfl (Nat.le_of_ble_eq_true rfl) ?_
  intro pp ee ss mm below meth cdd hx hb hml hr hlk ht hown hin hN hO hK hP hD hA hS ls hl
  have hl : lv_has ls 4 [(0, .ref h0), (1, .int (nI nw)), (2, .int (nI ln)), (3, .ref fl)] := hl
  generalize hAe : va_A (W0 ++ [(h0, .inr (7, fr_Server))]) ss.heap.size = A at hD hA hS
  have hP : va_P D clX (W0 ++ (h0, .inr (7, [.null, .null, .null, .null, .int 0, .int 0, .int 0, .int 0, .int 0, .int 0, .int 0])) :: []) ss.heap := hP
  have hD : va_D A (W0 ++ (h0, .inr (7, [.null, .null, .null, .null, .int 0, .int 0, .int 0, .int 0, .int 0, .int 0, .int 0])) :: []) := hD
  have hin : meth.name = "<init>" := hin
  have hown : ss.vm.findClass "LeasedBuilds$Server" = some mm.cls := hown
  refine lv_aload_n hx hb d_Server_init_0 rfl (lv_at hl 0 rfl) ?_
  refine c_obj hx hb hml hown ht ol_Server oj_1 oj_2 hl.1 d_Server_init_1 (by decide) (by decide) ?_
  refine lv_aload_n hx hb d_Server_init_4 rfl (lv_at hl 0 rfl) ?_
  refine c_new (fs := fr_Disk) hx hb hown ht xc_Disk t_Disk_ok cl_Server_9 in_Disk it_Disk fo_Disk hK hP hD hS hA (Nat.le_of_ble_eq_true rfl) (Nat.le_of_ble_eq_true rfl) d_Server_init_5 (fun q1 H hP hD hS => ?_)
  refine lv_dup hx hb d_Server_init_8 rfl ?_
  refine c_mk (As := []) (rest := [.ref q1, .ref h0]) hx hb hml hown ht ci_Server_11 (n_Disk_init l D dA (W0 ++ (h0, .inr (7, [.null, .null, .null, .null, .int 0, .int 0, .int 0, .int 0, .int 0, .int 0, .int 0])) :: []) q1 H.size) rfl rfl ⟨by decide, by decide⟩ hN hO hK hP hD hS hA rfl hl.1 rfl (Nat.le_of_ble_eq_true rfl) d_Server_init_9 ⟨(Nat.le_of_ble_eq_true rfl), (Nat.le_of_ble_eq_true rfl)⟩ (fun u2 H locs huu2 hP hD hS => ?_)
  refine c_putF (k := 1) (v := .ref q1) (fs' := [.null, .ref q1, .null, .null, .int 0, .int 0, .int 0, .int 0, .int 0, .int 0, .int 0]) hx hb ht xc_Server t_Server_ok n_Server hown hin hK hP hD hS (by decide) fl_Server_12 rfl rfl rfl rfl (Nat.le_of_ble_eq_true rfl) rfl d_Server_init_12 (fun H locs hP hD hS => ?_)
  refine lv_aload_n hx hb d_Server_init_15 rfl (lv_at hl 0 rfl) ?_
  refine c_new (fs := fr_Queue) hx hb hown ht xc_Queue t_Queue_ok cl_Server_18 in_Queue it_Queue fo_Queue hK hP hD hS hA (Nat.le_of_ble_eq_true rfl) (Nat.le_of_ble_eq_true rfl) d_Server_init_16 (fun q3 H hP hD hS => ?_)
  refine lv_dup hx hb d_Server_init_19 rfl ?_
  refine c_mk (As := []) (rest := [.ref q3, .ref h0]) hx hb hml hown ht ci_Server_20 (n_Queue_init l D dA (W0 ++ (h0, .inr (7, [.null, .ref q1, .null, .null, .int 0, .int 0, .int 0, .int 0, .int 0, .int 0, .int 0])) :: ([] ++ bDisk dA q1 u2)) q3 H.size) rfl rfl ⟨by decide, by decide⟩ hN hO hK hP hD hS hA rfl hl.1 rfl (Nat.le_of_ble_eq_true rfl) d_Server_init_20 ⟨(Nat.le_of_ble_eq_true rfl), (Nat.le_of_ble_eq_true rfl)⟩ (fun u4 H locs huu4 hP hD hS => ?_)
  refine c_putF (k := 2) (v := .ref q3) (fs' := [.null, .ref q1, .ref q3, .null, .int 0, .int 0, .int 0, .int 0, .int 0, .int 0, .int 0]) hx hb ht xc_Server t_Server_ok n_Server hown hin hK hP hD hS (by decide) fl_Server_21 rfl rfl rfl rfl (Nat.le_of_ble_eq_true rfl) rfl d_Server_init_23 (fun H locs hP hD hS => ?_)
  refine lv_aload_n hx hb d_Server_init_26 rfl (lv_at hl 0 rfl) ?_
  refine lv_iconst (v := nI 1) hx hb d_Server_init_27 (by decide) ?_
  refine c_put (k := 5) (v := .int (nI 1)) (fs' := [.null, .ref q1, .ref q3, .null, .int 0, .int (nI 1), .int 0, .int 0, .int 0, .int 0, .int 0]) hx hb ht xc_Server t_Server_ok n_Server hown hK hP hD hS (by decide) fl_Server_25 rfl rfl rfl rfl (Nat.le_of_ble_eq_true rfl) rfl d_Server_init_28 (fun H locs hP hD hS => ?_)
  refine lv_aload_n hx hb d_Server_init_31 rfl (lv_at hl 0 rfl) ?_
  refine lv_iconst (v := nI 0) hx hb d_Server_init_32 (by decide) ?_
  refine c_put (k := 6) (v := .int (nI 0)) (fs' := [.null, .ref q1, .ref q3, .null, .int 0, .int (nI 1), .int (nI 0), .int 0, .int 0, .int 0, .int 0]) hx hb ht xc_Server t_Server_ok n_Server hown hK hP hD hS (by decide) fl_Server_29 rfl rfl rfl rfl (Nat.le_of_ble_eq_true rfl) rfl d_Server_init_33 (fun H locs hP hD hS => ?_)
  refine lv_aload_n hx hb d_Server_init_36 rfl (lv_at hl 0 rfl) ?_
  refine lv_iconst (v := nI 0) hx hb d_Server_init_37 (by decide) ?_
  refine c_put (k := 7) (v := .int (nI 0)) (fs' := [.null, .ref q1, .ref q3, .null, .int 0, .int (nI 1), .int (nI 0), .int (nI 0), .int 0, .int 0, .int 0]) hx hb ht xc_Server t_Server_ok n_Server hown hK hP hD hS (by decide) fl_Server_33 rfl rfl rfl rfl (Nat.le_of_ble_eq_true rfl) rfl d_Server_init_38 (fun H locs hP hD hS => ?_)
  refine lv_aload_n hx hb d_Server_init_41 rfl (lv_at hl 0 rfl) ?_
  refine lv_iconst (v := nI 0) hx hb d_Server_init_42 (by decide) ?_
  refine c_put (k := 8) (v := .int (nI 0)) (fs' := [.null, .ref q1, .ref q3, .null, .int 0, .int (nI 1), .int (nI 0), .int (nI 0), .int (nI 0), .int 0, .int 0]) hx hb ht xc_Server t_Server_ok n_Server hown hK hP hD hS (by decide) fl_Server_36 rfl rfl rfl rfl (Nat.le_of_ble_eq_true rfl) rfl d_Server_init_43 (fun H locs hP hD hS => ?_)
  refine lv_aload_n hx hb d_Server_init_46 rfl (lv_at hl 0 rfl) ?_
  refine lv_iconst (v := nI 0) hx hb d_Server_init_47 (by decide) ?_
  refine c_put (k := 9) (v := .int (nI 0)) (fs' := [.null, .ref q1, .ref q3, .null, .int 0, .int (nI 1), .int (nI 0), .int (nI 0), .int (nI 0), .int (nI 0), .int 0]) hx hb ht xc_Server t_Server_ok n_Server hown hK hP hD hS (by decide) fl_Server_39 rfl rfl rfl rfl (Nat.le_of_ble_eq_true rfl) rfl d_Server_init_48 (fun H locs hP hD hS => ?_)
  refine lv_aload_n hx hb d_Server_init_51 rfl (lv_at hl 0 rfl) ?_
  refine lv_iconst (v := nI 0) hx hb d_Server_init_52 (by decide) ?_
  refine c_put (k := 10) (v := .int (nI 0)) (fs' := [.null, .ref q1, .ref q3, .null, .int 0, .int (nI 1), .int (nI 0), .int (nI 0), .int (nI 0), .int (nI 0), .int (nI 0)]) hx hb ht xc_Server t_Server_ok n_Server hown hK hP hD hS (by decide) fl_Server_42 rfl rfl rfl rfl (Nat.le_of_ble_eq_true rfl) rfl d_Server_init_53 (fun H locs hP hD hS => ?_)
  refine lv_aload_n hx hb d_Server_init_56 rfl (lv_at hl 0 rfl) ?_
  refine lv_aload_n hx hb d_Server_init_57 rfl (lv_at hl 3 rfl) ?_
  refine c_putF (k := 0) (v := .ref fl) (fs' := [.ref fl, .ref q1, .ref q3, .null, .int 0, .int (nI 1), .int (nI 0), .int (nI 0), .int (nI 0), .int (nI 0), .int (nI 0)]) hx hb ht xc_Server t_Server_ok n_Server hown hin hK hP hD hS (by decide) fl_Server_45 rfl rfl rfl rfl (Nat.le_of_ble_eq_true rfl) rfl d_Server_init_58 (fun H locs hP hD hS => ?_)
  refine lv_aload_n hx hb d_Server_init_61 rfl (lv_at hl 0 rfl) ?_
  refine c_new (fs := fr_Leases) hx hb hown ht xc_Leases t_Leases_ok cl_Server_49 in_Leases it_Leases fo_Leases hK hP hD hS hA (Nat.le_of_ble_eq_true rfl) (Nat.le_of_ble_eq_true rfl) d_Server_init_62 (fun q5 H hP hD hS => ?_)
  refine lv_dup hx hb d_Server_init_65 rfl ?_
  refine lv_iload_n hx hb d_Server_init_66 rfl (lv_at hl 1 rfl) ?_
  refine c_mk (As := [.int (nI nw)]) (rest := [.ref q5, .ref h0]) hx hb hml hown ht ci_Server_51 (n_Leases_init l D dA (W0 ++ (h0, .inr (7, [.ref fl, .ref q1, .ref q3, .null, .int 0, .int (nI 1), .int (nI 0), .int (nI 0), .int (nI 0), .int (nI 0), .int (nI 0)])) :: (([] ++ bDisk dA q1 u2) ++ bQueue dA q3 u4)) q5 H.size nw hnw) rfl rfl ⟨by decide, by decide⟩ hN hO hK hP hD hS hA rfl hl.1 rfl (Nat.le_of_ble_eq_true rfl) d_Server_init_67 ⟨(Nat.le_of_ble_eq_true rfl), (Nat.le_of_ble_eq_true rfl)⟩ (fun u6 H locs huu6 hP hD hS => ?_)
  refine c_putF (k := 3) (v := .ref q5) (fs' := [.ref fl, .ref q1, .ref q3, .ref q5, .int 0, .int (nI 1), .int (nI 0), .int (nI 0), .int (nI 0), .int (nI 0), .int (nI 0)]) hx hb ht xc_Server t_Server_ok n_Server hown hin hK hP hD hS (by decide) fl_Server_54 rfl rfl rfl rfl (Nat.le_of_ble_eq_true rfl) rfl d_Server_init_70 (fun H locs hP hD hS => ?_)
  refine lv_aload_n hx hb d_Server_init_73 rfl (lv_at hl 0 rfl) ?_
  refine lv_iload_n hx hb d_Server_init_74 rfl (lv_at hl 2 rfl) ?_
  refine c_putF (k := 4) (v := .int (nI ln)) (fs' := [.ref fl, .ref q1, .ref q3, .ref q5, .int (nI ln), .int (nI 1), .int (nI 0), .int (nI 0), .int (nI 0), .int (nI 0), .int (nI 0)]) hx hb ht xc_Server t_Server_ok n_Server hown hin hK hP hD hS (by decide) fl_Server_58 rfl rfl rfl rfl (Nat.le_of_ble_eq_true rfl) rfl d_Server_init_75 (fun H locs hP hD hS => ?_)
  subst hAe
  exact c_ret ((q1, u2), (q3, u4), (q5, u6)) hx hb hr hlk ⟨huu2, huu4, huu6⟩ rfl hP hD hS (Nat.le_of_ble_eq_true rfl) (Nat.le_of_ble_eq_true rfl) d_Server_init_78
