/-! constructors with rows of keys: disk, queue, leases; the flight -/
def kL (L : List Nat) : va_W := L.map (fun a => (a, .inr (1, fr_Key)))
theorem kL_push (Y : va_W) (L : List Nat) (q : Nat) : (Y ++ kL L) ++ (q, .inr (1, fr_Key)) :: [] = Y ++ kL (L ++ [q]) := by simp [kL]
def mL (L : List (Nat × Nat)) : va_W := L.flatMap (fun a => bMessage a.1 a.2)
theorem mL_push (Y : va_W) (L : List (Nat × Nat)) (q k : Nat) : (Y ++ mL L) ++ bMessage q k = Y ++ mL (L ++ [(q, k)]) := by simp [mL]
def wL (L : List (Nat × Nat)) : va_W := L.flatMap (fun a => bWorker a.1 a.2)
theorem wL_push (Y : va_W) (L : List (Nat × Nat)) (q k : Nat) : (Y ++ wL L) ++ bWorker q k = Y ++ wL (L ++ [(q, k)]) := by simp [wL]
theorem re0 {W0 R : va_W} {x y : Nat × va_E} : W0 ++ x :: (R ++ [y]) = W0 ++ x :: (R ++ y :: ([] ++ [])) := by simp
theorem re1 {W0 R : va_W} {x y z : Nat × va_E} : W0 ++ x :: ((R ++ [y]) ++ [z]) = W0 ++ x :: (R ++ y :: ([z] ++ [])) := by simp
theorem re2 {W0 R B C : va_W} {x y : Nat × va_E} : W0 ++ x :: (((R ++ [y]) ++ B) ++ C) = W0 ++ x :: (R ++ y :: ((B ++ C) ++ [])) := by simp
theorem re3 {W0 X Y Z : va_W} {x y : Nat × va_E} : W0 ++ x :: ((X ++ y :: Y) ++ Z) = W0 ++ x :: (X ++ y :: (Y ++ Z)) := by simp
theorem c_eqP {D : va_G} {W0 X Y Z : va_W} {x y : Nat × va_E} {H : Heap} (h : Y = Z) (hP : va_P D clX (W0 ++ x :: (X ++ y :: Y)) H) : va_P D clX (W0 ++ x :: (X ++ y :: Z)) H := h ▸ hP
theorem c_eqD {A : Nat → Prop} {W0 X Y Z : va_W} {x y : Nat × va_E} (h : Y = Z) (hD : va_D A (W0 ++ x :: (X ++ y :: Y))) : va_D A (W0 ++ x :: (X ++ y :: Z)) := h ▸ hD
abbrev b_Queue_init : ByteArray := prog_8_method_1_code
def y_Queue_init : MethodName := ⟨"LeasedBuilds$Queue", "<init>", "()V"⟩
def w_Queue_init : List Cond := .code y_Queue_init b_Queue_init 2 none :: WS
theorem d_Queue_init_0 : decode b_Queue_init 0 = .ok (.aload_n 0, 1) := by decide +kernel
theorem d_Queue_init_1 : decode b_Queue_init 1 = .ok (.invokespecial 3, 3) := by decide +kernel
theorem d_Queue_init_4 : decode b_Queue_init 4 = .ok (.aload_n 0, 1) := by decide +kernel
theorem d_Queue_init_5 : decode b_Queue_init 5 = .ok (.bipush 10, 2) := by decide +kernel
theorem d_Queue_init_7 : decode b_Queue_init 7 = .ok (.anewarray 9, 3) := by decide +kernel
theorem d_Queue_init_10 : decode b_Queue_init 10 = .ok (.putfield 11, 3) := by decide +kernel
theorem d_Queue_init_13 : decode b_Queue_init 13 = .ok (.aload_n 0, 1) := by decide +kernel
theorem d_Queue_init_14 : decode b_Queue_init 14 = .ok (.iconst 0, 1) := by decide +kernel
theorem d_Queue_init_15 : decode b_Queue_init 15 = .ok (.putfield 17, 3) := by decide +kernel
theorem d_Queue_init_18 : decode b_Queue_init 18 = .ok (.iconst 0, 1) := by decide +kernel
theorem d_Queue_init_19 : decode b_Queue_init 19 = .ok (.istore_n 1, 1) := by decide +kernel
theorem d_Queue_init_20 : decode b_Queue_init 20 = .ok (.iload_n 1, 1) := by decide +kernel
theorem d_Queue_init_21 : decode b_Queue_init 21 = .ok (.aload_n 0, 1) := by decide +kernel
theorem d_Queue_init_22 : decode b_Queue_init 22 = .ok (.getfield 11, 3) := by decide +kernel
theorem d_Queue_init_25 : decode b_Queue_init 25 = .ok (.arraylength, 1) := by decide +kernel
theorem d_Queue_init_26 : decode b_Queue_init 26 = .ok (.if_icmp .ge 22, 3) := by decide +kernel
theorem d_Queue_init_29 : decode b_Queue_init 29 = .ok (.aload_n 0, 1) := by decide +kernel
theorem d_Queue_init_30 : decode b_Queue_init 30 = .ok (.getfield 11, 3) := by decide +kernel
theorem d_Queue_init_33 : decode b_Queue_init 33 = .ok (.iload_n 1, 1) := by decide +kernel
theorem d_Queue_init_34 : decode b_Queue_init 34 = .ok (.new 9, 3) := by decide +kernel
theorem d_Queue_init_37 : decode b_Queue_init 37 = .ok (.dup, 1) := by decide +kernel
theorem d_Queue_init_38 : decode b_Queue_init 38 = .ok (.invokespecial 21, 3) := by decide +kernel
theorem d_Queue_init_41 : decode b_Queue_init 41 = .ok (.aastore, 1) := by decide +kernel
theorem d_Queue_init_42 : decode b_Queue_init 42 = .ok (.iinc 1 1, 3) := by decide +kernel
theorem d_Queue_init_45 : decode b_Queue_init 45 = .ok (.goto (-25), 3) := by decide +kernel
theorem d_Queue_init_48 : decode b_Queue_init 48 = .ok (.return_, 1) := by decide +kernel
theorem ol_Queue : Cond.methodLink "LeasedBuilds$Queue" 3 Lib.objectInit ∈ WS := ms (i := 202) (by decide +kernel) rfl
theorem cl_Queue_9 : Cond.classLink "LeasedBuilds$Queue" 9 "LeasedBuilds$Key" ∈ WS := ms (i := 203) (by decide +kernel) rfl
theorem ci_Queue_21 : CwIN "LeasedBuilds$Queue" 21 y_Key_init b_Key_init 1 0 := ⟨⟨ms (i := 38) (by decide +kernel) rfl, List.mem_of_getElem? (i := 4) rfl, ms (i := 37) (by decide +kernel) rfl, ms (i := 4) (by decide +kernel) rfl⟩, by decide +kernel⟩
set_option maxHeartbeats 4000000 in
set_option maxRecDepth 100000 in
theorem lp_Queue {p : Program} {l : Launch} {e : Env} {R : Room} {s : State} {m : MethodId} {args : Array Value} {below : List Frame} {meth : Method} {c : Code} {Q : State → Prop} {D : va_G} {dA : Nat → ClassId} {H0 : Heap} {W0 X Y : va_W} {A : Nat → Prop} {h0 r N c0 s0 : Nat} {fs : List Value} (hx : p.tables.exec = Jvm.exec) (hb : c.code = b_Queue_init) (hml : c.maxLocals = 2) (hown : s.vm.findClass "LeasedBuilds$Queue" = some m.cls) (ht : ∀ w ∈ WS, w.before args s = true) (hN : nst NL s) (hO : aos s) (hK : va_K D clX (tyX dA) s) (hA : ∀ q, H0.size ≤ q → A q) (hfs : fs[0]? = some (.ref r)) (hNm : N ≤ 1000) (hRf : 2 ≤ R.frames) (hRl : 32 ≤ R.locals) (hRc : c0 + 1 * N ≤ R.cells) (hRs : s0 + 3 * N ≤ R.slots)
    (hend : ∀ (L : List Nat) (H : Heap) (locs : List Loc) (ls : Array Slot), L.length = N → va_P D clX (W0 ++ (h0, .inr (6, fs)) :: (X ++ (r, .inl (dA 4, (N, .inr (.inr (.inr (.inr (fun j => L[j]?))))))) :: (Y ++ kL L))) H → va_D A (W0 ++ (h0, .inr (6, fs)) :: (X ++ (r, .inl (dA 4, (N, .inr (.inr (.inr (.inr (fun j => L[j]?))))))) :: (Y ++ kL L))) → va_S A H0 H locs → lv_has ls 2 [(1, .int (nI L.length)), (0, .ref h0)] → W p l e R s m args below meth c H locs (c0 + 1 * N) (s0 + 3 * N) Q (F0 m 48 ls [])) :
    ∀ (n : Nat) (L : List Nat) (H : Heap) (locs : List Loc) (ls : Array Slot), L.length + n = N → va_P D clX (W0 ++ (h0, .inr (6, fs)) :: (X ++ (r, .inl (dA 4, (N, .inr (.inr (.inr (.inr (fun j => L[j]?))))))) :: (Y ++ kL L))) H → va_D A (W0 ++ (h0, .inr (6, fs)) :: (X ++ (r, .inl (dA 4, (N, .inr (.inr (.inr (.inr (fun j => L[j]?))))))) :: (Y ++ kL L))) → va_S A H0 H locs → lv_has ls 2 [(1, .int (nI L.length)), (0, .ref h0)] → W p l e R s m args below meth c H locs (c0 + 1 * L.length) (s0 + 3 * L.length) Q (F0 m 20 ls []) := by
  intro n
  induction n with
  | zero =>
    intro L H locs ls hn hP hD hS hl
    refine lv_iload_n hx hb d_Queue_init_20 rfl (lv_at hl 0 rfl) ?_
    refine lv_aload_n hx hb d_Queue_init_21 rfl (lv_at hl 1 rfl) ?_
    refine c_get (k := 0) (v := .ref r) hx hb ht xc_Queue hown hK hP (by decide) fl_Queue_11 rfl hfs d_Queue_init_22 ?_
    refine c_alen (yy := 4) hx hb rfl hK hP d_Queue_init_25 ?_
    refine x_icmp_geN (tgt := 48) hx hb d_Queue_init_26 (by decide) (by omega) (by omega) (fun h1 => ?_) (fun h1 => ?_)
    · have hz : L.length = N := by omega
      rw [hz]
      exact hend L H locs ls hz hP hD hS hl
    · exact absurd h1 (by omega)
  | succ n ih =>
    intro L H locs ls hn hP hD hS hl
    refine lv_iload_n hx hb d_Queue_init_20 rfl (lv_at hl 0 rfl) ?_
    refine lv_aload_n hx hb d_Queue_init_21 rfl (lv_at hl 1 rfl) ?_
    refine c_get (k := 0) (v := .ref r) hx hb ht xc_Queue hown hK hP (by decide) fl_Queue_11 rfl hfs d_Queue_init_22 ?_
    refine c_alen (yy := 4) hx hb rfl hK hP d_Queue_init_25 ?_
    refine x_icmp_geN (tgt := 48) hx hb d_Queue_init_26 (by decide) (by omega) (by omega) (fun h1 => ?_) (fun h1 => ?_)
    · exact absurd h1 (by omega)
    · refine lv_aload_n hx hb d_Queue_init_29 rfl (lv_at hl 1 rfl) ?_
      refine c_get (k := 0) (v := .ref r) hx hb ht xc_Queue hown hK hP (by decide) fl_Queue_11 rfl hfs d_Queue_init_30 ?_
      refine lv_iload_n hx hb d_Queue_init_33 rfl (lv_at hl 0 rfl) ?_
      refine c_new (fs := fr_Key) hx hb hown ht xc_Key t_Key_ok cl_Queue_9 in_Key it_Key fo_Key hK hP hD hS hA (by omega) (by omega) d_Queue_init_34 (fun q H hP hD hS => ?_)
      refine lv_dup hx hb d_Queue_init_37 rfl ?_
      refine c_mkN (As := []) (rest := [.ref q, .int (nI L.length), .ref r]) hx hb hml hown ht ci_Queue_21 (n_Key_init l D dA _ q H.size) rfl rfl ⟨(by dsimp only; omega), (by dsimp only; omega)⟩ hN hO hK hP hD hS hA rfl hl.1 rfl (Nat.le_of_ble_eq_true rfl) d_Queue_init_38 ⟨(by omega), (by omega)⟩ (fun k H locs hk hP hD hS => ?_)
      rw [re3] at hP hD
      refine c_store (i := L.length) (q := q) (κ := 1) hx hb rfl rfl (by omega) hNm hK hP hD hS d_Queue_init_41 (fun H locs hP hD hS => ?_)
      rw [fL_push, kL_push] at hP hD
      refine lv_iinc (lv' := [(1, .int (nI (L.length + 1))), (0, .ref h0)]) (v := nI (L.length + 1)) hx hb d_Queue_init_42 hl (k := 0) rfl (nI_add _ _) (by decide) rfl (fun ls hl => ?_)
      refine lv_goto (tgt := 20) hx hb d_Queue_init_45 (by decide) ?_
      have hl2 : lv_has ls 2 [(1, .int (nI (L.length + 1))), (0, .ref h0)] := hl
      have z := ih (L ++ [q]) H locs ls (by rw [List.length_append]; show L.length + 1 + n = N; omega) hP hD hS (by rw [List.length_append]; exact hl2)
      rw [List.length_append] at z
      exact W.widen (by show _ ≤ c0 + 1 * (L.length + 1); omega) (by show _ ≤ s0 + 3 * (L.length + 1); omega) z
def bQueue (dA : Nat → ClassId) (h0 : Nat) (u : Nat × List Nat) : va_W := (h0, .inr (6, [.ref u.1, .int (nI 0)])) :: ([] ++ (u.1, .inl (dA 4, (10, .inr (.inr (.inr (.inr (fun j => u.2[j]?))))))) :: ([] ++ kL u.2))
set_option maxHeartbeats 4000000 in
set_option maxRecDepth 100000 in
theorem n_Queue_init (l : Launch) (D : va_G) (dA : Nat → ClassId) (W0 : va_W) (h0 sz : Nat)  : CN l D dA y_Queue_init w_Queue_init { frames := 2, cells := 11, slots := 40, locals := 32 } [.ref h0] (W0 ++ [(h0, .inr (6, fr_Queue))]) sz (fun u : Nat × List Nat => u.2.length = 10) (fun u => W0 ++ bQueue dA h0 u) 11 40 := by
  refine c_of (cc := b_Queue_init) (maxL := 2) (by decide) rfl (Nat.le_of_ble_eq_true rfl) ?_
  intro pp ee ss mm below meth cdd hx hb hml hr hlk ht hown hin hN hO hK hP hD hA hS ls hl
  have hl : lv_has ls 2 [(0, .ref h0)] := hl
  generalize hAe : va_A (W0 ++ [(h0, .inr (6, fr_Queue))]) ss.heap.size = A at hD hA hS
  have hP : va_P D clX (W0 ++ (h0, .inr (6, [.null, .int 0])) :: []) ss.heap := hP
  have hD : va_D A (W0 ++ (h0, .inr (6, [.null, .int 0])) :: []) := hD
  have hin : meth.name = "<init>" := hin
  have hown : ss.vm.findClass "LeasedBuilds$Queue" = some mm.cls := hown
  refine lv_aload_n hx hb d_Queue_init_0 rfl (lv_at hl 0 rfl) ?_
  refine c_obj hx hb hml hown ht ol_Queue oj_1 oj_2 hl.1 d_Queue_init_1 (by decide) (by decide) ?_
  refine lv_aload_n hx hb d_Queue_init_4 rfl (lv_at hl 0 rfl) ?_
  refine lv_bipush (v := nI 10) hx hb d_Queue_init_5 (by decide) ?_
  refine c_newq (yy := 4) (N := 10) hx hb hown ht cl_Queue_9 hO.1 rfl (by omega) hK hP hD hS hA (Nat.le_of_ble_eq_true rfl) (Nat.le_of_ble_eq_true rfl) d_Queue_init_7 (fun q1 H hP hD hS => ?_)
  refine c_putF (k := 0) (v := .ref q1) (fs' := [.ref q1, .int 0]) hx hb ht xc_Queue t_Queue_ok n_Queue hown hin hK hP hD hS (by decide) fl_Queue_11 rfl rfl rfl rfl (Nat.le_of_ble_eq_true rfl) rfl d_Queue_init_10 (fun H locs hP hD hS => ?_)
  refine lv_aload_n hx hb d_Queue_init_13 rfl (lv_at hl 0 rfl) ?_
  refine lv_iconst (v := nI 0) hx hb d_Queue_init_14 (by decide) ?_
  refine c_put (k := 1) (v := .int (nI 0)) (fs' := [.ref q1, .int (nI 0)]) hx hb ht xc_Queue t_Queue_ok n_Queue hown hK hP hD hS (by decide) fl_Queue_17 rfl rfl rfl rfl (Nat.le_of_ble_eq_true rfl) rfl d_Queue_init_15 (fun H locs hP hD hS => ?_)
  refine lv_iconst (v := nI 0) hx hb d_Queue_init_18 (by decide) ?_
  refine lv_istore_n (lv' := [(1, .int (nI 0)), (0, .ref h0)]) hx hb d_Queue_init_19 rfl hl (by decide) rfl (fun ls hl => ?_)
  rw [re0] at hP hD
  refine W.widen (k := 1) (n := 10) (Nat.le_of_ble_eq_true rfl) (Nat.le_of_ble_eq_true rfl) ?_
  refine lp_Queue (N := 10) (c0 := 1) (s0 := 10) hx hb hml hown ht hN hO hK hA rfl (by omega) (Nat.le_of_ble_eq_true rfl) (Nat.le_of_ble_eq_true rfl) (Nat.le_of_ble_eq_true rfl) (Nat.le_of_ble_eq_true rfl) (fun L H locs ls hLn hP hD hS hl => ?_) 10 [] _ _ _ (by show 0 + 10 = 10; omega) hP hD hS hl
  subst hAe
  exact c_ret (q1, L) hx hb hr hlk hLn rfl hP hD hS (Nat.le_of_ble_eq_true rfl) (Nat.le_of_ble_eq_true rfl) d_Queue_init_48
abbrev b_Disk_init : ByteArray := prog_3_method_1_code
def y_Disk_init : MethodName := ⟨"LeasedBuilds$Disk", "<init>", "()V"⟩
def w_Disk_init : List Cond := .code y_Disk_init b_Disk_init 2 none :: WS
theorem d_Disk_init_0 : decode b_Disk_init 0 = .ok (.aload_n 0, 1) := by decide +kernel
theorem d_Disk_init_1 : decode b_Disk_init 1 = .ok (.invokespecial 3, 3) := by decide +kernel
theorem d_Disk_init_4 : decode b_Disk_init 4 = .ok (.aload_n 0, 1) := by decide +kernel
theorem d_Disk_init_5 : decode b_Disk_init 5 = .ok (.bipush 10, 2) := by decide +kernel
theorem d_Disk_init_7 : decode b_Disk_init 7 = .ok (.newarray .int, 2) := by decide +kernel
theorem d_Disk_init_9 : decode b_Disk_init 9 = .ok (.putfield 9, 3) := by decide +kernel
theorem d_Disk_init_12 : decode b_Disk_init 12 = .ok (.aload_n 0, 1) := by decide +kernel
theorem d_Disk_init_13 : decode b_Disk_init 13 = .ok (.bipush 10, 2) := by decide +kernel
theorem d_Disk_init_15 : decode b_Disk_init 15 = .ok (.newarray .int, 2) := by decide +kernel
theorem d_Disk_init_17 : decode b_Disk_init 17 = .ok (.putfield 15, 3) := by decide +kernel
theorem d_Disk_init_20 : decode b_Disk_init 20 = .ok (.aload_n 0, 1) := by decide +kernel
theorem d_Disk_init_21 : decode b_Disk_init 21 = .ok (.bipush 10, 2) := by decide +kernel
theorem d_Disk_init_23 : decode b_Disk_init 23 = .ok (.anewarray 18, 3) := by decide +kernel
theorem d_Disk_init_26 : decode b_Disk_init 26 = .ok (.putfield 20, 3) := by decide +kernel
theorem d_Disk_init_29 : decode b_Disk_init 29 = .ok (.aload_n 0, 1) := by decide +kernel
theorem d_Disk_init_30 : decode b_Disk_init 30 = .ok (.bipush 10, 2) := by decide +kernel
theorem d_Disk_init_32 : decode b_Disk_init 32 = .ok (.newarray .int, 2) := by decide +kernel
theorem d_Disk_init_34 : decode b_Disk_init 34 = .ok (.putfield 24, 3) := by decide +kernel
theorem d_Disk_init_37 : decode b_Disk_init 37 = .ok (.aload_n 0, 1) := by decide +kernel
theorem d_Disk_init_38 : decode b_Disk_init 38 = .ok (.iconst 0, 1) := by decide +kernel
theorem d_Disk_init_39 : decode b_Disk_init 39 = .ok (.putfield 27, 3) := by decide +kernel
theorem d_Disk_init_42 : decode b_Disk_init 42 = .ok (.aload_n 0, 1) := by decide +kernel
theorem d_Disk_init_43 : decode b_Disk_init 43 = .ok (.iconst 0, 1) := by decide +kernel
theorem d_Disk_init_44 : decode b_Disk_init 44 = .ok (.putfield 31, 3) := by decide +kernel
theorem d_Disk_init_47 : decode b_Disk_init 47 = .ok (.iconst 0, 1) := by decide +kernel
theorem d_Disk_init_48 : decode b_Disk_init 48 = .ok (.istore_n 1, 1) := by decide +kernel
theorem d_Disk_init_49 : decode b_Disk_init 49 = .ok (.iload_n 1, 1) := by decide +kernel
theorem d_Disk_init_50 : decode b_Disk_init 50 = .ok (.aload_n 0, 1) := by decide +kernel
theorem d_Disk_init_51 : decode b_Disk_init 51 = .ok (.getfield 20, 3) := by decide +kernel
theorem d_Disk_init_54 : decode b_Disk_init 54 = .ok (.arraylength, 1) := by decide +kernel
theorem d_Disk_init_55 : decode b_Disk_init 55 = .ok (.if_icmp .ge 22, 3) := by decide +kernel
theorem d_Disk_init_58 : decode b_Disk_init 58 = .ok (.aload_n 0, 1) := by decide +kernel
theorem d_Disk_init_59 : decode b_Disk_init 59 = .ok (.getfield 20, 3) := by decide +kernel
theorem d_Disk_init_62 : decode b_Disk_init 62 = .ok (.iload_n 1, 1) := by decide +kernel
theorem d_Disk_init_63 : decode b_Disk_init 63 = .ok (.new 18, 3) := by decide +kernel
theorem d_Disk_init_66 : decode b_Disk_init 66 = .ok (.dup, 1) := by decide +kernel
theorem d_Disk_init_67 : decode b_Disk_init 67 = .ok (.invokespecial 34, 3) := by decide +kernel
theorem d_Disk_init_70 : decode b_Disk_init 70 = .ok (.aastore, 1) := by decide +kernel
theorem d_Disk_init_71 : decode b_Disk_init 71 = .ok (.iinc 1 1, 3) := by decide +kernel
theorem d_Disk_init_74 : decode b_Disk_init 74 = .ok (.goto (-25), 3) := by decide +kernel
theorem d_Disk_init_77 : decode b_Disk_init 77 = .ok (.return_, 1) := by decide +kernel
theorem ol_Disk : Cond.methodLink "LeasedBuilds$Disk" 3 Lib.objectInit ∈ WS := ms (i := 169) (by decide +kernel) rfl
theorem cl_Disk_18 : Cond.classLink "LeasedBuilds$Disk" 18 "LeasedBuilds$Key" ∈ WS := ms (i := 170) (by decide +kernel) rfl
theorem ci_Disk_34 : CwIN "LeasedBuilds$Disk" 34 y_Key_init b_Key_init 1 0 := ⟨⟨ms (i := 38) (by decide +kernel) rfl, List.mem_of_getElem? (i := 3) rfl, ms (i := 37) (by decide +kernel) rfl, ms (i := 4) (by decide +kernel) rfl⟩, by decide +kernel⟩
set_option maxHeartbeats 4000000 in
set_option maxRecDepth 100000 in
theorem lp_Disk {p : Program} {l : Launch} {e : Env} {R : Room} {s : State} {m : MethodId} {args : Array Value} {below : List Frame} {meth : Method} {c : Code} {Q : State → Prop} {D : va_G} {dA : Nat → ClassId} {H0 : Heap} {W0 X Y : va_W} {A : Nat → Prop} {h0 r N c0 s0 : Nat} {fs : List Value} (hx : p.tables.exec = Jvm.exec) (hb : c.code = b_Disk_init) (hml : c.maxLocals = 2) (hown : s.vm.findClass "LeasedBuilds$Disk" = some m.cls) (ht : ∀ w ∈ WS, w.before args s = true) (hN : nst NL s) (hO : aos s) (hK : va_K D clX (tyX dA) s) (hA : ∀ q, H0.size ≤ q → A q) (hfs : fs[2]? = some (.ref r)) (hNm : N ≤ 1000) (hRf : 2 ≤ R.frames) (hRl : 32 ≤ R.locals) (hRc : c0 + 1 * N ≤ R.cells) (hRs : s0 + 3 * N ≤ R.slots)
    (hend : ∀ (L : List Nat) (H : Heap) (locs : List Loc) (ls : Array Slot), L.length = N → va_P D clX (W0 ++ (h0, .inr (5, fs)) :: (X ++ (r, .inl (dA 4, (N, .inr (.inr (.inr (.inr (fun j => L[j]?))))))) :: (Y ++ kL L))) H → va_D A (W0 ++ (h0, .inr (5, fs)) :: (X ++ (r, .inl (dA 4, (N, .inr (.inr (.inr (.inr (fun j => L[j]?))))))) :: (Y ++ kL L))) → va_S A H0 H locs → lv_has ls 2 [(1, .int (nI L.length)), (0, .ref h0)] → W p l e R s m args below meth c H locs (c0 + 1 * N) (s0 + 3 * N) Q (F0 m 77 ls [])) :
    ∀ (n : Nat) (L : List Nat) (H : Heap) (locs : List Loc) (ls : Array Slot), L.length + n = N → va_P D clX (W0 ++ (h0, .inr (5, fs)) :: (X ++ (r, .inl (dA 4, (N, .inr (.inr (.inr (.inr (fun j => L[j]?))))))) :: (Y ++ kL L))) H → va_D A (W0 ++ (h0, .inr (5, fs)) :: (X ++ (r, .inl (dA 4, (N, .inr (.inr (.inr (.inr (fun j => L[j]?))))))) :: (Y ++ kL L))) → va_S A H0 H locs → lv_has ls 2 [(1, .int (nI L.length)), (0, .ref h0)] → W p l e R s m args below meth c H locs (c0 + 1 * L.length) (s0 + 3 * L.length) Q (F0 m 49 ls []) := by
  intro n
  induction n with
  | zero =>
    intro L H locs ls hn hP hD hS hl
    refine lv_iload_n hx hb d_Disk_init_49 rfl (lv_at hl 0 rfl) ?_
    refine lv_aload_n hx hb d_Disk_init_50 rfl (lv_at hl 1 rfl) ?_
    refine c_get (k := 2) (v := .ref r) hx hb ht xc_Disk hown hK hP (by decide) fl_Disk_20 rfl hfs d_Disk_init_51 ?_
    refine c_alen (yy := 4) hx hb rfl hK hP d_Disk_init_54 ?_
    refine x_icmp_geN (tgt := 77) hx hb d_Disk_init_55 (by decide) (by omega) (by omega) (fun h1 => ?_) (fun h1 => ?_)
    · have hz : L.length = N := by omega
      rw [hz]
      exact hend L H locs ls hz hP hD hS hl
    · exact absurd h1 (by omega)
  | succ n ih =>
    intro L H locs ls hn hP hD hS hl
    refine lv_iload_n hx hb d_Disk_init_49 rfl (lv_at hl 0 rfl) ?_
    refine lv_aload_n hx hb d_Disk_init_50 rfl (lv_at hl 1 rfl) ?_
    refine c_get (k := 2) (v := .ref r) hx hb ht xc_Disk hown hK hP (by decide) fl_Disk_20 rfl hfs d_Disk_init_51 ?_
    refine c_alen (yy := 4) hx hb rfl hK hP d_Disk_init_54 ?_
    refine x_icmp_geN (tgt := 77) hx hb d_Disk_init_55 (by decide) (by omega) (by omega) (fun h1 => ?_) (fun h1 => ?_)
    · exact absurd h1 (by omega)
    · refine lv_aload_n hx hb d_Disk_init_58 rfl (lv_at hl 1 rfl) ?_
      refine c_get (k := 2) (v := .ref r) hx hb ht xc_Disk hown hK hP (by decide) fl_Disk_20 rfl hfs d_Disk_init_59 ?_
      refine lv_iload_n hx hb d_Disk_init_62 rfl (lv_at hl 0 rfl) ?_
      refine c_new (fs := fr_Key) hx hb hown ht xc_Key t_Key_ok cl_Disk_18 in_Key it_Key fo_Key hK hP hD hS hA (by omega) (by omega) d_Disk_init_63 (fun q H hP hD hS => ?_)
      refine lv_dup hx hb d_Disk_init_66 rfl ?_
      refine c_mkN (As := []) (rest := [.ref q, .int (nI L.length), .ref r]) hx hb hml hown ht ci_Disk_34 (n_Key_init l D dA _ q H.size) rfl rfl ⟨(by dsimp only; omega), (by dsimp only; omega)⟩ hN hO hK hP hD hS hA rfl hl.1 rfl (Nat.le_of_ble_eq_true rfl) d_Disk_init_67 ⟨(by omega), (by omega)⟩ (fun k H locs hk hP hD hS => ?_)
      rw [re3] at hP hD
      refine c_store (i := L.length) (q := q) (κ := 1) hx hb rfl rfl (by omega) hNm hK hP hD hS d_Disk_init_70 (fun H locs hP hD hS => ?_)
      rw [fL_push, kL_push] at hP hD
      refine lv_iinc (lv' := [(1, .int (nI (L.length + 1))), (0, .ref h0)]) (v := nI (L.length + 1)) hx hb d_Disk_init_71 hl (k := 0) rfl (nI_add _ _) (by decide) rfl (fun ls hl => ?_)
      refine lv_goto (tgt := 49) hx hb d_Disk_init_74 (by decide) ?_
      have hl2 : lv_has ls 2 [(1, .int (nI (L.length + 1))), (0, .ref h0)] := hl
      have z := ih (L ++ [q]) H locs ls (by rw [List.length_append]; show L.length + 1 + n = N; omega) hP hD hS (by rw [List.length_append]; exact hl2)
      rw [List.length_append] at z
      exact W.widen (by show _ ≤ c0 + 1 * (L.length + 1); omega) (by show _ ≤ s0 + 3 * (L.length + 1); omega) z
def bDisk (dA : Nat → ClassId) (h0 : Nat) (u : (Nat × Nat × Nat × Nat) × List Nat) : va_W := (h0, .inr (5, [.ref u.1.1, .ref u.1.2.1, .ref u.1.2.2.1, .ref u.1.2.2.2, .int (nI 0), .int (nI 0)])) :: ((([] ++ [(u.1.1, .inl (dA 0, (10, .inl (fun _ => 0))))]) ++ [(u.1.2.1, .inl (dA 0, (10, .inl (fun _ => 0))))]) ++ (u.1.2.2.1, .inl (dA 4, (10, .inr (.inr (.inr (.inr (fun j => u.2[j]?))))))) :: ([(u.1.2.2.2, .inl (dA 0, (10, .inl (fun _ => 0))))] ++ kL u.2))
set_option maxHeartbeats 4000000 in
set_option maxRecDepth 100000 in
theorem n_Disk_init (l : Launch) (D : va_G) (dA : Nat → ClassId) (W0 : va_W) (h0 sz : Nat)  : CN l D dA y_Disk_init w_Disk_init { frames := 2, cells := 14, slots := 70, locals := 32 } [.ref h0] (W0 ++ [(h0, .inr (5, fr_Disk))]) sz (fun u : (Nat × Nat × Nat × Nat) × List Nat => u.2.length = 10) (fun u => W0 ++ bDisk dA h0 u) 14 70 := by
  refine c_of (cc := b_Disk_init) (maxL := 2) (by decide) rfl (Nat.le_of_ble_eq_true rfl) ?_
  intro pp ee ss mm below meth cdd hx hb hml hr hlk ht hown hin hN hO hK hP hD hA hS ls hl
  have hl : lv_has ls 2 [(0, .ref h0)] := hl
  generalize hAe : va_A (W0 ++ [(h0, .inr (5, fr_Disk))]) ss.heap.size = A at hD hA hS
  have hP : va_P D clX (W0 ++ (h0, .inr (5, [.null, .null, .null, .null, .int 0, .int 0])) :: []) ss.heap := hP
  have hD : va_D A (W0 ++ (h0, .inr (5, [.null, .null, .null, .null, .int 0, .int 0])) :: []) := hD
  have hin : meth.name = "<init>" := hin
  have hown : ss.vm.findClass "LeasedBuilds$Disk" = some mm.cls := hown
  refine lv_aload_n hx hb d_Disk_init_0 rfl (lv_at hl 0 rfl) ?_
  refine c_obj hx hb hml hown ht ol_Disk oj_1 oj_2 hl.1 d_Disk_init_1 (by decide) (by decide) ?_
  refine lv_aload_n hx hb d_Disk_init_4 rfl (lv_at hl 0 rfl) ?_
  refine lv_bipush (v := nI 10) hx hb d_Disk_init_5 (by decide) ?_
  refine c_newa (atype := .int) (ty := .int) (yy := 0) (N := 10) (a0 := (10, .inl (fun _ => 0))) hx hb ht ac_int rfl rfl (za_int 10) (by omega) (by decide) hK hP hD hS hA (Nat.le_of_ble_eq_true rfl) (Nat.le_of_ble_eq_true rfl) d_Disk_init_7 (fun q1 H hP hD hS => ?_)
  refine c_putF (k := 0) (v := .ref q1) (fs' := [.ref q1, .null, .null, .null, .int 0, .int 0]) hx hb ht xc_Disk t_Disk_ok n_Disk hown hin hK hP hD hS (by decide) fl_Disk_9 rfl rfl rfl rfl (Nat.le_of_ble_eq_true rfl) rfl d_Disk_init_9 (fun H locs hP hD hS => ?_)
  refine lv_aload_n hx hb d_Disk_init_12 rfl (lv_at hl 0 rfl) ?_
  refine lv_bipush (v := nI 10) hx hb d_Disk_init_13 (by decide) ?_
  refine c_newa (atype := .int) (ty := .int) (yy := 0) (N := 10) (a0 := (10, .inl (fun _ => 0))) hx hb ht ac_int rfl rfl (za_int 10) (by omega) (by decide) hK hP hD hS hA (Nat.le_of_ble_eq_true rfl) (Nat.le_of_ble_eq_true rfl) d_Disk_init_15 (fun q2 H hP hD hS => ?_)
  refine c_putF (k := 1) (v := .ref q2) (fs' := [.ref q1, .ref q2, .null, .null, .int 0, .int 0]) hx hb ht xc_Disk t_Disk_ok n_Disk hown hin hK hP hD hS (by decide) fl_Disk_15 rfl rfl rfl rfl (Nat.le_of_ble_eq_true rfl) rfl d_Disk_init_17 (fun H locs hP hD hS => ?_)
  refine lv_aload_n hx hb d_Disk_init_20 rfl (lv_at hl 0 rfl) ?_
  refine lv_bipush (v := nI 10) hx hb d_Disk_init_21 (by decide) ?_
  refine c_newq (yy := 4) (N := 10) hx hb hown ht cl_Disk_18 hO.1 rfl (by omega) hK hP hD hS hA (Nat.le_of_ble_eq_true rfl) (Nat.le_of_ble_eq_true rfl) d_Disk_init_23 (fun q3 H hP hD hS => ?_)
  refine c_putF (k := 2) (v := .ref q3) (fs' := [.ref q1, .ref q2, .ref q3, .null, .int 0, .int 0]) hx hb ht xc_Disk t_Disk_ok n_Disk hown hin hK hP hD hS (by decide) fl_Disk_20 rfl rfl rfl rfl (Nat.le_of_ble_eq_true rfl) rfl d_Disk_init_26 (fun H locs hP hD hS => ?_)
  refine lv_aload_n hx hb d_Disk_init_29 rfl (lv_at hl 0 rfl) ?_
  refine lv_bipush (v := nI 10) hx hb d_Disk_init_30 (by decide) ?_
  refine c_newa (atype := .int) (ty := .int) (yy := 0) (N := 10) (a0 := (10, .inl (fun _ => 0))) hx hb ht ac_int rfl rfl (za_int 10) (by omega) (by decide) hK hP hD hS hA (Nat.le_of_ble_eq_true rfl) (Nat.le_of_ble_eq_true rfl) d_Disk_init_32 (fun q4 H hP hD hS => ?_)
  refine c_putF (k := 3) (v := .ref q4) (fs' := [.ref q1, .ref q2, .ref q3, .ref q4, .int 0, .int 0]) hx hb ht xc_Disk t_Disk_ok n_Disk hown hin hK hP hD hS (by decide) fl_Disk_24 rfl rfl rfl rfl (Nat.le_of_ble_eq_true rfl) rfl d_Disk_init_34 (fun H locs hP hD hS => ?_)
  refine lv_aload_n hx hb d_Disk_init_37 rfl (lv_at hl 0 rfl) ?_
  refine lv_iconst (v := nI 0) hx hb d_Disk_init_38 (by decide) ?_
  refine c_put (k := 4) (v := .int (nI 0)) (fs' := [.ref q1, .ref q2, .ref q3, .ref q4, .int (nI 0), .int 0]) hx hb ht xc_Disk t_Disk_ok n_Disk hown hK hP hD hS (by decide) fl_Disk_27 rfl rfl rfl rfl (Nat.le_of_ble_eq_true rfl) rfl d_Disk_init_39 (fun H locs hP hD hS => ?_)
  refine lv_aload_n hx hb d_Disk_init_42 rfl (lv_at hl 0 rfl) ?_
  refine lv_iconst (v := nI 0) hx hb d_Disk_init_43 (by decide) ?_
  refine c_put (k := 5) (v := .int (nI 0)) (fs' := [.ref q1, .ref q2, .ref q3, .ref q4, .int (nI 0), .int (nI 0)]) hx hb ht xc_Disk t_Disk_ok n_Disk hown hK hP hD hS (by decide) fl_Disk_31 rfl rfl rfl rfl (Nat.le_of_ble_eq_true rfl) rfl d_Disk_init_44 (fun H locs hP hD hS => ?_)
  refine lv_iconst (v := nI 0) hx hb d_Disk_init_47 (by decide) ?_
  refine lv_istore_n (lv' := [(1, .int (nI 0)), (0, .ref h0)]) hx hb d_Disk_init_48 rfl hl (by decide) rfl (fun ls hl => ?_)
  rw [re1] at hP hD
  refine W.widen (k := 4) (n := 40) (Nat.le_of_ble_eq_true rfl) (Nat.le_of_ble_eq_true rfl) ?_
  refine lp_Disk (N := 10) (c0 := 4) (s0 := 40) hx hb hml hown ht hN hO hK hA rfl (by omega) (Nat.le_of_ble_eq_true rfl) (Nat.le_of_ble_eq_true rfl) (Nat.le_of_ble_eq_true rfl) (Nat.le_of_ble_eq_true rfl) (fun L H locs ls hLn hP hD hS hl => ?_) 10 [] _ _ _ (by show 0 + 10 = 10; omega) hP hD hS hl
  subst hAe
  exact c_ret ((q1, q2, q3, q4), L) hx hb hr hlk hLn rfl hP hD hS (Nat.le_of_ble_eq_true rfl) (Nat.le_of_ble_eq_true rfl) d_Disk_init_77
