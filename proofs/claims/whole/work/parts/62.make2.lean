/-! the client's constructor -/
theorem za_int (N : Nat) : ∀ cA : ClassId, vp_cell cA (N, .inl (fun _ => 0)) = arrV cA N (fun _ => defaultValue .int) := fun cA => rfl
theorem za_boolean (N : Nat) : ∀ cA : ClassId, vp_cell cA (N, .inl (fun _ => 0)) = arrV cA N (fun _ => defaultValue .boolean) := fun cA => rfl
theorem za_long (N : Nat) : ∀ cA : ClassId, vp_cell cA (N, .inr (.inl (fun _ => 0))) = arrV cA N (fun _ => defaultValue .long) := fun cA => rfl
abbrev b_Client_init : ByteArray := prog_2_method_1_code
def y_Client_init : MethodName := ⟨"LeasedBuilds$Client", "<init>", "(LLeasedBuilds$Flight;)V"⟩
def w_Client_init : List Cond := .code y_Client_init b_Client_init 2 none :: WS
theorem d_Client_init_0 : decode b_Client_init 0 = .ok (.aload_n 0, 1) := by decide +kernel
theorem d_Client_init_1 : decode b_Client_init 1 = .ok (.invokespecial 3, 3) := by decide +kernel
theorem d_Client_init_4 : decode b_Client_init 4 = .ok (.aload_n 0, 1) := by decide +kernel
theorem d_Client_init_5 : decode b_Client_init 5 = .ok (.bipush 10, 2) := by decide +kernel
theorem d_Client_init_7 : decode b_Client_init 7 = .ok (.newarray .boolean, 2) := by decide +kernel
theorem d_Client_init_9 : decode b_Client_init 9 = .ok (.putfield 9, 3) := by decide +kernel
theorem d_Client_init_12 : decode b_Client_init 12 = .ok (.aload_n 0, 1) := by decide +kernel
theorem d_Client_init_13 : decode b_Client_init 13 = .ok (.bipush 10, 2) := by decide +kernel
theorem d_Client_init_15 : decode b_Client_init 15 = .ok (.newarray .int, 2) := by decide +kernel
theorem d_Client_init_17 : decode b_Client_init 17 = .ok (.putfield 15, 3) := by decide +kernel
theorem d_Client_init_20 : decode b_Client_init 20 = .ok (.aload_n 0, 1) := by decide +kernel
theorem d_Client_init_21 : decode b_Client_init 21 = .ok (.bipush 10, 2) := by decide +kernel
theorem d_Client_init_23 : decode b_Client_init 23 = .ok (.newarray .long, 2) := by decide +kernel
theorem d_Client_init_25 : decode b_Client_init 25 = .ok (.putfield 19, 3) := by decide +kernel
theorem d_Client_init_28 : decode b_Client_init 28 = .ok (.aload_n 0, 1) := by decide +kernel
theorem d_Client_init_29 : decode b_Client_init 29 = .ok (.bipush 10, 2) := by decide +kernel
theorem d_Client_init_31 : decode b_Client_init 31 = .ok (.newarray .int, 2) := by decide +kernel
theorem d_Client_init_33 : decode b_Client_init 33 = .ok (.putfield 23, 3) := by decide +kernel
theorem d_Client_init_36 : decode b_Client_init 36 = .ok (.aload_n 0, 1) := by decide +kernel
theorem d_Client_init_37 : decode b_Client_init 37 = .ok (.bipush 10, 2) := by decide +kernel
theorem d_Client_init_39 : decode b_Client_init 39 = .ok (.newarray .int, 2) := by decide +kernel
theorem d_Client_init_41 : decode b_Client_init 41 = .ok (.putfield 26, 3) := by decide +kernel
theorem d_Client_init_44 : decode b_Client_init 44 = .ok (.aload_n 0, 1) := by decide +kernel
theorem d_Client_init_45 : decode b_Client_init 45 = .ok (.bipush 10, 2) := by decide +kernel
theorem d_Client_init_47 : decode b_Client_init 47 = .ok (.newarray .int, 2) := by decide +kernel
theorem d_Client_init_49 : decode b_Client_init 49 = .ok (.putfield 29, 3) := by decide +kernel
theorem d_Client_init_52 : decode b_Client_init 52 = .ok (.aload_n 0, 1) := by decide +kernel
theorem d_Client_init_53 : decode b_Client_init 53 = .ok (.new 32, 3) := by decide +kernel
theorem d_Client_init_56 : decode b_Client_init 56 = .ok (.dup, 1) := by decide +kernel
theorem d_Client_init_57 : decode b_Client_init 57 = .ok (.invokespecial 34, 3) := by decide +kernel
theorem d_Client_init_60 : decode b_Client_init 60 = .ok (.putfield 35, 3) := by decide +kernel
theorem d_Client_init_63 : decode b_Client_init 63 = .ok (.aload_n 0, 1) := by decide +kernel
theorem d_Client_init_64 : decode b_Client_init 64 = .ok (.iconst 0, 1) := by decide +kernel
theorem d_Client_init_65 : decode b_Client_init 65 = .ok (.putfield 39, 3) := by decide +kernel
theorem d_Client_init_68 : decode b_Client_init 68 = .ok (.aload_n 0, 1) := by decide +kernel
theorem d_Client_init_69 : decode b_Client_init 69 = .ok (.aload_n 1, 1) := by decide +kernel
theorem d_Client_init_70 : decode b_Client_init 70 = .ok (.putfield 43, 3) := by decide +kernel
theorem d_Client_init_73 : decode b_Client_init 73 = .ok (.return_, 1) := by decide +kernel
theorem ol_Client : Cond.methodLink "LeasedBuilds$Client" 3 Lib.objectInit ∈ WS := ms (i := 123) (by decide +kernel) rfl
theorem cl_Client_32 : Cond.classLink "LeasedBuilds$Client" 32 "LeasedBuilds$Key" ∈ WS := ms (i := 124) (by decide +kernel) rfl
theorem ci_Client_34 : CwIN "LeasedBuilds$Client" 34 y_Key_init b_Key_init 1 0 := ⟨⟨ms (i := 38) (by decide +kernel) rfl, List.mem_of_getElem? (i := 2) rfl, ms (i := 37) (by decide +kernel) rfl, ms (i := 4) (by decide +kernel) rfl⟩, by decide +kernel⟩
def bClient (dA : Nat → ClassId) (h0 fl : Nat) (u : Nat × Nat × Nat × Nat × Nat × Nat × Nat) : va_W := (h0, .inr (4, [.ref fl, .ref u.1, .ref u.2.1, .ref u.2.2.1, .ref u.2.2.2.1, .ref u.2.2.2.2.1, .ref u.2.2.2.2.2.1, .ref u.2.2.2.2.2.2, .int (nI 0)])) :: ((((((([] ++ [(u.1, .inl (dA 1, (10, .inl (fun _ => 0))))]) ++ [(u.2.1, .inl (dA 0, (10, .inl (fun _ => 0))))]) ++ [(u.2.2.1, .inl (dA 2, (10, .inr (.inl (fun _ => 0)))))]) ++ [(u.2.2.2.1, .inl (dA 0, (10, .inl (fun _ => 0))))]) ++ [(u.2.2.2.2.1, .inl (dA 0, (10, .inl (fun _ => 0))))]) ++ [(u.2.2.2.2.2.1, .inl (dA 0, (10, .inl (fun _ => 0))))]) ++ bKey u.2.2.2.2.2.2 ())
set_option maxHeartbeats 4000000 in
set_option maxRecDepth 100000 in
theorem n_Client_init (l : Launch) (D : va_G) (dA : Nat → ClassId) (W0 : va_W) (h0 sz : Nat) (fl : Nat) : CN l D dA y_Client_init w_Client_init { frames := 2, cells := 7, slots := 63, locals := 32 } [.ref h0, .ref fl] (W0 ++ [(h0, .inr (4, fr_Client))]) sz (fun u : Nat × Nat × Nat × Nat × Nat × Nat × Nat => True) (fun u => W0 ++ bClient dA h0 fl u) 7 63 := by
  refine c_of (cc := b_Client_init) (maxL := 2) (by decide) rfl (Nat.le_of_ble_eq_true rfl) ?_
  intro pp ee ss mm below meth cdd hx hb hml hr hlk ht hown hin hN hO hK hP hD hA hS ls hl
  have hl : lv_has ls 2 [(0, .ref h0), (1, .ref fl)] := hl
  generalize hAe : va_A (W0 ++ [(h0, .inr (4, fr_Client))]) ss.heap.size = A at hD hA hS
  have hP : va_P D clX (W0 ++ (h0, .inr (4, [.null, .null, .null, .null, .null, .null, .null, .null, .int 0])) :: []) ss.heap := hP
  have hD : va_D A (W0 ++ (h0, .inr (4, [.null, .null, .null, .null, .null, .null, .null, .null, .int 0])) :: []) := hD
  have hin : meth.name = "<init>" := hin
  have hown : ss.vm.findClass "LeasedBuilds$Client" = some mm.cls := hown
  refine lv_aload_n hx hb d_Client_init_0 rfl (lv_at hl 0 rfl) ?_
  refine c_obj hx hb hml hown ht ol_Client oj_1 oj_2 hl.1 d_Client_init_1 (by decide) (by decide) ?_
  refine lv_aload_n hx hb d_Client_init_4 rfl (lv_at hl 0 rfl) ?_
  refine lv_bipush (v := nI 10) hx hb d_Client_init_5 (by decide) ?_
  refine c_newa (atype := .boolean) (ty := .boolean) (yy := 1) (N := 10) (a0 := (10, .inl (fun _ => 0))) hx hb ht ac_boolean rfl rfl (za_boolean 10) (by omega) (by decide) hK hP hD hS hA (Nat.le_of_ble_eq_true rfl) (Nat.le_of_ble_eq_true rfl) d_Client_init_7 (fun q1 H hP hD hS => ?_)
  refine c_putF (k := 1) (v := .ref q1) (fs' := [.null, .ref q1, .null, .null, .null, .null, .null, .null, .int 0]) hx hb ht xc_Client t_Client_ok n_Client hown hin hK hP hD hS (by decide) fl_Client_9 rfl rfl rfl rfl (Nat.le_of_ble_eq_true rfl) rfl d_Client_init_9 (fun H locs hP hD hS => ?_)
  refine lv_aload_n hx hb d_Client_init_12 rfl (lv_at hl 0 rfl) ?_
  refine lv_bipush (v := nI 10) hx hb d_Client_init_13 (by decide) ?_
  refine c_newa (atype := .int) (ty := .int) (yy := 0) (N := 10) (a0 := (10, .inl (fun _ => 0))) hx hb ht ac_int rfl rfl (za_int 10) (by omega) (by decide) hK hP hD hS hA (Nat.le_of_ble_eq_true rfl) (Nat.le_of_ble_eq_true rfl) d_Client_init_15 (fun q2 H hP hD hS => ?_)
  refine c_putF (k := 2) (v := .ref q2) (fs' := [.null, .ref q1, .ref q2, .null, .null, .null, .null, .null, .int 0]) hx hb ht xc_Client t_Client_ok n_Client hown hin hK hP hD hS (by decide) fl_Client_15 rfl rfl rfl rfl (Nat.le_of_ble_eq_true rfl) rfl d_Client_init_17 (fun H locs hP hD hS => ?_)
  refine lv_aload_n hx hb d_Client_init_20 rfl (lv_at hl 0 rfl) ?_
  refine lv_bipush (v := nI 10) hx hb d_Client_init_21 (by decide) ?_
  refine c_newa (atype := .long) (ty := .long) (yy := 2) (N := 10) (a0 := (10, .inr (.inl (fun _ => 0)))) hx hb ht ac_long rfl rfl (za_long 10) (by omega) (by decide) hK hP hD hS hA (Nat.le_of_ble_eq_true rfl) (Nat.le_of_ble_eq_true rfl) d_Client_init_23 (fun q3 H hP hD hS => ?_)
  refine c_putF (k := 3) (v := .ref q3) (fs' := [.null, .ref q1, .ref q2, .ref q3, .null, .null, .null, .null, .int 0]) hx hb ht xc_Client t_Client_ok n_Client hown hin hK hP hD hS (by decide) fl_Client_19 rfl rfl rfl rfl (Nat.le_of_ble_eq_true rfl) rfl d_Client_init_25 (fun H locs hP hD hS => ?_)
  refine lv_aload_n hx hb d_Client_init_28 rfl (lv_at hl 0 rfl) ?_
  refine lv_bipush (v := nI 10) hx hb d_Client_init_29 (by decide) ?_
  refine c_newa (atype := .int) (ty := .int) (yy := 0) (N := 10) (a0 := (10, .inl (fun _ => 0))) hx hb ht ac_int rfl rfl (za_int 10) (by omega) (by decide) hK hP hD hS hA (Nat.le_of_ble_eq_true rfl) (Nat.le_of_ble_eq_true rfl) d_Client_init_31 (fun q4 H hP hD hS => ?_)
  refine c_putF (k := 4) (v := .ref q4) (fs' := [.null, .ref q1, .ref q2, .ref q3, .ref q4, .null, .null, .null, .int 0]) hx hb ht xc_Client t_Client_ok n_Client hown hin hK hP hD hS (by decide) fl_Client_23 rfl rfl rfl rfl (Nat.le_of_ble_eq_true rfl) rfl d_Client_init_33 (fun H locs hP hD hS => ?_)
  refine lv_aload_n hx hb d_Client_init_36 rfl (lv_at hl 0 rfl) ?_
  refine lv_bipush (v := nI 10) hx hb d_Client_init_37 (by decide) ?_
  refine c_newa (atype := .int) (ty := .int) (yy := 0) (N := 10) (a0 := (10, .inl (fun _ => 0))) hx hb ht ac_int rfl rfl (za_int 10) (by omega) (by decide) hK hP hD hS hA (Nat.le_of_ble_eq_true rfl) (Nat.le_of_ble_eq_true rfl) d_Client_init_39 (fun q5 H hP hD hS => ?_)
  refine c_putF (k := 5) (v := .ref q5) (fs' := [.null, .ref q1, .ref q2, .ref q3, .ref q4, .ref q5, .null, .null, .int 0]) hx hb ht xc_Client t_Client_ok n_Client hown hin hK hP hD hS (by decide) fl_Client_26 rfl rfl rfl rfl (Nat.le_of_ble_eq_true rfl) rfl d_Client_init_41 (fun H locs hP hD hS => ?_)
  refine lv_aload_n hx hb d_Client_init_44 rfl (lv_at hl 0 rfl) ?_
  refine lv_bipush (v := nI 10) hx hb d_Client_init_45 (by decide) ?_
  refine c_newa (atype := .int) (ty := .int) (yy := 0) (N := 10) (a0 := (10, .inl (fun _ => 0))) hx hb ht ac_int rfl rfl (za_int 10) (by omega) (by decide) hK hP hD hS hA (Nat.le_of_ble_eq_true rfl) (Nat.le_of_ble_eq_true rfl) d_Client_init_47 (fun q6 H hP hD hS => ?_)
  refine c_putF (k := 6) (v := .ref q6) (fs' := [.null, .ref q1, .ref q2, .ref q3, .ref q4, .ref q5, .ref q6, .null, .int 0]) hx hb ht xc_Client t_Client_ok n_Client hown hin hK hP hD hS (by decide) fl_Client_29 rfl rfl rfl rfl (Nat.le_of_ble_eq_true rfl) rfl d_Client_init_49 (fun H locs hP hD hS => ?_)
  refine lv_aload_n hx hb d_Client_init_52 rfl (lv_at hl 0 rfl) ?_
  refine c_new (fs := fr_Key) hx hb hown ht xc_Key t_Key_ok cl_Client_32 in_Key it_Key fo_Key hK hP hD hS hA (Nat.le_of_ble_eq_true rfl) (Nat.le_of_ble_eq_true rfl) d_Client_init_53 (fun q7 H hP hD hS => ?_)
  refine lv_dup hx hb d_Client_init_56 rfl ?_
  refine c_mkN (As := []) (rest := [.ref q7, .ref h0]) hx hb hml hown ht ci_Client_34 (n_Key_init l D dA (W0 ++ (h0, .inr (4, [.null, .ref q1, .ref q2, .ref q3, .ref q4, .ref q5, .ref q6, .null, .int 0])) :: (((((([] ++ [(q1, .inl (dA 1, (10, .inl (fun _ => 0))))]) ++ [(q2, .inl (dA 0, (10, .inl (fun _ => 0))))]) ++ [(q3, .inl (dA 2, (10, .inr (.inl (fun _ => 0)))))]) ++ [(q4, .inl (dA 0, (10, .inl (fun _ => 0))))]) ++ [(q5, .inl (dA 0, (10, .inl (fun _ => 0))))]) ++ [(q6, .inl (dA 0, (10, .inl (fun _ => 0))))])) q7 H.size) rfl rfl ⟨by decide, by decide⟩ hN hO hK hP hD hS hA rfl hl.1 rfl (Nat.le_of_ble_eq_true rfl) d_Client_init_57 ⟨(Nat.le_of_ble_eq_true rfl), (Nat.le_of_ble_eq_true rfl)⟩ (fun u8 H locs huu8 hP hD hS => ?_)
  refine c_putF (k := 7) (v := .ref q7) (fs' := [.null, .ref q1, .ref q2, .ref q3, .ref q4, .ref q5, .ref q6, .ref q7, .int 0]) hx hb ht xc_Client t_Client_ok n_Client hown hin hK hP hD hS (by decide) fl_Client_35 rfl rfl rfl rfl (Nat.le_of_ble_eq_true rfl) rfl d_Client_init_60 (fun H locs hP hD hS => ?_)
  refine lv_aload_n hx hb d_Client_init_63 rfl (lv_at hl 0 rfl) ?_
  refine lv_iconst (v := nI 0) hx hb d_Client_init_64 (by decide) ?_
  refine c_put (k := 8) (v := .int (nI 0)) (fs' := [.null, .ref q1, .ref q2, .ref q3, .ref q4, .ref q5, .ref q6, .ref q7, .int (nI 0)]) hx hb ht xc_Client t_Client_ok n_Client hown hK hP hD hS (by decide) fl_Client_39 rfl rfl rfl rfl (Nat.le_of_ble_eq_true rfl) rfl d_Client_init_65 (fun H locs hP hD hS => ?_)
  refine lv_aload_n hx hb d_Client_init_68 rfl (lv_at hl 0 rfl) ?_
  refine lv_aload_n hx hb d_Client_init_69 rfl (lv_at hl 1 rfl) ?_
  refine c_putF (k := 0) (v := .ref fl) (fs' := [.ref fl, .ref q1, .ref q2, .ref q3, .ref q4, .ref q5, .ref q6, .ref q7, .int (nI 0)]) hx hb ht xc_Client t_Client_ok n_Client hown hin hK hP hD hS (by decide) fl_Client_43 rfl rfl rfl rfl (Nat.le_of_ble_eq_true rfl) rfl d_Client_init_70 (fun H locs hP hD hS => ?_)
  subst hAe
  exact c_ret (q1, q2, q3, q4, q5, q6, q7) hx hb hr hlk trivial rfl hP hD hS (Nat.le_of_ble_eq_true rfl) (Nat.le_of_ble_eq_true rfl) d_Client_init_73
