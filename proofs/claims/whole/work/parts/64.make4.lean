/-! constructors: leases, flight -/
abbrev b_Flight_init : ByteArray := prog_4_method_1_code
def y_Flight_init : MethodName := ⟨"LeasedBuilds$Flight", "<init>", "()V"⟩
def w_Flight_init : List Cond := .code y_Flight_init b_Flight_init 2 none :: WS
theorem d_Flight_init_0 : decode b_Flight_init 0 = .ok (.aload_n 0, 1) := by decide +kernel
theorem d_Flight_init_1 : decode b_Flight_init 1 = .ok (.invokespecial 3, 3) := by decide +kernel
theorem d_Flight_init_4 : decode b_Flight_init 4 = .ok (.aload_n 0, 1) := by decide +kernel
theorem d_Flight_init_5 : decode b_Flight_init 5 = .ok (.bipush 24, 2) := by decide +kernel
theorem d_Flight_init_7 : decode b_Flight_init 7 = .ok (.anewarray 9, 3) := by decide +kernel
theorem d_Flight_init_10 : decode b_Flight_init 10 = .ok (.putfield 11, 3) := by decide +kernel
theorem d_Flight_init_13 : decode b_Flight_init 13 = .ok (.aload_n 0, 1) := by decide +kernel
theorem d_Flight_init_14 : decode b_Flight_init 14 = .ok (.new 9, 3) := by decide +kernel
theorem d_Flight_init_17 : decode b_Flight_init 17 = .ok (.dup, 1) := by decide +kernel
theorem d_Flight_init_18 : decode b_Flight_init 18 = .ok (.invokespecial 17, 3) := by decide +kernel
theorem d_Flight_init_21 : decode b_Flight_init 21 = .ok (.putfield 18, 3) := by decide +kernel
theorem d_Flight_init_24 : decode b_Flight_init 24 = .ok (.aload_n 0, 1) := by decide +kernel
theorem d_Flight_init_25 : decode b_Flight_init 25 = .ok (.new 9, 3) := by decide +kernel
theorem d_Flight_init_28 : decode b_Flight_init 28 = .ok (.dup, 1) := by decide +kernel
theorem d_Flight_init_29 : decode b_Flight_init 29 = .ok (.invokespecial 17, 3) := by decide +kernel
theorem d_Flight_init_32 : decode b_Flight_init 32 = .ok (.putfield 22, 3) := by decide +kernel
theorem d_Flight_init_35 : decode b_Flight_init 35 = .ok (.aload_n 0, 1) := by decide +kernel
theorem d_Flight_init_36 : decode b_Flight_init 36 = .ok (.iconst 0, 1) := by decide +kernel
theorem d_Flight_init_37 : decode b_Flight_init 37 = .ok (.putfield 25, 3) := by decide +kernel
theorem d_Flight_init_40 : decode b_Flight_init 40 = .ok (.aload_n 0, 1) := by decide +kernel
theorem d_Flight_init_41 : decode b_Flight_init 41 = .ok (.iconst 0, 1) := by decide +kernel
theorem d_Flight_init_42 : decode b_Flight_init 42 = .ok (.putfield 29, 3) := by decide +kernel
theorem d_Flight_init_45 : decode b_Flight_init 45 = .ok (.iconst 0, 1) := by decide +kernel
theorem d_Flight_init_46 : decode b_Flight_init 46 = .ok (.istore_n 1, 1) := by decide +kernel
theorem d_Flight_init_47 : decode b_Flight_init 47 = .ok (.iload_n 1, 1) := by decide +kernel
theorem d_Flight_init_48 : decode b_Flight_init 48 = .ok (.aload_n 0, 1) := by decide +kernel
theorem d_Flight_init_49 : decode b_Flight_init 49 = .ok (.getfield 11, 3) := by decide +kernel
theorem d_Flight_init_52 : decode b_Flight_init 52 = .ok (.arraylength, 1) := by decide +kernel
theorem d_Flight_init_53 : decode b_Flight_init 53 = .ok (.if_icmp .ge 22, 3) := by decide +kernel
theorem d_Flight_init_56 : decode b_Flight_init 56 = .ok (.aload_n 0, 1) := by decide +kernel
theorem d_Flight_init_57 : decode b_Flight_init 57 = .ok (.getfield 11, 3) := by decide +kernel
theorem d_Flight_init_60 : decode b_Flight_init 60 = .ok (.iload_n 1, 1) := by decide +kernel
theorem d_Flight_init_61 : decode b_Flight_init 61 = .ok (.new 9, 3) := by decide +kernel
theorem d_Flight_init_64 : decode b_Flight_init 64 = .ok (.dup, 1) := by decide +kernel
theorem d_Flight_init_65 : decode b_Flight_init 65 = .ok (.invokespecial 17, 3) := by decide +kernel
theorem d_Flight_init_68 : decode b_Flight_init 68 = .ok (.aastore, 1) := by decide +kernel
theorem d_Flight_init_69 : decode b_Flight_init 69 = .ok (.iinc 1 1, 3) := by decide +kernel
theorem d_Flight_init_72 : decode b_Flight_init 72 = .ok (.goto (-25), 3) := by decide +kernel
theorem d_Flight_init_75 : decode b_Flight_init 75 = .ok (.return_, 1) := by decide +kernel
theorem ol_Flight : Cond.methodLink "LeasedBuilds$Flight" 3 Lib.objectInit ∈ WS := ms (i := 26) (by decide +kernel) rfl
theorem cl_Flight_9 : Cond.classLink "LeasedBuilds$Flight" 9 "LeasedBuilds$Message" ∈ WS := ms (i := 27) (by decide +kernel) rfl
theorem ci_Flight_17 : CwIN "LeasedBuilds$Flight" 17 y_Message_init b_Message_init 1 0 := ⟨⟨ms (i := 32) (by decide +kernel) rfl, List.mem_of_getElem? (i := 0) rfl, ms (i := 31) (by decide +kernel) rfl, ms (i := 3) (by decide +kernel) rfl⟩, by decide +kernel⟩
set_option maxHeartbeats 4000000 in
set_option maxRecDepth 100000 in
theorem lp_Flight {p : Program} {l : Launch} {e : Env} {R : Room} {s : State} {m : MethodId} {args : Array Value} {below : List Frame} {meth : Method} {c : Code} {Q : State → Prop} {D : va_G} {dA : Nat → ClassId} {H0 : Heap} {W0 X Y : va_W} {A : Nat → Prop} {h0 r N c0 s0 : Nat} {fs : List Value} (hx : p.tables.exec = Jvm.exec) (hb : c.code = b_Flight_init) (hml : c.maxLocals = 2) (hown : s.vm.findClass "LeasedBuilds$Flight" = some m.cls) (ht : ∀ w ∈ WS, w.before args s = true) (hN : nst NL s) (hO : aos s) (hK : va_K D clX (tyX dA) s) (hA : ∀ q, H0.size ≤ q → A q) (hfs : fs[0]? = some (.ref r)) (hNm : N ≤ 1000) (hRf : 3 ≤ R.frames) (hRl : 52 ≤ R.locals) (hRc : c0 + 2 * N ≤ R.cells) (hRs : s0 + 12 * N ≤ R.slots)
    (hend : ∀ (L : List (Nat × Nat)) (H : Heap) (locs : List Loc) (ls : Array Slot), L.length = N → va_P D clX (W0 ++ (h0, .inr (3, fs)) :: (X ++ (r, .inl (dA 3, (N, .inr (.inr (.inr (.inr (fun j => (L[j]?).map Prod.fst))))))) :: (Y ++ mL L))) H → va_D A (W0 ++ (h0, .inr (3, fs)) :: (X ++ (r, .inl (dA 3, (N, .inr (.inr (.inr (.inr (fun j => (L[j]?).map Prod.fst))))))) :: (Y ++ mL L))) → va_S A H0 H locs → lv_has ls 2 [(1, .int (nI L.length)), (0, .ref h0)] → W p l e R s m args below meth c H locs (c0 + 2 * N) (s0 + 12 * N) Q (F0 m 75 ls [])) :
    ∀ (n : Nat) (L : List (Nat × Nat)) (H : Heap) (locs : List Loc) (ls : Array Slot), L.length + n = N → va_P D clX (W0 ++ (h0, .inr (3, fs)) :: (X ++ (r, .inl (dA 3, (N, .inr (.inr (.inr (.inr (fun j => (L[j]?).map Prod.fst))))))) :: (Y ++ mL L))) H → va_D A (W0 ++ (h0, .inr (3, fs)) :: (X ++ (r, .inl (dA 3, (N, .inr (.inr (.inr (.inr (fun j => (L[j]?).map Prod.fst))))))) :: (Y ++ mL L))) → va_S A H0 H locs → lv_has ls 2 [(1, .int (nI L.length)), (0, .ref h0)] → W p l e R s m args below meth c H locs (c0 + 2 * L.length) (s0 + 12 * L.length) Q (F0 m 47 ls []) := by
  intro n
  induction n with
  | zero =>
    intro L H locs ls hn hP hD hS hl
    refine lv_iload_n hx hb d_Flight_init_47 rfl (lv_at hl 0 rfl) ?_
    refine lv_aload_n hx hb d_Flight_init_48 rfl (lv_at hl 1 rfl) ?_
    refine c_get (k := 0) (v := .ref r) hx hb ht xc_Flight hown hK hP (by decide) fl_Flight_11 rfl hfs d_Flight_init_49 ?_
    refine c_alen (yy := 3) hx hb rfl hK hP d_Flight_init_52 ?_
    refine x_icmp_geN (tgt := 75) hx hb d_Flight_init_53 (by decide) (by omega) (by omega) (fun h1 => ?_) (fun h1 => ?_)
    · have hz : L.length = N := by omega
      rw [hz]
      exact hend L H locs ls hz hP hD hS hl
    · exact absurd h1 (by omega)
  | succ n ih =>
    intro L H locs ls hn hP hD hS hl
    refine lv_iload_n hx hb d_Flight_init_47 rfl (lv_at hl 0 rfl) ?_
    refine lv_aload_n hx hb d_Flight_init_48 rfl (lv_at hl 1 rfl) ?_
    refine c_get (k := 0) (v := .ref r) hx hb ht xc_Flight hown hK hP (by decide) fl_Flight_11 rfl hfs d_Flight_init_49 ?_
    refine c_alen (yy := 3) hx hb rfl hK hP d_Flight_init_52 ?_
    refine x_icmp_geN (tgt := 75) hx hb d_Flight_init_53 (by decide) (by omega) (by omega) (fun h1 => ?_) (fun h1 => ?_)
    · exact absurd h1 (by omega)
    · refine lv_aload_n hx hb d_Flight_init_56 rfl (lv_at hl 1 rfl) ?_
      refine c_get (k := 0) (v := .ref r) hx hb ht xc_Flight hown hK hP (by decide) fl_Flight_11 rfl hfs d_Flight_init_57 ?_
      refine lv_iload_n hx hb d_Flight_init_60 rfl (lv_at hl 0 rfl) ?_
      refine c_new (fs := fr_Message) hx hb hown ht xc_Message t_Message_ok cl_Flight_9 in_Message it_Message fo_Message hK hP hD hS hA (by omega) (by omega) d_Flight_init_61 (fun q H hP hD hS => ?_)
      refine lv_dup hx hb d_Flight_init_64 rfl ?_
      refine c_mkN (As := []) (rest := [.ref q, .int (nI L.length), .ref r]) hx hb hml hown ht ci_Flight_17 (n_Message_init l D dA _ q H.size) rfl rfl ⟨(by dsimp only; omega), (by dsimp only; omega)⟩ hN hO hK hP hD hS hA rfl hl.1 rfl (Nat.le_of_ble_eq_true rfl) d_Flight_init_65 ⟨(by omega), (by omega)⟩ (fun k H locs hk hP hD hS => ?_)
      rw [re3] at hP hD
      refine c_store (i := L.length) (q := q) (κ := 2) hx hb rfl rfl (by omega) hNm hK hP hD hS d_Flight_init_68 (fun H locs hP hD hS => ?_)
      rw [fL_push2 L q k] at hP hD
      have hP := c_eqP (mL_push _ L q k) hP
      have hD := c_eqD (mL_push _ L q k) hD
      refine lv_iinc (lv' := [(1, .int (nI (L.length + 1))), (0, .ref h0)]) (v := nI (L.length + 1)) hx hb d_Flight_init_69 hl (k := 0) rfl (nI_add _ _) (by decide) rfl (fun ls hl => ?_)
      refine lv_goto (tgt := 47) hx hb d_Flight_init_72 (by decide) ?_
      have hl2 : lv_has ls 2 [(1, .int (nI (L.length + 1))), (0, .ref h0)] := hl
      have z := ih (L ++ [(q, k)]) H locs ls (by rw [List.length_append]; show L.length + 1 + n = N; omega) hP hD hS (by rw [List.length_append]; exact hl2)
      rw [List.length_append] at z
      exact W.widen (by show _ ≤ c0 + 2 * (L.length + 1); omega) (by show _ ≤ s0 + 12 * (L.length + 1); omega) z
def bFlight (dA : Nat → ClassId) (h0 : Nat) (u : Nat × (Nat × Nat) × (Nat × Nat) × List (Nat × Nat)) : va_W := (h0, .inr (3, [.ref u.1, .ref u.2.1.1, .ref u.2.2.1.1, .int (nI 0), .int (nI 0)])) :: ([] ++ (u.1, .inl (dA 3, (24, .inr (.inr (.inr (.inr (fun j => (u.2.2.2[j]?).map Prod.fst))))))) :: ((bMessage u.2.1.1 u.2.1.2 ++ bMessage u.2.2.1.1 u.2.2.1.2) ++ mL u.2.2.2))
set_option maxHeartbeats 4000000 in
set_option maxRecDepth 100000 in
theorem n_Flight_init (l : Launch) (D : va_G) (dA : Nat → ClassId) (W0 : va_W) (h0 sz : Nat)  : CN l D dA y_Flight_init w_Flight_init { frames := 3, cells := 53, slots := 336, locals := 52 } [.ref h0] (W0 ++ [(h0, .inr (3, fr_Flight))]) sz (fun u : Nat × (Nat × Nat) × (Nat × Nat) × List (Nat × Nat) => u.2.2.2.length = 24) (fun u => W0 ++ bFlight dA h0 u) 53 336 := by
  refine c_of (cc := b_Flight_init) (maxL := 2) (by decide) rfl (Nat.le_of_ble_eq_true rfl) ?_
  intro pp ee ss mm below meth cdd hx hb hml hr hlk ht hown hin hN hO hK hP hD hA hS ls hl
  have hl : lv_has ls 2 [(0, .ref h0)] := hl
  generalize hAe : va_A (W0 ++ [(h0, .inr (3, fr_Flight))]) ss.heap.size = A at hD hA hS
  have hP : va_P D clX (W0 ++ (h0, .inr (3, [.null, .null, .null, .int 0, .int 0])) :: []) ss.heap := hP
  have hD : va_D A (W0 ++ (h0, .inr (3, [.null, .null, .null, .int 0, .int 0])) :: []) := hD
  have hin : meth.name = "<init>" := hin
  have hown : ss.vm.findClass "LeasedBuilds$Flight" = some mm.cls := hown
  refine lv_aload_n hx hb d_Flight_init_0 rfl (lv_at hl 0 rfl) ?_
  refine c_obj hx hb hml hown ht ol_Flight oj_1 oj_2 hl.1 d_Flight_init_1 (by decide) (by decide) ?_
  refine lv_aload_n hx hb d_Flight_init_4 rfl (lv_at hl 0 rfl) ?_
  refine lv_bipush (v := nI 24) hx hb d_Flight_init_5 (by decide) ?_
  refine c_newq (yy := 3) (N := 24) hx hb hown ht cl_Flight_9 hO.2.1 rfl (by omega) hK hP hD hS hA (Nat.le_of_ble_eq_true rfl) (Nat.le_of_ble_eq_true rfl) d_Flight_init_7 (fun q1 H hP hD hS => ?_)
  refine c_putF (k := 0) (v := .ref q1) (fs' := [.ref q1, .null, .null, .int 0, .int 0]) hx hb ht xc_Flight t_Flight_ok n_Flight hown hin hK hP hD hS (by decide) fl_Flight_11 rfl rfl rfl rfl (Nat.le_of_ble_eq_true rfl) rfl d_Flight_init_10 (fun H locs hP hD hS => ?_)
  refine lv_aload_n hx hb d_Flight_init_13 rfl (lv_at hl 0 rfl) ?_
  refine c_new (fs := fr_Message) hx hb hown ht xc_Message t_Message_ok cl_Flight_9 in_Message it_Message fo_Message hK hP hD hS hA (Nat.le_of_ble_eq_true rfl) (Nat.le_of_ble_eq_true rfl) d_Flight_init_14 (fun q2 H hP hD hS => ?_)
  refine lv_dup hx hb d_Flight_init_17 rfl ?_
  refine c_mkN (As := []) (rest := [.ref q2, .ref h0]) hx hb hml hown ht ci_Flight_17 (n_Message_init l D dA (W0 ++ (h0, .inr (3, [.ref q1, .null, .null, .int 0, .int 0])) :: ([] ++ [(q1, .inl (dA 3, (24, .inr (.inr (.inr (.inr (fun _ => none)))))))])) q2 H.size) rfl rfl ⟨by decide, by decide⟩ hN hO hK hP hD hS hA rfl hl.1 rfl (Nat.le_of_ble_eq_true rfl) d_Flight_init_18 ⟨(Nat.le_of_ble_eq_true rfl), (Nat.le_of_ble_eq_true rfl)⟩ (fun u3 H locs huu3 hP hD hS => ?_)
  refine c_putF (k := 1) (v := .ref q2) (fs' := [.ref q1, .ref q2, .null, .int 0, .int 0]) hx hb ht xc_Flight t_Flight_ok n_Flight hown hin hK hP hD hS (by decide) fl_Flight_18 rfl rfl rfl rfl (Nat.le_of_ble_eq_true rfl) rfl d_Flight_init_21 (fun H locs hP hD hS => ?_)
  refine lv_aload_n hx hb d_Flight_init_24 rfl (lv_at hl 0 rfl) ?_
  refine c_new (fs := fr_Message) hx hb hown ht xc_Message t_Message_ok cl_Flight_9 in_Message it_Message fo_Message hK hP hD hS hA (Nat.le_of_ble_eq_true rfl) (Nat.le_of_ble_eq_true rfl) d_Flight_init_25 (fun q4 H hP hD hS => ?_)
  refine lv_dup hx hb d_Flight_init_28 rfl ?_
  refine c_mkN (As := []) (rest := [.ref q4, .ref h0]) hx hb hml hown ht ci_Flight_17 (n_Message_init l D dA (W0 ++ (h0, .inr (3, [.ref q1, .ref q2, .null, .int 0, .int 0])) :: (([] ++ [(q1, .inl (dA 3, (24, .inr (.inr (.inr (.inr (fun _ => none)))))))]) ++ bMessage q2 u3)) q4 H.size) rfl rfl ⟨by decide, by decide⟩ hN hO hK hP hD hS hA rfl hl.1 rfl (Nat.le_of_ble_eq_true rfl) d_Flight_init_29 ⟨(Nat.le_of_ble_eq_true rfl), (Nat.le_of_ble_eq_true rfl)⟩ (fun u5 H locs huu5 hP hD hS => ?_)
  refine c_put (k := 2) (v := .ref q4) (fs' := [.ref q1, .ref q2, .ref q4, .int 0, .int 0]) hx hb ht xc_Flight t_Flight_ok n_Flight hown hK hP hD hS (by decide) fl_Flight_22 rfl rfl rfl rfl (Nat.le_of_ble_eq_true rfl) rfl d_Flight_init_32 (fun H locs hP hD hS => ?_)
  refine lv_aload_n hx hb d_Flight_init_35 rfl (lv_at hl 0 rfl) ?_
  refine lv_iconst (v := nI 0) hx hb d_Flight_init_36 (by decide) ?_
  refine c_put (k := 3) (v := .int (nI 0)) (fs' := [.ref q1, .ref q2, .ref q4, .int (nI 0), .int 0]) hx hb ht xc_Flight t_Flight_ok n_Flight hown hK hP hD hS (by decide) fl_Flight_25 rfl rfl rfl rfl (Nat.le_of_ble_eq_true rfl) rfl d_Flight_init_37 (fun H locs hP hD hS => ?_)
  refine lv_aload_n hx hb d_Flight_init_40 rfl (lv_at hl 0 rfl) ?_
  refine lv_iconst (v := nI 0) hx hb d_Flight_init_41 (by decide) ?_
  refine c_put (k := 4) (v := .int (nI 0)) (fs' := [.ref q1, .ref q2, .ref q4, .int (nI 0), .int (nI 0)]) hx hb ht xc_Flight t_Flight_ok n_Flight hown hK hP hD hS (by decide) fl_Flight_29 rfl rfl rfl rfl (Nat.le_of_ble_eq_true rfl) rfl d_Flight_init_42 (fun H locs hP hD hS => ?_)
  refine lv_iconst (v := nI 0) hx hb d_Flight_init_45 (by decide) ?_
  refine lv_istore_n (lv' := [(1, .int (nI 0)), (0, .ref h0)]) hx hb d_Flight_init_46 rfl hl (by decide) rfl (fun ls hl => ?_)
  rw [re2] at hP hD
  refine W.widen (k := 5) (n := 48) (Nat.le_of_ble_eq_true rfl) (Nat.le_of_ble_eq_true rfl) ?_
  refine lp_Flight (N := 24) (c0 := 5) (s0 := 48) hx hb hml hown ht hN hO hK hA rfl (by omega) (Nat.le_of_ble_eq_true rfl) (Nat.le_of_ble_eq_true rfl) (Nat.le_of_ble_eq_true rfl) (Nat.le_of_ble_eq_true rfl) (fun L H locs ls hLn hP hD hS hl => ?_) 24 [] _ _ _ (by show 0 + 24 = 24; omega) hP hD hS hl
  subst hAe
  exact c_ret (q1, (q2, u3), (q4, u5), L) hx hb hr hlk hLn rfl hP hD hS (Nat.le_of_ble_eq_true rfl) (Nat.le_of_ble_eq_true rfl) d_Flight_init_75
