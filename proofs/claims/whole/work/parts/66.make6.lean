/-! the constructor of LeasedBuilds -/
def nwC (x : Int32) : Nat := if 1 ≤ x.toInt ∧ x.toInt ≤ 4 then x.toInt.toNat else 2
def lnC (x : Int32) : Nat := if 1 ≤ x.toInt ∧ x.toInt ≤ 40 then x.toInt.toNat else 8
theorem nwC_le (x : Int32) : nwC x ≤ 4 := by
  unfold nwC
  split <;> omega
theorem nwC_pos (x : Int32) : 1 ≤ nwC x := by
  unfold nwC
  split <;> omega
theorem lnC_le (x : Int32) : lnC x ≤ 40 := by
  unfold lnC
  split <;> omega
theorem nwC_lt {x : Int32} (h : x < nI 1) : nwC x = 2 := by
  rw [Int32.lt_iff_toInt_lt, nI_toInt (by decide)] at h
  exact if_neg (by omega)
theorem nwC_gt {x : Int32} (h : ¬ x ≤ nI 4) : nwC x = 2 := by
  rw [Int32.le_iff_toInt_le, nI_toInt (by decide)] at h
  exact if_neg (by omega)
theorem nwC_in {x : Int32} (h1 : ¬ x < nI 1) (h2 : x ≤ nI 4) : x = nI (nwC x) ∧ nwC x ≤ 4 := by
  rw [Int32.lt_iff_toInt_lt, nI_toInt (by decide)] at h1
  rw [Int32.le_iff_toInt_le, nI_toInt (by decide)] at h2
  refine ⟨?_, nwC_le x⟩
  unfold nwC
  rw [if_pos (by omega)]
  apply Int32.toInt_inj.mp
  rw [nI_toInt (by omega)]
  omega
theorem lnC_lt {x : Int32} (h : x < nI 1) : lnC x = 8 := by
  rw [Int32.lt_iff_toInt_lt, nI_toInt (by decide)] at h
  exact if_neg (by omega)
theorem lnC_gt {x : Int32} (h : ¬ x ≤ nI 40) : lnC x = 8 := by
  rw [Int32.le_iff_toInt_le, nI_toInt (by decide)] at h
  exact if_neg (by omega)
theorem lnC_in {x : Int32} (h1 : ¬ x < nI 1) (h2 : x ≤ nI 40) : x = nI (lnC x) := by
  rw [Int32.lt_iff_toInt_lt, nI_toInt (by decide)] at h1
  rw [Int32.le_iff_toInt_le, nI_toInt (by decide)] at h2
  unfold lnC
  rw [if_pos (by omega)]
  apply Int32.toInt_inj.mp
  rw [nI_toInt (by omega)]
  omega
abbrev b_LB_init : ByteArray := prog_1_method_1_code
def y_LB_init : MethodName := ⟨"LeasedBuilds", "<init>", "(II)V"⟩
def w_LB_init : List Cond := .code y_LB_init b_LB_init 6 none :: WS
theorem d_LB_init_0 : decode b_LB_init 0 = .ok (.aload_n 0, 1) := by decide +kernel
theorem d_LB_init_1 : decode b_LB_init 1 = .ok (.invokespecial 3, 3) := by decide +kernel
theorem d_LB_init_4 : decode b_LB_init 4 = .ok (.iload_n 1, 1) := by decide +kernel
theorem d_LB_init_5 : decode b_LB_init 5 = .ok (.iconst 1, 1) := by decide +kernel
theorem d_LB_init_6 : decode b_LB_init 6 = .ok (.if_icmp .lt 8, 3) := by decide +kernel
theorem d_LB_init_9 : decode b_LB_init 9 = .ok (.iload_n 1, 1) := by decide +kernel
theorem d_LB_init_10 : decode b_LB_init 10 = .ok (.iconst 4, 1) := by decide +kernel
theorem d_LB_init_11 : decode b_LB_init 11 = .ok (.if_icmp .le 7, 3) := by decide +kernel
theorem d_LB_init_14 : decode b_LB_init 14 = .ok (.iconst 2, 1) := by decide +kernel
theorem d_LB_init_15 : decode b_LB_init 15 = .ok (.goto 4, 3) := by decide +kernel
theorem d_LB_init_18 : decode b_LB_init 18 = .ok (.iload_n 1, 1) := by decide +kernel
theorem d_LB_init_19 : decode b_LB_init 19 = .ok (.istore_n 3, 1) := by decide +kernel
theorem d_LB_init_20 : decode b_LB_init 20 = .ok (.iload_n 2, 1) := by decide +kernel
theorem d_LB_init_21 : decode b_LB_init 21 = .ok (.iconst 1, 1) := by decide +kernel
theorem d_LB_init_22 : decode b_LB_init 22 = .ok (.if_icmp .lt 9, 3) := by decide +kernel
theorem d_LB_init_25 : decode b_LB_init 25 = .ok (.iload_n 2, 1) := by decide +kernel
theorem d_LB_init_26 : decode b_LB_init 26 = .ok (.bipush 40, 2) := by decide +kernel
theorem d_LB_init_28 : decode b_LB_init 28 = .ok (.if_icmp .le 8, 3) := by decide +kernel
theorem d_LB_init_31 : decode b_LB_init 31 = .ok (.bipush 8, 2) := by decide +kernel
theorem d_LB_init_33 : decode b_LB_init 33 = .ok (.goto 4, 3) := by decide +kernel
theorem d_LB_init_36 : decode b_LB_init 36 = .ok (.iload_n 2, 1) := by decide +kernel
theorem d_LB_init_37 : decode b_LB_init 37 = .ok (.istore 4, 2) := by decide +kernel
theorem d_LB_init_39 : decode b_LB_init 39 = .ok (.aload_n 0, 1) := by decide +kernel
theorem d_LB_init_40 : decode b_LB_init 40 = .ok (.new 9, 3) := by decide +kernel
theorem d_LB_init_43 : decode b_LB_init 43 = .ok (.dup, 1) := by decide +kernel
theorem d_LB_init_44 : decode b_LB_init 44 = .ok (.invokespecial 11, 3) := by decide +kernel
theorem d_LB_init_47 : decode b_LB_init 47 = .ok (.putfield 12, 3) := by decide +kernel
theorem d_LB_init_50 : decode b_LB_init 50 = .ok (.aload_n 0, 1) := by decide +kernel
theorem d_LB_init_51 : decode b_LB_init 51 = .ok (.new 16, 3) := by decide +kernel
theorem d_LB_init_54 : decode b_LB_init 54 = .ok (.dup, 1) := by decide +kernel
theorem d_LB_init_55 : decode b_LB_init 55 = .ok (.aload_n 0, 1) := by decide +kernel
theorem d_LB_init_56 : decode b_LB_init 56 = .ok (.getfield 12, 3) := by decide +kernel
theorem d_LB_init_59 : decode b_LB_init 59 = .ok (.invokespecial 18, 3) := by decide +kernel
theorem d_LB_init_62 : decode b_LB_init 62 = .ok (.putfield 21, 3) := by decide +kernel
theorem d_LB_init_65 : decode b_LB_init 65 = .ok (.aload_n 0, 1) := by decide +kernel
theorem d_LB_init_66 : decode b_LB_init 66 = .ok (.new 25, 3) := by decide +kernel
theorem d_LB_init_69 : decode b_LB_init 69 = .ok (.dup, 1) := by decide +kernel
theorem d_LB_init_70 : decode b_LB_init 70 = .ok (.iload_n 3, 1) := by decide +kernel
theorem d_LB_init_71 : decode b_LB_init 71 = .ok (.iload 4, 2) := by decide +kernel
theorem d_LB_init_73 : decode b_LB_init 73 = .ok (.aload_n 0, 1) := by decide +kernel
theorem d_LB_init_74 : decode b_LB_init 74 = .ok (.getfield 12, 3) := by decide +kernel
theorem d_LB_init_77 : decode b_LB_init 77 = .ok (.invokespecial 27, 3) := by decide +kernel
theorem d_LB_init_80 : decode b_LB_init 80 = .ok (.putfield 30, 3) := by decide +kernel
theorem d_LB_init_83 : decode b_LB_init 83 = .ok (.aload_n 0, 1) := by decide +kernel
theorem d_LB_init_84 : decode b_LB_init 84 = .ok (.iload_n 3, 1) := by decide +kernel
theorem d_LB_init_85 : decode b_LB_init 85 = .ok (.anewarray 34, 3) := by decide +kernel
theorem d_LB_init_88 : decode b_LB_init 88 = .ok (.putfield 36, 3) := by decide +kernel
theorem d_LB_init_91 : decode b_LB_init 91 = .ok (.iconst 0, 1) := by decide +kernel
theorem d_LB_init_92 : decode b_LB_init 92 = .ok (.istore 5, 2) := by decide +kernel
theorem d_LB_init_94 : decode b_LB_init 94 = .ok (.iload 5, 2) := by decide +kernel
theorem d_LB_init_96 : decode b_LB_init 96 = .ok (.iload_n 3, 1) := by decide +kernel
theorem d_LB_init_97 : decode b_LB_init 97 = .ok (.if_icmp .ge 23, 3) := by decide +kernel
theorem d_LB_init_100 : decode b_LB_init 100 = .ok (.aload_n 0, 1) := by decide +kernel
theorem d_LB_init_101 : decode b_LB_init 101 = .ok (.getfield 36, 3) := by decide +kernel
theorem d_LB_init_104 : decode b_LB_init 104 = .ok (.iload 5, 2) := by decide +kernel
theorem d_LB_init_106 : decode b_LB_init 106 = .ok (.new 34, 3) := by decide +kernel
theorem d_LB_init_109 : decode b_LB_init 109 = .ok (.dup, 1) := by decide +kernel
theorem d_LB_init_110 : decode b_LB_init 110 = .ok (.invokespecial 40, 3) := by decide +kernel
theorem d_LB_init_113 : decode b_LB_init 113 = .ok (.aastore, 1) := by decide +kernel
theorem d_LB_init_114 : decode b_LB_init 114 = .ok (.iinc 5 1, 3) := by decide +kernel
theorem d_LB_init_117 : decode b_LB_init 117 = .ok (.goto (-23), 3) := by decide +kernel
theorem d_LB_init_120 : decode b_LB_init 120 = .ok (.aload_n 0, 1) := by decide +kernel
theorem d_LB_init_121 : decode b_LB_init 121 = .ok (.iconst 0, 1) := by decide +kernel
theorem d_LB_init_122 : decode b_LB_init 122 = .ok (.putfield 41, 3) := by decide +kernel
theorem d_LB_init_125 : decode b_LB_init 125 = .ok (.aload_n 0, 1) := by decide +kernel
theorem d_LB_init_126 : decode b_LB_init 126 = .ok (.iconst 0, 1) := by decide +kernel
theorem d_LB_init_127 : decode b_LB_init 127 = .ok (.putfield 45, 3) := by decide +kernel
theorem d_LB_init_130 : decode b_LB_init 130 = .ok (.return_, 1) := by decide +kernel
theorem ol_LB : Cond.methodLink "LeasedBuilds" 3 Lib.objectInit ∈ WS := ms (i := 18) (by decide +kernel) rfl
theorem cl_LB_9 : Cond.classLink "LeasedBuilds" 9 "LeasedBuilds$Flight" ∈ WS := ms (i := 21) (by decide +kernel) rfl
theorem ci_LB_11 : CwI "LeasedBuilds" 11 y_Flight_init b_Flight_init 2 0 := ⟨⟨ms (i := 25) (by decide +kernel) rfl, ms (i := 23) (by decide +kernel) rfl, ms (i := 24) (by decide +kernel) rfl, ms (i := 2) (by decide +kernel) rfl⟩, by decide +kernel⟩
theorem cl_LB_16 : Cond.classLink "LeasedBuilds" 16 "LeasedBuilds$Client" ∈ WS := ms (i := 118) (by decide +kernel) rfl
theorem ci_LB_18 : CwI "LeasedBuilds" 18 y_Client_init b_Client_init 2 1 := ⟨⟨ms (i := 122) (by decide +kernel) rfl, ms (i := 120) (by decide +kernel) rfl, ms (i := 121) (by decide +kernel) rfl, ms (i := 5) (by decide +kernel) rfl⟩, by decide +kernel⟩
theorem cl_LB_25 : Cond.classLink "LeasedBuilds" 25 "LeasedBuilds$Server" ∈ WS := ms (i := 158) (by decide +kernel) rfl
theorem ci_LB_27 : CwI "LeasedBuilds" 27 y_Server_init b_Server_init 4 3 := ⟨⟨ms (i := 162) (by decide +kernel) rfl, ms (i := 160) (by decide +kernel) rfl, ms (i := 161) (by decide +kernel) rfl, ms (i := 6) (by decide +kernel) rfl⟩, by decide +kernel⟩
theorem cl_LB_34 : Cond.classLink "LeasedBuilds" 34 "LeasedBuilds$Worker" ∈ WS := ms (i := 279) (by decide +kernel) rfl
theorem ci_LB_40 : CwIN "LeasedBuilds" 40 y_Worker_init b_Worker_init 1 0 := ⟨⟨ms (i := 284) (by decide +kernel) rfl, List.mem_of_getElem? (i := 6) rfl, ms (i := 283) (by decide +kernel) rfl, ms (i := 10) (by decide +kernel) rfl⟩, by decide +kernel⟩
def lbPost (nw : Nat) (u : (Nat × Nat × (Nat × Nat) × (Nat × Nat) × List (Nat × Nat)) × (Nat × Nat × Nat × Nat × Nat × Nat × Nat × Nat) × (Nat × (Nat × (Nat × Nat × Nat × Nat) × List Nat) × (Nat × Nat × List Nat) × (Nat × (Nat × Nat × Nat) × List Nat)) × Nat × List (Nat × Nat)) : Prop := u.1.2.2.2.2.length = 24 ∧ (u.2.2.1.2.1.2.2.length = 10 ∧ u.2.2.1.2.2.1.2.2.length = 10 ∧ u.2.2.1.2.2.2.2.2.length = nw) ∧ u.2.2.2.2.length = nw
def bLB (dA : Nat → ClassId) (nw ln h0 : Nat) (u : (Nat × Nat × (Nat × Nat) × (Nat × Nat) × List (Nat × Nat)) × (Nat × Nat × Nat × Nat × Nat × Nat × Nat × Nat) × (Nat × (Nat × (Nat × Nat × Nat × Nat) × List Nat) × (Nat × Nat × List Nat) × (Nat × (Nat × Nat × Nat) × List Nat)) × Nat × List (Nat × Nat)) : va_W := (h0, .inr (0, [.ref u.1.1, .ref u.2.1.1, .ref u.2.2.1.1, .ref u.2.2.2.1, .int (nI 0), .int (nI 0)])) :: (((([] ++ bFlight dA u.1.1 u.1.2) ++ bClient dA u.2.1.1 u.1.1 u.2.1.2) ++ bServer dA nw ln u.2.2.1.1 u.1.1 u.2.2.1.2) ++ (u.2.2.2.1, .inl (dA 5, (nw, .inr (.inr (.inr (.inr (fun j => (u.2.2.2.2[j]?).map Prod.fst))))))) :: ([] ++ wL u.2.2.2.2))
set_option maxHeartbeats 4000000 in
set_option maxRecDepth 100000 in
theorem lp_LB {p : Program} {l : Launch} {e : Env} {R : Room} {s : State} {m : MethodId} {args : Array Value} {below : List Frame} {meth : Method} {c : Code} {Q : State → Prop} {D : va_G} {dA : Nat → ClassId} {H0 : Heap} {W0 X Y : va_W} {A : Nat → Prop} {h0 r N c0 s0 : Nat} {fs : List Value} (hx : p.tables.exec = Jvm.exec) (hb : c.code = b_LB_init) (hml : c.maxLocals = 6) (hown : s.vm.findClass "LeasedBuilds" = some m.cls) (ht : ∀ w ∈ WS, w.before args s = true) (hN : nst NL s) (hO : aos s) (hK : va_K D clX (tyX dA) s) (hA : ∀ q, H0.size ≤ q → A q) (hfs : fs[3]? = some (.ref r)) (hNm : N ≤ 1000) (hRf : 3 ≤ R.frames) (hRl : 52 ≤ R.locals) (hRc : c0 + 2 * N ≤ R.cells) (hRs : s0 + 10 * N ≤ R.slots)
    (hend : ∀ (L : List (Nat × Nat)) (H : Heap) (locs : List Loc) (ls : Array Slot), L.length = N → va_P D clX (W0 ++ (h0, .inr (0, fs)) :: (X ++ (r, .inl (dA 5, (N, .inr (.inr (.inr (.inr (fun j => (L[j]?).map Prod.fst))))))) :: (Y ++ wL L))) H → va_D A (W0 ++ (h0, .inr (0, fs)) :: (X ++ (r, .inl (dA 5, (N, .inr (.inr (.inr (.inr (fun j => (L[j]?).map Prod.fst))))))) :: (Y ++ wL L))) → va_S A H0 H locs → lv_has ls 6 [(5, .int (nI L.length)), (0, .ref h0), (3, .int (nI N))] → W p l e R s m args below meth c H locs (c0 + 2 * N) (s0 + 10 * N) Q (F0 m 120 ls [])) :
    ∀ (n : Nat) (L : List (Nat × Nat)) (H : Heap) (locs : List Loc) (ls : Array Slot), L.length + n = N → va_P D clX (W0 ++ (h0, .inr (0, fs)) :: (X ++ (r, .inl (dA 5, (N, .inr (.inr (.inr (.inr (fun j => (L[j]?).map Prod.fst))))))) :: (Y ++ wL L))) H → va_D A (W0 ++ (h0, .inr (0, fs)) :: (X ++ (r, .inl (dA 5, (N, .inr (.inr (.inr (.inr (fun j => (L[j]?).map Prod.fst))))))) :: (Y ++ wL L))) → va_S A H0 H locs → lv_has ls 6 [(5, .int (nI L.length)), (0, .ref h0), (3, .int (nI N))] → W p l e R s m args below meth c H locs (c0 + 2 * L.length) (s0 + 10 * L.length) Q (F0 m 94 ls []) := by
  intro n
  induction n with
  | zero =>
    intro L H locs ls hn hP hD hS hl
    refine lv_iload hx hb d_LB_init_94 (lv_at hl 0 rfl) ?_
    refine lv_iload_n hx hb d_LB_init_96 rfl (lv_at hl 2 rfl) ?_
    refine x_icmp_geN (tgt := 120) hx hb d_LB_init_97 (by decide) (by omega) (by omega) (fun h1 => ?_) (fun h1 => ?_)
    · have hz : L.length = N := by omega
      rw [hz]
      exact hend L H locs ls hz hP hD hS hl
    · exact absurd h1 (by omega)
  | succ n ih =>
    intro L H locs ls hn hP hD hS hl
    refine lv_iload hx hb d_LB_init_94 (lv_at hl 0 rfl) ?_
    refine lv_iload_n hx hb d_LB_init_96 rfl (lv_at hl 2 rfl) ?_
    refine x_icmp_geN (tgt := 120) hx hb d_LB_init_97 (by decide) (by omega) (by omega) (fun h1 => ?_) (fun h1 => ?_)
    · exact absurd h1 (by omega)
    · refine lv_aload_n hx hb d_LB_init_100 rfl (lv_at hl 1 rfl) ?_
      refine c_get (k := 3) (v := .ref r) hx hb ht xc_LB hown hK hP (by decide) fl_LB_36 rfl hfs d_LB_init_101 ?_
      refine lv_iload hx hb d_LB_init_104 (lv_at hl 0 rfl) ?_
      refine c_new (fs := fr_Worker) hx hb hown ht xc_Worker t_Worker_ok cl_LB_34 in_Worker it_Worker fo_Worker hK hP hD hS hA (by omega) (by omega) d_LB_init_106 (fun q H hP hD hS => ?_)
      refine lv_dup hx hb d_LB_init_109 rfl ?_
      refine c_mkN (As := []) (rest := [.ref q, .int (nI L.length), .ref r]) hx hb hml hown ht ci_LB_40 (n_Worker_init l D dA _ q H.size) rfl rfl ⟨(by dsimp only; omega), (by dsimp only; omega)⟩ hN hO hK hP hD hS hA rfl hl.1 rfl (Nat.le_of_ble_eq_true rfl) d_LB_init_110 ⟨(by omega), (by omega)⟩ (fun k H locs hk hP hD hS => ?_)
      rw [re3] at hP hD
      refine c_store (i := L.length) (q := q) (κ := 9) hx hb rfl rfl (by omega) hNm hK hP hD hS d_LB_init_113 (fun H locs hP hD hS => ?_)
      rw [fL_push2 L q k] at hP hD
      have hP := c_eqP (wL_push _ L q k) hP
      have hD := c_eqD (wL_push _ L q k) hD
      refine lv_iinc (lv' := [(5, .int (nI (L.length + 1))), (0, .ref h0), (3, .int (nI N))]) (v := nI (L.length + 1)) hx hb d_LB_init_114 hl (k := 0) rfl (nI_add _ _) (by decide) rfl (fun ls hl => ?_)
      refine lv_goto (tgt := 94) hx hb d_LB_init_117 (by decide) ?_
      have hl2 : lv_has ls 6 [(5, .int (nI (L.length + 1))), (0, .ref h0), (3, .int (nI N))] := hl
      have z := ih (L ++ [(q, k)]) H locs ls (by rw [List.length_append]; show L.length + 1 + n = N; omega) hP hD hS (by rw [List.length_append]; exact hl2)
      rw [List.length_append] at z
      exact W.widen (by show _ ≤ c0 + 2 * (L.length + 1); omega) (by show _ ≤ s0 + 10 * (L.length + 1); omega) z
set_option maxHeartbeats 4000000 in
set_option maxRecDepth 100000 in
theorem lb_39 {p : Program} {l : Launch} {e : Env} {s : State} {m : MethodId} {args : Array Value} {below : List Frame} {meth : Method} {c : Code} {D : va_G} {dA : Nat → ClassId} {W0 : va_W} {h0 nw ln : Nat} (hnw : nw ≤ 4) (hx : p.tables.exec = Jvm.exec) (hb : c.code = b_LB_init) (hml : c.maxLocals = 6) (hr : meth.sig.returnType = none) (hlk : meth.locks = false) (hown : s.vm.findClass "LeasedBuilds" = some m.cls) (hin : meth.name = "<init>") (ht : ∀ w ∈ WS, w.before args s = true) (hN : nst NL s) (hO : aos s) (hK : va_K D clX (tyX dA) s) (hP : va_P D clX (W0 ++ [(h0, .inr (0, fr_LB))]) s.heap) {A : Nat → Prop} (hAe : va_A (W0 ++ [(h0, .inr (0, fr_LB))]) s.heap.size = A) (hD : va_D A (W0 ++ [(h0, .inr (0, fr_LB))])) (hA : ∀ q : Nat, s.heap.size ≤ q → A q) (hS : va_S A s.heap s.heap []) (ls : Array Slot) (hl : lv_has ls 6 [(4, .int (nI ln)), (3, .int (nI nw)), (0, .ref h0)]) :
    W p l e { frames := 4, cells := 107, slots := 614, locals := 77 } s m args below meth c s.heap [] 0 0 (MQ below (cQ D (W0 ++ [(h0, .inr (0, fr_LB))]) s.heap.size (fun u : (Nat × Nat × (Nat × Nat) × (Nat × Nat) × List (Nat × Nat)) × (Nat × Nat × Nat × Nat × Nat × Nat × Nat × Nat) × (Nat × (Nat × (Nat × Nat × Nat × Nat) × List Nat) × (Nat × Nat × List Nat) × (Nat × (Nat × Nat × Nat) × List Nat)) × Nat × List (Nat × Nat) => lbPost nw u) (fun u => W0 ++ bLB dA nw ln h0 u)) args s 107 614 (va_A (W0 ++ [(h0, .inr (0, fr_LB))]) s.heap.size)) (F0 m 39 ls []) := by
  have hP : va_P D clX (W0 ++ (h0, .inr (0, [.null, .null, .null, .null, .int 0, .int 0])) :: []) s.heap := hP
  have hD : va_D A (W0 ++ (h0, .inr (0, [.null, .null, .null, .null, .int 0, .int 0])) :: []) := hD
  refine lv_aload_n hx hb d_LB_init_39 rfl (lv_at hl 2 rfl) ?_
  refine c_new (fs := fr_Flight) hx hb hown ht xc_Flight t_Flight_ok cl_LB_9 in_Flight it_Flight fo_Flight hK hP hD hS hA (by first | (dsimp only; omega) | omega) (by first | (dsimp only; omega) | omega) d_LB_init_40 (fun q1 H hP hD hS => ?_)
  refine lv_dup hx hb d_LB_init_43 rfl ?_
  refine c_mk (As := []) (rest := [.ref q1, .ref h0]) hx hb hml hown ht ci_LB_11 (n_Flight_init l D dA (W0 ++ (h0, .inr (0, [.null, .null, .null, .null, .int 0, .int 0])) :: []) q1 H.size) rfl rfl ⟨by decide, by decide⟩ hN hO hK hP hD hS hA rfl hl.1 rfl (Nat.le_of_ble_eq_true rfl) d_LB_init_44 ⟨(by first | (dsimp only; omega) | omega), (by first | (dsimp only; omega) | omega)⟩ (fun u2 H locs huu2 hP hD hS => ?_)
  refine c_putF (k := 0) (v := .ref q1) (fs' := [.ref q1, .null, .null, .null, .int 0, .int 0]) hx hb ht xc_LB t_LB_ok n_LB hown hin hK hP hD hS (by decide) fl_LB_12 rfl rfl rfl rfl (Nat.le_of_ble_eq_true rfl) rfl d_LB_init_47 (fun H locs hP hD hS => ?_)
  refine lv_aload_n hx hb d_LB_init_50 rfl (lv_at hl 2 rfl) ?_
  refine c_new (fs := fr_Client) hx hb hown ht xc_Client t_Client_ok cl_LB_16 in_Client it_Client fo_Client hK hP hD hS hA (by first | (dsimp only; omega) | omega) (by first | (dsimp only; omega) | omega) d_LB_init_51 (fun q3 H hP hD hS => ?_)
  refine lv_dup hx hb d_LB_init_54 rfl ?_
  refine lv_aload_n hx hb d_LB_init_55 rfl (lv_at hl 2 rfl) ?_
  refine c_get (k := 0) (v := .ref q1) hx hb ht xc_LB hown hK hP (by decide) fl_LB_12 rfl rfl d_LB_init_56 ?_
  refine c_mk (As := [.ref q1]) (rest := [.ref q3, .ref h0]) hx hb hml hown ht ci_LB_18 (n_Client_init l D dA (W0 ++ (h0, .inr (0, [.ref q1, .null, .null, .null, .int 0, .int 0])) :: ([] ++ bFlight dA q1 u2)) q3 H.size q1) rfl rfl ⟨by decide, by decide⟩ hN hO hK hP hD hS hA rfl hl.1 rfl (Nat.le_of_ble_eq_true rfl) d_LB_init_59 ⟨(by first | (dsimp only; omega) | omega), (by first | (dsimp only; omega) | omega)⟩ (fun u4 H locs huu4 hP hD hS => ?_)
  refine c_putF (k := 1) (v := .ref q3) (fs' := [.ref q1, .ref q3, .null, .null, .int 0, .int 0]) hx hb ht xc_LB t_LB_ok n_LB hown hin hK hP hD hS (by decide) fl_LB_21 rfl rfl rfl rfl (Nat.le_of_ble_eq_true rfl) rfl d_LB_init_62 (fun H locs hP hD hS => ?_)
  refine lv_aload_n hx hb d_LB_init_65 rfl (lv_at hl 2 rfl) ?_
  refine c_new (fs := fr_Server) hx hb hown ht xc_Server t_Server_ok cl_LB_25 in_Server it_Server fo_Server hK hP hD hS hA (by first | (dsimp only; omega) | omega) (by first | (dsimp only; omega) | omega) d_LB_init_66 (fun q5 H hP hD hS => ?_)
  refine lv_dup hx hb d_LB_init_69 rfl ?_
  refine lv_iload_n hx hb d_LB_init_70 rfl (lv_at hl 1 rfl) ?_
  refine lv_iload hx hb d_LB_init_71 (lv_at hl 0 rfl) ?_
  refine lv_aload_n hx hb d_LB_init_73 rfl (lv_at hl 2 rfl) ?_
  refine c_get (k := 0) (v := .ref q1) hx hb ht xc_LB hown hK hP (by decide) fl_LB_12 rfl rfl d_LB_init_74 ?_
  refine c_mk (As := [.int (nI nw), .int (nI ln), .ref q1]) (rest := [.ref q5, .ref h0]) hx hb hml hown ht ci_LB_27 (n_Server_init l D dA (W0 ++ (h0, .inr (0, [.ref q1, .ref q3, .null, .null, .int 0, .int 0])) :: (([] ++ bFlight dA q1 u2) ++ bClient dA q3 q1 u4)) q5 H.size nw ln q1 hnw) rfl rfl ⟨by decide, by decide⟩ hN hO hK hP hD hS hA rfl hl.1 rfl (Nat.le_of_ble_eq_true rfl) d_LB_init_77 ⟨(by first | (dsimp only; omega) | omega), (by first | (dsimp only; omega) | omega)⟩ (fun u6 H locs huu6 hP hD hS => ?_)
  refine c_putF (k := 2) (v := .ref q5) (fs' := [.ref q1, .ref q3, .ref q5, .null, .int 0, .int 0]) hx hb ht xc_LB t_LB_ok n_LB hown hin hK hP hD hS (by decide) fl_LB_30 rfl rfl rfl rfl (Nat.le_of_ble_eq_true rfl) rfl d_LB_init_80 (fun H locs hP hD hS => ?_)
  refine lv_aload_n hx hb d_LB_init_83 rfl (lv_at hl 2 rfl) ?_
  refine lv_iload_n hx hb d_LB_init_84 rfl (lv_at hl 1 rfl) ?_
  refine c_newq (yy := 5) (N := nw) hx hb hown ht cl_LB_34 hO.2.2 rfl (by omega) hK hP hD hS hA (by first | (dsimp only; omega) | omega) (by first | (dsimp only; omega) | omega) d_LB_init_85 (fun q7 H hP hD hS => ?_)
  refine c_putF (k := 3) (v := .ref q7) (fs' := [.ref q1, .ref q3, .ref q5, .ref q7, .int 0, .int 0]) hx hb ht xc_LB t_LB_ok n_LB hown hin hK hP hD hS (by decide) fl_LB_36 rfl rfl rfl rfl (Nat.le_of_ble_eq_true rfl) rfl d_LB_init_88 (fun H locs hP hD hS => ?_)
  refine lv_iconst (v := nI 0) hx hb d_LB_init_91 (by decide) ?_
  refine lv_istore (lv' := [(5, .int (nI 0)), (4, .int (nI ln)), (3, .int (nI nw)), (0, .ref h0)]) hx hb d_LB_init_92 hl (by decide) rfl (fun ls hl => ?_)
  rw [re0] at hP hD
  refine W.widen (k := 99) (n := 574) (by omega) (by omega) ?_
  refine lp_LB (N := nw) (c0 := 99) (s0 := 574) hx hb hml hown ht hN hO hK hA rfl (by omega) (Nat.le_of_ble_eq_true rfl) (Nat.le_of_ble_eq_true rfl) (by dsimp only; omega) (by dsimp only; omega) (fun L H locs ls hLn hP hD hS hl => ?_) nw [] _ _ _ (by show 0 + nw = nw; omega) hP hD hS (lv_sub hl [0, 3, 2] rfl)
  refine lv_aload_n hx hb d_LB_init_120 rfl (lv_at hl 1 rfl) ?_
  refine lv_iconst (v := nI 0) hx hb d_LB_init_121 (by decide) ?_
  refine c_put (k := 4) (v := .int (nI 0)) (fs' := [.ref q1, .ref q3, .ref q5, .ref q7, .int (nI 0), .int 0]) hx hb ht xc_LB t_LB_ok n_LB hown hK hP hD hS (by decide) fl_LB_41 rfl rfl rfl rfl (Nat.le_of_ble_eq_true rfl) rfl d_LB_init_122 (fun H locs hP hD hS => ?_)
  refine lv_aload_n hx hb d_LB_init_125 rfl (lv_at hl 1 rfl) ?_
  refine lv_iconst (v := nI 0) hx hb d_LB_init_126 (by decide) ?_
  refine c_put (k := 5) (v := .int (nI 0)) (fs' := [.ref q1, .ref q3, .ref q5, .ref q7, .int (nI 0), .int (nI 0)]) hx hb ht xc_LB t_LB_ok n_LB hown hK hP hD hS (by decide) fl_LB_45 rfl rfl rfl rfl (Nat.le_of_ble_eq_true rfl) rfl d_LB_init_127 (fun H locs hP hD hS => ?_)
  subst hAe
  exact c_ret ((q1, u2), (q3, u4), (q5, u6), q7, L) hx hb hr hlk ⟨huu2, huu6, hLn⟩ rfl hP hD hS (by omega) (by omega) d_LB_init_130
set_option maxHeartbeats 4000000 in
set_option maxRecDepth 100000 in
theorem n_LB_init (l : Launch) (D : va_G) (dA : Nat → ClassId) (W0 : va_W) (h0 sz : Nat) (x1 x2 : Int32) : CN l D dA y_LB_init w_LB_init { frames := 4, cells := 107, slots := 614, locals := 77 } [.ref h0, .int x1, .int x2] (W0 ++ [(h0, .inr (0, fr_LB))]) sz (fun u : (Nat × Nat × (Nat × Nat) × (Nat × Nat) × List (Nat × Nat)) × (Nat × Nat × Nat × Nat × Nat × Nat × Nat × Nat) × (Nat × (Nat × (Nat × Nat × Nat × Nat) × List Nat) × (Nat × Nat × List Nat) × (Nat × (Nat × Nat × Nat) × List Nat)) × Nat × List (Nat × Nat) => lbPost (nwC x1) u) (fun u => W0 ++ bLB dA (nwC x1) (lnC x2) h0 u) 107 614 := by
  refine c_of (cc := b_LB_init) (maxL := 6) (by decide) rfl (Nat.le_of_ble_eq_true rfl) ?_
  intro pp ee ss mm below meth cdd hx hb hml hr hlk ht hown hin hN hO hK hP hD hA hS ls hl
  have hl : lv_has ls 6 [(0, .ref h0), (1, .int x1), (2, .int x2)] := hl
  have hin : meth.name = "<init>" := hin
  have hown : ss.vm.findClass "LeasedBuilds" = some mm.cls := hown
  refine lv_aload_n hx hb d_LB_init_0 rfl (lv_at hl 0 rfl) ?_
  refine c_obj hx hb hml hown ht ol_LB oj_1 oj_2 hl.1 d_LB_init_1 (by decide) (by decide) ?_
  refine lv_iload_n hx hb d_LB_init_4 rfl (lv_at hl 1 rfl) ?_
  refine lv_iconst (v := nI 1) hx hb d_LB_init_5 (by decide) ?_
  refine lv_icmp_lt (tgt := 14) hx hb d_LB_init_6 (by decide) (fun h1 => ?_) (fun h1 => ?_)
  · skip
    refine lv_iconst (v := nI 2) hx hb d_LB_init_14 (by decide) ?_
    refine lv_goto (tgt := 19) hx hb d_LB_init_15 (by decide) ?_
    refine lv_istore_n (lv' := [(3, .int (nI 2)), (0, .ref h0), (1, .int x1), (2, .int x2)]) hx hb d_LB_init_19 rfl hl (by decide) rfl (fun ls hl => ?_)
    rw [nwC_lt h1]
    refine lv_iload_n hx hb d_LB_init_20 rfl (lv_at hl 3 rfl) ?_
    refine lv_iconst (v := nI 1) hx hb d_LB_init_21 (by decide) ?_
    refine lv_icmp_lt (tgt := 31) hx hb d_LB_init_22 (by decide) (fun g1 => ?_) (fun g1 => ?_)
    · skip
      refine lv_bipush (v := nI 8) hx hb d_LB_init_31 (by decide) ?_
      refine lv_goto (tgt := 37) hx hb d_LB_init_33 (by decide) ?_
      refine lv_istore (lv' := [(4, .int (nI 8)), (3, .int (nI 2)), (0, .ref h0), (1, .int x1), (2, .int x2)]) hx hb d_LB_init_37 hl (by decide) rfl (fun ls hl => ?_)
      rw [lnC_lt g1]
      exact lb_39 (by decide) hx hb hml hr hlk hown hin ht hN hO hK hP rfl hD hA hS ls (lv_sub hl [0, 1, 2] rfl)
    · skip
      refine lv_iload_n hx hb d_LB_init_25 rfl (lv_at hl 3 rfl) ?_
      refine lv_bipush (v := nI 40) hx hb d_LB_init_26 (by decide) ?_
      refine lv_icmp_le (tgt := 36) hx hb d_LB_init_28 (by decide) (fun g2 => ?_) (fun g2 => ?_)
      · skip
        have e2 := lnC_in g1 g2
        have hl : lv_has ls 6 [(3, .int (nI 2)), (0, .ref h0), (1, .int x1), (2, .int (nI (lnC x2)))] := by rw [← e2]; exact hl
        refine lv_iload_n hx hb d_LB_init_36 rfl (lv_at hl 3 rfl) ?_
        refine lv_istore (lv' := [(4, .int (nI (lnC x2))), (3, .int (nI 2)), (0, .ref h0), (1, .int x1), (2, .int (nI (lnC x2)))]) hx hb d_LB_init_37 hl (by decide) rfl (fun ls hl => ?_)
        exact lb_39 (by decide) hx hb hml hr hlk hown hin ht hN hO hK hP rfl hD hA hS ls (lv_sub hl [0, 1, 2] rfl)
      · skip
        refine lv_bipush (v := nI 8) hx hb d_LB_init_31 (by decide) ?_
        refine lv_goto (tgt := 37) hx hb d_LB_init_33 (by decide) ?_
        refine lv_istore (lv' := [(4, .int (nI 8)), (3, .int (nI 2)), (0, .ref h0), (1, .int x1), (2, .int x2)]) hx hb d_LB_init_37 hl (by decide) rfl (fun ls hl => ?_)
        rw [lnC_gt g2]
        exact lb_39 (by decide) hx hb hml hr hlk hown hin ht hN hO hK hP rfl hD hA hS ls (lv_sub hl [0, 1, 2] rfl)
  · skip
    refine lv_iload_n hx hb d_LB_init_9 rfl (lv_at hl 1 rfl) ?_
    refine lv_iconst (v := nI 4) hx hb d_LB_init_10 (by decide) ?_
    refine lv_icmp_le (tgt := 18) hx hb d_LB_init_11 (by decide) (fun h2 => ?_) (fun h2 => ?_)
    · skip
      have e1 := (nwC_in h1 h2).1
      have hl : lv_has ls 6 [(0, .ref h0), (1, .int (nI (nwC x1))), (2, .int x2)] := by rw [← e1]; exact hl
      refine lv_iload_n hx hb d_LB_init_18 rfl (lv_at hl 1 rfl) ?_
      refine lv_istore_n (lv' := [(3, .int (nI (nwC x1))), (0, .ref h0), (1, .int (nI (nwC x1))), (2, .int x2)]) hx hb d_LB_init_19 rfl hl (by decide) rfl (fun ls hl => ?_)
      refine lv_iload_n hx hb d_LB_init_20 rfl (lv_at hl 3 rfl) ?_
      refine lv_iconst (v := nI 1) hx hb d_LB_init_21 (by decide) ?_
      refine lv_icmp_lt (tgt := 31) hx hb d_LB_init_22 (by decide) (fun g1 => ?_) (fun g1 => ?_)
      · skip
        refine lv_bipush (v := nI 8) hx hb d_LB_init_31 (by decide) ?_
        refine lv_goto (tgt := 37) hx hb d_LB_init_33 (by decide) ?_
        refine lv_istore (lv' := [(4, .int (nI 8)), (3, .int (nI (nwC x1))), (0, .ref h0), (1, .int (nI (nwC x1))), (2, .int x2)]) hx hb d_LB_init_37 hl (by decide) rfl (fun ls hl => ?_)
        rw [lnC_lt g1]
        exact lb_39 (nwC_le x1) hx hb hml hr hlk hown hin ht hN hO hK hP rfl hD hA hS ls (lv_sub hl [0, 1, 2] rfl)
      · skip
        refine lv_iload_n hx hb d_LB_init_25 rfl (lv_at hl 3 rfl) ?_
        refine lv_bipush (v := nI 40) hx hb d_LB_init_26 (by decide) ?_
        refine lv_icmp_le (tgt := 36) hx hb d_LB_init_28 (by decide) (fun g2 => ?_) (fun g2 => ?_)
        · skip
          have e2 := lnC_in g1 g2
          have hl : lv_has ls 6 [(3, .int (nI (nwC x1))), (0, .ref h0), (1, .int (nI (nwC x1))), (2, .int (nI (lnC x2)))] := by rw [← e2]; exact hl
          refine lv_iload_n hx hb d_LB_init_36 rfl (lv_at hl 3 rfl) ?_
          refine lv_istore (lv' := [(4, .int (nI (lnC x2))), (3, .int (nI (nwC x1))), (0, .ref h0), (1, .int (nI (nwC x1))), (2, .int (nI (lnC x2)))]) hx hb d_LB_init_37 hl (by decide) rfl (fun ls hl => ?_)
          exact lb_39 (nwC_le x1) hx hb hml hr hlk hown hin ht hN hO hK hP rfl hD hA hS ls (lv_sub hl [0, 1, 2] rfl)
        · skip
          refine lv_bipush (v := nI 8) hx hb d_LB_init_31 (by decide) ?_
          refine lv_goto (tgt := 37) hx hb d_LB_init_33 (by decide) ?_
          refine lv_istore (lv' := [(4, .int (nI 8)), (3, .int (nI (nwC x1))), (0, .ref h0), (1, .int (nI (nwC x1))), (2, .int x2)]) hx hb d_LB_init_37 hl (by decide) rfl (fun ls hl => ?_)
          rw [lnC_gt g2]
          exact lb_39 (nwC_le x1) hx hb hml hr hlk hown hin ht hN hO hK hP rfl hD hA hS ls (lv_sub hl [0, 1, 2] rfl)
    · skip
      refine lv_iconst (v := nI 2) hx hb d_LB_init_14 (by decide) ?_
      refine lv_goto (tgt := 19) hx hb d_LB_init_15 (by decide) ?_
      refine lv_istore_n (lv' := [(3, .int (nI 2)), (0, .ref h0), (1, .int x1), (2, .int x2)]) hx hb d_LB_init_19 rfl hl (by decide) rfl (fun ls hl => ?_)
      rw [nwC_gt h2]
      refine lv_iload_n hx hb d_LB_init_20 rfl (lv_at hl 3 rfl) ?_
      refine lv_iconst (v := nI 1) hx hb d_LB_init_21 (by decide) ?_
      refine lv_icmp_lt (tgt := 31) hx hb d_LB_init_22 (by decide) (fun g1 => ?_) (fun g1 => ?_)
      · skip
        refine lv_bipush (v := nI 8) hx hb d_LB_init_31 (by decide) ?_
        refine lv_goto (tgt := 37) hx hb d_LB_init_33 (by decide) ?_
        refine lv_istore (lv' := [(4, .int (nI 8)), (3, .int (nI 2)), (0, .ref h0), (1, .int x1), (2, .int x2)]) hx hb d_LB_init_37 hl (by decide) rfl (fun ls hl => ?_)
        rw [lnC_lt g1]
        exact lb_39 (by decide) hx hb hml hr hlk hown hin ht hN hO hK hP rfl hD hA hS ls (lv_sub hl [0, 1, 2] rfl)
      · skip
        refine lv_iload_n hx hb d_LB_init_25 rfl (lv_at hl 3 rfl) ?_
        refine lv_bipush (v := nI 40) hx hb d_LB_init_26 (by decide) ?_
        refine lv_icmp_le (tgt := 36) hx hb d_LB_init_28 (by decide) (fun g2 => ?_) (fun g2 => ?_)
        · skip
          have e2 := lnC_in g1 g2
          have hl : lv_has ls 6 [(3, .int (nI 2)), (0, .ref h0), (1, .int x1), (2, .int (nI (lnC x2)))] := by rw [← e2]; exact hl
          refine lv_iload_n hx hb d_LB_init_36 rfl (lv_at hl 3 rfl) ?_
          refine lv_istore (lv' := [(4, .int (nI (lnC x2))), (3, .int (nI 2)), (0, .ref h0), (1, .int x1), (2, .int (nI (lnC x2)))]) hx hb d_LB_init_37 hl (by decide) rfl (fun ls hl => ?_)
          exact lb_39 (by decide) hx hb hml hr hlk hown hin ht hN hO hK hP rfl hD hA hS ls (lv_sub hl [0, 1, 2] rfl)
        · skip
          refine lv_bipush (v := nI 8) hx hb d_LB_init_31 (by decide) ?_
          refine lv_goto (tgt := 37) hx hb d_LB_init_33 (by decide) ?_
          refine lv_istore (lv' := [(4, .int (nI 8)), (3, .int (nI 2)), (0, .ref h0), (1, .int x1), (2, .int x2)]) hx hb d_LB_init_37 hl (by decide) rfl (fun ls hl => ?_)
          rw [lnC_gt g2]
          exact lb_39 (by decide) hx hb hml hr hlk hown hin ht hN hO hK hP rfl hD hA hS ls (lv_sub hl [0, 1, 2] rfl)
