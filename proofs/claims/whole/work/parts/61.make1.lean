/-! constructors: keys, messages, workers, the client -/
theorem oj_1 : Cond.instanceMethod Lib.objectInit ∈ WS := ms (i := 19) (by decide +kernel) rfl
theorem oj_2 : Cond.code Lib.objectInit ⟨#[0xb1]⟩ 1 none ∈ WS := ms (i := 20) (by decide +kernel) rfl
theorem ac_boolean : Cond.arrayClass .boolean ∈ WS := ms (i := 155) (by decide +kernel) rfl
theorem ac_int : Cond.arrayClass .int ∈ WS := ms (i := 156) (by decide +kernel) rfl
theorem ac_long : Cond.arrayClass .long ∈ WS := ms (i := 157) (by decide +kernel) rfl
def fr_LB : List Value := [.null, .null, .null, .null, .int 0, .int 0]
theorem in_LB : Cond.instantiable "LeasedBuilds" 6 ∈ WS := ms (i := 14) (by decide +kernel) rfl
theorem it_LB : Cond.initialized "LeasedBuilds" ∈ WS := ms (i := 1) (by decide +kernel) rfl
theorem fo_LB : ∀ j, j < 6 → defaultValue (t_LB j) = vp_V fr_LB j := fun j hj => by
  rcases (show j = 0 ∨ j = 1 ∨ j = 2 ∨ j = 3 ∨ j = 4 ∨ j = 5 by omega) with rfl | rfl | rfl | rfl | rfl | rfl <;> rfl
def fr_Key : List Value := [.long 0, .int 0, .int 0]
theorem in_Key : Cond.instantiable "LeasedBuilds$Key" 3 ∈ WS := ms (i := 35) (by decide +kernel) rfl
theorem it_Key : Cond.initialized "LeasedBuilds$Key" ∈ WS := ms (i := 4) (by decide +kernel) rfl
theorem fo_Key : ∀ j, j < 3 → defaultValue (t_Key j) = vp_V fr_Key j := fun j hj => by
  rcases (show j = 0 ∨ j = 1 ∨ j = 2 by omega) with rfl | rfl | rfl <;> rfl
def fr_Message : List Value := [.null, .int 0, .int 0, .int 0, .int 0, .int 0, .int 0, .int 0, .int 0]
theorem in_Message : Cond.instantiable "LeasedBuilds$Message" 9 ∈ WS := ms (i := 29) (by decide +kernel) rfl
theorem it_Message : Cond.initialized "LeasedBuilds$Message" ∈ WS := ms (i := 3) (by decide +kernel) rfl
theorem fo_Message : ∀ j, j < 9 → defaultValue (t_Message j) = vp_V fr_Message j := fun j hj => by
  rcases (show j = 0 ∨ j = 1 ∨ j = 2 ∨ j = 3 ∨ j = 4 ∨ j = 5 ∨ j = 6 ∨ j = 7 ∨ j = 8 by omega) with rfl | rfl | rfl | rfl | rfl | rfl | rfl | rfl | rfl <;> rfl
def fr_Flight : List Value := [.null, .null, .null, .int 0, .int 0]
theorem in_Flight : Cond.instantiable "LeasedBuilds$Flight" 5 ∈ WS := ms (i := 22) (by decide +kernel) rfl
theorem it_Flight : Cond.initialized "LeasedBuilds$Flight" ∈ WS := ms (i := 2) (by decide +kernel) rfl
theorem fo_Flight : ∀ j, j < 5 → defaultValue (t_Flight j) = vp_V fr_Flight j := fun j hj => by
  rcases (show j = 0 ∨ j = 1 ∨ j = 2 ∨ j = 3 ∨ j = 4 by omega) with rfl | rfl | rfl | rfl | rfl <;> rfl
def fr_Client : List Value := [.null, .null, .null, .null, .null, .null, .null, .null, .int 0]
theorem in_Client : Cond.instantiable "LeasedBuilds$Client" 9 ∈ WS := ms (i := 119) (by decide +kernel) rfl
theorem it_Client : Cond.initialized "LeasedBuilds$Client" ∈ WS := ms (i := 5) (by decide +kernel) rfl
theorem fo_Client : ∀ j, j < 9 → defaultValue (t_Client j) = vp_V fr_Client j := fun j hj => by
  rcases (show j = 0 ∨ j = 1 ∨ j = 2 ∨ j = 3 ∨ j = 4 ∨ j = 5 ∨ j = 6 ∨ j = 7 ∨ j = 8 by omega) with rfl | rfl | rfl | rfl | rfl | rfl | rfl | rfl | rfl <;> rfl
def fr_Disk : List Value := [.null, .null, .null, .null, .int 0, .int 0]
theorem in_Disk : Cond.instantiable "LeasedBuilds$Disk" 6 ∈ WS := ms (i := 165) (by decide +kernel) rfl
theorem it_Disk : Cond.initialized "LeasedBuilds$Disk" ∈ WS := ms (i := 7) (by decide +kernel) rfl
theorem fo_Disk : ∀ j, j < 6 → defaultValue (t_Disk j) = vp_V fr_Disk j := fun j hj => by
  rcases (show j = 0 ∨ j = 1 ∨ j = 2 ∨ j = 3 ∨ j = 4 ∨ j = 5 by omega) with rfl | rfl | rfl | rfl | rfl | rfl <;> rfl
def fr_Queue : List Value := [.null, .int 0]
theorem in_Queue : Cond.instantiable "LeasedBuilds$Queue" 2 ∈ WS := ms (i := 198) (by decide +kernel) rfl
theorem it_Queue : Cond.initialized "LeasedBuilds$Queue" ∈ WS := ms (i := 8) (by decide +kernel) rfl
theorem fo_Queue : ∀ j, j < 2 → defaultValue (t_Queue j) = vp_V fr_Queue j := fun j hj => by
  rcases (show j = 0 ∨ j = 1 by omega) with rfl | rfl <;> rfl
def fr_Server : List Value := [.null, .null, .null, .null, .int 0, .int 0, .int 0, .int 0, .int 0, .int 0, .int 0]
theorem in_Server : Cond.instantiable "LeasedBuilds$Server" 11 ∈ WS := ms (i := 159) (by decide +kernel) rfl
theorem it_Server : Cond.initialized "LeasedBuilds$Server" ∈ WS := ms (i := 6) (by decide +kernel) rfl
theorem fo_Server : ∀ j, j < 11 → defaultValue (t_Server j) = vp_V fr_Server j := fun j hj => by
  rcases (show j = 0 ∨ j = 1 ∨ j = 2 ∨ j = 3 ∨ j = 4 ∨ j = 5 ∨ j = 6 ∨ j = 7 ∨ j = 8 ∨ j = 9 ∨ j = 10 by omega) with rfl | rfl | rfl | rfl | rfl | rfl | rfl | rfl | rfl | rfl | rfl <;> rfl
def fr_Leases : List Value := [.null, .null, .null, .int 0]
theorem in_Leases : Cond.instantiable "LeasedBuilds$Leases" 4 ∈ WS := ms (i := 215) (by decide +kernel) rfl
theorem it_Leases : Cond.initialized "LeasedBuilds$Leases" ∈ WS := ms (i := 9) (by decide +kernel) rfl
theorem fo_Leases : ∀ j, j < 4 → defaultValue (t_Leases j) = vp_V fr_Leases j := fun j hj => by
  rcases (show j = 0 ∨ j = 1 ∨ j = 2 ∨ j = 3 by omega) with rfl | rfl | rfl | rfl <;> rfl
def fr_Worker : List Value := [.null, .int 0, .int 0, .int 0, .int 0, .int 0, .int 0]
theorem in_Worker : Cond.instantiable "LeasedBuilds$Worker" 7 ∈ WS := ms (i := 281) (by decide +kernel) rfl
theorem it_Worker : Cond.initialized "LeasedBuilds$Worker" ∈ WS := ms (i := 10) (by decide +kernel) rfl
theorem fo_Worker : ∀ j, j < 7 → defaultValue (t_Worker j) = vp_V fr_Worker j := fun j hj => by
  rcases (show j = 0 ∨ j = 1 ∨ j = 2 ∨ j = 3 ∨ j = 4 ∨ j = 5 ∨ j = 6 by omega) with rfl | rfl | rfl | rfl | rfl | rfl | rfl <;> rfl
def fr_Md : List Value := [.int 0, .int 0, .int 0, .int 0, .null, .int 0, .null, .null, .null, .null, .null, .null, .null, .null, .int 0, .null, .null, .null, .null, .null, .null, .null, .null, .int 0, .int 0, .null, .null, .null, .null, .null, .int 0, .int 0, .int 0, .int 0, .int 0, .null, .null, .null, .null, .null, .null, .null, .null, .int 0, .int 0, .int 0, .int 0, .int 0, .int 0, .int 0]
theorem in_Md : Cond.instantiable "LeasedBuildsModel" 50 ∈ WS := ms (i := 716) (by decide +kernel) rfl
theorem it_Md : Cond.initialized "LeasedBuildsModel" ∈ WS := ms (i := 11) (by decide +kernel) rfl
section CM
variable {p : Program} {l : Launch} {e : Env} {R : Room} {s : State} {m : MethodId} {args : Array Value} {below : List Frame} {meth : Method} {c : Code} {H : Heap} {locs : List Loc} {cells slots : Nat} {Q : State → Prop}
variable {cc : ByteArray} {pc : Nat} {ls : Array Slot} {rest st0 : List Value} {D : va_G} {dA : Nat → ClassId} {H0 : Heap} {W0 RR : va_W} {x : Nat × va_E} {A : Nat → Prop}
variable {y : MethodName} {bytes : ByteArray} {maxL nL n index : Nat} {rm : Room} {own : String} {As : List Value} {mc mz b : Nat} {T : Type} {post : T → Prop}
theorem c_mk {blk : T → va_W} {ev : va_E} (hx : p.tables.exec = Jvm.exec) (hb : c.code = cc) (hml : c.maxLocals = nL) (hown : s.vm.findClass own = some m.cls) (ht : ∀ w ∈ WS, w.before args s = true) (hcw : CwI own index y bytes maxL n) (hM : CN l D dA y (Cond.code y bytes maxL none :: WS) rm (.ref b :: As) ((W0 ++ x :: RR) ++ [(b, ev)]) H.size post (fun u => (W0 ++ x :: RR) ++ blk u) mc mz) (hrc : rm.cells = mc) (hrs : rm.slots = mz) (hR : rm.frames + 1 ≤ R.frames ∧ 8 + (maxL + 11) + rm.locals ≤ R.locals) (hN : nst NL s) (hO : aos s) (hK : va_K D clX (tyX dA) s) (hP : va_P D clX (W0 ++ x :: (RR ++ [(b, ev)])) H) (hD : va_D A (W0 ++ x :: (RR ++ [(b, ev)]))) (hS : va_S A H0 H locs) (hA : ∀ q, H0.size ≤ q → A q) (hn : As.length = n) (hls : ls.size = nL) (hst : st0 = As.reverse ++ .ref b :: rest) (hW : (rest.map fun v => v.category).sum ≤ 8) (hdg : decode cc pc = .ok (.invokespecial index, 3)) (hcs : cells + mc ≤ R.cells ∧ slots + mz ≤ R.slots)
    (kk : ∀ (u : T) (H1 : Heap) (locs1 : List Loc), post u → va_P D clX (W0 ++ x :: (RR ++ blk u)) H1 → va_D A (W0 ++ x :: (RR ++ blk u)) → va_S A H0 H1 locs1 → W p l e R s m args below meth c H1 locs1 (cells + mc) (slots + mz) Q (F0 m (pc + 3) ls rest)) : W p l e R s m args below meth c H locs cells slots Q (F0 m pc ls st0) :=
  c_I hx hb hml hown ht hcw hM hrc hrs hR hN hO hK (by rw [as1]; exact hP) (by rw [as1]; exact hD) hS hA hn hls hst hW hdg hcs (fun u H1 locs1 hp g1 g2 g3 => by
    rw [as1] at g1 g2
    exact kk u H1 locs1 hp g1 g2 g3)
theorem c_mkN {blk : T → va_W} {ev : va_E} (hx : p.tables.exec = Jvm.exec) (hb : c.code = cc) (hml : c.maxLocals = nL) (hown : s.vm.findClass own = some m.cls) (ht : ∀ w ∈ WS, w.before args s = true) (hcw : CwIN own index y bytes maxL n) (hM : CN l D dA y (Cond.code y bytes maxL none :: WS) rm (.ref b :: As) ((W0 ++ x :: RR) ++ [(b, ev)]) H.size post (fun u => (W0 ++ x :: RR) ++ blk u) mc mz) (hrc : rm.cells = mc) (hrs : rm.slots = mz) (hR : rm.frames + 1 ≤ R.frames ∧ 8 + (maxL + 11) + rm.locals ≤ R.locals) (hN : nst NL s) (hO : aos s) (hK : va_K D clX (tyX dA) s) (hP : va_P D clX (W0 ++ x :: (RR ++ [(b, ev)])) H) (hD : va_D A (W0 ++ x :: (RR ++ [(b, ev)]))) (hS : va_S A H0 H locs) (hA : ∀ q, H0.size ≤ q → A q) (hn : As.length = n) (hls : ls.size = nL) (hst : st0 = As.reverse ++ .ref b :: rest) (hW : (rest.map fun v => v.category).sum ≤ 8) (hdg : decode cc pc = .ok (.invokespecial index, 3)) (hcs : cells + mc ≤ R.cells ∧ slots + mz ≤ R.slots)
    (kk : ∀ (u : T) (H1 : Heap) (locs1 : List Loc), post u → va_P D clX (W0 ++ x :: (RR ++ blk u)) H1 → va_D A (W0 ++ x :: (RR ++ blk u)) → va_S A H0 H1 locs1 → W p l e R s m args below meth c H1 locs1 (cells + mc) (slots + mz) Q (F0 m (pc + 3) ls rest)) : W p l e R s m args below meth c H locs cells slots Q (F0 m pc ls st0) :=
  c_IN hx hb hml hown ht hcw hM hrc hrs hR hN hO hK (by rw [as1]; exact hP) (by rw [as1]; exact hD) hS hA hn hls hst hW hdg hcs (fun u H1 locs1 hp g1 g2 g3 => by
    rw [as1] at g1 g2
    exact kk u H1 locs1 hp g1 g2 g3)
end CM

abbrev b_Key_init : ByteArray := prog_5_method_1_code
def y_Key_init : MethodName := ⟨"LeasedBuilds$Key", "<init>", "()V"⟩
def w_Key_init : List Cond := .code y_Key_init b_Key_init 1 none :: WS
theorem d_Key_init_0 : decode b_Key_init 0 = .ok (.aload_n 0, 1) := by decide +kernel
theorem d_Key_init_1 : decode b_Key_init 1 = .ok (.invokespecial 1, 3) := by decide +kernel
theorem d_Key_init_4 : decode b_Key_init 4 = .ok (.return_, 1) := by decide +kernel
theorem ol_Key : Cond.methodLink "LeasedBuilds$Key" 1 Lib.objectInit ∈ WS := ms (i := 39) (by decide +kernel) rfl
def bKey (h0 : Nat) (_ : Unit) : va_W := (h0, .inr (1, fr_Key)) :: []
set_option maxHeartbeats 4000000 in
set_option maxRecDepth 100000 in
theorem n_Key_init (l : Launch) (D : va_G) (dA : Nat → ClassId) (W0 : va_W) (h0 sz : Nat)  : CN l D dA y_Key_init w_Key_init { frames := 1, cells := 0, slots := 0, locals := 12 } [.ref h0] (W0 ++ [(h0, .inr (1, fr_Key))]) sz (fun u : Unit => True) (fun u => W0 ++ bKey h0 u) 0 0 := by
  refine c_of (cc := b_Key_init) (maxL := 1) (by decide) rfl (Nat.le_of_ble_eq_true rfl) ?_
  intro pp ee ss mm below meth cdd hx hb hml hr hlk ht hown hin hN hO hK hP hD hA hS ls hl
  have hl : lv_has ls 1 [(0, .ref h0)] := hl
  generalize hAe : va_A (W0 ++ [(h0, .inr (1, fr_Key))]) ss.heap.size = A at hD hA hS
  have hP : va_P D clX (W0 ++ (h0, .inr (1, [.long 0, .int 0, .int 0])) :: []) ss.heap := hP
  have hD : va_D A (W0 ++ (h0, .inr (1, [.long 0, .int 0, .int 0])) :: []) := hD
  have hin : meth.name = "<init>" := hin
  have hown : ss.vm.findClass "LeasedBuilds$Key" = some mm.cls := hown
  refine lv_aload_n hx hb d_Key_init_0 rfl (lv_at hl 0 rfl) ?_
  refine c_obj hx hb hml hown ht ol_Key oj_1 oj_2 hl.1 d_Key_init_1 (by decide) (by decide) ?_
  subst hAe
  exact c_ret () hx hb hr hlk trivial rfl hP hD hS (Nat.le_of_ble_eq_true rfl) (Nat.le_of_ble_eq_true rfl) d_Key_init_4
abbrev b_Message_init : ByteArray := prog_7_method_1_code
def y_Message_init : MethodName := ⟨"LeasedBuilds$Message", "<init>", "()V"⟩
def w_Message_init : List Cond := .code y_Message_init b_Message_init 1 none :: WS
theorem d_Message_init_0 : decode b_Message_init 0 = .ok (.aload_n 0, 1) := by decide +kernel
theorem d_Message_init_1 : decode b_Message_init 1 = .ok (.invokespecial 3, 3) := by decide +kernel
theorem d_Message_init_4 : decode b_Message_init 4 = .ok (.aload_n 0, 1) := by decide +kernel
theorem d_Message_init_5 : decode b_Message_init 5 = .ok (.new 9, 3) := by decide +kernel
theorem d_Message_init_8 : decode b_Message_init 8 = .ok (.dup, 1) := by decide +kernel
theorem d_Message_init_9 : decode b_Message_init 9 = .ok (.invokespecial 11, 3) := by decide +kernel
theorem d_Message_init_12 : decode b_Message_init 12 = .ok (.putfield 12, 3) := by decide +kernel
theorem d_Message_init_15 : decode b_Message_init 15 = .ok (.return_, 1) := by decide +kernel
theorem ol_Message : Cond.methodLink "LeasedBuilds$Message" 3 Lib.objectInit ∈ WS := ms (i := 33) (by decide +kernel) rfl
theorem cl_Message_9 : Cond.classLink "LeasedBuilds$Message" 9 "LeasedBuilds$Key" ∈ WS := ms (i := 34) (by decide +kernel) rfl
theorem ci_Message_11 : CwIN "LeasedBuilds$Message" 11 y_Key_init b_Key_init 1 0 := ⟨⟨ms (i := 38) (by decide +kernel) rfl, List.mem_of_getElem? (i := 1) rfl, ms (i := 37) (by decide +kernel) rfl, ms (i := 4) (by decide +kernel) rfl⟩, by decide +kernel⟩
def bMessage (h0 q1 : Nat) : va_W := (h0, .inr (2, [.ref q1, .int 0, .int 0, .int 0, .int 0, .int 0, .int 0, .int 0, .int 0])) :: ([] ++ bKey q1 ())
set_option maxHeartbeats 4000000 in
set_option maxRecDepth 100000 in
theorem n_Message_init (l : Launch) (D : va_G) (dA : Nat → ClassId) (W0 : va_W) (h0 sz : Nat)  : CN l D dA y_Message_init w_Message_init { frames := 2, cells := 1, slots := 3, locals := 32 } [.ref h0] (W0 ++ [(h0, .inr (2, fr_Message))]) sz (fun u : Nat => True) (fun u => W0 ++ bMessage h0 u) 1 3 := by
  refine c_of (cc := b_Message_init) (maxL := 1) (by decide) rfl (Nat.le_of_ble_eq_true rfl) ?_
  intro pp ee ss mm below meth cdd hx hb hml hr hlk ht hown hin hN hO hK hP hD hA hS ls hl
  have hl : lv_has ls 1 [(0, .ref h0)] := hl
  generalize hAe : va_A (W0 ++ [(h0, .inr (2, fr_Message))]) ss.heap.size = A at hD hA hS
  have hP : va_P D clX (W0 ++ (h0, .inr (2, [.null, .int 0, .int 0, .int 0, .int 0, .int 0, .int 0, .int 0, .int 0])) :: []) ss.heap := hP
  have hD : va_D A (W0 ++ (h0, .inr (2, [.null, .int 0, .int 0, .int 0, .int 0, .int 0, .int 0, .int 0, .int 0])) :: []) := hD
  have hin : meth.name = "<init>" := hin
  have hown : ss.vm.findClass "LeasedBuilds$Message" = some mm.cls := hown
  refine lv_aload_n hx hb d_Message_init_0 rfl (lv_at hl 0 rfl) ?_
  refine c_obj hx hb hml hown ht ol_Message oj_1 oj_2 hl.1 d_Message_init_1 (by decide) (by decide) ?_
  refine lv_aload_n hx hb d_Message_init_4 rfl (lv_at hl 0 rfl) ?_
  refine c_new (fs := fr_Key) hx hb hown ht xc_Key t_Key_ok cl_Message_9 in_Key it_Key fo_Key hK hP hD hS hA (Nat.le_of_ble_eq_true rfl) (Nat.le_of_ble_eq_true rfl) d_Message_init_5 (fun q1 H hP hD hS => ?_)
  refine lv_dup hx hb d_Message_init_8 rfl ?_
  refine c_mkN (As := []) (rest := [.ref q1, .ref h0]) hx hb hml hown ht ci_Message_11 (n_Key_init l D dA (W0 ++ (h0, .inr (2, [.null, .int 0, .int 0, .int 0, .int 0, .int 0, .int 0, .int 0, .int 0])) :: []) q1 H.size) rfl rfl ⟨by decide, by decide⟩ hN hO hK hP hD hS hA rfl hl.1 rfl (Nat.le_of_ble_eq_true rfl) d_Message_init_9 ⟨(Nat.le_of_ble_eq_true rfl), (Nat.le_of_ble_eq_true rfl)⟩ (fun u2 H locs huu2 hP hD hS => ?_)
  refine c_putF (k := 0) (v := .ref q1) (fs' := [.ref q1, .int 0, .int 0, .int 0, .int 0, .int 0, .int 0, .int 0, .int 0]) hx hb ht xc_Message t_Message_ok n_Message hown hin hK hP hD hS (by decide) fl_Message_12 rfl rfl rfl rfl (Nat.le_of_ble_eq_true rfl) rfl d_Message_init_12 (fun H locs hP hD hS => ?_)
  subst hAe
  exact c_ret q1 hx hb hr hlk trivial rfl hP hD hS (Nat.le_of_ble_eq_true rfl) (Nat.le_of_ble_eq_true rfl) d_Message_init_15
abbrev b_Worker_init : ByteArray := prog_10_method_1_code
def y_Worker_init : MethodName := ⟨"LeasedBuilds$Worker", "<init>", "()V"⟩
def w_Worker_init : List Cond := .code y_Worker_init b_Worker_init 1 none :: WS
theorem d_Worker_init_0 : decode b_Worker_init 0 = .ok (.aload_n 0, 1) := by decide +kernel
theorem d_Worker_init_1 : decode b_Worker_init 1 = .ok (.invokespecial 3, 3) := by decide +kernel
theorem d_Worker_init_4 : decode b_Worker_init 4 = .ok (.aload_n 0, 1) := by decide +kernel
theorem d_Worker_init_5 : decode b_Worker_init 5 = .ok (.new 9, 3) := by decide +kernel
theorem d_Worker_init_8 : decode b_Worker_init 8 = .ok (.dup, 1) := by decide +kernel
theorem d_Worker_init_9 : decode b_Worker_init 9 = .ok (.invokespecial 11, 3) := by decide +kernel
theorem d_Worker_init_12 : decode b_Worker_init 12 = .ok (.putfield 12, 3) := by decide +kernel
theorem d_Worker_init_15 : decode b_Worker_init 15 = .ok (.aload_n 0, 1) := by decide +kernel
theorem d_Worker_init_16 : decode b_Worker_init 16 = .ok (.iconst 1, 1) := by decide +kernel
theorem d_Worker_init_17 : decode b_Worker_init 17 = .ok (.putfield 18, 3) := by decide +kernel
theorem d_Worker_init_20 : decode b_Worker_init 20 = .ok (.aload_n 0, 1) := by decide +kernel
theorem d_Worker_init_21 : decode b_Worker_init 21 = .ok (.iconst 0, 1) := by decide +kernel
theorem d_Worker_init_22 : decode b_Worker_init 22 = .ok (.putfield 22, 3) := by decide +kernel
theorem d_Worker_init_25 : decode b_Worker_init 25 = .ok (.aload_n 0, 1) := by decide +kernel
theorem d_Worker_init_26 : decode b_Worker_init 26 = .ok (.iconst 0, 1) := by decide +kernel
theorem d_Worker_init_27 : decode b_Worker_init 27 = .ok (.putfield 25, 3) := by decide +kernel
theorem d_Worker_init_30 : decode b_Worker_init 30 = .ok (.return_, 1) := by decide +kernel
theorem ol_Worker : Cond.methodLink "LeasedBuilds$Worker" 3 Lib.objectInit ∈ WS := ms (i := 285) (by decide +kernel) rfl
theorem cl_Worker_9 : Cond.classLink "LeasedBuilds$Worker" 9 "LeasedBuilds$Key" ∈ WS := ms (i := 286) (by decide +kernel) rfl
theorem ci_Worker_11 : CwIN "LeasedBuilds$Worker" 11 y_Key_init b_Key_init 1 0 := ⟨⟨ms (i := 38) (by decide +kernel) rfl, List.mem_of_getElem? (i := 7) rfl, ms (i := 37) (by decide +kernel) rfl, ms (i := 4) (by decide +kernel) rfl⟩, by decide +kernel⟩
def bWorker (h0 q1 : Nat) : va_W := (h0, .inr (9, [.ref q1, .int (nI 1), .int (nI 0), .int (nI 0), .int 0, .int 0, .int 0])) :: ([] ++ bKey q1 ())
set_option maxHeartbeats 4000000 in
set_option maxRecDepth 100000 in
theorem n_Worker_init (l : Launch) (D : va_G) (dA : Nat → ClassId) (W0 : va_W) (h0 sz : Nat)  : CN l D dA y_Worker_init w_Worker_init { frames := 2, cells := 1, slots := 3, locals := 32 } [.ref h0] (W0 ++ [(h0, .inr (9, fr_Worker))]) sz (fun u : Nat => True) (fun u => W0 ++ bWorker h0 u) 1 3 := by
  refine c_of (cc := b_Worker_init) (maxL := 1) (by decide) rfl (Nat.le_of_ble_eq_true rfl) ?_
  intro pp ee ss mm below meth cdd hx hb hml hr hlk ht hown hin hN hO hK hP hD hA hS ls hl
  have hl : lv_has ls 1 [(0, .ref h0)] := hl
  generalize hAe : va_A (W0 ++ [(h0, .inr (9, fr_Worker))]) ss.heap.size = A at hD hA hS
  have hP : va_P D clX (W0 ++ (h0, .inr (9, [.null, .int 0, .int 0, .int 0, .int 0, .int 0, .int 0])) :: []) ss.heap := hP
  have hD : va_D A (W0 ++ (h0, .inr (9, [.null, .int 0, .int 0, .int 0, .int 0, .int 0, .int 0])) :: []) := hD
  have hin : meth.name = "<init>" := hin
  have hown : ss.vm.findClass "LeasedBuilds$Worker" = some mm.cls := hown
  refine lv_aload_n hx hb d_Worker_init_0 rfl (lv_at hl 0 rfl) ?_
  refine c_obj hx hb hml hown ht ol_Worker oj_1 oj_2 hl.1 d_Worker_init_1 (by decide) (by decide) ?_
  refine lv_aload_n hx hb d_Worker_init_4 rfl (lv_at hl 0 rfl) ?_
  refine c_new (fs := fr_Key) hx hb hown ht xc_Key t_Key_ok cl_Worker_9 in_Key it_Key fo_Key hK hP hD hS hA (Nat.le_of_ble_eq_true rfl) (Nat.le_of_ble_eq_true rfl) d_Worker_init_5 (fun q1 H hP hD hS => ?_)
  refine lv_dup hx hb d_Worker_init_8 rfl ?_
  refine c_mkN (As := []) (rest := [.ref q1, .ref h0]) hx hb hml hown ht ci_Worker_11 (n_Key_init l D dA (W0 ++ (h0, .inr (9, [.null, .int 0, .int 0, .int 0, .int 0, .int 0, .int 0])) :: []) q1 H.size) rfl rfl ⟨by decide, by decide⟩ hN hO hK hP hD hS hA rfl hl.1 rfl (Nat.le_of_ble_eq_true rfl) d_Worker_init_9 ⟨(Nat.le_of_ble_eq_true rfl), (Nat.le_of_ble_eq_true rfl)⟩ (fun u2 H locs huu2 hP hD hS => ?_)
  refine c_putF (k := 0) (v := .ref q1) (fs' := [.ref q1, .int 0, .int 0, .int 0, .int 0, .int 0, .int 0]) hx hb ht xc_Worker t_Worker_ok n_Worker hown hin hK hP hD hS (by decide) fl_Worker_12 rfl rfl rfl rfl (Nat.le_of_ble_eq_true rfl) rfl d_Worker_init_12 (fun H locs hP hD hS => ?_)
  refine lv_aload_n hx hb d_Worker_init_15 rfl (lv_at hl 0 rfl) ?_
  refine lv_iconst (v := nI 1) hx hb d_Worker_init_16 (by decide) ?_
  refine c_put (k := 1) (v := .int (nI 1)) (fs' := [.ref q1, .int (nI 1), .int 0, .int 0, .int 0, .int 0, .int 0]) hx hb ht xc_Worker t_Worker_ok n_Worker hown hK hP hD hS (by decide) fl_Worker_18 rfl rfl rfl rfl (Nat.le_of_ble_eq_true rfl) rfl d_Worker_init_17 (fun H locs hP hD hS => ?_)
  refine lv_aload_n hx hb d_Worker_init_20 rfl (lv_at hl 0 rfl) ?_
  refine lv_iconst (v := nI 0) hx hb d_Worker_init_21 (by decide) ?_
  refine c_put (k := 2) (v := .int (nI 0)) (fs' := [.ref q1, .int (nI 1), .int (nI 0), .int 0, .int 0, .int 0, .int 0]) hx hb ht xc_Worker t_Worker_ok n_Worker hown hK hP hD hS (by decide) fl_Worker_22 rfl rfl rfl rfl (Nat.le_of_ble_eq_true rfl) rfl d_Worker_init_22 (fun H locs hP hD hS => ?_)
  refine lv_aload_n hx hb d_Worker_init_25 rfl (lv_at hl 0 rfl) ?_
  refine lv_iconst (v := nI 0) hx hb d_Worker_init_26 (by decide) ?_
  refine c_put (k := 3) (v := .int (nI 0)) (fs' := [.ref q1, .int (nI 1), .int (nI 0), .int (nI 0), .int 0, .int 0, .int 0]) hx hb ht xc_Worker t_Worker_ok n_Worker hown hK hP hD hS (by decide) fl_Worker_25 rfl rfl rfl rfl (Nat.le_of_ble_eq_true rfl) rfl d_Worker_init_27 (fun H locs hP hD hS => ?_)
  subst hAe
  exact c_ret q1 hx hb hr hlk trivial rfl hP hD hS (Nat.le_of_ble_eq_true rfl) (Nat.le_of_ble_eq_true rfl) d_Worker_init_30
